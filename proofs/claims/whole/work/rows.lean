section
-- ===== PART A: goes FIRST, ahead of the names: the tables' words, and 'selects' of the private methods out of them =====
/-- a private method of a class that the tables say can be made, by its rows of tables_1 -/
def lw_okq (q : MethodName × Nat) : Prop := (q.1.cls ≠ "java/lang/invoke/MethodHandle" ∧ q.1.cls ≠ "java/lang/invoke/VarHandle") ∧ Cond.instantiable q.1.cls q.2 ∈ tables_1 ∧ Cond.privateMethod q.1 ∈ tables_1 ∧ Cond.instanceMethod q.1 ∈ tables_1
theorem lw_p0 : lw_okq (⟨"SpelledTones", "found", "(I)I"⟩, 15) := ⟨⟨by decide +kernel, by decide +kernel⟩, List.mem_of_getElem? (i := 13) (by decide +kernel), List.mem_of_getElem? (i := 279) (by decide +kernel), List.mem_of_getElem? (i := 280) (by decide +kernel)⟩
theorem lw_p1 : lw_okq (⟨"SpelledTones", "fine", "(I)I"⟩, 15) := ⟨⟨by decide +kernel, by decide +kernel⟩, List.mem_of_getElem? (i := 13) (by decide +kernel), List.mem_of_getElem? (i := 288) (by decide +kernel), List.mem_of_getElem? (i := 289) (by decide +kernel)⟩
theorem lw_p2 : lw_okq (⟨"SpelledTones$Tape", "takeToken", "()V"⟩, 10) := ⟨⟨by decide +kernel, by decide +kernel⟩, List.mem_of_getElem? (i := 38) (by decide +kernel), List.mem_of_getElem? (i := 352) (by decide +kernel), List.mem_of_getElem? (i := 353) (by decide +kernel)⟩
theorem lw_p3 : lw_okq (⟨"SpelledTones$Tape", "isFigure", "(I)Z"⟩, 10) := ⟨⟨by decide +kernel, by decide +kernel⟩, List.mem_of_getElem? (i := 38) (by decide +kernel), List.mem_of_getElem? (i := 356) (by decide +kernel), List.mem_of_getElem? (i := 357) (by decide +kernel)⟩
theorem lw_p4 : lw_okq (⟨"SpelledTones$Tape", "takeNumber", "()V"⟩, 10) := ⟨⟨by decide +kernel, by decide +kernel⟩, List.mem_of_getElem? (i := 38) (by decide +kernel), List.mem_of_getElem? (i := 360) (by decide +kernel), List.mem_of_getElem? (i := 361) (by decide +kernel)⟩
theorem lw_p5 : lw_okq (⟨"SpelledTones$Tape", "step", "(LSpelledTones$Piece;)I"⟩, 10) := ⟨⟨by decide +kernel, by decide +kernel⟩, List.mem_of_getElem? (i := 38) (by decide +kernel), List.mem_of_getElem? (i := 364) (by decide +kernel), List.mem_of_getElem? (i := 365) (by decide +kernel)⟩
theorem lw_p6 : lw_okq (⟨"SpelledTones$Tape", "want", "(II)I"⟩, 10) := ⟨⟨by decide +kernel, by decide +kernel⟩, List.mem_of_getElem? (i := 38) (by decide +kernel), List.mem_of_getElem? (i := 368) (by decide +kernel), List.mem_of_getElem? (i := 369) (by decide +kernel)⟩
theorem lw_p7 : lw_okq (⟨"SpelledTones$Tape", "takeSignature", "(LSpelledTones$Piece;)I"⟩, 10) := ⟨⟨by decide +kernel, by decide +kernel⟩, List.mem_of_getElem? (i := 38) (by decide +kernel), List.mem_of_getElem? (i := 372) (by decide +kernel), List.mem_of_getElem? (i := 373) (by decide +kernel)⟩
theorem lw_p8 : lw_okq (⟨"SpelledTones$Tape", "takeKey", "(LSpelledTones$Piece;)I"⟩, 10) := ⟨⟨by decide +kernel, by decide +kernel⟩, List.mem_of_getElem? (i := 38) (by decide +kernel), List.mem_of_getElem? (i := 379) (by decide +kernel), List.mem_of_getElem? (i := 380) (by decide +kernel)⟩
theorem lw_p9 : lw_okq (⟨"SpelledTones$Tape", "endKey", "(LSpelledTones$Piece;)I"⟩, 10) := ⟨⟨by decide +kernel, by decide +kernel⟩, List.mem_of_getElem? (i := 38) (by decide +kernel), List.mem_of_getElem? (i := 390) (by decide +kernel), List.mem_of_getElem? (i := 391) (by decide +kernel)⟩
theorem lw_p10 : lw_okq (⟨"SpelledTones$Tape", "takeLetter", "(LSpelledTones$Piece;)I"⟩, 10) := ⟨⟨by decide +kernel, by decide +kernel⟩, List.mem_of_getElem? (i := 38) (by decide +kernel), List.mem_of_getElem? (i := 398) (by decide +kernel), List.mem_of_getElem? (i := 399) (by decide +kernel)⟩
theorem lw_p11 : lw_okq (⟨"SpelledTones$Tape", "takeSort", "(LSpelledTones$Piece;)I"⟩, 10) := ⟨⟨by decide +kernel, by decide +kernel⟩, List.mem_of_getElem? (i := 38) (by decide +kernel), List.mem_of_getElem? (i := 402) (by decide +kernel), List.mem_of_getElem? (i := 403) (by decide +kernel)⟩
theorem lw_p12 : lw_okq (⟨"SpelledTones", "changed", "()V"⟩, 15) := ⟨⟨by decide +kernel, by decide +kernel⟩, List.mem_of_getElem? (i := 13) (by decide +kernel), List.mem_of_getElem? (i := 423) (by decide +kernel), List.mem_of_getElem? (i := 424) (by decide +kernel)⟩
theorem lw_p13 : lw_okq (⟨"SpelledTones", "isNote", "(I)Z"⟩, 15) := ⟨⟨by decide +kernel, by decide +kernel⟩, List.mem_of_getElem? (i := 13) (by decide +kernel), List.mem_of_getElem? (i := 435) (by decide +kernel), List.mem_of_getElem? (i := 436) (by decide +kernel)⟩
theorem lw_p14 : lw_okq (⟨"SpelledTones", "acted", "(III)V"⟩, 15) := ⟨⟨by decide +kernel, by decide +kernel⟩, List.mem_of_getElem? (i := 13) (by decide +kernel), List.mem_of_getElem? (i := 441) (by decide +kernel), List.mem_of_getElem? (i := 442) (by decide +kernel)⟩
theorem lw_p15 : lw_okq (⟨"SpelledTones$Acts", "forgetOldest", "()V"⟩, 4) := ⟨⟨by decide +kernel, by decide +kernel⟩, List.mem_of_getElem? (i := 178) (by decide +kernel), List.mem_of_getElem? (i := 449) (by decide +kernel), List.mem_of_getElem? (i := 450) (by decide +kernel)⟩
def lw_privs_1 : List (MethodName × Nat) := [(⟨"SpelledTones", "found", "(I)I"⟩, 15), (⟨"SpelledTones", "fine", "(I)I"⟩, 15), (⟨"SpelledTones$Tape", "takeToken", "()V"⟩, 10), (⟨"SpelledTones$Tape", "isFigure", "(I)Z"⟩, 10), (⟨"SpelledTones$Tape", "takeNumber", "()V"⟩, 10), (⟨"SpelledTones$Tape", "step", "(LSpelledTones$Piece;)I"⟩, 10), (⟨"SpelledTones$Tape", "want", "(II)I"⟩, 10), (⟨"SpelledTones$Tape", "takeSignature", "(LSpelledTones$Piece;)I"⟩, 10), (⟨"SpelledTones$Tape", "takeKey", "(LSpelledTones$Piece;)I"⟩, 10), (⟨"SpelledTones$Tape", "endKey", "(LSpelledTones$Piece;)I"⟩, 10), (⟨"SpelledTones$Tape", "takeLetter", "(LSpelledTones$Piece;)I"⟩, 10), (⟨"SpelledTones$Tape", "takeSort", "(LSpelledTones$Piece;)I"⟩, 10), (⟨"SpelledTones", "changed", "()V"⟩, 15), (⟨"SpelledTones", "isNote", "(I)Z"⟩, 15), (⟨"SpelledTones", "acted", "(III)V"⟩, 15), (⟨"SpelledTones$Acts", "forgetOldest", "()V"⟩, 4)]
theorem lw_r1 : ∀ q ∈ lw_privs_1, lw_okq q := List.forall_mem_cons.mpr ⟨lw_p0, List.forall_mem_cons.mpr ⟨lw_p1, List.forall_mem_cons.mpr ⟨lw_p2, List.forall_mem_cons.mpr ⟨lw_p3, List.forall_mem_cons.mpr ⟨lw_p4, List.forall_mem_cons.mpr ⟨lw_p5, List.forall_mem_cons.mpr ⟨lw_p6, List.forall_mem_cons.mpr ⟨lw_p7, List.forall_mem_cons.mpr ⟨lw_p8, List.forall_mem_cons.mpr ⟨lw_p9, List.forall_mem_cons.mpr ⟨lw_p10, List.forall_mem_cons.mpr ⟨lw_p11, List.forall_mem_cons.mpr ⟨lw_p12, List.forall_mem_cons.mpr ⟨lw_p13, List.forall_mem_cons.mpr ⟨lw_p14, List.forall_mem_cons.mpr ⟨lw_p15, fun _ h => absurd h List.not_mem_nil⟩⟩⟩⟩⟩⟩⟩⟩⟩⟩⟩⟩⟩⟩⟩⟩
theorem lw_p16 : lw_okq (⟨"SpelledTones", "isChord", "(I)Z"⟩, 15) := ⟨⟨by decide +kernel, by decide +kernel⟩, List.mem_of_getElem? (i := 13) (by decide +kernel), List.mem_of_getElem? (i := 458) (by decide +kernel), List.mem_of_getElem? (i := 459) (by decide +kernel)⟩
theorem lw_p17 : lw_okq (⟨"SpelledTones", "isNoPiece", "()Z"⟩, 15) := ⟨⟨by decide +kernel, by decide +kernel⟩, List.mem_of_getElem? (i := 13) (by decide +kernel), List.mem_of_getElem? (i := 466) (by decide +kernel), List.mem_of_getElem? (i := 467) (by decide +kernel)⟩
theorem lw_p18 : lw_okq (⟨"SpelledTones", "settled", "()LSpelledTones$Best;"⟩, 15) := ⟨⟨by decide +kernel, by decide +kernel⟩, List.mem_of_getElem? (i := 13) (by decide +kernel), List.mem_of_getElem? (i := 529) (by decide +kernel), List.mem_of_getElem? (i := 530) (by decide +kernel)⟩
theorem lw_p19 : lw_okq (⟨"SpelledTones$Best", "goOn", "(LSpelledTones$Piece;II)V"⟩, 10) := ⟨⟨by decide +kernel, by decide +kernel⟩, List.mem_of_getElem? (i := 133) (by decide +kernel), List.mem_of_getElem? (i := 537) (by decide +kernel), List.mem_of_getElem? (i := 538) (by decide +kernel)⟩
theorem lw_p20 : lw_okq (⟨"SpelledTones$Best", "choose", "(IIZ)V"⟩, 10) := ⟨⟨by decide +kernel, by decide +kernel⟩, List.mem_of_getElem? (i := 133) (by decide +kernel), List.mem_of_getElem? (i := 545) (by decide +kernel), List.mem_of_getElem? (i := 546) (by decide +kernel)⟩
theorem lw_p21 : lw_okq (⟨"SpelledTones$Best", "pick", "(I)V"⟩, 10) := ⟨⟨by decide +kernel, by decide +kernel⟩, List.mem_of_getElem? (i := 133) (by decide +kernel), List.mem_of_getElem? (i := 564) (by decide +kernel), List.mem_of_getElem? (i := 565) (by decide +kernel)⟩
theorem lw_p22 : lw_okq (⟨"SpelledTones$Best", "beginBar", "(I)V"⟩, 10) := ⟨⟨by decide +kernel, by decide +kernel⟩, List.mem_of_getElem? (i := 133) (by decide +kernel), List.mem_of_getElem? (i := 576) (by decide +kernel), List.mem_of_getElem? (i := 577) (by decide +kernel)⟩
theorem lw_p23 : lw_okq (⟨"SpelledTones$Best", "print", "(I)V"⟩, 10) := ⟨⟨by decide +kernel, by decide +kernel⟩, List.mem_of_getElem? (i := 133) (by decide +kernel), List.mem_of_getElem? (i := 582) (by decide +kernel), List.mem_of_getElem? (i := 583) (by decide +kernel)⟩
theorem lw_p24 : lw_okq (⟨"SpelledTones", "signatureOfHeads", "()I"⟩, 15) := ⟨⟨by decide +kernel, by decide +kernel⟩, List.mem_of_getElem? (i := 13) (by decide +kernel), List.mem_of_getElem? (i := 599) (by decide +kernel), List.mem_of_getElem? (i := 600) (by decide +kernel)⟩
theorem lw_p25 : lw_okq (⟨"SpelledTones", "findHeads", "()V"⟩, 15) := ⟨⟨by decide +kernel, by decide +kernel⟩, List.mem_of_getElem? (i := 13) (by decide +kernel), List.mem_of_getElem? (i := 603) (by decide +kernel), List.mem_of_getElem? (i := 604) (by decide +kernel)⟩
theorem lw_p26 : lw_okq (⟨"SpelledTones", "costOfHeads", "()I"⟩, 15) := ⟨⟨by decide +kernel, by decide +kernel⟩, List.mem_of_getElem? (i := 13) (by decide +kernel), List.mem_of_getElem? (i := 608) (by decide +kernel), List.mem_of_getElem? (i := 609) (by decide +kernel)⟩
theorem lw_p27 : lw_okq (⟨"SpelledTones", "cheapestOne", "()I"⟩, 15) := ⟨⟨by decide +kernel, by decide +kernel⟩, List.mem_of_getElem? (i := 13) (by decide +kernel), List.mem_of_getElem? (i := 612) (by decide +kernel), List.mem_of_getElem? (i := 613) (by decide +kernel)⟩
theorem lw_p28 : lw_okq (⟨"SpelledTones", "costOfOne", "(I)I"⟩, 15) := ⟨⟨by decide +kernel, by decide +kernel⟩, List.mem_of_getElem? (i := 13) (by decide +kernel), List.mem_of_getElem? (i := 616) (by decide +kernel), List.mem_of_getElem? (i := 617) (by decide +kernel)⟩
theorem lw_p29 : lw_okq (⟨"SpelledTones", "costOfItems", "(II)I"⟩, 15) := ⟨⟨by decide +kernel, by decide +kernel⟩, List.mem_of_getElem? (i := 13) (by decide +kernel), List.mem_of_getElem? (i := 628) (by decide +kernel), List.mem_of_getElem? (i := 629) (by decide +kernel)⟩
theorem lw_p30 : lw_okq (⟨"SpelledTones", "fittingSignatures", "(II)I"⟩, 15) := ⟨⟨by decide +kernel, by decide +kernel⟩, List.mem_of_getElem? (i := 13) (by decide +kernel), List.mem_of_getElem? (i := 646) (by decide +kernel), List.mem_of_getElem? (i := 647) (by decide +kernel)⟩
theorem lw_p31 : lw_okq (⟨"SpelledTones", "bitIfLettersFit", "(III)I"⟩, 15) := ⟨⟨by decide +kernel, by decide +kernel⟩, List.mem_of_getElem? (i := 13) (by decide +kernel), List.mem_of_getElem? (i := 650) (by decide +kernel), List.mem_of_getElem? (i := 651) (by decide +kernel)⟩
def lw_privs_2 : List (MethodName × Nat) := [(⟨"SpelledTones", "isChord", "(I)Z"⟩, 15), (⟨"SpelledTones", "isNoPiece", "()Z"⟩, 15), (⟨"SpelledTones", "settled", "()LSpelledTones$Best;"⟩, 15), (⟨"SpelledTones$Best", "goOn", "(LSpelledTones$Piece;II)V"⟩, 10), (⟨"SpelledTones$Best", "choose", "(IIZ)V"⟩, 10), (⟨"SpelledTones$Best", "pick", "(I)V"⟩, 10), (⟨"SpelledTones$Best", "beginBar", "(I)V"⟩, 10), (⟨"SpelledTones$Best", "print", "(I)V"⟩, 10), (⟨"SpelledTones", "signatureOfHeads", "()I"⟩, 15), (⟨"SpelledTones", "findHeads", "()V"⟩, 15), (⟨"SpelledTones", "costOfHeads", "()I"⟩, 15), (⟨"SpelledTones", "cheapestOne", "()I"⟩, 15), (⟨"SpelledTones", "costOfOne", "(I)I"⟩, 15), (⟨"SpelledTones", "costOfItems", "(II)I"⟩, 15), (⟨"SpelledTones", "fittingSignatures", "(II)I"⟩, 15), (⟨"SpelledTones", "bitIfLettersFit", "(III)I"⟩, 15)]
theorem lw_r2 : ∀ q ∈ lw_privs_2, lw_okq q := List.forall_mem_cons.mpr ⟨lw_p16, List.forall_mem_cons.mpr ⟨lw_p17, List.forall_mem_cons.mpr ⟨lw_p18, List.forall_mem_cons.mpr ⟨lw_p19, List.forall_mem_cons.mpr ⟨lw_p20, List.forall_mem_cons.mpr ⟨lw_p21, List.forall_mem_cons.mpr ⟨lw_p22, List.forall_mem_cons.mpr ⟨lw_p23, List.forall_mem_cons.mpr ⟨lw_p24, List.forall_mem_cons.mpr ⟨lw_p25, List.forall_mem_cons.mpr ⟨lw_p26, List.forall_mem_cons.mpr ⟨lw_p27, List.forall_mem_cons.mpr ⟨lw_p28, List.forall_mem_cons.mpr ⟨lw_p29, List.forall_mem_cons.mpr ⟨lw_p30, List.forall_mem_cons.mpr ⟨lw_p31, fun _ h => absurd h List.not_mem_nil⟩⟩⟩⟩⟩⟩⟩⟩⟩⟩⟩⟩⟩⟩⟩⟩
theorem lw_p32 : lw_okq (⟨"SpelledTones", "fittingKinds", "(III)I"⟩, 15) := ⟨⟨by decide +kernel, by decide +kernel⟩, List.mem_of_getElem? (i := 13) (by decide +kernel), List.mem_of_getElem? (i := 654) (by decide +kernel), List.mem_of_getElem? (i := 655) (by decide +kernel)⟩
theorem lw_p33 : lw_okq (⟨"SpelledTones", "fittingKeys", "(III)I"⟩, 15) := ⟨⟨by decide +kernel, by decide +kernel⟩, List.mem_of_getElem? (i := 13) (by decide +kernel), List.mem_of_getElem? (i := 658) (by decide +kernel), List.mem_of_getElem? (i := 659) (by decide +kernel)⟩
theorem lw_p34 : lw_okq (⟨"SpelledTones", "drawOnTrial", "(II)I"⟩, 15) := ⟨⟨by decide +kernel, by decide +kernel⟩, List.mem_of_getElem? (i := 13) (by decide +kernel), List.mem_of_getElem? (i := 667) (by decide +kernel), List.mem_of_getElem? (i := 668) (by decide +kernel)⟩
theorem lw_p35 : lw_okq (⟨"SpelledTones$Asks", "run", "(II)I"⟩, 6) := ⟨⟨by decide +kernel, by decide +kernel⟩, List.mem_of_getElem? (i := 198) (by decide +kernel), List.mem_of_getElem? (i := 708) (by decide +kernel), List.mem_of_getElem? (i := 709) (by decide +kernel)⟩
theorem lw_p36 : lw_okq (⟨"SpelledTones$Asks", "leave", "(I)V"⟩, 6) := ⟨⟨by decide +kernel, by decide +kernel⟩, List.mem_of_getElem? (i := 198) (by decide +kernel), List.mem_of_getElem? (i := 712) (by decide +kernel), List.mem_of_getElem? (i := 713) (by decide +kernel)⟩
theorem lw_p37 : lw_okq (⟨"SpelledTonesModel", "found", "(I)I"⟩, 28) := ⟨⟨by decide +kernel, by decide +kernel⟩, List.mem_of_getElem? (i := 732) (by decide +kernel), List.mem_of_getElem? (i := 836) (by decide +kernel), List.mem_of_getElem? (i := 837) (by decide +kernel)⟩
theorem lw_p38 : lw_okq (⟨"SpelledTonesModel", "well", "(I)I"⟩, 28) := ⟨⟨by decide +kernel, by decide +kernel⟩, List.mem_of_getElem? (i := 732) (by decide +kernel), List.mem_of_getElem? (i := 841) (by decide +kernel), List.mem_of_getElem? (i := 842) (by decide +kernel)⟩
theorem lw_p39 : lw_okq (⟨"SpelledTonesModel", "isMissing", "(I)Z"⟩, 28) := ⟨⟨by decide +kernel, by decide +kernel⟩, List.mem_of_getElem? (i := 732) (by decide +kernel), List.mem_of_getElem? (i := 849) (by decide +kernel), List.mem_of_getElem? (i := 850) (by decide +kernel)⟩
theorem lw_p40 : lw_okq (⟨"SpelledTonesModel", "isPart", "(III)Z"⟩, 28) := ⟨⟨by decide +kernel, by decide +kernel⟩, List.mem_of_getElem? (i := 732) (by decide +kernel), List.mem_of_getElem? (i := 860) (by decide +kernel), List.mem_of_getElem? (i := 861) (by decide +kernel)⟩
theorem lw_p41 : lw_okq (⟨"SpelledTonesModel", "advances", "()V"⟩, 28) := ⟨⟨by decide +kernel, by decide +kernel⟩, List.mem_of_getElem? (i := 732) (by decide +kernel), List.mem_of_getElem? (i := 877) (by decide +kernel), List.mem_of_getElem? (i := 878) (by decide +kernel)⟩
theorem lw_p42 : lw_okq (⟨"SpelledTonesModel", "byteAt", "(I)I"⟩, 28) := ⟨⟨by decide +kernel, by decide +kernel⟩, List.mem_of_getElem? (i := 732) (by decide +kernel), List.mem_of_getElem? (i := 881) (by decide +kernel), List.mem_of_getElem? (i := 882) (by decide +kernel)⟩
theorem lw_p43 : lw_okq (⟨"SpelledTonesModel", "takes", "(ZI)I"⟩, 28) := ⟨⟨by decide +kernel, by decide +kernel⟩, List.mem_of_getElem? (i := 732) (by decide +kernel), List.mem_of_getElem? (i := 885) (by decide +kernel), List.mem_of_getElem? (i := 886) (by decide +kernel)⟩
theorem lw_p44 : lw_okq (⟨"SpelledTonesModel", "isWell", "()Z"⟩, 28) := ⟨⟨by decide +kernel, by decide +kernel⟩, List.mem_of_getElem? (i := 732) (by decide +kernel), List.mem_of_getElem? (i := 889) (by decide +kernel), List.mem_of_getElem? (i := 890) (by decide +kernel)⟩
theorem lw_p45 : lw_okq (⟨"SpelledTonesModel", "figure", "(II)I"⟩, 28) := ⟨⟨by decide +kernel, by decide +kernel⟩, List.mem_of_getElem? (i := 732) (by decide +kernel), List.mem_of_getElem? (i := 893) (by decide +kernel), List.mem_of_getElem? (i := 894) (by decide +kernel)⟩
theorem lw_p46 : lw_okq (⟨"SpelledTonesModel", "readsChord", "(ZZ)V"⟩, 28) := ⟨⟨by decide +kernel, by decide +kernel⟩, List.mem_of_getElem? (i := 732) (by decide +kernel), List.mem_of_getElem? (i := 897) (by decide +kernel), List.mem_of_getElem? (i := 898) (by decide +kernel)⟩
theorem lw_p47 : lw_okq (⟨"SpelledTonesModel", "marks", "(I)Z"⟩, 28) := ⟨⟨by decide +kernel, by decide +kernel⟩, List.mem_of_getElem? (i := 732) (by decide +kernel), List.mem_of_getElem? (i := 904) (by decide +kernel), List.mem_of_getElem? (i := 905) (by decide +kernel)⟩
def lw_privs_3 : List (MethodName × Nat) := [(⟨"SpelledTones", "fittingKinds", "(III)I"⟩, 15), (⟨"SpelledTones", "fittingKeys", "(III)I"⟩, 15), (⟨"SpelledTones", "drawOnTrial", "(II)I"⟩, 15), (⟨"SpelledTones$Asks", "run", "(II)I"⟩, 6), (⟨"SpelledTones$Asks", "leave", "(I)V"⟩, 6), (⟨"SpelledTonesModel", "found", "(I)I"⟩, 28), (⟨"SpelledTonesModel", "well", "(I)I"⟩, 28), (⟨"SpelledTonesModel", "isMissing", "(I)Z"⟩, 28), (⟨"SpelledTonesModel", "isPart", "(III)Z"⟩, 28), (⟨"SpelledTonesModel", "advances", "()V"⟩, 28), (⟨"SpelledTonesModel", "byteAt", "(I)I"⟩, 28), (⟨"SpelledTonesModel", "takes", "(ZI)I"⟩, 28), (⟨"SpelledTonesModel", "isWell", "()Z"⟩, 28), (⟨"SpelledTonesModel", "figure", "(II)I"⟩, 28), (⟨"SpelledTonesModel", "readsChord", "(ZZ)V"⟩, 28), (⟨"SpelledTonesModel", "marks", "(I)Z"⟩, 28)]
theorem lw_r3 : ∀ q ∈ lw_privs_3, lw_okq q := List.forall_mem_cons.mpr ⟨lw_p32, List.forall_mem_cons.mpr ⟨lw_p33, List.forall_mem_cons.mpr ⟨lw_p34, List.forall_mem_cons.mpr ⟨lw_p35, List.forall_mem_cons.mpr ⟨lw_p36, List.forall_mem_cons.mpr ⟨lw_p37, List.forall_mem_cons.mpr ⟨lw_p38, List.forall_mem_cons.mpr ⟨lw_p39, List.forall_mem_cons.mpr ⟨lw_p40, List.forall_mem_cons.mpr ⟨lw_p41, List.forall_mem_cons.mpr ⟨lw_p42, List.forall_mem_cons.mpr ⟨lw_p43, List.forall_mem_cons.mpr ⟨lw_p44, List.forall_mem_cons.mpr ⟨lw_p45, List.forall_mem_cons.mpr ⟨lw_p46, List.forall_mem_cons.mpr ⟨lw_p47, fun _ h => absurd h List.not_mem_nil⟩⟩⟩⟩⟩⟩⟩⟩⟩⟩⟩⟩⟩⟩⟩⟩
theorem lw_p48 : lw_okq (⟨"SpelledTonesModel", "isLetter", "(I)Z"⟩, 28) := ⟨⟨by decide +kernel, by decide +kernel⟩, List.mem_of_getElem? (i := 732) (by decide +kernel), List.mem_of_getElem? (i := 908) (by decide +kernel), List.mem_of_getElem? (i := 909) (by decide +kernel)⟩
theorem lw_p49 : lw_okq (⟨"SpelledTonesModel", "isNote", "(I)Z"⟩, 28) := ⟨⟨by decide +kernel, by decide +kernel⟩, List.mem_of_getElem? (i := 732) (by decide +kernel), List.mem_of_getElem? (i := 924) (by decide +kernel), List.mem_of_getElem? (i := 925) (by decide +kernel)⟩
theorem lw_p50 : lw_okq (⟨"SpelledTonesModel", "notes", "()V"⟩, 28) := ⟨⟨by decide +kernel, by decide +kernel⟩, List.mem_of_getElem? (i := 732) (by decide +kernel), List.mem_of_getElem? (i := 929) (by decide +kernel), List.mem_of_getElem? (i := 930) (by decide +kernel)⟩
theorem lw_p51 : lw_okq (⟨"SpelledTonesModel", "isChord", "(I)Z"⟩, 28) := ⟨⟨by decide +kernel, by decide +kernel⟩, List.mem_of_getElem? (i := 732) (by decide +kernel), List.mem_of_getElem? (i := 937) (by decide +kernel), List.mem_of_getElem? (i := 938) (by decide +kernel)⟩
theorem lw_p52 : lw_okq (⟨"SpelledTonesModel", "isPiece", "()Z"⟩, 28) := ⟨⟨by decide +kernel, by decide +kernel⟩, List.mem_of_getElem? (i := 732) (by decide +kernel), List.mem_of_getElem? (i := 945) (by decide +kernel), List.mem_of_getElem? (i := 946) (by decide +kernel)⟩
theorem lw_p53 : lw_okq (⟨"SpelledTonesModel", "chordOf", "(I)I"⟩, 28) := ⟨⟨by decide +kernel, by decide +kernel⟩, List.mem_of_getElem? (i := 732) (by decide +kernel), List.mem_of_getElem? (i := 994) (by decide +kernel), List.mem_of_getElem? (i := 995) (by decide +kernel)⟩
theorem lw_p54 : lw_okq (⟨"SpelledTonesModel", "prints", "([I)I"⟩, 28) := ⟨⟨by decide +kernel, by decide +kernel⟩, List.mem_of_getElem? (i := 732) (by decide +kernel), List.mem_of_getElem? (i := 998) (by decide +kernel), List.mem_of_getElem? (i := 999) (by decide +kernel)⟩
theorem lw_p55 : lw_okq (⟨"SpelledTonesModel", "finds", "([I)V"⟩, 28) := ⟨⟨by decide +kernel, by decide +kernel⟩, List.mem_of_getElem? (i := 732) (by decide +kernel), List.mem_of_getElem? (i := 1002) (by decide +kernel), List.mem_of_getElem? (i := 1003) (by decide +kernel)⟩
theorem lw_p56 : lw_okq (⟨"SpelledTonesModel", "reckons", "([I)V"⟩, 28) := ⟨⟨by decide +kernel, by decide +kernel⟩, List.mem_of_getElem? (i := 732) (by decide +kernel), List.mem_of_getElem? (i := 1006) (by decide +kernel), List.mem_of_getElem? (i := 1007) (by decide +kernel)⟩
theorem lw_p57 : lw_okq (⟨"SpelledTonesModel", "windowOf", "(I)I"⟩, 28) := ⟨⟨by decide +kernel, by decide +kernel⟩, List.mem_of_getElem? (i := 732) (by decide +kernel), List.mem_of_getElem? (i := 1033) (by decide +kernel), List.mem_of_getElem? (i := 1034) (by decide +kernel)⟩
theorem lw_p58 : lw_okq (⟨"SpelledTonesModel", "allWays", "()I"⟩, 28) := ⟨⟨by decide +kernel, by decide +kernel⟩, List.mem_of_getElem? (i := 732) (by decide +kernel), List.mem_of_getElem? (i := 1041) (by decide +kernel), List.mem_of_getElem? (i := 1042) (by decide +kernel)⟩
theorem lw_p59 : lw_okq (⟨"SpelledTonesModel", "bestHeads", "()I"⟩, 28) := ⟨⟨by decide +kernel, by decide +kernel⟩, List.mem_of_getElem? (i := 732) (by decide +kernel), List.mem_of_getElem? (i := 1045) (by decide +kernel), List.mem_of_getElem? (i := 1046) (by decide +kernel)⟩
theorem lw_p60 : lw_okq (⟨"SpelledTonesModel", "costBy", "(I)I"⟩, 28) := ⟨⟨by decide +kernel, by decide +kernel⟩, List.mem_of_getElem? (i := 732) (by decide +kernel), List.mem_of_getElem? (i := 1049) (by decide +kernel), List.mem_of_getElem? (i := 1050) (by decide +kernel)⟩
theorem lw_p61 : lw_okq (⟨"SpelledTonesModel", "plainWindow", "()I"⟩, 28) := ⟨⟨by decide +kernel, by decide +kernel⟩, List.mem_of_getElem? (i := 732) (by decide +kernel), List.mem_of_getElem? (i := 1053) (by decide +kernel), List.mem_of_getElem? (i := 1054) (by decide +kernel)⟩
theorem lw_p62 : lw_okq (⟨"SpelledTonesModel", "plainCost", "(I)I"⟩, 28) := ⟨⟨by decide +kernel, by decide +kernel⟩, List.mem_of_getElem? (i := 732) (by decide +kernel), List.mem_of_getElem? (i := 1057) (by decide +kernel), List.mem_of_getElem? (i := 1058) (by decide +kernel)⟩
theorem lw_p63 : lw_okq (⟨"SpelledTonesModel", "isRead", "(IIII)Z"⟩, 28) := ⟨⟨by decide +kernel, by decide +kernel⟩, List.mem_of_getElem? (i := 732) (by decide +kernel), List.mem_of_getElem? (i := 1073) (by decide +kernel), List.mem_of_getElem? (i := 1074) (by decide +kernel)⟩
def lw_privs_4 : List (MethodName × Nat) := [(⟨"SpelledTonesModel", "isLetter", "(I)Z"⟩, 28), (⟨"SpelledTonesModel", "isNote", "(I)Z"⟩, 28), (⟨"SpelledTonesModel", "notes", "()V"⟩, 28), (⟨"SpelledTonesModel", "isChord", "(I)Z"⟩, 28), (⟨"SpelledTonesModel", "isPiece", "()Z"⟩, 28), (⟨"SpelledTonesModel", "chordOf", "(I)I"⟩, 28), (⟨"SpelledTonesModel", "prints", "([I)I"⟩, 28), (⟨"SpelledTonesModel", "finds", "([I)V"⟩, 28), (⟨"SpelledTonesModel", "reckons", "([I)V"⟩, 28), (⟨"SpelledTonesModel", "windowOf", "(I)I"⟩, 28), (⟨"SpelledTonesModel", "allWays", "()I"⟩, 28), (⟨"SpelledTonesModel", "bestHeads", "()I"⟩, 28), (⟨"SpelledTonesModel", "costBy", "(I)I"⟩, 28), (⟨"SpelledTonesModel", "plainWindow", "()I"⟩, 28), (⟨"SpelledTonesModel", "plainCost", "(I)I"⟩, 28), (⟨"SpelledTonesModel", "isRead", "(IIII)Z"⟩, 28)]
theorem lw_r4 : ∀ q ∈ lw_privs_4, lw_okq q := List.forall_mem_cons.mpr ⟨lw_p48, List.forall_mem_cons.mpr ⟨lw_p49, List.forall_mem_cons.mpr ⟨lw_p50, List.forall_mem_cons.mpr ⟨lw_p51, List.forall_mem_cons.mpr ⟨lw_p52, List.forall_mem_cons.mpr ⟨lw_p53, List.forall_mem_cons.mpr ⟨lw_p54, List.forall_mem_cons.mpr ⟨lw_p55, List.forall_mem_cons.mpr ⟨lw_p56, List.forall_mem_cons.mpr ⟨lw_p57, List.forall_mem_cons.mpr ⟨lw_p58, List.forall_mem_cons.mpr ⟨lw_p59, List.forall_mem_cons.mpr ⟨lw_p60, List.forall_mem_cons.mpr ⟨lw_p61, List.forall_mem_cons.mpr ⟨lw_p62, List.forall_mem_cons.mpr ⟨lw_p63, fun _ h => absurd h List.not_mem_nil⟩⟩⟩⟩⟩⟩⟩⟩⟩⟩⟩⟩⟩⟩⟩⟩
theorem lw_p64 : lw_okq (⟨"SpelledTonesModel", "kindIn", "(I)I"⟩, 28) := ⟨⟨by decide +kernel, by decide +kernel⟩, List.mem_of_getElem? (i := 732) (by decide +kernel), List.mem_of_getElem? (i := 1098) (by decide +kernel), List.mem_of_getElem? (i := 1099) (by decide +kernel)⟩
theorem lw_p65 : lw_okq (⟨"SpelledTonesModel", "heldSize", "(I)I"⟩, 28) := ⟨⟨by decide +kernel, by decide +kernel⟩, List.mem_of_getElem? (i := 732) (by decide +kernel), List.mem_of_getElem? (i := 1110) (by decide +kernel), List.mem_of_getElem? (i := 1111) (by decide +kernel)⟩
theorem lw_p66 : lw_okq (⟨"SpelledTonesModel", "begins", "(I)V"⟩, 28) := ⟨⟨by decide +kernel, by decide +kernel⟩, List.mem_of_getElem? (i := 732) (by decide +kernel), List.mem_of_getElem? (i := 1114) (by decide +kernel), List.mem_of_getElem? (i := 1115) (by decide +kernel)⟩
theorem lw_p67 : lw_okq (⟨"SpelledTonesModel", "plainSize", "(I)I"⟩, 28) := ⟨⟨by decide +kernel, by decide +kernel⟩, List.mem_of_getElem? (i := 732) (by decide +kernel), List.mem_of_getElem? (i := 1118) (by decide +kernel), List.mem_of_getElem? (i := 1119) (by decide +kernel)⟩
theorem lw_p68 : lw_okq (⟨"SpelledTonesModel", "plainMark", "(I)I"⟩, 28) := ⟨⟨by decide +kernel, by decide +kernel⟩, List.mem_of_getElem? (i := 732) (by decide +kernel), List.mem_of_getElem? (i := 1122) (by decide +kernel), List.mem_of_getElem? (i := 1123) (by decide +kernel)⟩
theorem lw_p69 : lw_okq (⟨"SpelledTonesModel", "heldMark", "(I)I"⟩, 28) := ⟨⟨by decide +kernel, by decide +kernel⟩, List.mem_of_getElem? (i := 732) (by decide +kernel), List.mem_of_getElem? (i := 1126) (by decide +kernel), List.mem_of_getElem? (i := 1127) (by decide +kernel)⟩
def lw_privs_5 : List (MethodName × Nat) := [(⟨"SpelledTonesModel", "kindIn", "(I)I"⟩, 28), (⟨"SpelledTonesModel", "heldSize", "(I)I"⟩, 28), (⟨"SpelledTonesModel", "begins", "(I)V"⟩, 28), (⟨"SpelledTonesModel", "plainSize", "(I)I"⟩, 28), (⟨"SpelledTonesModel", "plainMark", "(I)I"⟩, 28), (⟨"SpelledTonesModel", "heldMark", "(I)I"⟩, 28)]
theorem lw_r5 : ∀ q ∈ lw_privs_5, lw_okq q := List.forall_mem_cons.mpr ⟨lw_p64, List.forall_mem_cons.mpr ⟨lw_p65, List.forall_mem_cons.mpr ⟨lw_p66, List.forall_mem_cons.mpr ⟨lw_p67, List.forall_mem_cons.mpr ⟨lw_p68, List.forall_mem_cons.mpr ⟨lw_p69, fun _ h => absurd h List.not_mem_nil⟩⟩⟩⟩⟩⟩
def lw_privs : List (MethodName × Nat) := lw_privs_1 ++ (lw_privs_2 ++ (lw_privs_3 ++ (lw_privs_4 ++ (lw_privs_5))))
def lw_tbl : List Cond := k2_sels lw_privs ++ tables_1
theorem lw_privs_ok : ∀ q ∈ lw_privs, lw_okq q := by
  show ∀ q ∈ lw_privs_1 ++ (lw_privs_2 ++ (lw_privs_3 ++ (lw_privs_4 ++ (lw_privs_5)))), lw_okq q
  exact List.forall_mem_append.mpr ⟨lw_r1, List.forall_mem_append.mpr ⟨lw_r2, List.forall_mem_append.mpr ⟨lw_r3, List.forall_mem_append.mpr ⟨lw_r4, lw_r5⟩⟩⟩⟩
end
section
/-! ===== BEGIN words of one list among another's, by their places ===== -/
theorem goodIn_r {big : List Cond} (ws : List Cond) (ps : List Nat) (hp : ws = ps.filterMap (fun i => big[i]?)) (h : ws.all goodWord = true) : GoodIn big ws := by
  intro w hw
  have h1 := List.all_eq_true.mp h w hw
  rw [hp] at hw
  obtain ⟨i, -, hi⟩ := List.mem_filterMap.mp hw
  have hm : w ∈ big := by first | exact List.mem_of_getElem? hi | exact List.getElem?_mem hi
  exact ⟨hm, good_of_word h1⟩
theorem goodIn_app {big a b : List Cond} (ha : GoodIn big a) (hb : GoodIn big b) : GoodIn big (a ++ b) := fun w h => (List.mem_append.mp h).elim (ha w) (hb w)
theorem goodIn_ca {big a b : List Cond} {c : Cond} (ha : GoodIn big (c :: a)) (hb : GoodIn big b) : GoodIn big (c :: (a ++ b)) := fun w h => (List.mem_cons.mp h).elim (fun e => ha w (List.mem_cons.mpr (Or.inl e))) (fun h => (List.mem_append.mp h).elim (fun h => ha w (List.mem_cons.mpr (Or.inr h))) (hb w))
theorem goodIn_sub {big ws : List Cond} (hm : ∀ w ∈ ws, w ∈ big) (h : ws.all goodWord = true) : GoodIn big ws := fun w hw => ⟨hm w hw, good_of_word (List.all_eq_true.mp h w hw)⟩
/-! ===== END ===== -/

/-! ===== BEGIN printed: names, fields, word lists, decode rows ===== -/
def RX0 : String := "SpelledTones$Acts"
def TX0 : u_T := fun k => match k with
  | 0 => ("SpelledTones$Acts", "size", "I", false)
  | 1 => ("SpelledTones$Acts", "sorts", "[I", true)
  | 2 => ("SpelledTones$Acts", "wheres", "[I", true)
  | _ => ("SpelledTones$Acts", "befores", "[I", true)
def tyX0 : Nat → FieldType := fun k => match k with
  | 0 => .int
  | 1 => .array .int
  | 2 => .array .int
  | _ => .array .int
abbrev wsX00 : List Cond := u_ws RX0 TX0 4
theorem nmX0 : ∀ a, a < 4 → ∀ b, b < 4 → a ≠ b → (TX0 a).2.1 ≠ (TX0 b).2.1 := by decide +kernel
theorem tyX0_ok : ∀ k, k < 4 → parseFieldDescriptor (TX0 k).2.2.1 = some (tyX0 k) := by decide +kernel
abbrev cX0_init : ByteArray := prog_2_method_1_code
def yX0_init : MethodName := ⟨RX0, "<init>", "()V"⟩
abbrev cX0_forgetAll : ByteArray := prog_2_method_2_code
def yX0_forgetAll : MethodName := ⟨RX0, "forgetAll", "()V"⟩
abbrev cX0_keep : ByteArray := prog_2_method_3_code
def yX0_keep : MethodName := ⟨RX0, "keep", "(III)V"⟩
abbrev cX0_forgetOldest : ByteArray := prog_2_method_4_code
def yX0_forgetOldest : MethodName := ⟨RX0, "forgetOldest", "()V"⟩
abbrev cX0_takeBack : ByteArray := prog_2_method_5_code
def yX0_takeBack : MethodName := ⟨RX0, "takeBack", "(LSpelledTones$Piece;)V"⟩
def RX1 : String := "SpelledTones$Asks"
def TX1 : u_T := fun k => match k with
  | 0 => ("SpelledTones$Asks", "traced", "I", false)
  | 1 => ("SpelledTones$Asks", "bodies", "[I", true)
  | 2 => ("SpelledTones$Asks", "kind", "I", false)
  | 3 => ("SpelledTones$Asks", "number", "I", false)
  | 4 => ("SpelledTones$Asks", "notes", "I", false)
  | _ => ("SpelledTones$Asks", "window", "I", false)
def tyX1 : Nat → FieldType := fun k => match k with
  | 0 => .int
  | 1 => .array .int
  | 2 => .int
  | 3 => .int
  | 4 => .int
  | _ => .int
abbrev wsX10 : List Cond := u_ws RX1 TX1 6
theorem nmX1 : ∀ a, a < 6 → ∀ b, b < 6 → a ≠ b → (TX1 a).2.1 ≠ (TX1 b).2.1 := by decide +kernel
theorem tyX1_ok : ∀ k, k < 6 → parseFieldDescriptor (TX1 k).2.2.1 = some (tyX1 k) := by decide +kernel
abbrev cX1_init : ByteArray := prog_3_method_1_code
def yX1_init : MethodName := ⟨RX1, "<init>", "()V"⟩
abbrev cX1_isOne : ByteArray := prog_3_method_2_code
def yX1_isOne : MethodName := ⟨RX1, "isOne", "(II)Z"⟩
abbrev cX1_begin : ByteArray := prog_3_method_3_code
def yX1_begin : MethodName := ⟨RX1, "begin", "(IIIII)I"⟩
abbrev cX1_run : ByteArray := prog_3_method_4_code
def yX1_run : MethodName := ⟨RX1, "run", "(II)I"⟩
abbrev cX1_leave : ByteArray := prog_3_method_5_code
def yX1_leave : MethodName := ⟨RX1, "leave", "(I)V"⟩
def RX2 : String := "SpelledTones$Best"
def TX2 : u_T := fun k => match k with
  | 0 => ("SpelledTones$Best", "cost", "I", false)
  | 1 => ("SpelledTones$Best", "ways", "I", false)
  | 2 => ("SpelledTones$Best", "signs", "I", false)
  | 3 => ("SpelledTones$Best", "windows", "[I", true)
  | 4 => ("SpelledTones$Best", "names", "[I", true)
  | 5 => ("SpelledTones$Best", "printed", "[I", true)
  | 6 => ("SpelledTones$Best", "costs", "[I", true)
  | 7 => ("SpelledTones$Best", "counts", "[J", true)
  | 8 => ("SpelledTones$Best", "nexts", "[I", true)
  | _ => ("SpelledTones$Best", "inForce", "[I", true)
def tyX2 : Nat → FieldType := fun k => match k with
  | 0 => .int
  | 1 => .int
  | 2 => .int
  | 3 => .array .int
  | 4 => .array .int
  | 5 => .array .int
  | 6 => .array .int
  | 7 => .array .long
  | 8 => .array .int
  | _ => .array .int
abbrev wsX20 : List Cond := u_ws RX2 TX2 10
theorem nmX2 : ∀ a, a < 10 → ∀ b, b < 10 → a ≠ b → (TX2 a).2.1 ≠ (TX2 b).2.1 := by decide +kernel
theorem tyX2_ok : ∀ k, k < 10 → parseFieldDescriptor (TX2 k).2.2.1 = some (tyX2 k) := by decide +kernel
abbrev cX2_init : ByteArray := prog_4_method_1_code
def yX2_init : MethodName := ⟨RX2, "<init>", "()V"⟩
abbrev cX2_solve : ByteArray := prog_4_method_2_code
def yX2_solve : MethodName := ⟨RX2, "solve", "(LSpelledTones$Piece;)V"⟩
abbrev cX2_goOn : ByteArray := prog_4_method_3_code
def yX2_goOn : MethodName := ⟨RX2, "goOn", "(LSpelledTones$Piece;II)V"⟩
abbrev cX2_choose : ByteArray := prog_4_method_4_code
def yX2_choose : MethodName := ⟨RX2, "choose", "(IIZ)V"⟩
abbrev cX2_pick : ByteArray := prog_4_method_5_code
def yX2_pick : MethodName := ⟨RX2, "pick", "(I)V"⟩
abbrev cX2_spell : ByteArray := prog_4_method_6_code
def yX2_spell : MethodName := ⟨RX2, "spell", "(LSpelledTones$Piece;)V"⟩
abbrev cX2_beginBar : ByteArray := prog_4_method_7_code
def yX2_beginBar : MethodName := ⟨RX2, "beginBar", "(I)V"⟩
abbrev cX2_print : ByteArray := prog_4_method_8_code
def yX2_print : MethodName := ⟨RX2, "print", "(I)V"⟩
def RX3 : String := "SpelledTones$Line"
def TX3 : u_T := fun k => match k with
  | _ => ("", "", "", false)
def tyX3 : Nat → FieldType := fun k => match k with
  | _ => .int
abbrev wsX30 : List Cond := u_ws RX3 TX3 0
theorem nmX3 : ∀ a, a < 0 → ∀ b, b < 0 → a ≠ b → (TX3 a).2.1 ≠ (TX3 b).2.1 := by decide +kernel
theorem tyX3_ok : ∀ k, k < 0 → parseFieldDescriptor (TX3 k).2.2.1 = some (tyX3 k) := by decide +kernel
abbrev cX3_letterOf : ByteArray := prog_5_method_2_code
def yX3_letterOf : MethodName := ⟨RX3, "letterOf", "(I)I"⟩
abbrev cX3_alterOf : ByteArray := prog_5_method_3_code
def yX3_alterOf : MethodName := ⟨RX3, "alterOf", "(I)I"⟩
abbrev cX3_keyOf : ByteArray := prog_5_method_4_code
def yX3_keyOf : MethodName := ⟨RX3, "keyOf", "(I)I"⟩
abbrev cX3_placeIn : ByteArray := prog_5_method_5_code
def yX3_placeIn : MethodName := ⟨RX3, "placeIn", "(II)I"⟩
abbrev cX3_headOf : ByteArray := prog_5_method_6_code
def yX3_headOf : MethodName := ⟨RX3, "headOf", "(II)I"⟩
def RX4 : String := "SpelledTones$Piece"
def TX4 : u_T := fun k => match k with
  | 0 => ("SpelledTones$Piece", "signature", "I", false)
  | 1 => ("SpelledTones$Piece", "chords", "I", false)
  | 2 => ("SpelledTones$Piece", "notes", "I", false)
  | 3 => ("SpelledTones$Piece", "kinds", "[I", true)
  | 4 => ("SpelledTones$Piece", "bars", "[I", true)
  | 5 => ("SpelledTones$Piece", "phrases", "[I", true)
  | 6 => ("SpelledTones$Piece", "firsts", "[I", true)
  | 7 => ("SpelledTones$Piece", "keys", "[I", true)
  | _ => ("SpelledTones$Piece", "chordOf", "[I", true)
def tyX4 : Nat → FieldType := fun k => match k with
  | 0 => .int
  | 1 => .int
  | 2 => .int
  | 3 => .array .int
  | 4 => .array .int
  | 5 => .array .int
  | 6 => .array .int
  | 7 => .array .int
  | _ => .array .int
abbrev wsX40 : List Cond := u_ws RX4 TX4 9
theorem nmX4 : ∀ a, a < 9 → ∀ b, b < 9 → a ≠ b → (TX4 a).2.1 ≠ (TX4 b).2.1 := by decide +kernel
theorem tyX4_ok : ∀ k, k < 9 → parseFieldDescriptor (TX4 k).2.2.1 = some (tyX4 k) := by decide +kernel
abbrev cX4_init : ByteArray := prog_6_method_1_code
def yX4_init : MethodName := ⟨RX4, "<init>", "()V"⟩
abbrev cX4_clear : ByteArray := prog_6_method_2_code
def yX4_clear : MethodName := ⟨RX4, "clear", "()V"⟩
abbrev cX4_becomeLike : ByteArray := prog_6_method_3_code
def yX4_becomeLike : MethodName := ⟨RX4, "becomeLike", "(LSpelledTones$Piece;)V"⟩
abbrev cX4_addChord : ByteArray := prog_6_method_4_code
def yX4_addChord : MethodName := ⟨RX4, "addChord", "(IZZ)V"⟩
abbrev cX4_addKey : ByteArray := prog_6_method_5_code
def yX4_addKey : MethodName := ⟨RX4, "addKey", "(I)V"⟩
abbrev cX4_sizeOf : ByteArray := prog_6_method_6_code
def yX4_sizeOf : MethodName := ⟨RX4, "sizeOf", "(I)I"⟩
abbrev cX4_moveBy : ByteArray := prog_6_method_7_code
def yX4_moveBy : MethodName := ⟨RX4, "moveBy", "(I)V"⟩
abbrev cX4_staysWithin : ByteArray := prog_6_method_8_code
def yX4_staysWithin : MethodName := ⟨RX4, "staysWithin", "(I)Z"⟩
abbrev cX4_priceBy : ByteArray := prog_6_method_9_code
def yX4_priceBy : MethodName := ⟨RX4, "priceBy", "(II)I"⟩
abbrev cX4_priceOfName : ByteArray := prog_6_method_10_code
def yX4_priceOfName : MethodName := ⟨RX4, "priceOfName", "(III)I"⟩
abbrev cX4_priceOfStep : ByteArray := prog_6_method_11_code
def yX4_priceOfStep : MethodName := ⟨RX4, "priceOfStep", "(III)I"⟩
def RX5 : String := "SpelledTones$Rows"
def TX5 : u_T := fun k => match k with
  | 0 => ("SpelledTones$Rows", "items", "[I", true)
  | 1 => ("SpelledTones$Rows", "lanes", "[I", true)
  | _ => ("SpelledTones$Rows", "sizes", "[I", true)
def tyX5 : Nat → FieldType := fun k => match k with
  | 0 => .array .int
  | 1 => .array .int
  | _ => .array .int
abbrev wsX50 : List Cond := u_ws RX5 TX5 3
theorem nmX5 : ∀ a, a < 3 → ∀ b, b < 3 → a ≠ b → (TX5 a).2.1 ≠ (TX5 b).2.1 := by decide +kernel
theorem tyX5_ok : ∀ k, k < 3 → parseFieldDescriptor (TX5 k).2.2.1 = some (tyX5 k) := by decide +kernel
abbrev cX5_init : ByteArray := prog_7_method_1_code
def yX5_init : MethodName := ⟨RX5, "<init>", "()V"⟩
abbrev cX5_isRow : ByteArray := prog_7_method_2_code
def yX5_isRow : MethodName := ⟨RX5, "isRow", "(I)Z"⟩
abbrev cX5_isMissing : ByteArray := prog_7_method_3_code
def yX5_isMissing : MethodName := ⟨RX5, "isMissing", "(I)Z"⟩
abbrev cX5_ofOneLane : ByteArray := prog_7_method_4_code
def yX5_ofOneLane : MethodName := ⟨RX5, "ofOneLane", "(II)Z"⟩
abbrev cX5_holds : ByteArray := prog_7_method_5_code
def yX5_holds : MethodName := ⟨RX5, "holds", "(III)Z"⟩
abbrev cX5_make : ByteArray := prog_7_method_6_code
def yX5_make : MethodName := ⟨RX5, "make", "(III)V"⟩
abbrev cX5_put : ByteArray := prog_7_method_7_code
def yX5_put : MethodName := ⟨RX5, "put", "(III)I"⟩
abbrev cX5_itemOf : ByteArray := prog_7_method_8_code
def yX5_itemOf : MethodName := ⟨RX5, "itemOf", "(II)I"⟩
abbrev cX5_carry : ByteArray := prog_7_method_9_code
def yX5_carry : MethodName := ⟨RX5, "carry", "(IIIII)V"⟩
abbrev cX5_lose : ByteArray := prog_7_method_10_code
def yX5_lose : MethodName := ⟨RX5, "lose", "(I)I"⟩
abbrev cX5_howMany : ByteArray := prog_7_method_11_code
def yX5_howMany : MethodName := ⟨RX5, "howMany", "()I"⟩
def RX6 : String := "SpelledTones$Tape"
def TX6 : u_T := fun k => match k with
  | 0 => ("SpelledTones$Tape", "bytes", "[I", true)
  | 1 => ("SpelledTones$Tape", "length", "I", false)
  | 2 => ("SpelledTones$Tape", "at", "I", false)
  | 3 => ("SpelledTones$Tape", "token", "I", false)
  | 4 => ("SpelledTones$Tape", "width", "I", false)
  | 5 => ("SpelledTones$Tape", "value", "I", false)
  | 6 => ("SpelledTones$Tape", "wanted", "I", false)
  | 7 => ("SpelledTones$Tape", "lastKey", "I", false)
  | 8 => ("SpelledTones$Tape", "bar", "Z", false)
  | _ => ("SpelledTones$Tape", "phrase", "Z", false)
def tyX6 : Nat → FieldType := fun k => match k with
  | 0 => .array .int
  | 1 => .int
  | 2 => .int
  | 3 => .int
  | 4 => .int
  | 5 => .int
  | 6 => .int
  | 7 => .int
  | 8 => .boolean
  | _ => .boolean
abbrev wsX60 : List Cond := u_ws RX6 TX6 10
theorem nmX6 : ∀ a, a < 10 → ∀ b, b < 10 → a ≠ b → (TX6 a).2.1 ≠ (TX6 b).2.1 := by decide +kernel
theorem tyX6_ok : ∀ k, k < 10 → parseFieldDescriptor (TX6 k).2.2.1 = some (tyX6 k) := by decide +kernel
abbrev cX6_init : ByteArray := prog_8_method_1_code
def yX6_init : MethodName := ⟨RX6, "<init>", "()V"⟩
abbrev cX6_put : ByteArray := prog_8_method_2_code
def yX6_put : MethodName := ⟨RX6, "put", "(I)V"⟩
abbrev cX6_readInto : ByteArray := prog_8_method_3_code
def yX6_readInto : MethodName := ⟨RX6, "readInto", "(LSpelledTones$Piece;)I"⟩
abbrev cX6_takeToken : ByteArray := prog_8_method_4_code
def yX6_takeToken : MethodName := ⟨RX6, "takeToken", "()V"⟩
abbrev cX6_takeNumber : ByteArray := prog_8_method_5_code
def yX6_takeNumber : MethodName := ⟨RX6, "takeNumber", "()V"⟩
abbrev cX6_isFigure : ByteArray := prog_8_method_6_code
def yX6_isFigure : MethodName := ⟨RX6, "isFigure", "(I)Z"⟩
abbrev cX6_step : ByteArray := prog_8_method_7_code
def yX6_step : MethodName := ⟨RX6, "step", "(LSpelledTones$Piece;)I"⟩
abbrev cX6_want : ByteArray := prog_8_method_8_code
def yX6_want : MethodName := ⟨RX6, "want", "(II)I"⟩
abbrev cX6_takeSignature : ByteArray := prog_8_method_9_code
def yX6_takeSignature : MethodName := ⟨RX6, "takeSignature", "(LSpelledTones$Piece;)I"⟩
abbrev cX6_takeLetter : ByteArray := prog_8_method_10_code
def yX6_takeLetter : MethodName := ⟨RX6, "takeLetter", "(LSpelledTones$Piece;)I"⟩
abbrev cX6_takeSort : ByteArray := prog_8_method_11_code
def yX6_takeSort : MethodName := ⟨RX6, "takeSort", "(LSpelledTones$Piece;)I"⟩
abbrev cX6_kindOfSort : ByteArray := prog_8_method_12_code
def yX6_kindOfSort : MethodName := ⟨RX6, "kindOfSort", "(I)I"⟩
abbrev cX6_takeKey : ByteArray := prog_8_method_13_code
def yX6_takeKey : MethodName := ⟨RX6, "takeKey", "(LSpelledTones$Piece;)I"⟩
abbrev cX6_endKey : ByteArray := prog_8_method_14_code
def yX6_endKey : MethodName := ⟨RX6, "endKey", "(LSpelledTones$Piece;)I"⟩
def RX7 : String := "SpelledTones"
def TX7 : u_T := fun k => match k with
  | 0 => ("SpelledTones", "rows", "LSpelledTones$Rows;", true)
  | 1 => ("SpelledTones", "tape", "LSpelledTones$Tape;", true)
  | 2 => ("SpelledTones", "now", "LSpelledTones$Piece;", true)
  | 3 => ("SpelledTones", "best", "LSpelledTones$Best;", true)
  | 4 => ("SpelledTones", "trial", "LSpelledTones$Piece;", true)
  | 5 => ("SpelledTones", "trialBest", "LSpelledTones$Best;", true)
  | 6 => ("SpelledTones", "images", "[LSpelledTones$Piece;", true)
  | 7 => ("SpelledTones", "acts", "LSpelledTones$Acts;", true)
  | 8 => ("SpelledTones", "asks", "LSpelledTones$Asks;", true)
  | 9 => ("SpelledTones", "bestStale", "Z", false)
  | 10 => ("SpelledTones", "headsStale", "Z", false)
  | 11 => ("SpelledTones", "headSignature", "I", false)
  | 12 => ("SpelledTones", "headCost", "I", false)
  | 13 => ("SpelledTones", "latestFault", "I", false)
  | _ => ("SpelledTones", "latestFinding", "I", false)
def tyX7 : Nat → FieldType := fun k => match k with
  | 0 => .object "SpelledTones$Rows"
  | 1 => .object "SpelledTones$Tape"
  | 2 => .object "SpelledTones$Piece"
  | 3 => .object "SpelledTones$Best"
  | 4 => .object "SpelledTones$Piece"
  | 5 => .object "SpelledTones$Best"
  | 6 => .array (.object "SpelledTones$Piece")
  | 7 => .object "SpelledTones$Acts"
  | 8 => .object "SpelledTones$Asks"
  | 9 => .boolean
  | 10 => .boolean
  | 11 => .int
  | 12 => .int
  | 13 => .int
  | _ => .int
abbrev wsX70 : List Cond := u_ws RX7 TX7 15
theorem nmX7 : ∀ a, a < 15 → ∀ b, b < 15 → a ≠ b → (TX7 a).2.1 ≠ (TX7 b).2.1 := by decide +kernel
theorem tyX7_ok : ∀ k, k < 15 → parseFieldDescriptor (TX7 k).2.2.1 = some (tyX7 k) := by decide +kernel
abbrev cX7_init : ByteArray := prog_1_method_1_code
def yX7_init : MethodName := ⟨RX7, "<init>", "()V"⟩
abbrev cX7_row : ByteArray := prog_1_method_2_code
def yX7_row : MethodName := ⟨RX7, "row", "(III)I"⟩
abbrev cX7_set : ByteArray := prog_1_method_3_code
def yX7_set : MethodName := ⟨RX7, "set", "(III)I"⟩
abbrev cX7_copy : ByteArray := prog_1_method_4_code
def yX7_copy : MethodName := ⟨RX7, "copy", "(IIIII)I"⟩
abbrev cX7_drop : ByteArray := prog_1_method_5_code
def yX7_drop : MethodName := ⟨RX7, "drop", "(I)I"⟩
abbrev cX7_feed : ByteArray := prog_1_method_6_code
def yX7_feed : MethodName := ⟨RX7, "feed", "(I)I"⟩
abbrev cX7_piece : ByteArray := prog_1_method_7_code
def yX7_piece : MethodName := ⟨RX7, "piece", "()I"⟩
abbrev cX7_fault : ByteArray := prog_1_method_8_code
def yX7_fault : MethodName := ⟨RX7, "fault", "()I"⟩
abbrev cX7_key : ByteArray := prog_1_method_9_code
def yX7_key : MethodName := ⟨RX7, "key", "(II)I"⟩
abbrev cX7_become : ByteArray := prog_1_method_10_code
def yX7_become : MethodName := ⟨RX7, "become", "(II)I"⟩
abbrev cX7_sign : ByteArray := prog_1_method_11_code
def yX7_sign : MethodName := ⟨RX7, "sign", "(I)I"⟩
abbrev cX7_shift : ByteArray := prog_1_method_12_code
def yX7_shift : MethodName := ⟨RX7, "shift", "(I)I"⟩
abbrev cX7_undo : ByteArray := prog_1_method_13_code
def yX7_undo : MethodName := ⟨RX7, "undo", "()I"⟩
abbrev cX7_place : ByteArray := prog_1_method_14_code
def yX7_place : MethodName := ⟨RX7, "place", "(II)I"⟩
abbrev cX7_inWindow : ByteArray := prog_1_method_15_code
def yX7_inWindow : MethodName := ⟨RX7, "inWindow", "(II)I"⟩
abbrev cX7_head : ByteArray := prog_1_method_16_code
def yX7_head : MethodName := ⟨RX7, "head", "(I)I"⟩
abbrev cX7_note : ByteArray := prog_1_method_17_code
def yX7_note : MethodName := ⟨RX7, "note", "(II)I"⟩
abbrev cX7_chord : ByteArray := prog_1_method_18_code
def yX7_chord : MethodName := ⟨RX7, "chord", "(II)I"⟩
abbrev cX7_whole : ByteArray := prog_1_method_19_code
def yX7_whole : MethodName := ⟨RX7, "whole", "(I)I"⟩
abbrev cX7_price : ByteArray := prog_1_method_20_code
def yX7_price : MethodName := ⟨RX7, "price", "(II)I"⟩
abbrev cX7_cost : ByteArray := prog_1_method_21_code
def yX7_cost : MethodName := ⟨RX7, "cost", "(II)I"⟩
abbrev cX7_fits : ByteArray := prog_1_method_22_code
def yX7_fits : MethodName := ⟨RX7, "fits", "(IIII)I"⟩
abbrev cX7_drawn : ByteArray := prog_1_method_23_code
def yX7_drawn : MethodName := ⟨RX7, "drawn", "(III)I"⟩
abbrev cX7_image : ByteArray := prog_1_method_24_code
def yX7_image : MethodName := ⟨RX7, "image", "(I)I"⟩
abbrev cX7_restore : ByteArray := prog_1_method_25_code
def yX7_restore : MethodName := ⟨RX7, "restore", "(I)I"⟩
abbrev cX7_kind : ByteArray := prog_1_method_26_code
def yX7_kind : MethodName := ⟨RX7, "kind", "(I)I"⟩
abbrev cX7_as : ByteArray := prog_1_method_27_code
def yX7_as : MethodName := ⟨RX7, "as", "(II)I"⟩
abbrev cX7_ask : ByteArray := prog_1_method_28_code
def yX7_ask : MethodName := ⟨RX7, "ask", "(II)I"⟩
abbrev cX7_trace : ByteArray := prog_1_method_29_code
def yX7_trace : MethodName := ⟨RX7, "trace", "(I)I"⟩
abbrev cX7_count : ByteArray := prog_1_method_30_code
def yX7_count : MethodName := ⟨RX7, "count", "(I)I"⟩
abbrev cX7_status : ByteArray := prog_1_method_31_code
def yX7_status : MethodName := ⟨RX7, "status", "()I"⟩
abbrev cX7_found : ByteArray := prog_1_method_32_code
def yX7_found : MethodName := ⟨RX7, "found", "(I)I"⟩
abbrev cX7_fine : ByteArray := prog_1_method_33_code
def yX7_fine : MethodName := ⟨RX7, "fine", "(I)I"⟩
abbrev cX7_acted : ByteArray := prog_1_method_34_code
def yX7_acted : MethodName := ⟨RX7, "acted", "(III)V"⟩
abbrev cX7_changed : ByteArray := prog_1_method_35_code
def yX7_changed : MethodName := ⟨RX7, "changed", "()V"⟩
abbrev cX7_isNoPiece : ByteArray := prog_1_method_36_code
def yX7_isNoPiece : MethodName := ⟨RX7, "isNoPiece", "()Z"⟩
abbrev cX7_isChord : ByteArray := prog_1_method_37_code
def yX7_isChord : MethodName := ⟨RX7, "isChord", "(I)Z"⟩
abbrev cX7_isNote : ByteArray := prog_1_method_38_code
def yX7_isNote : MethodName := ⟨RX7, "isNote", "(I)Z"⟩
abbrev cX7_isKey : ByteArray := prog_1_method_39_code
def yX7_isKey : MethodName := ⟨RX7, "isKey", "(I)Z"⟩
abbrev cX7_isSignature : ByteArray := prog_1_method_40_code
def yX7_isSignature : MethodName := ⟨RX7, "isSignature", "(I)Z"⟩
abbrev cX7_isWindow : ByteArray := prog_1_method_41_code
def yX7_isWindow : MethodName := ⟨RX7, "isWindow", "(I)Z"⟩
abbrev cX7_settled : ByteArray := prog_1_method_42_code
def yX7_settled : MethodName := ⟨RX7, "settled", "()LSpelledTones$Best;"⟩
abbrev cX7_findHeads : ByteArray := prog_1_method_43_code
def yX7_findHeads : MethodName := ⟨RX7, "findHeads", "()V"⟩
abbrev cX7_signatureOfHeads : ByteArray := prog_1_method_44_code
def yX7_signatureOfHeads : MethodName := ⟨RX7, "signatureOfHeads", "()I"⟩
abbrev cX7_costOfHeads : ByteArray := prog_1_method_45_code
def yX7_costOfHeads : MethodName := ⟨RX7, "costOfHeads", "()I"⟩
abbrev cX7_costOfOne : ByteArray := prog_1_method_46_code
def yX7_costOfOne : MethodName := ⟨RX7, "costOfOne", "(I)I"⟩
abbrev cX7_cheapestOne : ByteArray := prog_1_method_47_code
def yX7_cheapestOne : MethodName := ⟨RX7, "cheapestOne", "()I"⟩
abbrev cX7_costOfItems : ByteArray := prog_1_method_48_code
def yX7_costOfItems : MethodName := ⟨RX7, "costOfItems", "(II)I"⟩
abbrev cX7_fittingSignatures : ByteArray := prog_1_method_49_code
def yX7_fittingSignatures : MethodName := ⟨RX7, "fittingSignatures", "(II)I"⟩
abbrev cX7_fittingKinds : ByteArray := prog_1_method_50_code
def yX7_fittingKinds : MethodName := ⟨RX7, "fittingKinds", "(III)I"⟩
abbrev cX7_fittingKeys : ByteArray := prog_1_method_51_code
def yX7_fittingKeys : MethodName := ⟨RX7, "fittingKeys", "(III)I"⟩
abbrev cX7_bitIfLettersFit : ByteArray := prog_1_method_52_code
def yX7_bitIfLettersFit : MethodName := ⟨RX7, "bitIfLettersFit", "(III)I"⟩
abbrev cX7_drawOnTrial : ByteArray := prog_1_method_53_code
def yX7_drawOnTrial : MethodName := ⟨RX7, "drawOnTrial", "(II)I"⟩
def RX8 : String := "SpelledTonesModel"
def TX8 : u_T := fun k => match k with
  | 0 => ("SpelledTonesModel", "lane", "[I", true)
  | 1 => ("SpelledTonesModel", "many", "[I", true)
  | 2 => ("SpelledTonesModel", "items", "[I", true)
  | 3 => ("SpelledTonesModel", "spare", "[I", true)
  | 4 => ("SpelledTonesModel", "status", "I", false)
  | 5 => ("SpelledTonesModel", "tape", "[I", true)
  | 6 => ("SpelledTonesModel", "taped", "I", false)
  | 7 => ("SpelledTonesModel", "faultKind", "I", false)
  | 8 => ("SpelledTonesModel", "faultPlace", "I", false)
  | 9 => ("SpelledTonesModel", "at", "I", false)
  | 10 => ("SpelledTonesModel", "start", "I", false)
  | 11 => ("SpelledTonesModel", "token", "I", false)
  | 12 => ("SpelledTonesModel", "value", "I", false)
  | 13 => ("SpelledTonesModel", "now", "[I", true)
  | 14 => ("SpelledTonesModel", "draft", "[I", true)
  | 15 => ("SpelledTonesModel", "tried", "[I", true)
  | 16 => ("SpelledTonesModel", "past", "[I", true)
  | 17 => ("SpelledTonesModel", "acts", "I", false)
  | 18 => ("SpelledTonesModel", "images", "[I", true)
  | 19 => ("SpelledTonesModel", "kept", "[Z", true)
  | 20 => ("SpelledTonesModel", "costs", "[I", true)
  | 21 => ("SpelledTonesModel", "ways", "[I", true)
  | 22 => ("SpelledTonesModel", "windows", "[I", true)
  | 23 => ("SpelledTonesModel", "best", "I", false)
  | 24 => ("SpelledTonesModel", "force", "[I", true)
  | 25 => ("SpelledTonesModel", "printed", "[I", true)
  | 26 => ("SpelledTonesModel", "trace", "[I", true)
  | _ => ("SpelledTonesModel", "traced", "I", false)
def tyX8 : Nat → FieldType := fun k => match k with
  | 0 => .array .int
  | 1 => .array .int
  | 2 => .array .int
  | 3 => .array .int
  | 4 => .int
  | 5 => .array .int
  | 6 => .int
  | 7 => .int
  | 8 => .int
  | 9 => .int
  | 10 => .int
  | 11 => .int
  | 12 => .int
  | 13 => .array .int
  | 14 => .array .int
  | 15 => .array .int
  | 16 => .array .int
  | 17 => .int
  | 18 => .array .int
  | 19 => .array .boolean
  | 20 => .array .int
  | 21 => .array .int
  | 22 => .array .int
  | 23 => .int
  | 24 => .array .int
  | 25 => .array .int
  | 26 => .array .int
  | _ => .int
abbrev wsX80 : List Cond := u_ws RX8 TX8 28
theorem nmX8 : ∀ a, a < 28 → ∀ b, b < 28 → a ≠ b → (TX8 a).2.1 ≠ (TX8 b).2.1 := by decide +kernel
theorem tyX8_ok : ∀ k, k < 28 → parseFieldDescriptor (TX8 k).2.2.1 = some (tyX8 k) := by decide +kernel
abbrev cX8_init : ByteArray := prog_10_method_1_code
def yX8_init : MethodName := ⟨RX8, "<init>", "()V"⟩
abbrev cX8_in : ByteArray := prog_10_method_3_code
def yX8_in : MethodName := ⟨RX8, "in", "(III)Z"⟩
abbrev cX8_size : ByteArray := prog_10_method_4_code
def yX8_size : MethodName := ⟨RX8, "size", "(I)I"⟩
abbrev cX8_found : ByteArray := prog_10_method_5_code
def yX8_found : MethodName := ⟨RX8, "found", "(I)I"⟩
abbrev cX8_well : ByteArray := prog_10_method_6_code
def yX8_well : MethodName := ⟨RX8, "well", "(I)I"⟩
abbrev cX8_copies : ByteArray := prog_10_method_7_code
def yX8_copies : MethodName := ⟨RX8, "copies", "([II[II)V"⟩
abbrev cX8_isRow : ByteArray := prog_10_method_8_code
def yX8_isRow : MethodName := ⟨RX8, "isRow", "(I)Z"⟩
abbrev cX8_isMissing : ByteArray := prog_10_method_9_code
def yX8_isMissing : MethodName := ⟨RX8, "isMissing", "(I)Z"⟩
abbrev cX8_lowest : ByteArray := prog_10_method_10_code
def yX8_lowest : MethodName := ⟨RX8, "lowest", "(II)I"⟩
abbrev cX8_row : ByteArray := prog_10_method_11_code
def yX8_row : MethodName := ⟨RX8, "row", "(III)I"⟩
abbrev cX8_set : ByteArray := prog_10_method_12_code
def yX8_set : MethodName := ⟨RX8, "set", "(III)I"⟩
abbrev cX8_isPart : ByteArray := prog_10_method_13_code
def yX8_isPart : MethodName := ⟨RX8, "isPart", "(III)Z"⟩
abbrev cX8_copy : ByteArray := prog_10_method_14_code
def yX8_copy : MethodName := ⟨RX8, "copy", "(IIIII)I"⟩
abbrev cX8_drop : ByteArray := prog_10_method_15_code
def yX8_drop : MethodName := ⟨RX8, "drop", "(I)I"⟩
abbrev cX8_feed : ByteArray := prog_10_method_16_code
def yX8_feed : MethodName := ⟨RX8, "feed", "(I)I"⟩
abbrev cX8_byteAt : ByteArray := prog_10_method_17_code
def yX8_byteAt : MethodName := ⟨RX8, "byteAt", "(I)I"⟩
abbrev cX8_advances : ByteArray := prog_10_method_18_code
def yX8_advances : MethodName := ⟨RX8, "advances", "()V"⟩
abbrev cX8_isWell : ByteArray := prog_10_method_19_code
def yX8_isWell : MethodName := ⟨RX8, "isWell", "()Z"⟩
abbrev cX8_takes : ByteArray := prog_10_method_20_code
def yX8_takes : MethodName := ⟨RX8, "takes", "(ZI)I"⟩
abbrev cX8_figure : ByteArray := prog_10_method_21_code
def yX8_figure : MethodName := ⟨RX8, "figure", "(II)I"⟩
abbrev cX8_kindOf : ByteArray := prog_10_method_22_code
def yX8_kindOf : MethodName := ⟨RX8, "kindOf", "(I)I"⟩
abbrev cX8_isLetter : ByteArray := prog_10_method_24_code
def yX8_isLetter : MethodName := ⟨RX8, "isLetter", "(I)Z"⟩
abbrev cX8_readsChord : ByteArray := prog_10_method_25_code
def yX8_readsChord : MethodName := ⟨RX8, "readsChord", "(ZZ)V"⟩
abbrev cX8_marks : ByteArray := prog_10_method_26_code
def yX8_marks : MethodName := ⟨RX8, "marks", "(I)Z"⟩
abbrev cX8_piece : ByteArray := prog_10_method_27_code
def yX8_piece : MethodName := ⟨RX8, "piece", "()I"⟩
abbrev cX8_fault : ByteArray := prog_10_method_28_code
def yX8_fault : MethodName := ⟨RX8, "fault", "()I"⟩
abbrev cX8_isPiece : ByteArray := prog_10_method_29_code
def yX8_isPiece : MethodName := ⟨RX8, "isPiece", "()Z"⟩
abbrev cX8_isChord : ByteArray := prog_10_method_30_code
def yX8_isChord : MethodName := ⟨RX8, "isChord", "(I)Z"⟩
abbrev cX8_isNote : ByteArray := prog_10_method_31_code
def yX8_isNote : MethodName := ⟨RX8, "isNote", "(I)Z"⟩
abbrev cX8_over : ByteArray := prog_10_method_32_code
def yX8_over : MethodName := ⟨RX8, "over", "(II)I"⟩
abbrev cX8_letterOf : ByteArray := prog_10_method_33_code
def yX8_letterOf : MethodName := ⟨RX8, "letterOf", "(I)I"⟩
abbrev cX8_alterOf : ByteArray := prog_10_method_34_code
def yX8_alterOf : MethodName := ⟨RX8, "alterOf", "(I)I"⟩
abbrev cX8_keyOf : ByteArray := prog_10_method_35_code
def yX8_keyOf : MethodName := ⟨RX8, "keyOf", "(I)I"⟩
abbrev cX8_nameOf : ByteArray := prog_10_method_36_code
def yX8_nameOf : MethodName := ⟨RX8, "nameOf", "(II)I"⟩
abbrev cX8_headOf : ByteArray := prog_10_method_37_code
def yX8_headOf : MethodName := ⟨RX8, "headOf", "([II)I"⟩
abbrev cX8_isHeld : ByteArray := prog_10_method_38_code
def yX8_isHeld : MethodName := ⟨RX8, "isHeld", "([II)Z"⟩
abbrev cX8_nameIn : ByteArray := prog_10_method_39_code
def yX8_nameIn : MethodName := ⟨RX8, "nameIn", "([IIII)I"⟩
abbrev cX8_priceOfName : ByteArray := prog_10_method_40_code
def yX8_priceOfName : MethodName := ⟨RX8, "priceOfName", "([III)I"⟩
abbrev cX8_priceOf : ByteArray := prog_10_method_41_code
def yX8_priceOf : MethodName := ⟨RX8, "priceOf", "([III)I"⟩
abbrev cX8_moveTo : ByteArray := prog_10_method_42_code
def yX8_moveTo : MethodName := ⟨RX8, "moveTo", "([IIII)I"⟩
abbrev cX8_reckons : ByteArray := prog_10_method_43_code
def yX8_reckons : MethodName := ⟨RX8, "reckons", "([I)V"⟩
abbrev cX8_finds : ByteArray := prog_10_method_44_code
def yX8_finds : MethodName := ⟨RX8, "finds", "([I)V"⟩
abbrev cX8_allWays : ByteArray := prog_10_method_45_code
def yX8_allWays : MethodName := ⟨RX8, "allWays", "()I"⟩
abbrev cX8_windowOf : ByteArray := prog_10_method_46_code
def yX8_windowOf : MethodName := ⟨RX8, "windowOf", "(I)I"⟩
abbrev cX8_prints : ByteArray := prog_10_method_47_code
def yX8_prints : MethodName := ⟨RX8, "prints", "([I)I"⟩
abbrev cX8_notes : ByteArray := prog_10_method_48_code
def yX8_notes : MethodName := ⟨RX8, "notes", "()V"⟩
abbrev cX8_key : ByteArray := prog_10_method_49_code
def yX8_key : MethodName := ⟨RX8, "key", "(II)I"⟩
abbrev cX8_become : ByteArray := prog_10_method_50_code
def yX8_become : MethodName := ⟨RX8, "become", "(II)I"⟩
abbrev cX8_sign : ByteArray := prog_10_method_51_code
def yX8_sign : MethodName := ⟨RX8, "sign", "(I)I"⟩
abbrev cX8_shift : ByteArray := prog_10_method_52_code
def yX8_shift : MethodName := ⟨RX8, "shift", "(I)I"⟩
abbrev cX8_undo : ByteArray := prog_10_method_53_code
def yX8_undo : MethodName := ⟨RX8, "undo", "()I"⟩
abbrev cX8_place : ByteArray := prog_10_method_54_code
def yX8_place : MethodName := ⟨RX8, "place", "(II)I"⟩
abbrev cX8_isWindow : ByteArray := prog_10_method_55_code
def yX8_isWindow : MethodName := ⟨RX8, "isWindow", "(I)Z"⟩
abbrev cX8_inWindow : ByteArray := prog_10_method_56_code
def yX8_inWindow : MethodName := ⟨RX8, "inWindow", "(II)I"⟩
abbrev cX8_head : ByteArray := prog_10_method_57_code
def yX8_head : MethodName := ⟨RX8, "head", "(I)I"⟩
abbrev cX8_chordOf : ByteArray := prog_10_method_58_code
def yX8_chordOf : MethodName := ⟨RX8, "chordOf", "(I)I"⟩
abbrev cX8_note : ByteArray := prog_10_method_59_code
def yX8_note : MethodName := ⟨RX8, "note", "(II)I"⟩
abbrev cX8_chord : ByteArray := prog_10_method_60_code
def yX8_chord : MethodName := ⟨RX8, "chord", "(II)I"⟩
abbrev cX8_costBy : ByteArray := prog_10_method_61_code
def yX8_costBy : MethodName := ⟨RX8, "costBy", "(I)I"⟩
abbrev cX8_bestHeads : ByteArray := prog_10_method_62_code
def yX8_bestHeads : MethodName := ⟨RX8, "bestHeads", "()I"⟩
abbrev cX8_plainCost : ByteArray := prog_10_method_63_code
def yX8_plainCost : MethodName := ⟨RX8, "plainCost", "(I)I"⟩
abbrev cX8_plainWindow : ByteArray := prog_10_method_64_code
def yX8_plainWindow : MethodName := ⟨RX8, "plainWindow", "()I"⟩
abbrev cX8_whole : ByteArray := prog_10_method_65_code
def yX8_whole : MethodName := ⟨RX8, "whole", "(I)I"⟩
abbrev cX8_price : ByteArray := prog_10_method_66_code
def yX8_price : MethodName := ⟨RX8, "price", "(II)I"⟩
abbrev cX8_cost : ByteArray := prog_10_method_67_code
def yX8_cost : MethodName := ⟨RX8, "cost", "(II)I"⟩
abbrev cX8_isRead : ByteArray := prog_10_method_68_code
def yX8_isRead : MethodName := ⟨RX8, "isRead", "(IIII)Z"⟩
abbrev cX8_fits : ByteArray := prog_10_method_69_code
def yX8_fits : MethodName := ⟨RX8, "fits", "(IIII)I"⟩
abbrev cX8_drawn : ByteArray := prog_10_method_70_code
def yX8_drawn : MethodName := ⟨RX8, "drawn", "(III)I"⟩
abbrev cX8_image : ByteArray := prog_10_method_71_code
def yX8_image : MethodName := ⟨RX8, "image", "(I)I"⟩
abbrev cX8_restore : ByteArray := prog_10_method_72_code
def yX8_restore : MethodName := ⟨RX8, "restore", "(I)I"⟩
abbrev cX8_kindIn : ByteArray := prog_10_method_73_code
def yX8_kindIn : MethodName := ⟨RX8, "kindIn", "(I)I"⟩
abbrev cX8_kind : ByteArray := prog_10_method_74_code
def yX8_kind : MethodName := ⟨RX8, "kind", "(I)I"⟩
abbrev cX8_as : ByteArray := prog_10_method_75_code
def yX8_as : MethodName := ⟨RX8, "as", "(II)I"⟩
abbrev cX8_begins : ByteArray := prog_10_method_76_code
def yX8_begins : MethodName := ⟨RX8, "begins", "(I)V"⟩
abbrev cX8_plainMark : ByteArray := prog_10_method_77_code
def yX8_plainMark : MethodName := ⟨RX8, "plainMark", "(I)I"⟩
abbrev cX8_heldSize : ByteArray := prog_10_method_78_code
def yX8_heldSize : MethodName := ⟨RX8, "heldSize", "(I)I"⟩
abbrev cX8_plainSize : ByteArray := prog_10_method_79_code
def yX8_plainSize : MethodName := ⟨RX8, "plainSize", "(I)I"⟩
abbrev cX8_heldMark : ByteArray := prog_10_method_80_code
def yX8_heldMark : MethodName := ⟨RX8, "heldMark", "(I)I"⟩
abbrev cX8_ask : ByteArray := prog_10_method_81_code
def yX8_ask : MethodName := ⟨RX8, "ask", "(II)I"⟩
abbrev cX8_trace : ByteArray := prog_10_method_82_code
def yX8_trace : MethodName := ⟨RX8, "trace", "(I)I"⟩
abbrev cX8_count : ByteArray := prog_10_method_83_code
def yX8_count : MethodName := ⟨RX8, "count", "(I)I"⟩
abbrev cX8_status : ByteArray := prog_10_method_84_code
def yX8_status : MethodName := ⟨RX8, "status", "()I"⟩
def RJ9 : String := "java/lang/Math"
def TJ9 : u_T := fun k => match k with
  | _ => ("", "", "", false)
def tyJ9 : Nat → FieldType := fun k => match k with
  | _ => .int
abbrev wsJ90 : List Cond := u_ws RJ9 TJ9 0
theorem nmJ9 : ∀ a, a < 0 → ∀ b, b < 0 → a ≠ b → (TJ9 a).2.1 ≠ (TJ9 b).2.1 := by decide +kernel
theorem tyJ9_ok : ∀ k, k < 0 → parseFieldDescriptor (TJ9 k).2.2.1 = some (tyJ9 k) := by decide +kernel
abbrev cJ9_floorDiv_7cf53 : ByteArray := prog_11_method_47_code
def yJ9_floorDiv_7cf53 : MethodName := ⟨RJ9, "floorDiv", "(II)I"⟩
abbrev cJ9_floorMod_7cf53 : ByteArray := prog_11_method_50_code
def yJ9_floorMod_7cf53 : MethodName := ⟨RJ9, "floorMod", "(II)I"⟩
abbrev cJ9_abs_0f7a4 : ByteArray := prog_11_method_59_code
def yJ9_abs_0f7a4 : MethodName := ⟨RJ9, "abs", "(I)I"⟩
abbrev cJ9_min_f86c9 : ByteArray := prog_11_method_70_code
def yJ9_min_f86c9 : MethodName := ⟨RJ9, "min", "(JJ)J"⟩
def RJ10 : String := "java/lang/System"
def TJ10 : u_T := fun k => match k with
  | _ => ("", "", "", false)
def tyJ10 : Nat → FieldType := fun k => match k with
  | _ => .int
abbrev wsJ100 : List Cond := u_ws RJ10 TJ10 0
theorem nmJ10 : ∀ a, a < 0 → ∀ b, b < 0 → a ≠ b → (TJ10 a).2.1 ≠ (TJ10 b).2.1 := by decide +kernel
theorem tyJ10_ok : ∀ k, k < 0 → parseFieldDescriptor (TJ10 k).2.2.1 = some (tyJ10 k) := by decide +kernel
def RL : String := "SpelledTonesLaw"
abbrev cL_law : ByteArray := code
def yL_law : MethodName := ⟨RL, "law", "([I)Z"⟩
abbrev vwCl : List vw_C := [(RX0, TX0, 4), (RX1, TX1, 6), (RX2, TX2, 10), (RX4, TX4, 9), (RX5, TX5, 3), (RX6, TX6, 10), (RX7, TX7, 15), (RX8, TX8, 28)]
end
section
/-! ===== abstract values, the fixed shape of the two objects, the world of a table of numbers ===== -/
def iI (z : Int) : Int32 := Int32.ofInt z
def iL (z : Int) : Int64 := Int64.ofInt z
def R32 (z : Int) : Prop := -2147483648 ≤ z ∧ z < 2147483648
def R64 (z : Int) : Prop := -9223372036854775808 ≤ z ∧ z < 9223372036854775808
theorem iI_toInt {z : Int} (h : R32 z) : (iI z).toInt = z := by
  obtain ⟨h1, h2⟩ := h
  exact Int32.toInt_ofInt_of_le (by omega) (by omega)
theorem iL_toInt {z : Int} (h : R64 z) : (iL z).toInt = z := by
  obtain ⟨h1, h2⟩ := h
  exact Int64.toInt_ofInt_of_le (by omega) (by omega)
theorem iI_of (x : Int32) : iI x.toInt = x := Int32.ofInt_toInt x
theorem R32_of (x : Int32) : R32 x.toInt := by
  have h1 := Int32.le_toInt x
  have h2 := Int32.toInt_lt x
  exact ⟨by omega, by omega⟩
theorem iI_add (a b : Int) : iI (a + b) = iI a + iI b := Int32.ofInt_add a b
theorem iI_sub (a b : Int) : iI (a - b) = iI a - iI b := Int32.ofInt_sub a b
theorem iI_mul (a b : Int) : iI (a * b) = iI a * iI b := Int32.ofInt_mul a b
theorem iI_neg (a : Int) : iI (-a) = -iI a := Int32.ofInt_neg a
theorem iL_add (a b : Int) : iL (a + b) = iL a + iL b := Int64.ofInt_add a b
theorem iL_mul (a b : Int) : iL (a * b) = iL a * iL b := Int64.ofInt_mul a b
theorem iI_lt {a b : Int} (ha : R32 a) (hb : R32 b) : iI a < iI b ↔ a < b := by rw [Int32.lt_iff_toInt_lt, iI_toInt ha, iI_toInt hb]
theorem iI_le {a b : Int} (ha : R32 a) (hb : R32 b) : iI a ≤ iI b ↔ a ≤ b := by rw [Int32.le_iff_toInt_le, iI_toInt ha, iI_toInt hb]
theorem iI_eq {a b : Int} (ha : R32 a) (hb : R32 b) : iI a = iI b ↔ a = b := by rw [← Int32.toInt_inj, iI_toInt ha, iI_toInt hb]
theorem iL_lt {a b : Int} (ha : R64 a) (hb : R64 b) : iL a < iL b ↔ a < b := by rw [Int64.lt_iff_toInt_lt, iL_toInt ha, iL_toInt hb]
theorem iL_eq {a b : Int} (ha : R64 a) (hb : R64 b) : iL a = iL b ↔ a = b := by rw [← Int64.toInt_inj, iL_toInt ha, iL_toInt hb]
theorem iI_0 : iI 0 = 0 := by decide +kernel
theorem R32_0 : R32 0 := ⟨by decide, by decide⟩
theorem iI_div {a b : Int} (ha : R32 a) (hb : R32 b) : iI a / iI b = iI (a.tdiv b) := by
  obtain ⟨h1, h2⟩ := ha
  obtain ⟨h3, h4⟩ := hb
  have e1 : Int32.minValue.toInt = -2147483648 := by decide +kernel
  have e2 : Int32.maxValue.toInt = 2147483647 := by decide +kernel
  exact (Int32.ofInt_tdiv (by omega) (by omega) (by omega) (by omega)).symm
theorem iL_div {a b : Int} (ha : R64 a) (hb : R64 b) : iL a / iL b = iL (a.tdiv b) := by
  obtain ⟨h1, h2⟩ := ha
  obtain ⟨h3, h4⟩ := hb
  have e1 : Int64.minValue.toInt = -9223372036854775808 := by decide +kernel
  have e2 : Int64.maxValue.toInt = 9223372036854775807 := by decide +kernel
  exact (Int64.ofInt_tdiv (by omega) (by omega) (by omega) (by omega)).symm
theorem iI_rem {a b : Int} (ha : R32 a) (hb : R32 b) : iI a - iI a / iI b * iI b = iI (a.tmod b) := by
  rw [iI_div ha hb, ← iI_mul, ← iI_sub, Int.tmod_def, Int.mul_comm]
theorem iL_rem {a b : Int} (ha : R64 a) (hb : R64 b) : iL a - iL a / iL b * iL b = iL (a.tmod b) := by
  rw [iL_div ha hb, ← iL_mul, show ∀ x y : Int, iL x - iL y = iL (x - y) from fun x y => (Int64.ofInt_sub x y).symm, Int.tmod_def, Int.mul_comm]
theorem iI_ne0 {b : Int} (hb : R32 b) (h : b ≠ 0) : ¬ iI b = 0 := fun q => h ((iI_eq hb R32_0).mp (q.trans iI_0.symm))
theorem iL_ne0 {b : Int} (hb : R64 b) (h : b ≠ 0) : ¬ iL b = 0 := fun q => h ((iL_eq hb ⟨by decide, by decide⟩).mp (q.trans (by decide +kernel)))
theorem iI_long {a : Int} (ha : R32 a) : (iI a).toInt64 = iL a := by
  obtain ⟨h1, h2⟩ := ha
  have e1 : Int32.minValue.toInt = -2147483648 := by decide +kernel
  have e2 : Int32.maxValue.toInt = 2147483647 := by decide +kernel
  exact Int32.toInt64_ofInt (by omega) (by omega)
theorem iL_int (a : Int) : (iL a).toInt32 = iI a := Int64.toInt32_ofInt
theorem iI_in {i : Int} {n : Nat} (h0 : 0 ≤ i) (h1 : i < n) (hn : n < 2147483648) : vp_in (iI i) n ∧ (iI i).toNatClampNeg = i.toNat := by
  have hi : (iI i).toInt = i := iI_toInt ⟨by omega, by omega⟩
  refine ⟨vp_in_iff.mpr ⟨by rw [hi]; exact h0, by rw [hi]; exact h1⟩, ?_⟩
  show (iI i).toInt.toNat = i.toNat
  rw [hi]
theorem iI_bi {n : Int} (h : -128 ≤ n ∧ n < 128) : (Int8.ofInt n).toInt32 = iI n := by
  apply Int32.toInt_inj.mp
  rw [iI_toInt ⟨by omega, by omega⟩, Int8.toInt_toInt32, Int8.toInt_ofInt_of_le (by omega) (by omega)]
theorem iI_si {n : Int} (h : -32768 ≤ n ∧ n < 32768) : (Int16.ofInt n).toInt32 = iI n := by
  apply Int32.toInt_inj.mp
  rw [iI_toInt ⟨by omega, by omega⟩, Int16.toInt_toInt32, Int16.toInt_ofInt_of_le (by omega) (by omega)]
/-- an int, a cell (by its place), a long -/
abbrev AV : Type := Int ⊕ Nat ⊕ Int
abbrev HP : Type := Nat → Nat → Int
abbrev GT : Type := (Nat → Nat) × (Nat → ClassId) × va_G
def cv (ad : Nat → Nat) (v : AV) : Value := match v with
  | .inl z => .int (iI z)
  | .inr (.inl k) => .ref (ad k)
  | .inr (.inr z) => .long (iL z)
/-- the cells: 0 ints, 1 longs, 2 booleans, 3 cells, 4 an object (class, its fields: a cell's place or a number) -/
def SH (p : Nat) : Nat × Nat × List (Option Nat) := match p with
  | 0 => (4, 6, [some 1, some 5, some 7, some 14, some 22, some 29, some 37, some 38, some 42, none, none, none, none, none, none])
  | 1 => (4, 4, [some 2, some 3, some 4])
  | 2 => (0, 320, [])
  | 3 => (0, 8, [])
  | 4 => (0, 8, [])
  | 5 => (4, 5, [some 6, none, none, none, none, none, none, none, none, none])
  | 6 => (0, 130, [])
  | 7 => (4, 3, [none, none, none, some 8, some 9, some 10, some 11, some 12, some 13])
  | 8 => (0, 10, [])
  | 9 => (0, 10, [])
  | 10 => (0, 10, [])
  | 11 => (0, 11, [])
  | 12 => (0, 40, [])
  | 13 => (0, 40, [])
  | 14 => (4, 2, [none, none, none, some 15, some 16, some 17, some 18, some 19, some 20, some 21])
  | 15 => (0, 10, [])
  | 16 => (0, 40, [])
  | 17 => (0, 40, [])
  | 18 => (0, 240, [])
  | 19 => (1, 240, [])
  | 20 => (0, 240, [])
  | 21 => (0, 7, [])
  | 22 => (4, 3, [none, none, none, some 23, some 24, some 25, some 26, some 27, some 28])
  | 23 => (0, 10, [])
  | 24 => (0, 10, [])
  | 25 => (0, 10, [])
  | 26 => (0, 11, [])
  | 27 => (0, 40, [])
  | 28 => (0, 40, [])
  | 29 => (4, 2, [none, none, none, some 30, some 31, some 32, some 33, some 34, some 35, some 36])
  | 30 => (0, 10, [])
  | 31 => (0, 40, [])
  | 32 => (0, 40, [])
  | 33 => (0, 240, [])
  | 34 => (1, 240, [])
  | 35 => (0, 240, [])
  | 36 => (0, 7, [])
  | 37 => (3, 2, [some 44, some 51])
  | 38 => (4, 0, [none, some 39, some 40, some 41])
  | 39 => (0, 16, [])
  | 40 => (0, 16, [])
  | 41 => (0, 16, [])
  | 42 => (4, 1, [none, some 43, none, none, none, none])
  | 43 => (0, 16, [])
  | 44 => (4, 3, [none, none, none, some 45, some 46, some 47, some 48, some 49, some 50])
  | 45 => (0, 10, [])
  | 46 => (0, 10, [])
  | 47 => (0, 10, [])
  | 48 => (0, 11, [])
  | 49 => (0, 40, [])
  | 50 => (0, 40, [])
  | 51 => (4, 3, [none, none, none, some 52, some 53, some 54, some 55, some 56, some 57])
  | 52 => (0, 10, [])
  | 53 => (0, 10, [])
  | 54 => (0, 10, [])
  | 55 => (0, 11, [])
  | 56 => (0, 40, [])
  | 57 => (0, 40, [])
  | 58 => (4, 7, [some 59, some 60, some 61, some 62, none, some 63, none, none, none, none, none, none, none, some 64, some 65, some 66, some 67, none, some 68, some 69, some 70, some 71, some 72, none, some 73, some 74, some 75, none])
  | 59 => (0, 8, [])
  | 60 => (0, 8, [])
  | 61 => (0, 320, [])
  | 62 => (0, 40, [])
  | 63 => (0, 130, [])
  | 64 => (0, 93, [])
  | 65 => (0, 93, [])
  | 66 => (0, 93, [])
  | 67 => (0, 1488, [])
  | 68 => (0, 186, [])
  | 69 => (2, 2, [])
  | 70 => (0, 240, [])
  | 71 => (0, 240, [])
  | 72 => (0, 10, [])
  | 73 => (0, 7, [])
  | 74 => (0, 40, [])
  | 75 => (0, 16, [])
  | _ => (9, 0, [])
theorem SH_small (p : Nat) : (SH p).2.1 < 2147483648 := by
  unfold SH
  split <;> decide
def ceV (ad : Nat → Nat) (f : Nat → Int) : Nat → List (Option Nat) → List Value
  | _, [] => []
  | k, none :: r => Value.int (iI (f k)) :: ceV ad f (k + 1) r
  | k, some q :: r => Value.ref (ad q) :: ceV ad f (k + 1) r
def ce (G : GT) (sh : Nat × Nat × List (Option Nat)) (f : Nat → Int) : va_E :=
  match sh with
  | (0, n, _) => .inl (G.2.1 0, n, .inl (fun j => iI (f j)))
  | (1, n, _) => .inl (G.2.1 1, n, .inr (.inl (fun j => iL (f j))))
  | (2, n, _) => .inl (G.2.1 2, n, .inl (fun j => iI (f j)))
  | (3, n, rs) => .inl (G.2.1 3, n, .inr (.inr (.inr (.inr (fun j => (rs.getD j none).map G.1)))))
  | (_, ci, rs) => .inr (ci, ceV G.1 f 0 rs)
def gw (G : GT) (σ : HP) : va_W := (List.range 76).map (fun p => (G.1 p, ce G (SH p) (σ p)))
theorem gw_get {G : GT} {σ : HP} {p : Nat} (hp : p < 76) : (gw G σ)[p]? = some (G.1 p, ce G (SH p) (σ p)) := by
  simp [gw, hp]
theorem gw_inv {G : GT} {σ : HP} {p : Nat} {q : Nat × va_E} (h : (gw G σ)[p]? = some q) : p < 76 ∧ q = (G.1 p, ce G (SH p) (σ p)) := by
  by_cases hp : p < 76
  · rw [gw_get hp] at h
    exact ⟨hp, (Option.some.inj h).symm⟩
  · have : (gw G σ)[p]? = none := by simp [gw]; omega
    rw [this] at h
    cases h
def hset (σ : HP) (p k : Nat) (v : Int) : HP := fun q j => if q = p ∧ j = k then v else σ q j
theorem hset_ne {σ : HP} {p k q : Nat} {v : Int} (h : q ≠ p) : hset σ p k v q = σ q := by
  funext j
  simp [hset, h]
theorem hset_eq {σ : HP} {p k : Nat} {v : Int} : hset σ p k v p = fun j => if j = k then v else σ p j := by
  funext j
  simp [hset]
theorem gw_set {G : GT} {σ σ' : HP} {p : Nat} {E : va_E} (hp : p < 76) (hq : ∀ q, q ≠ p → σ' q = σ q) (hE : ce G (SH p) (σ' p) = E) : (gw G σ).set p (G.1 p, E) = gw G σ' := by
  subst hE
  apply List.ext_getElem?
  intro i
  by_cases hi : i < 76
  · rw [List.getElem?_set, gw_get hi, gw_get hi]
    by_cases e : p = i
    · subst e
      simp [gw, hi]
    · rw [if_neg e, hq i (fun z => e z.symm)]
  · have l1 : ∀ τ : HP, (gw G τ).length = 76 := fun τ => by simp [gw]
    rw [List.getElem?_eq_none (by rw [List.length_set, l1]; omega), List.getElem?_eq_none (by rw [l1]; omega)]
def gInj (G : GT) : Prop := ∀ i j, i < 76 → j < 76 → G.1 i = G.1 j → i = j
theorem gw_D {G : GT} {σ : HP} {A : Nat → Prop} (hi : gInj G) (hA : ∀ k, k < 76 → A (G.1 k)) : va_D A (gw G σ) := by
  refine ⟨fun i j p q h1 h2 e => ?_, fun k q h => ?_⟩
  · obtain ⟨a1, rfl⟩ := gw_inv h1
    obtain ⟨a2, rfl⟩ := gw_inv h2
    exact hi i j a1 a2 e
  · obtain ⟨a1, rfl⟩ := gw_inv h
    exact hA k a1
/-- the words that stay true -/
def gtb : List Cond := lw_tbl.filter goodWord
theorem gtm {w : Cond} (i : Nat) (h : tables_1[i]? = some w) (g : goodWord w = true) : w ∈ gtb := List.mem_filter.mpr ⟨List.mem_append_right _ (List.mem_of_getElem? h), g⟩
theorem gts {w : Cond} (i : Nat) (h : (k2_sels lw_privs)[i]? = some w) (g : goodWord w = true) : w ∈ gtb := List.mem_filter.mpr ⟨List.mem_append_left _ (List.mem_of_getElem? h), g⟩
theorem gtb_good {w : Cond} (h : w ∈ gtb) : goodWord w = true := (List.mem_filter.mp h).2
end
section
/-! ===== a machine over abstract values: what an instruction asks, and what comes behind it ===== -/
abbrev MSpec : Type := List AV → HP → (Option AV → HP → Prop) → Prop
abbrev LSt : Type := List (Option AV)
abbrev KT : Type := Nat → LSt → List AV → HP → Prop
def lnth : LSt → Nat → Option AV
  | [], _ => none
  | o :: _, 0 => o
  | _ :: r, i + 1 => lnth r i
def nolong (o : Option AV) : Option AV := match o with
  | some (.inr (.inr _)) => none
  | o => o
def st1 : LSt → Nat → AV → LSt
  | [], _, _ => []
  | _ :: r, 0, v => some v :: r
  | o :: r, i + 1, v => (if i = 0 then nolong o else o) :: st1 r i v
def nohead : LSt → LSt
  | [] => []
  | _ :: r => none :: r
def st2 : LSt → Nat → AV → LSt
  | [], _, _ => []
  | _ :: r, 0, v => some v :: nohead r
  | o :: r, i + 1, v => (if i = 0 then nolong o else o) :: st2 r i v
def rnth : List (Option Nat) → Nat → Option (Option Nat)
  | [], _ => none
  | o :: _, 0 => some o
  | _ :: r, i + 1 => rnth r i
/-- a constant pool's entry: 0 a field (class, number, boolean), 1 an int, 2 a long, 3 a static array's place, 4 System.arraycopy -/
abbrev CE : Type := Nat × Int × Nat × Bool
def gfV (sh : Nat × Nat × List (Option Nat)) (σ : HP) (p ci k : Nat) : Option AV := match sh with
  | (4, cj, rs) => if cj = ci then (match rnth rs k with
    | some (some q) => some (.inr (.inl q))
    | some none => some (.inl (σ p k))
    | none => none) else none
  | _ => none
def pfV (sh : Nat × Nat × List (Option Nat)) (ci k : Nat) : Bool := match sh with
  | (4, cj, rs) => if cj = ci then (match rnth rs k with
    | some none => true
    | _ => false) else false
  | _ => false
def cpF (e : Option CE) : Option (Nat × Nat) := match e with
  | some (0, ci, f, _) => some (ci.toNat, f)
  | some (5, ci, f, _) => some (ci.toNat, f)
  | _ => none
def cpP (e : Option CE) : Option (Nat × Nat × Bool) := match e with
  | some (5, ci, f, b) => some (ci.toNat, f, b)
  | _ => none
def gfX (e : Option (Nat × Nat)) (st : List AV) (σ : HP) (k : List AV → Prop) : Prop := match e with
  | some (ci, f) => (match st with
    | .inr (.inl p) :: r => p < 76 ∧ (match gfV (SH p) σ p ci f with | some v => k (v :: r) | none => False)
    | _ => False)
  | none => False
def pfX (e : Option (Nat × Nat × Bool)) (st : List AV) (σ : HP) (k : List AV → HP → Prop) : Prop := match e with
  | some (ci, f, b) => (match st with
    | .inl v :: .inr (.inl p) :: r => p < 76 ∧ pfV (SH p) ci f = true ∧ (b = true → v = 0 ∨ v = 1) ∧ k r (hset σ p f v)
    | _ => False)
  | none => False
def cndZ (c : Jvm.ClassFile.Cond) (x y : Int) : Prop := match c with
  | .eq => x = y
  | .ne => ¬ x = y
  | .lt => x < y
  | .ge => y ≤ x
  | .gt => y < x
  | .le => x ≤ y
def tgo (pc : Nat) (off : Int) (k : Nat → Prop) : Prop := 0 ≤ (pc : Int) + off ∧ k ((pc : Int) + off).toNat
def tsw (pc : Nat) (x : Int) (k : Nat → Prop) : Int → List Int → Prop
  | _, [] => True
  | lo, o :: r => (x = lo → tgo pc o k) ∧ tsw pc x k (lo + 1) r
def lsw (pc : Nat) (x : Int) (d : Int) (k : Nat → Prop) : List (Int × Int) → Prop
  | [] => tgo pc d k
  | (a, o) :: r => (x = a → tgo pc o k) ∧ (¬ x = a → lsw pc x d k r)
def ldI (ls : LSt) (j : Nat) (st : List AV) (k : List AV → Prop) : Prop := match lnth ls j with
  | some (.inl z) => k (.inl z :: st)
  | _ => False
def ldA (ls : LSt) (j : Nat) (st : List AV) (k : List AV → Prop) : Prop := match lnth ls j with
  | some (.inr (.inl z)) => k (.inr (.inl z) :: st)
  | _ => False
def ldL (ls : LSt) (j : Nat) (st : List AV) (k : List AV → Prop) : Prop := match lnth ls j with
  | some (.inr (.inr z)) => k (.inr (.inr z) :: st)
  | _ => False
def stI (ls : LSt) (j : Nat) (st : List AV) (k : LSt → List AV → Prop) : Prop := match st with
  | .inl z :: r => j < ls.length ∧ k (st1 ls j (.inl z)) r
  | _ => False
def stA (ls : LSt) (j : Nat) (st : List AV) (k : LSt → List AV → Prop) : Prop := match st with
  | .inr (.inl z) :: r => j < ls.length ∧ k (st1 ls j (.inr (.inl z))) r
  | _ => False
def stL (ls : LSt) (j : Nat) (st : List AV) (k : LSt → List AV → Prop) : Prop := match st with
  | .inr (.inr z) :: r => j + 1 < ls.length ∧ k (st2 ls j (.inr (.inr z))) r
  | _ => False
def bin (f : Int → Int → Int) (st : List AV) (k : List AV → Prop) : Prop := match st with
  | .inl y :: .inl x :: r => k (.inl (f x y) :: r)
  | _ => False
def binD (f : Int → Int → Int) (st : List AV) (k : List AV → Prop) : Prop := match st with
  | .inl y :: .inl x :: r => R32 x ∧ R32 y ∧ y ≠ 0 ∧ k (.inl (f x y) :: r)
  | _ => False
def binL (f : Int → Int → Int) (st : List AV) (k : List AV → Prop) : Prop := match st with
  | .inr (.inr y) :: .inr (.inr x) :: r => k (.inr (.inr (f x y)) :: r)
  | _ => False
def binDL (f : Int → Int → Int) (st : List AV) (k : List AV → Prop) : Prop := match st with
  | .inr (.inr y) :: .inr (.inr x) :: r => R64 x ∧ R64 y ∧ y ≠ 0 ∧ k (.inr (.inr (f x y)) :: r)
  | _ => False
def una (f : Int → Int) (st : List AV) (k : List AV → Prop) : Prop := match st with
  | .inl x :: r => k (.inl (f x) :: r)
  | _ => False
def lcmpZ (x y : Int) : Int := if y < x then 1 else if x = y then 0 else -1
def zshl (x y : Int) : Int := (iI x <<< (iI y &&& 31)).toInt
def zshr (x y : Int) : Int := (iI x >>> (iI y &&& 31)).toInt
def zand (x y : Int) : Int := (iI x &&& iI y).toInt
def zor (x y : Int) : Int := (iI x ||| iI y).toInt
def zxor (x y : Int) : Int := (iI x ^^^ iI y).toInt
def zi2b (x : Int) : Int := (iI x).toInt8.toInt32.toInt
def zi2s (x : Int) : Int := (iI x).toInt16.toInt32.toInt
def acV (sh : Nat × Nat × List (Option Nat)) (ro : Nat → Option (Nat × (Nat → Int))) (σ : HP) (p : Nat) (i : Int) (k : Int → Prop) : Prop := match sh with
  | (0, n, _) => 0 ≤ i ∧ i < (n : Int) ∧ k (σ p i.toNat)
  | (9, _, _) => (match ro p with
    | some (n, f) => 0 ≤ i ∧ i < (n : Int) ∧ k (f i.toNat)
    | none => False)
  | _ => False
def acK (kd : Nat) (sh : Nat × Nat × List (Option Nat)) (i : Int) (k : Prop) : Prop := sh.1 = kd ∧ 0 ≤ i ∧ i < (sh.2.1 : Int) ∧ k
/-- what comes to be by System.arraycopy -/
def hcpy (σ : HP) (a : Nat) (sp : Int) (b : Nat) (dp n : Int) : HP := fun q j => if q = b ∧ dp.toNat ≤ j ∧ j < dp.toNat + n.toNat then σ a (sp.toNat + (j - dp.toNat)) else σ q j
def acpy (st : List AV) (σ : HP) (k : List AV → HP → Prop) : Prop := match st with
  | .inl n :: .inl dp :: .inr (.inl b) :: .inl sp :: .inr (.inl a) :: r => a < 76 ∧ b < 76 ∧ (SH a).1 = 0 ∧ (SH b).1 = 0 ∧ r.length ≤ 2 ∧ 0 ≤ sp ∧ 0 ≤ dp ∧ 0 ≤ n ∧ sp + n ≤ ((SH a).2.1 : Int) ∧ dp + n ≤ ((SH b).2.1 : Int) ∧ k r (hcpy σ a sp b dp n)
  | _ => False
def inv (mT : Nat → Option (Nat × Bool × MSpec)) (i : Nat) (is : Bool) (st : List AV) (σ : HP) (k : List AV → HP → Prop) : Prop := match mT i with
  | some (n, b, S) => b = is ∧ n ≤ st.length ∧ (st.drop n).length ≤ 4 ∧ S (st.take n).reverse σ (fun r σ' => k (r.toList ++ st.drop n) σ')
  | none => False
def stp (cp : Nat → Option CE) (mT : Nat → Option (Nat × Bool × MSpec)) (ro : Nat → Option (Nat × (Nat → Int))) (rk : Nat) (RT : Option AV → HP → Prop) (i : Instr) (len pc : Nat) (ls : LSt) (st : List AV) (σ : HP) (k : KT) : Prop := match i with
  | .iconst n => k (pc + len) ls (.inl n :: st) σ
  | .bipush n => (-128 ≤ n ∧ n < 128) ∧ k (pc + len) ls (.inl n :: st) σ
  | .sipush n => (-32768 ≤ n ∧ n < 32768) ∧ k (pc + len) ls (.inl n :: st) σ
  | .lconst n => k (pc + len) ls (.inr (.inr (n.val : Int)) :: st) σ
  | .ldc j => (match cp j with | some (1, z, _) => k (pc + len) ls (.inl z :: st) σ | _ => False)
  | .ldc_w j => (match cp j with | some (1, z, _) => k (pc + len) ls (.inl z :: st) σ | _ => False)
  | .ldc2_w j => (match cp j with | some (2, z, _) => k (pc + len) ls (.inr (.inr z) :: st) σ | _ => False)
  | .iload_n j => ldI ls j.val st (fun st => k (pc + len) ls st σ)
  | .iload j => ldI ls j st (fun st => k (pc + len) ls st σ)
  | .aload_n j => ldA ls j.val st (fun st => k (pc + len) ls st σ)
  | .aload j => ldA ls j st (fun st => k (pc + len) ls st σ)
  | .lload_n j => ldL ls j.val st (fun st => k (pc + len) ls st σ)
  | .lload j => ldL ls j st (fun st => k (pc + len) ls st σ)
  | .istore_n j => stI ls j.val st (fun ls st => k (pc + len) ls st σ)
  | .istore j => stI ls j st (fun ls st => k (pc + len) ls st σ)
  | .astore_n j => stA ls j.val st (fun ls st => k (pc + len) ls st σ)
  | .astore j => stA ls j st (fun ls st => k (pc + len) ls st σ)
  | .lstore_n j => stL ls j.val st (fun ls st => k (pc + len) ls st σ)
  | .lstore j => stL ls j st (fun ls st => k (pc + len) ls st σ)
  | .iinc j n => ldI ls j st (fun s2 => match s2 with | .inl z :: _ => j < ls.length ∧ k (pc + len) (st1 ls j (.inl (z + n))) st σ | _ => False)
  | .iadd => bin (fun x y => x + y) st (fun st => k (pc + len) ls st σ)
  | .isub => bin (fun x y => x - y) st (fun st => k (pc + len) ls st σ)
  | .imul => bin (fun x y => x * y) st (fun st => k (pc + len) ls st σ)
  | .ishl => bin zshl st (fun st => k (pc + len) ls st σ)
  | .ishr => bin zshr st (fun st => k (pc + len) ls st σ)
  | .iand => bin zand st (fun st => k (pc + len) ls st σ)
  | .ior => bin zor st (fun st => k (pc + len) ls st σ)
  | .ixor => bin zxor st (fun st => k (pc + len) ls st σ)
  | .idiv => binD Int.tdiv st (fun st => k (pc + len) ls st σ)
  | .irem => binD Int.tmod st (fun st => k (pc + len) ls st σ)
  | .ineg => una (fun x => -x) st (fun st => k (pc + len) ls st σ)
  | .i2b => una zi2b st (fun st => k (pc + len) ls st σ)
  | .i2s => una zi2s st (fun st => k (pc + len) ls st σ)
  | .i2l => (match st with | .inl x :: r => R32 x ∧ k (pc + len) ls (.inr (.inr x) :: r) σ | _ => False)
  | .l2i => (match st with | .inr (.inr x) :: r => k (pc + len) ls (.inl x :: r) σ | _ => False)
  | .ladd => binL (fun x y => x + y) st (fun st => k (pc + len) ls st σ)
  | .lmul => binL (fun x y => x * y) st (fun st => k (pc + len) ls st σ)
  | .ldiv => binDL Int.tdiv st (fun st => k (pc + len) ls st σ)
  | .lrem => binDL Int.tmod st (fun st => k (pc + len) ls st σ)
  | .lcmp => (match st with | .inr (.inr y) :: .inr (.inr x) :: r => R64 x ∧ R64 y ∧ k (pc + len) ls (.inl (lcmpZ x y) :: r) σ | _ => False)
  | .dup => (match st with
    | .inl x :: r => k (pc + len) ls (.inl x :: .inl x :: r) σ
    | .inr (.inl x) :: r => k (pc + len) ls (.inr (.inl x) :: .inr (.inl x) :: r) σ
    | _ => False)
  | .pop => (match st with
    | .inl _ :: r => k (pc + len) ls r σ
    | .inr (.inl _) :: r => k (pc + len) ls r σ
    | _ => False)
  | .dup2 => (match st with
    | .inl y :: .inr (.inl x) :: r => k (pc + len) ls (.inl y :: .inr (.inl x) :: .inl y :: .inr (.inl x) :: r) σ
    | _ => False)
  | .goto o => tgo pc o (fun q => k q ls st σ)
  | .ifCond c o => (match st with
    | .inl x :: r => R32 x ∧ 0 ≤ (pc : Int) + o ∧ (cndZ c x 0 → k ((pc : Int) + o).toNat ls r σ) ∧ (¬ cndZ c x 0 → k (pc + len) ls r σ)
    | _ => False)
  | .if_icmp c o => (match st with
    | .inl y :: .inl x :: r => R32 x ∧ R32 y ∧ 0 ≤ (pc : Int) + o ∧ (cndZ c x y → k ((pc : Int) + o).toNat ls r σ) ∧ (¬ cndZ c x y → k (pc + len) ls r σ)
    | _ => False)
  | .tableswitch d lo hi os => (match st with
    | .inl x :: r => R32 x ∧ hi + 1 = lo + (os.size : Int) ∧ (x < lo ∨ hi < x → tgo pc d (fun q => k q ls r σ)) ∧ tsw pc x (fun q => k q ls r σ) lo os.toList
    | _ => False)
  | .lookupswitch d ps => (match st with
    | .inl x :: r => R32 x ∧ (ps.toList.zip (ps.toList.drop 1)).all (fun (a, next) => a.1 < next.1) = true ∧ lsw pc x d (fun q => k q ls r σ) ps.toList
    | _ => False)
  | .getfield j => gfX (cpF (cp j)) st σ (fun st => k (pc + len) ls st σ)
  | .putfield j => pfX (cpP (cp j)) st σ (fun st σ => k (pc + len) ls st σ)
  | .getstatic j => (match cp j with
    | some (3, _, p, _) => k (pc + len) ls (.inr (.inl p) :: st) σ
    | _ => False)
  | .iaload => (match st with
    | .inl i :: .inr (.inl p) :: r => acV (SH p) ro σ p i (fun v => k (pc + len) ls (.inl v :: r) σ)
    | _ => False)
  | .laload => (match st with
    | .inl i :: .inr (.inl p) :: r => p < 76 ∧ acK 1 (SH p) i (k (pc + len) ls (.inr (.inr (σ p i.toNat)) :: r) σ)
    | _ => False)
  | .baload => (match st with
    | .inl i :: .inr (.inl p) :: r => p < 76 ∧ acK 2 (SH p) i (k (pc + len) ls (.inl (σ p i.toNat) :: r) σ)
    | _ => False)
  | .aaload => (match st with
    | .inl i :: .inr (.inl p) :: r => p < 76 ∧ acK 3 (SH p) i (match rnth (SH p).2.2 i.toNat with | some (some q) => k (pc + len) ls (.inr (.inl q) :: r) σ | _ => False)
    | _ => False)
  | .iastore => (match st with
    | .inl v :: .inl i :: .inr (.inl p) :: r => p < 76 ∧ acK 0 (SH p) i (k (pc + len) ls r (hset σ p i.toNat v))
    | _ => False)
  | .lastore => (match st with
    | .inr (.inr v) :: .inl i :: .inr (.inl p) :: r => p < 76 ∧ acK 1 (SH p) i (k (pc + len) ls r (hset σ p i.toNat v))
    | _ => False)
  | .bastore => (match st with
    | .inl v :: .inl i :: .inr (.inl p) :: r => p < 76 ∧ (v = 0 ∨ v = 1) ∧ acK 2 (SH p) i (k (pc + len) ls r (hset σ p i.toNat v))
    | _ => False)
  | .arraylength => (match st with
    | .inr (.inl p) :: r => (match ro p with | some (n, _) => k (pc + len) ls (.inl (n : Int) :: r) σ | none => False)
    | _ => False)
  | .invokestatic j => (match cp j with
    | some (4, _) => acpy st σ (fun st σ => k (pc + len) ls st σ)
    | _ => inv mT j false st σ (fun st σ => k (pc + len) ls st σ))
  | .invokevirtual j => inv mT j true st σ (fun st σ => k (pc + len) ls st σ)
  | .ireturn => (match st with
    | [.inl v] => (rk = 1 ∨ (rk = 2 ∧ (v = 0 ∨ v = 1))) ∧ RT (some (.inl v)) σ
    | _ => False)
  | .lreturn => (match st with
    | [.inr (.inr v)] => rk = 3 ∧ RT (some (.inr (.inr v))) σ
    | _ => False)
  | .areturn => (match st with
    | [.inr (.inl v)] => rk = 4 ∧ RT (some (.inr (.inl v))) σ
    | _ => False)
  | .return_ => (match st with
    | [] => rk = 0 ∧ RT none σ
    | _ => False)
  | _ => False
def ilen (i : Instr) : Nat := match i with
  | .bipush _ => 2
  | .sipush _ => 3
  | .ldc _ => 2
  | .ldc_w _ => 3
  | .ldc2_w _ => 3
  | .iload _ => 2
  | .aload _ => 2
  | .lload _ => 2
  | .istore _ => 2
  | .astore _ => 2
  | .lstore _ => 2
  | .iinc _ _ => 3
  | .goto _ => 3
  | .ifCond _ _ => 3
  | .if_icmp _ _ => 3
  | .tableswitch _ _ _ _ => 0
  | .lookupswitch _ _ => 0
  | .getfield _ => 3
  | .putfield _ => 3
  | .getstatic _ => 3
  | .invokestatic _ => 3
  | .invokevirtual _ => 3
  | _ => 1
def wp (cc : ByteArray) (cp : Nat → Option CE) (mT : Nat → Option (Nat × Bool × MSpec)) (ro : Nat → Option (Nat × (Nat → Int))) (rk : Nat) (RT : Option AV → HP → Prop) (K : KT) (stop : Nat → Bool) : Nat → KT
  | 0, pc, ls, st, σ => K pc ls st σ
  | n + 1, pc, ls, st, σ => match decode cc pc with
    | .ok (i, len) => (ilen i = 0 ∨ ilen i = len) ∧ stp cp mT ro rk RT i len pc ls st σ (fun pc' ls' st' σ' => if stop pc' = true then K pc' ls' st' σ' else wp cc cp mT ro rk RT K stop n pc' ls' st' σ')
    | .error _ => False
end
section
/-! ===== the abstract machine is the machine ===== -/
def isL (v : AV) : Bool := match v with
  | .inr (.inr _) => true
  | _ => false
theorem cv_cat (ad : Nat → Nat) (v : AV) : (cv ad v).category = if isL v = true then 2 else 1 := by
  rcases v with z | k | z <;> rfl
def lvp (ad : Nat → Nat) : Nat → LSt → List (Nat × Value)
  | _, [] => []
  | k, none :: r => lvp ad (k + 1) r
  | k, some v :: r => (k, cv ad v) :: lvp ad (k + 1) r
theorem lvp_mem {ad : Nat → Nat} : ∀ (ls : LSt) (k i : Nat) (v : AV), lnth ls i = some v → (k + i, cv ad v) ∈ lvp ad k ls
  | [], k, i, v, h => by simp [lnth] at h
  | none :: r, k, 0, v, h => by simp [lnth] at h
  | some w :: r, k, 0, v, h => by
    simp only [lnth, Option.some.injEq] at h
    subst h
    exact List.mem_cons_self
  | none :: r, k, i + 1, v, h => by
    have := lvp_mem (ad := ad) r (k + 1) i v h
    rw [show k + (i + 1) = k + 1 + i by omega]
    exact this
  | some w :: r, k, i + 1, v, h => by
    have := lvp_mem (ad := ad) r (k + 1) i v h
    rw [show k + (i + 1) = k + 1 + i by omega]
    exact List.mem_cons_of_mem _ this
theorem lvp_inv {ad : Nat → Nat} : ∀ (ls : LSt) (k : Nat) (q : Nat × Value), q ∈ lvp ad k ls → ∃ (i : Nat) (v : AV), lnth ls i = some v ∧ q = (k + i, cv ad v)
  | [], k, q, h => by simp [lvp] at h
  | none :: r, k, q, h => by
    obtain ⟨i, v, h1, h2⟩ := lvp_inv r (k + 1) q h
    exact ⟨i + 1, v, h1, by rw [h2, show k + 1 + i = k + (i + 1) by omega]⟩
  | some w :: r, k, q, h => by
    rcases List.mem_cons.mp h with h | h
    · exact ⟨0, w, rfl, h⟩
    · obtain ⟨i, v, h1, h2⟩ := lvp_inv r (k + 1) q h
      exact ⟨i + 1, v, h1, by rw [h2, show k + 1 + i = k + (i + 1) by omega]⟩
theorem nolong_some {o : Option AV} {w : AV} (h : nolong o = some w) : o = some w ∧ isL w = false := by
  rcases o with _ | z | k | z
  · simp [nolong] at h
  · simp [nolong] at h; subst h; exact ⟨rfl, rfl⟩
  · simp [nolong] at h; subst h; exact ⟨rfl, rfl⟩
  · simp [nolong] at h
theorem st1_nth : ∀ (ls : LSt) (i j : Nat) (v w : AV), lnth (st1 ls i v) j = some w → (j = i ∧ w = v) ∨ (j ≠ i ∧ lnth ls j = some w ∧ ¬ (j + 1 = i ∧ isL w = true))
  | [], i, j, v, w, h => by simp [st1, lnth] at h
  | o :: r, 0, 0, v, w, h => by
    simp only [st1, lnth, Option.some.injEq] at h
    exact Or.inl ⟨rfl, h.symm⟩
  | o :: r, 0, j + 1, v, w, h => Or.inr ⟨by omega, h, fun q => by omega⟩
  | o :: r, i + 1, 0, v, w, h => by
    simp only [st1, lnth] at h
    by_cases hi : i = 0
    · rw [if_pos hi] at h
      obtain ⟨h1, h2⟩ := nolong_some h
      exact Or.inr ⟨by omega, h1, fun q => by rw [h2] at q; exact absurd q.2 (by decide)⟩
    · rw [if_neg hi] at h
      exact Or.inr ⟨by omega, h, fun q => by omega⟩
  | o :: r, i + 1, j + 1, v, w, h => by
    rcases st1_nth r i j v w h with ⟨h1, h2⟩ | ⟨h1, h2, h3⟩
    · exact Or.inl ⟨by omega, h2⟩
    · exact Or.inr ⟨by omega, h2, fun q => h3 ⟨by omega, q.2⟩⟩
theorem st2_nth : ∀ (ls : LSt) (i j : Nat) (v w : AV), lnth (st2 ls i v) j = some w → (j = i ∧ w = v) ∨ (j ≠ i ∧ j ≠ i + 1 ∧ lnth ls j = some w ∧ ¬ (j + 1 = i ∧ isL w = true))
  | [], i, j, v, w, h => by simp [st2, lnth] at h
  | o :: r, 0, 0, v, w, h => by
    simp only [st2, lnth, Option.some.injEq] at h
    exact Or.inl ⟨rfl, h.symm⟩
  | o :: [], 0, j + 1, v, w, h => by simp [st2, nohead, lnth] at h
  | o :: o2 :: r, 0, 1, v, w, h => by simp [st2, nohead, lnth] at h
  | o :: o2 :: r, 0, j + 2, v, w, h => Or.inr ⟨by omega, by omega, h, fun q => by omega⟩
  | o :: r, i + 1, 0, v, w, h => by
    simp only [st2, lnth] at h
    by_cases hi : i = 0
    · rw [if_pos hi] at h
      obtain ⟨h1, h2⟩ := nolong_some h
      exact Or.inr ⟨by omega, by omega, h1, fun q => by rw [h2] at q; exact absurd q.2 (by decide)⟩
    · rw [if_neg hi] at h
      exact Or.inr ⟨by omega, by omega, h, fun q => by omega⟩
  | o :: r, i + 1, j + 1, v, w, h => by
    rcases st2_nth r i j v w h with ⟨h1, h2⟩ | ⟨h1, h2, h3, h4⟩
    · exact Or.inl ⟨by omega, h2⟩
    · exact Or.inr ⟨by omega, by omega, h3, fun q => h4 ⟨by omega, q.2⟩⟩
theorem st1_len : ∀ (ls : LSt) (i : Nat) (v : AV), (st1 ls i v).length = ls.length
  | [], _, _ => rfl
  | _ :: _, 0, _ => rfl
  | _ :: r, i + 1, v => congrArg Nat.succ (st1_len r i v)
theorem nohead_len : ∀ (ls : LSt), (nohead ls).length = ls.length
  | [] => rfl
  | _ :: _ => rfl
theorem st2_len : ∀ (ls : LSt) (i : Nat) (v : AV), (st2 ls i v).length = ls.length
  | [], _, _ => rfl
  | _ :: r, 0, _ => congrArg Nat.succ (nohead_len r)
  | _ :: r, i + 1, v => congrArg Nat.succ (st2_len r i v)
def LV (ad : Nat → Nat) (lsA : Array Slot) (nL : Nat) (ls : LSt) : Prop := ls.length = nL ∧ lv_has lsA nL (lvp ad 0 ls)
theorem LV.at {ad : Nat → Nat} {lsA : Array Slot} {nL : Nat} {ls : LSt} (h : LV ad lsA nL ls) {i : Nat} {v : AV} (hv : lnth ls i = some v) : lsA[i]? = some (.val (cv ad v)) := by
  have := h.2.2.2 _ (lvp_mem (ad := ad) ls 0 i v hv)
  rw [Nat.zero_add] at this
  exact this
theorem LV.put1 {ad : Nat → Nat} {lsA lsB : Array Slot} {nL : Nat} {ls : LSt} {i : Nat} {v : AV} (h : LV ad lsA nL ls) (hb : lv_has lsB nL ((i, cv ad v) :: (lvp ad 0 ls).filter (fun q => !(q.1 == i) && !(q.1 + 1 == i && q.2.category == 2)))) : LV ad lsB nL (st1 ls i v) := by
  refine ⟨by rw [st1_len]; exact h.1, hb.1, hb.2.1, fun q hq => hb.2.2 q ?_⟩
  obtain ⟨j, w, h1, rfl⟩ := lvp_inv _ _ _ hq
  rw [Nat.zero_add]
  rcases st1_nth ls i j v w h1 with ⟨rfl, rfl⟩ | ⟨h2, h3, h4⟩
  · exact List.mem_cons_self
  · refine List.mem_cons_of_mem _ (List.mem_filter.mpr ⟨by have := lvp_mem (ad := ad) ls 0 j w h3; rw [Nat.zero_add] at this; exact this, ?_⟩)
    have e1 : (j == i) = false := by simpa using h2
    show (!(j == i) && !(j + 1 == i && (cv ad w).category == 2)) = true
    rw [e1, cv_cat]
    by_cases hw : isL w = true
    · have e2 : (j + 1 == i) = false := by
        have : j + 1 ≠ i := fun z => h4 ⟨z, hw⟩
        simpa using this
      rw [e2]; rfl
    · rw [if_neg hw]
      simp
theorem LV.put2 {ad : Nat → Nat} {lsA lsB : Array Slot} {nL : Nat} {ls : LSt} {i : Nat} {v : AV} (h : LV ad lsA nL ls) (hb : lv_has lsB nL ((i, cv ad v) :: (lvp ad 0 ls).filter (fun q => !(q.1 == i) && (!(q.1 == i + 1) && !(q.1 + 1 == i && q.2.category == 2))))) : LV ad lsB nL (st2 ls i v) := by
  refine ⟨by rw [st2_len]; exact h.1, hb.1, hb.2.1, fun q hq => hb.2.2 q ?_⟩
  obtain ⟨j, w, h1, rfl⟩ := lvp_inv _ _ _ hq
  rw [Nat.zero_add]
  rcases st2_nth ls i j v w h1 with ⟨rfl, rfl⟩ | ⟨h2, h2', h3, h4⟩
  · exact List.mem_cons_self
  · refine List.mem_cons_of_mem _ (List.mem_filter.mpr ⟨by have := lvp_mem (ad := ad) ls 0 j w h3; rw [Nat.zero_add] at this; exact this, ?_⟩)
    have e1 : (j == i) = false := by simpa using h2
    have e3 : (j == i + 1) = false := by simpa using h2'
    show (!(j == i) && (!(j == i + 1) && !(j + 1 == i && (cv ad w).category == 2))) = true
    rw [e1, e3, cv_cat]
    by_cases hw : isL w = true
    · have e2 : (j + 1 == i) = false := by
        have : j + 1 ≠ i := fun z => h4 ⟨z, hw⟩
        simpa using this
      rw [e2]; rfl
    · rw [if_neg hw]
      simp
/-- what a state must know of the classes, of the static arrays, of the nest mates' links -/
def tys0 (G : GT) : List (ClassId × FieldType) := [(G.2.1 0, .int), (G.2.1 1, .long), (G.2.1 2, .boolean), (G.2.1 3, .object RX4)]
abbrev RO : Type := Nat → Option (Nat × (Nat → Int))
def KNs (G : GT) (A : Nat → Prop) (ro : RO) (U : State) (H : Heap) : Prop :=
  va_K G.2.2 vwCl (tys0 G) U ∧ gInj G ∧ (va_Z RX1 "NEAREST" "[I" (.ref (G.1 76)) A U H ∧ va_Z RX1 "SIZE_BODIES" "[I" (.ref (G.1 77)) A U H ∧ va_Z RX1 "MARK_BODIES" "[I" (.ref (G.1 78)) A U H) ∧
  (∀ (k N : Nat) (f : Nat → Int), ro k = some (N, f) → va_X (G.1 k) N (fun j => iI (f j)) U H ∧ G.1 k < H.size ∧ ¬ A (G.1 k) ∧ N < 2147483648) ∧
  va_Nw (.methodLinkNest RX6 76 yX7_isSignature RX7) U ∧ va_Nw (.methodLinkNest RX6 99 yX7_isKey RX7) U
def Aof (G : GT) : Nat → Prop := fun q => ∃ k, k < 76 ∧ q = G.1 k
theorem KNs.blind {G : GT} {A : Nat → Prop} {ro : RO} {U : State} {H : Heap} (h : KNs G A ro U H) {V : State} (hv : V.vm = U.vm) : KNs G A ro V H := by
  obtain ⟨h1, h2, ⟨z1, z2, z3⟩, h4, h5, h6⟩ := h
  have al : U.vm.Alike V.vm := by rw [hv]; exact Vm.Alike.refl U.vm
  exact ⟨va_K.moved al h1, h2, ⟨z1.moved al, z2.moved al, z3.moved al⟩, fun k N f hk => ⟨(h4 k N f hk).1.moved al, (h4 k N f hk).2⟩, va_Nw.same rfl hv.symm h5, va_Nw.same rfl hv.symm h6⟩
theorem KNs.move {G : GT} {A B : Nat → Prop} {ro ro' : RO} {s U : State} {H0 H : Heap} (h : KNs G A ro s H0) (hW : s.WarmedH U.vm) (hs : H0.size ≤ H.size) (hq : ∀ q : Nat, q < H0.size → ¬ A q → H[q]? = H0[q]?) (hB : ∀ q, B q → A q) (hro : ∀ k N f, ro' k = some (N, f) → ro k = some (N, f)) : KNs G B ro' U H := by
  obtain ⟨h1, h2, ⟨z1, z2, z3⟩, h4, h5, h6⟩ := h
  have al : s.vm.Alike U.vm := hW.alike
  refine ⟨va_K.moved al h1, h2, ⟨((z1.kept hq).narrow hB).moved al, ((z2.kept hq).narrow hB).moved al, ((z3.kept hq).narrow hB).moved al⟩, fun k N f hk => ?_, va_Nw.warmM hW h5, va_Nw.warmM hW h6⟩
  obtain ⟨g1, g2, g3, g4⟩ := h4 k N f (hro k N f hk)
  exact ⟨(g1.kept (hq _ g2 g3)).moved al, Nat.lt_of_lt_of_le g2 hs, fun z => g3 (hB _ z), g4⟩
def roS : RO := fun k => match k with
  | 76 => some (6, fun j => [0, 0, 1, 1, 0, 4].getD j 0)
  | 77 => some (6, fun j => [10, 11, 12, 11, 13, 14].getD j 0)
  | 78 => some (6, fun j => [20, 21, 24, 22, 23, 23].getD j 0)
  | _ => none
/-- a method's contract: from the world of σ, with the arguments a, it returns, and Q holds of the answer and of the new world -/
def rmOf (n : Nat) : Room := { frames := n + 1, cells := 0, slots := 0, locals := 60 * (n + 1) }
def Pc0 (G : GT) (a : List AV) (σ : HP) : Array Value → State → Prop := fun v U => v = (a.map (cv G.1)).toArray ∧ va_P G.2.2 vwCl (gw G σ) U.heap ∧ KNs G (Aof G) roS U U.heap
def Qc0 (G : GT) (Q : Option AV → HP → Prop) : Array Value → State → Outcome → State → Prop := fun _ st oc t => ∃ (r : Option AV) (σ : HP), oc = .returned (r.map (cv G.1)) ∧ Q r σ ∧ va_P G.2.2 vwCl (gw G σ) t.heap ∧ va_F (Aof G) st t
def AM (l : Launch) (n : Nat) (y : MethodName) (cc : ByteArray) (mL : Nat) (rt : Option FieldType) (a : List AV) (σ : HP) (Q : Option AV → HP → Prop) : Prop := ∀ G : GT, Met l y (Cond.code y cc mL rt :: gtb) (rmOf n) (Pc0 G a σ) (Qc0 G Q) 0 0 (Aof G)
theorem Pc0.blind {G : GT} {a : List AV} {σ : HP} : FrameBlind (Pc0 G a σ) := fun v U g mk h => ⟨h.1, h.2.1, h.2.2.blind rfl⟩
def cpV (own : String) (i : Nat) (e : CE) : Prop := match e with
  | (0, ci, k, _) => ∃ (C : String) (T : u_T) (N : Nat), vwCl[ci.toNat]? = some (C, T, N) ∧ k < N ∧ (∀ w ∈ u_ws C T N, w ∈ gtb) ∧ Cond.fieldLink own i (T k).1 (T k).2.1 (T k).2.2.1 ∈ gtb
  | (5, ci, k, b) => ∃ (C : String) (T : u_T) (N : Nat) (ty : Nat → FieldType), vwCl[ci.toNat]? = some (C, T, N) ∧ k < N ∧ (∀ w ∈ u_ws C T N, w ∈ gtb) ∧ Cond.fieldLink own i (T k).1 (T k).2.1 (T k).2.2.1 ∈ gtb ∧ (∀ k, k < N → parseFieldDescriptor (T k).2.2.1 = some (ty k)) ∧ (∀ a, a < N → ∀ b, b < N → a ≠ b → (T a).2.1 ≠ (T b).2.1) ∧ (T k).2.2.2 = false ∧ parseFieldDescriptor (T k).2.2.1 = some (if b = true then .boolean else .int)
  | (1, z, _) => Cond.constant own i (iI z) ∈ gtb
  | (2, z, _) => Cond.constantLong own i (iL z) ∈ gtb
  | (3, _, p, _) => (p = 76 ∧ Cond.fieldLink own i RX1 "NEAREST" "[I" ∈ gtb) ∨ (p = 77 ∧ Cond.fieldLink own i RX1 "SIZE_BODIES" "[I" ∈ gtb) ∨ (p = 78 ∧ Cond.fieldLink own i RX1 "MARK_BODIES" "[I" ∈ gtb)
  | (4, _) => Cond.methodLink own i arraycopyName ∈ gtb ∧ Cond.native arraycopyName ∈ gtb ∧ Cond.static arraycopyName ∈ gtb ∧ Cond.initialized "java/lang/System" ∈ gtb
  | _ => True
def mV (l : Launch) (R : Room) (own : String) (i : Nat) (e : Nat × Bool × MSpec) : Prop := ∃ (n : Nat) (y : MethodName) (bc : ByteArray) (mL : Nat) (rt : Option FieldType), (rmOf n).frames + 1 ≤ R.frames ∧ 8 + (mL + 11) + (rmOf n).locals ≤ R.locals ∧ Cond.code y bc mL rt ∈ gtb ∧ Cond.initialized y.cls ∈ gtb ∧ (y.cls ≠ "java/lang/invoke/MethodHandle" ∧ y.cls ≠ "java/lang/invoke/VarHandle") ∧
  ((e.2.1 = true ∧ (parseMethodDescriptor y.desc).map (fun d => d.parameters.length + 1) = some e.1 ∧ Cond.methodLink own i y ∈ gtb ∧ Cond.instanceMethod y ∈ gtb ∧ Cond.selects y.cls y y ∈ gtb ∧ ∃ (ci : Nat) (T : u_T) (N : Nat), vwCl[ci]? = some (y.cls, T, N) ∧ ∀ (a : List AV) (σ : HP) (Q : Option AV → HP → Prop), e.2.2 a σ Q → (∃ (p : Nat) (r : List AV), a = .inr (.inl p) :: r ∧ p < 76 ∧ (SH p).1 = 4 ∧ (SH p).2.1 = ci) ∧ AM l n y bc mL rt a σ Q) ∨
   (e.2.1 = false ∧ (parseMethodDescriptor y.desc).map (fun d => d.parameters.length) = some e.1 ∧ Cond.static y ∈ gtb ∧ (Cond.methodLink own i y ∈ gtb ∨ (own = RX6 ∧ ((i = 76 ∧ y = yX7_isSignature) ∨ (i = 99 ∧ y = yX7_isKey)))) ∧ ∀ (a : List AV) (σ : HP) (Q : Option AV → HP → Prop), e.2.2 a σ Q → AM l n y bc mL rt a σ Q))
section SND
variable {p : Program} {l : Launch} {e : Env} {R : Room} {s : State} {m : MethodId} {args : Array Value} {below : List Frame} {meth : Method} {c : Code} {cells slots : Nat}
def AW (p : Program) (l : Launch) (e : Env) (R : Room) (s : State) (m : MethodId) (args : Array Value) (below : List Frame) (meth : Method) (c : Code) (cells slots : Nat) (A : Nat → Prop) (Qf : State → Prop) (nL : Nat) (G : GT) : KT := fun pc ls st σ =>
  ∀ (H : Heap) (locs : List Loc) (lsA : Array Slot), va_P G.2.2 vwCl (gw G σ) H → va_S A s.heap H locs → LV G.1 lsA nL ls → W p l e R s m args below meth c H locs cells slots Qf (F0 m pc lsA (st.map (cv G.1)))
def CX (p : Program) (l : Launch) (R : Room) (s : State) (m : MethodId) (args : Array Value) (c : Code) (cells slots : Nat) (A : Nat → Prop) (cc : ByteArray) (own : String) (nL : Nat) (G : GT) (cp : Nat → Option CE) (mT : Nat → Option (Nat × Bool × MSpec)) (ro : RO) : Prop :=
  p.tables.exec = Jvm.exec ∧ c.code = cc ∧ c.maxLocals = nL ∧ s.vm.findClass own = some m.cls ∧ (∀ w ∈ gtb, w.before args s = true) ∧ (1 ≤ R.frames ∧ 60 ≤ R.locals ∧ cells ≤ R.cells ∧ slots ≤ R.slots) ∧ KNs G A ro s s.heap ∧ (∀ k, k < 76 → A (G.1 k)) ∧ (∀ k N f, roS k = some (N, f) → ro k = some (N, f)) ∧ (∀ i e, cp i = some e → cpV own i e) ∧ ∀ i e, mT i = some e → mV l R own i e
variable {A : Nat → Prop} {Qf : State → Prop} {nL : Nat} {G : GT} {cc : ByteArray} {own : String} {cp : Nat → Option CE} {mT : Nat → Option (Nat × Bool × MSpec)} {ro : RO}
theorem aw_run {pc : Nat} {lsA : Array Slot} {st0 rest : List Value} {H : Heap} {locs : List Loc} {Q : Option AV → HP → Prop} {a : Array Value} (hr : va_Run p l e R s m args below meth c H locs cells slots 0 0 (F0 m pc lsA st0) rest (Qc0 G Q a) (Aof G)) (hS : va_S A s.heap H locs) (hA : ∀ q, Aof G q → A q)
    (kk : ∀ (r : Option AV) (σ : HP) (H1 : Heap) (locs1 : List Loc), Q r σ → va_P G.2.2 vwCl (gw G σ) H1 → va_S A s.heap H1 locs1 → W p l e R s m args below meth c H1 locs1 cells slots Qf (F0 m (pc + 3) lsA ((r.map (cv G.1)).toList ++ rest))) : W p l e R s m args below meth c H locs cells slots Qf (F0 m pc lsA st0) := by
  intro T hT X
  obtain ⟨v, st₀, t, T', L, h0, X', hL, e1, e2, ⟨r, σ, hv, hq, hP, hz, hk⟩, stp⟩ := hr T hT X
  have hv' : v = r.map (cv G.1) := Outcome.returned.inj hv
  subst hv'
  rw [h0] at hz hk
  obtain ⟨t2, a1, b1⟩ := kk r σ T'.heap (locs ++ L) hq (by rw [e1]; exact hP) ⟨Nat.le_trans hS.1 (by rw [e1]; exact hz), fun q h1 h2 => by rw [e1, hk q (Nat.lt_of_lt_of_le h1 hS.1) (fun z => h2 (hA q z))]; exact hS.2.1 q h1 h2, fun q hq => by
      rcases List.mem_append.mp hq with h | h
      · exact hS.2.2 q h
      · exact hA _ (hL q h)⟩ T' rfl X'
  exact ⟨t2, stp t2 a1, b1⟩
end SND
end
section
/-! ===== each instruction of the abstract machine is the machine's ===== -/
theorem ldI_inv {ls : LSt} {j : Nat} {st : List AV} {k : List AV → Prop} (h : ldI ls j st k) : ∃ z, lnth ls j = some (.inl z) ∧ k (.inl z :: st) := by
  unfold ldI at h
  split at h
  · exact ⟨_, ‹_›, h⟩
  · exact h.elim
theorem ldA_inv {ls : LSt} {j : Nat} {st : List AV} {k : List AV → Prop} (h : ldA ls j st k) : ∃ z, lnth ls j = some (.inr (.inl z)) ∧ k (.inr (.inl z) :: st) := by
  unfold ldA at h
  split at h
  · exact ⟨_, ‹_›, h⟩
  · exact h.elim
theorem ldL_inv {ls : LSt} {j : Nat} {st : List AV} {k : List AV → Prop} (h : ldL ls j st k) : ∃ z, lnth ls j = some (.inr (.inr z)) ∧ k (.inr (.inr z) :: st) := by
  unfold ldL at h
  split at h
  · exact ⟨_, ‹_›, h⟩
  · exact h.elim
theorem stI_inv {ls : LSt} {j : Nat} {st : List AV} {k : LSt → List AV → Prop} (h : stI ls j st k) : ∃ z r, st = .inl z :: r ∧ j < ls.length ∧ k (st1 ls j (.inl z)) r := by
  unfold stI at h
  split at h
  · exact ⟨_, _, rfl, h⟩
  · exact h.elim
theorem stA_inv {ls : LSt} {j : Nat} {st : List AV} {k : LSt → List AV → Prop} (h : stA ls j st k) : ∃ z r, st = .inr (.inl z) :: r ∧ j < ls.length ∧ k (st1 ls j (.inr (.inl z))) r := by
  unfold stA at h
  split at h
  · exact ⟨_, _, rfl, h⟩
  · exact h.elim
theorem stL_inv {ls : LSt} {j : Nat} {st : List AV} {k : LSt → List AV → Prop} (h : stL ls j st k) : ∃ z r, st = .inr (.inr z) :: r ∧ j + 1 < ls.length ∧ k (st2 ls j (.inr (.inr z))) r := by
  unfold stL at h
  split at h
  · exact ⟨_, _, rfl, h⟩
  · exact h.elim
theorem bin_inv {f : Int → Int → Int} {st : List AV} {k : List AV → Prop} (h : bin f st k) : ∃ x y r, st = .inl y :: .inl x :: r ∧ k (.inl (f x y) :: r) := by
  unfold bin at h
  split at h
  · exact ⟨_, _, _, rfl, h⟩
  · exact h.elim
theorem binD_inv {f : Int → Int → Int} {st : List AV} {k : List AV → Prop} (h : binD f st k) : ∃ x y r, st = .inl y :: .inl x :: r ∧ R32 x ∧ R32 y ∧ y ≠ 0 ∧ k (.inl (f x y) :: r) := by
  unfold binD at h
  split at h
  · exact ⟨_, _, _, rfl, h⟩
  · exact h.elim
theorem binL_inv {f : Int → Int → Int} {st : List AV} {k : List AV → Prop} (h : binL f st k) : ∃ x y r, st = .inr (.inr y) :: .inr (.inr x) :: r ∧ k (.inr (.inr (f x y)) :: r) := by
  unfold binL at h
  split at h
  · exact ⟨_, _, _, rfl, h⟩
  · exact h.elim
theorem binDL_inv {f : Int → Int → Int} {st : List AV} {k : List AV → Prop} (h : binDL f st k) : ∃ x y r, st = .inr (.inr y) :: .inr (.inr x) :: r ∧ R64 x ∧ R64 y ∧ y ≠ 0 ∧ k (.inr (.inr (f x y)) :: r) := by
  unfold binDL at h
  split at h
  · exact ⟨_, _, _, rfl, h⟩
  · exact h.elim
theorem una_inv {f : Int → Int} {st : List AV} {k : List AV → Prop} (h : una f st k) : ∃ x r, st = .inl x :: r ∧ k (.inl (f x) :: r) := by
  unfold una at h
  split at h
  · exact ⟨_, _, rfl, h⟩
  · exact h.elim
theorem gfX_inv {e : Option (Nat × Nat)} {st : List AV} {σ : HP} {k : List AV → Prop} (h : gfX e st σ k) : ∃ ci f p r v, e = some (ci, f) ∧ st = .inr (.inl p) :: r ∧ p < 76 ∧ gfV (SH p) σ p ci f = some v ∧ k (v :: r) := by
  unfold gfX at h
  split at h
  · split at h
    · obtain ⟨h1, h2⟩ := h
      split at h2
      · exact ⟨_, _, _, _, _, rfl, rfl, h1, ‹_›, h2⟩
      · exact h2.elim
    · exact h.elim
  · exact h.elim
theorem pfX_inv {e : Option (Nat × Nat × Bool)} {st : List AV} {σ : HP} {k : List AV → HP → Prop} (h : pfX e st σ k) : ∃ ci f b v p r, e = some (ci, f, b) ∧ st = .inl v :: .inr (.inl p) :: r ∧ p < 76 ∧ pfV (SH p) ci f = true ∧ (b = true → v = 0 ∨ v = 1) ∧ k r (hset σ p f v) := by
  unfold pfX at h
  split at h
  · split at h
    · exact ⟨_, _, _, _, _, _, rfl, rfl, h⟩
    · exact h.elim
  · exact h.elim
theorem cpF_inv {e : Option CE} {ci f : Nat} (h : cpF e = some (ci, f)) : ∃ z b, (e = some (0, z, f, b) ∨ e = some (5, z, f, b)) ∧ ci = z.toNat := by
  unfold cpF at h
  split at h
  · cases h; exact ⟨_, _, Or.inl rfl, rfl⟩
  · cases h; exact ⟨_, _, Or.inr rfl, rfl⟩
  · cases h
theorem cpP_inv {e : Option CE} {ci f : Nat} {b : Bool} (h : cpP e = some (ci, f, b)) : ∃ z, e = some (5, z, f, b) ∧ ci = z.toNat := by
  unfold cpP at h
  split at h
  · cases h; exact ⟨_, rfl, rfl⟩
  · cases h
theorem ceV_get (ad : Nat → Nat) (f : Nat → Int) : ∀ (rs : List (Option Nat)) (k j : Nat), (ceV ad f k rs)[j]? = (rnth rs j).map (fun o => match o with | some q => Value.ref (ad q) | none => Value.int (iI (f (k + j))))
  | [], k, j => by simp [ceV, rnth]
  | none :: r, k, 0 => by simp [ceV, rnth]
  | some q :: r, k, 0 => by simp [ceV, rnth]
  | none :: r, k, j + 1 => by
    have := ceV_get ad f r (k + 1) j
    simp only [ceV, rnth, List.getElem?_cons_succ]
    rw [this, show k + 1 + j = k + (j + 1) by omega]
  | some q :: r, k, j + 1 => by
    have := ceV_get ad f r (k + 1) j
    simp only [ceV, rnth, List.getElem?_cons_succ]
    rw [this, show k + 1 + j = k + (j + 1) by omega]
theorem ceV_len (ad : Nat → Nat) (f : Nat → Int) : ∀ (rs : List (Option Nat)) (k : Nat), (ceV ad f k rs).length = rs.length
  | [], k => rfl
  | none :: r, k => congrArg Nat.succ (ceV_len ad f r (k + 1))
  | some q :: r, k => congrArg Nat.succ (ceV_len ad f r (k + 1))
theorem rnth_lt : ∀ (rs : List (Option Nat)) (j : Nat) (o : Option Nat), rnth rs j = some o → j < rs.length
  | [], j, o, h => by simp [rnth] at h
  | _ :: r, 0, o, h => by simp
  | _ :: r, j + 1, o, h => by simpa using rnth_lt r j o h
theorem rnth_getD : ∀ (rs : List (Option Nat)) (j : Nat) (o : Option Nat), rnth rs j = some o → rs.getD j none = o
  | [], j, o, h => by simp [rnth] at h
  | _ :: r, 0, o, h => by simpa [rnth] using h
  | _ :: r, j + 1, o, h => by
    have := rnth_getD r j o h
    simpa using this
/-- one number of an object is another -/
theorem ceV_set (ad : Nat → Nat) (f : Nat → Int) (v : Int) : ∀ (rs : List (Option Nat)) (k j : Nat), rnth rs j = some none → ceV ad (fun q => if q = k + j then v else f q) k rs = (ceV ad f k rs).set j (.int (iI v))
  | [], k, j, h => by simp [rnth] at h
  | none :: r, k, 0, h => by
    simp only [ceV, List.set_cons_zero, Nat.add_zero, if_true]
    congr 1
    have : ∀ (r : List (Option Nat)) (a : Nat), k < a → ceV ad (fun q => if q = k then v else f q) a r = ceV ad f a r := by
      intro r
      induction r with
      | nil => intro a _; rfl
      | cons o r ih =>
        intro a ha
        rcases o with _ | q
        · simp only [ceV]
          rw [ih (a + 1) (by omega), if_neg (by omega)]
        · simp only [ceV]
          rw [ih (a + 1) (by omega)]
    exact this r (k + 1) (by omega)
  | some q :: r, k, 0, h => by simp [rnth] at h
  | none :: r, k, j + 1, h => by
    have := ceV_set ad f v r (k + 1) j h
    simp only [ceV, List.set_cons_succ]
    rw [show k + (j + 1) = k + 1 + j by omega, this, if_neg (by omega)]
  | some q :: r, k, j + 1, h => by
    have := ceV_set ad f v r (k + 1) j h
    simp only [ceV, List.set_cons_succ]
    rw [show k + (j + 1) = k + 1 + j by omega, this]
theorem ce_obj {G : GT} {sh : Nat × Nat × List (Option Nat)} {f : Nat → Int} (h : sh.1 = 4) : ce G sh f = .inr (sh.2.1, ceV G.1 f 0 sh.2.2) := by
  obtain ⟨a, b, c⟩ := sh
  simp only at h
  subst h
  rfl
theorem ce_int {G : GT} {sh : Nat × Nat × List (Option Nat)} {f : Nat → Int} (h : sh.1 = 0) : ce G sh f = .inl (G.2.1 0, sh.2.1, .inl (fun j => iI (f j))) := by
  obtain ⟨a, b, c⟩ := sh
  simp only at h
  subst h
  rfl
theorem ce_long {G : GT} {sh : Nat × Nat × List (Option Nat)} {f : Nat → Int} (h : sh.1 = 1) : ce G sh f = .inl (G.2.1 1, sh.2.1, .inr (.inl (fun j => iL (f j)))) := by
  obtain ⟨a, b, c⟩ := sh
  simp only at h
  subst h
  rfl
theorem ce_bool {G : GT} {sh : Nat × Nat × List (Option Nat)} {f : Nat → Int} (h : sh.1 = 2) : ce G sh f = .inl (G.2.1 2, sh.2.1, .inl (fun j => iI (f j))) := by
  obtain ⟨a, b, c⟩ := sh
  simp only at h
  subst h
  rfl
theorem ce_refs {G : GT} {sh : Nat × Nat × List (Option Nat)} {f : Nat → Int} (h : sh.1 = 3) : ce G sh f = .inl (G.2.1 3, sh.2.1, .inr (.inr (.inr (.inr (fun j => (sh.2.2.getD j none).map G.1))))) := by
  obtain ⟨a, b, c⟩ := sh
  simp only at h
  subst h
  rfl
theorem gfV_inv {sh : Nat × Nat × List (Option Nat)} {σ : HP} {p ci k : Nat} {v : AV} (h : gfV sh σ p ci k = some v) : sh.1 = 4 ∧ sh.2.1 = ci ∧ ∃ o, rnth sh.2.2 k = some o ∧ v = (match o with | some q => .inr (.inl q) | none => .inl (σ p k)) := by
  obtain ⟨a, b, c⟩ := sh
  unfold gfV at h
  split at h
  · rename_i cj rs heq
    cases heq
    split at h
    · rename_i hc
      split at h
      · rename_i q hq
        cases h
        exact ⟨rfl, hc, _, hq, rfl⟩
      · rename_i hq
        cases h
        exact ⟨rfl, hc, _, hq, rfl⟩
      · cases h
    · cases h
  · cases h
theorem pfV_inv {sh : Nat × Nat × List (Option Nat)} {ci k : Nat} (h : pfV sh ci k = true) : sh.1 = 4 ∧ sh.2.1 = ci ∧ rnth sh.2.2 k = some none := by
  obtain ⟨a, b, c⟩ := sh
  unfold pfV at h
  split at h
  · rename_i cj rs heq
    cases heq
    split at h
    · rename_i hc
      split at h
      · exact ⟨rfl, hc, ‹_›⟩
      · cases h
    · cases h
  · cases h
theorem acV_inv {sh : Nat × Nat × List (Option Nat)} {ro : RO} {σ : HP} {p : Nat} {i : Int} {k : Int → Prop} (h : acV sh ro σ p i k) : (sh.1 = 0 ∧ 0 ≤ i ∧ i < (sh.2.1 : Int) ∧ k (σ p i.toNat)) ∨ (sh.1 = 9 ∧ ∃ n f, ro p = some (n, f) ∧ 0 ≤ i ∧ i < (n : Int) ∧ k (f i.toNat)) := by
  obtain ⟨a, b, c⟩ := sh
  unfold acV at h
  split at h
  · rename_i n x heq
    cases heq
    exact Or.inl ⟨rfl, h⟩
  · rename_i n x heq
    cases heq
    split at h
    · exact Or.inr ⟨rfl, _, _, ‹_›, h⟩
    · exact h.elim
  · exact h.elim
theorem SH_lt {p : Nat} (h : (SH p).1 ≠ 9) : p < 76 := by
  rcases Nat.lt_or_ge p 76 with q | q
  · exact q
  · exfalso
    apply h
    unfold SH
    split <;> first | omega | rfl
theorem acpy_inv {st : List AV} {σ : HP} {k : List AV → HP → Prop} (h : acpy st σ k) : ∃ n dp b sp a r, st = .inl n :: .inl dp :: .inr (.inl b) :: .inl sp :: .inr (.inl a) :: r ∧ a < 76 ∧ b < 76 ∧ (SH a).1 = 0 ∧ (SH b).1 = 0 ∧ r.length ≤ 2 ∧ 0 ≤ sp ∧ 0 ≤ dp ∧ 0 ≤ n ∧ sp + n ≤ ((SH a).2.1 : Int) ∧ dp + n ≤ ((SH b).2.1 : Int) ∧ k r (hcpy σ a sp b dp n) := by
  unfold acpy at h
  split at h
  · exact ⟨_, _, _, _, _, _, rfl, h⟩
  · exact h.elim
theorem inv_inv {mT : Nat → Option (Nat × Bool × MSpec)} {i : Nat} {is : Bool} {st : List AV} {σ : HP} {k : List AV → HP → Prop} (h : inv mT i is st σ k) : ∃ n S, mT i = some (n, is, S) ∧ n ≤ st.length ∧ (st.drop n).length ≤ 4 ∧ S (st.take n).reverse σ (fun r σ' => k (r.toList ++ st.drop n) σ') := by
  unfold inv at h
  split at h
  · rename_i n b S hm
    obtain ⟨rfl, h⟩ := h
    exact ⟨n, S, hm, h⟩
  · exact h.elim
theorem tsw_in {pc : Nat} {x : Int} {k : Nat → Prop} : ∀ (os : List Int) (lo : Int) (j : Nat), tsw pc x k lo os → x = lo + j → ∀ o, os[j]? = some o → tgo pc o k
  | [], lo, j, h, hx, o, ho => by simp at ho
  | a :: r, lo, 0, h, hx, o, ho => by
    simp only [List.getElem?_cons_zero, Option.some.injEq] at ho
    subst ho
    exact h.1 (by omega)
  | a :: r, lo, j + 1, h, hx, o, ho => tsw_in r (lo + 1) j h.2 (by omega) o (by simpa using ho)
theorem lsw_in {pc : Nat} {x d : Int} {k : Nat → Prop} : ∀ (ps : List (Int × Int)), lsw pc x d k ps → tgo pc (Op.lookupswitch.offset ps d x) k
  | [], h => h
  | (a, o) :: r, h => by
    rw [Op.lookupswitch.offset_cons]
    by_cases e : x = a
    · rw [if_pos (by rw [e])]
      exact h.1 e
    · rw [if_neg (fun q => e q.symm)]
      exact lsw_in r (h.2 e)
theorem cat_le (ad : Nat → Nat) : ∀ (r : List AV), ((r.map (cv ad)).map fun v => v.category).sum ≤ 2 * r.length
  | [] => by simp
  | v :: r => by
    have h1 := cat_le ad r
    have h2 : (cv ad v).category ≤ 2 := by rw [cv_cat]; split <;> omega
    simp only [List.map_cons, List.sum_cons, List.length_cons]
    omega
end
section
/-! ===== the step ===== -/
theorem hset_arr {G : GT} {σ : HP} {p k : Nat} {v : Int} (h : (SH p).1 = 0 ∨ (SH p).1 = 2) : ∀ cA n, ce G (SH p) (σ p) = .inl (cA, n, .inl (fun j => iI (σ p j))) → ce G (SH p) (hset σ p k v p) = .inl (cA, n, .inl (upd (fun j => iI (σ p j)) k (iI v))) := by
  intro cA n e
  have hf : (fun j => iI (hset σ p k v p j)) = upd (fun j => iI (σ p j)) k (iI v) := by
    funext j
    rw [hset_eq]
    by_cases q : j = k
    · subst q; simp [upd]
    · simp [upd, q]
  rcases h with h | h
  · rw [ce_int h] at e ⊢
    rw [hf]
    cases e
    rfl
  · rw [ce_bool h] at e ⊢
    rw [hf]
    cases e
    rfl
theorem hset_long {G : GT} {σ : HP} {p k : Nat} {v : Int} (h : (SH p).1 = 1) : ce G (SH p) (hset σ p k v p) = .inl (G.2.1 1, (SH p).2.1, .inr (.inl (vp_updL (fun j => iL (σ p j)) k (iL v)))) := by
  rw [ce_long h]
  have hf : (fun j => iL (hset σ p k v p j)) = vp_updL (fun j => iL (σ p j)) k (iL v) := by
    funext j
    rw [hset_eq]
    by_cases q : j = k
    · subst q; simp [vp_updL]
    · simp [vp_updL, q]
  rw [hf]
theorem iI_01 {v : Int} (h : v = 0 ∨ v = 1) : vp_nar .boolean (iI v) = iI v ∧ narrow .boolean (.int (iI v)) = .int (iI v) ∧ fits .boolean (.int (iI v)) = true := by
  rcases h with rfl | rfl <;> exact ⟨by decide +kernel, by decide +kernel, by decide +kernel⟩
theorem hset_obj {G : GT} {σ : HP} {p k : Nat} {v : Int} (h : (SH p).1 = 4) (hr : rnth (SH p).2.2 k = some none) : ce G (SH p) (hset σ p k v p) = .inr ((SH p).2.1, (ceV G.1 (σ p) 0 (SH p).2.2).set k (.int (iI v))) := by
  rw [ce_obj h, ← ceV_set G.1 (σ p) v (SH p).2.2 0 k hr, hset_eq]
  simp only [Nat.zero_add]
theorem goodIn_gtb {ws : List Cond} (h : ∀ w ∈ ws, w ∈ gtb) : GoodIn gtb ws := fun w hw => ⟨h w hw, good_of_word (gtb_good (h w hw))⟩
theorem hcpy_ce {G : GT} {σ : HP} {a b : Nat} {sp dp n : Int} (h : (SH b).1 = 0) : ce G (SH b) (hcpy σ a sp b dp n b) = .inl (G.2.1 0, (SH b).2.1, .inl (va_cpy (fun j => iI (σ a j)) (fun j => iI (σ b j)) sp.toNat dp.toNat n.toNat)) := by
  rw [ce_int h]
  have hf : (fun j => iI (hcpy σ a sp b dp n b j)) = va_cpy (fun j => iI (σ a j)) (fun j => iI (σ b j)) sp.toNat dp.toNat n.toNat := by
    funext j
    by_cases q : dp.toNat ≤ j ∧ j < dp.toNat + n.toNat
    · rw [pk_cpy_in q.1 q.2]
      simp [hcpy, q]
    · rw [pk_cpy_out (by omega)]
      simp only [hcpy, true_and]
      rw [if_neg q]
  rw [hf]
theorem hcpy_ne {σ : HP} {a b q : Nat} {sp dp n : Int} (h : q ≠ b) : hcpy σ a sp b dp n q = σ q := by
  funext j
  simp [hcpy, h]
theorem iI_nn {z : Int} (h0 : 0 ≤ z) (h1 : z < 2147483648) : ¬ iI z < 0 ∧ (iI z).toNatClampNeg = z.toNat := by
  have hr : R32 z := ⟨by omega, h1⟩
  refine ⟨fun q => ?_, ?_⟩
  · rw [← iI_0] at q
    have := (iI_lt hr R32_0).mp q
    omega
  · show (iI z).toInt.toNat = z.toNat
    rw [iI_toInt hr]
section STP
variable {p : Program} {l : Launch} {e : Env} {R : Room} {s : State} {m : MethodId} {args : Array Value} {below : List Frame} {meth : Method} {c : Code} {cells slots : Nat}
variable {A : Nat → Prop} {Qf : State → Prop} {nL : Nat} {G : GT} {cc : ByteArray} {own : String} {cp : Nat → Option CE} {mT : Nat → Option (Nat × Bool × MSpec)} {ro : RO} {rk : Nat} {RT : Option AV → HP → Prop}
/-- how the body ends -/
def RTK (p : Program) (l : Launch) (e : Env) (R : Room) (s : State) (m : MethodId) (args : Array Value) (below : List Frame) (meth : Method) (c : Code) (cells slots : Nat) (A : Nat → Prop) (Qf : State → Prop) (G : GT) (cc : ByteArray) (rk : Nat) (RT : Option AV → HP → Prop) : Prop :=
  ∀ (pc : Nat) (σ : HP) (H : Heap) (locs : List Loc) (lsA : Array Slot), va_P G.2.2 vwCl (gw G σ) H → va_S A s.heap H locs →
    (∀ v : Int, decode cc pc = .ok (.ireturn, 1) → (rk = 1 ∨ (rk = 2 ∧ (v = 0 ∨ v = 1))) → RT (some (.inl v)) σ → W p l e R s m args below meth c H locs cells slots Qf (F0 m pc lsA [.int (iI v)])) ∧
    (∀ v : Int, decode cc pc = .ok (.lreturn, 1) → rk = 3 → RT (some (.inr (.inr v))) σ → W p l e R s m args below meth c H locs cells slots Qf (F0 m pc lsA [.long (iL v)])) ∧
    (∀ v : Nat, decode cc pc = .ok (.areturn, 1) → rk = 4 → RT (some (.inr (.inl v))) σ → W p l e R s m args below meth c H locs cells slots Qf (F0 m pc lsA [.ref (G.1 v)])) ∧
    (decode cc pc = .ok (.return_, 1) → rk = 0 → RT none σ → W p l e R s m args below meth c H locs cells slots Qf (F0 m pc lsA []))
set_option maxHeartbeats 4000000 in
theorem stp_sound (C : CX p l R s m args c cells slots A cc own nL G cp mT ro) (hret : RTK p l e R s m args below meth c cells slots A Qf G cc rk RT) {k : KT} (hk : ∀ pc ls st σ, k pc ls st σ → AW p l e R s m args below meth c cells slots A Qf nL G pc ls st σ) {i : Instr} {len pc : Nat} {ls : LSt} {st : List AV} {σ : HP} (hd : decode cc pc = .ok (i, len)) (hl : ilen i = 0 ∨ ilen i = len) (h : stp cp mT ro rk RT i len pc ls st σ k) : AW p l e R s m args below meth c cells slots A Qf nL G pc ls st σ := by
  obtain ⟨hx, hb, hml, hown, hts, ⟨hR1, hR2, hR3, hR4⟩, hK, hA, hro, hcp, hmT⟩ := C
  intro H locs lsA hP hS hL
  have hD : ∀ τ : HP, va_D A (gw G τ) := fun τ => gw_D hK.2.1 hA
  have hAo : ∀ q, Aof G q → A q := fun q ⟨k, h1, h2⟩ => by rw [h2]; exact hA k h1
  have tg : ∀ (o : Int) (k : Nat → Prop), tgo pc o k → ∃ t : Nat, (pc : Int) + o = (t : Int) ∧ k t := fun o k h => ⟨((pc : Int) + o).toNat, (Int.toNat_of_nonneg h.1).symm, h.2⟩
  cases i <;> simp only [stp] at h
  case iconst n =>
    obtain rfl : len = 1 := by rcases hl with q | q <;> simp [ilen] at q; exact q.symm
    exact lv_iconst hx hb hd rfl (hk _ _ _ _ h H locs lsA hP hS hL)
  case bipush n =>
    obtain rfl : len = 2 := by rcases hl with q | q <;> simp [ilen] at q; exact q.symm
    exact lv_bipush hx hb hd (iI_bi h.1) (hk _ _ _ _ h.2 H locs lsA hP hS hL)
  case sipush n =>
    obtain rfl : len = 3 := by rcases hl with q | q <;> simp [ilen] at q; exact q.symm
    exact lv_sipush hx hb hd (iI_si h.1) (hk _ _ _ _ h.2 H locs lsA hP hS hL)
  case lconst n =>
    obtain rfl : len = 1 := by rcases hl with q | q <;> simp [ilen] at q; exact q.symm
    exact lv_lconst hx hb hd (v := iL (n.val : Int)) (by unfold iL; exact (Int64.ofInt_eq_ofNat).symm) (hk _ _ _ _ h H locs lsA hP hS hL)
  case ldc j =>
    obtain rfl : len = 2 := by rcases hl with q | q <;> simp [ilen] at q; exact q.symm
    split at h
    · rename_i z x hc
      exact lv_ldc hx hb hown (hts _ (hcp _ _ hc)) hd (hk _ _ _ _ h H locs lsA hP hS hL)
    · exact h.elim
  case ldc_w j =>
    obtain rfl : len = 3 := by rcases hl with q | q <;> simp [ilen] at q; exact q.symm
    split at h
    · rename_i z x hc
      exact lv_ldcw hx hb hown (hts _ (hcp _ _ hc)) hd (hk _ _ _ _ h H locs lsA hP hS hL)
    · exact h.elim
  case ldc2_w j =>
    obtain rfl : len = 3 := by rcases hl with q | q <;> simp [ilen] at q; exact q.symm
    split at h
    · rename_i z x hc
      exact lv_ldc2 hx hb hown (hts _ (hcp _ _ hc)) hd (hk _ _ _ _ h H locs lsA hP hS hL)
    · exact h.elim
  case iload_n j =>
    obtain rfl : len = 1 := by rcases hl with q | q <;> simp [ilen] at q; exact q.symm
    obtain ⟨z, h1, h2⟩ := ldI_inv h
    exact lv_iload_n hx hb hd rfl (hL.at h1) (hk _ _ _ _ h2 H locs lsA hP hS hL)
  case iload j =>
    obtain rfl : len = 2 := by rcases hl with q | q <;> simp [ilen] at q; exact q.symm
    obtain ⟨z, h1, h2⟩ := ldI_inv h
    exact lv_iload hx hb hd (hL.at h1) (hk _ _ _ _ h2 H locs lsA hP hS hL)
  case aload_n j =>
    obtain rfl : len = 1 := by rcases hl with q | q <;> simp [ilen] at q; exact q.symm
    obtain ⟨z, h1, h2⟩ := ldA_inv h
    exact lv_aload_n hx hb hd rfl (hL.at h1) (hk _ _ _ _ h2 H locs lsA hP hS hL)
  case aload j =>
    obtain rfl : len = 2 := by rcases hl with q | q <;> simp [ilen] at q; exact q.symm
    obtain ⟨z, h1, h2⟩ := ldA_inv h
    exact lv_aload hx hb hd (hL.at h1) (hk _ _ _ _ h2 H locs lsA hP hS hL)
  case lload_n j =>
    obtain rfl : len = 1 := by rcases hl with q | q <;> simp [ilen] at q; exact q.symm
    obtain ⟨z, h1, h2⟩ := ldL_inv h
    exact lv_lload_n hx hb hd rfl (hL.at h1) (hk _ _ _ _ h2 H locs lsA hP hS hL)
  case lload j =>
    obtain rfl : len = 2 := by rcases hl with q | q <;> simp [ilen] at q; exact q.symm
    obtain ⟨z, h1, h2⟩ := ldL_inv h
    exact lv_lload hx hb hd (hL.at h1) (hk _ _ _ _ h2 H locs lsA hP hS hL)
  case istore_n j =>
    obtain rfl : len = 1 := by rcases hl with q | q <;> simp [ilen] at q; exact q.symm
    obtain ⟨z, r, rfl, h1, h2⟩ := stI_inv h
    exact lv_istore_n hx hb hd rfl hL.2 (by rw [← hL.1]; exact h1) rfl (fun lsB hB => hk _ _ _ _ h2 H locs lsB hP hS (hL.put1 (v := .inl z) hB))
  case istore j =>
    obtain rfl : len = 2 := by rcases hl with q | q <;> simp [ilen] at q; exact q.symm
    obtain ⟨z, r, rfl, h1, h2⟩ := stI_inv h
    exact lv_istore hx hb hd hL.2 (by rw [← hL.1]; exact h1) rfl (fun lsB hB => hk _ _ _ _ h2 H locs lsB hP hS (hL.put1 (v := .inl z) hB))
  case astore_n j =>
    obtain rfl : len = 1 := by rcases hl with q | q <;> simp [ilen] at q; exact q.symm
    obtain ⟨z, r, rfl, h1, h2⟩ := stA_inv h
    exact lv_astore_n hx hb hd rfl hL.2 (by rw [← hL.1]; exact h1) rfl (fun lsB hB => hk _ _ _ _ h2 H locs lsB hP hS (hL.put1 (v := .inr (.inl z)) hB))
  case astore j =>
    obtain rfl : len = 2 := by rcases hl with q | q <;> simp [ilen] at q; exact q.symm
    obtain ⟨z, r, rfl, h1, h2⟩ := stA_inv h
    exact lv_astore hx hb hd hL.2 (by rw [← hL.1]; exact h1) rfl (fun lsB hB => hk _ _ _ _ h2 H locs lsB hP hS (hL.put1 (v := .inr (.inl z)) hB))
  case lstore_n j =>
    obtain rfl : len = 1 := by rcases hl with q | q <;> simp [ilen] at q; exact q.symm
    obtain ⟨z, r, rfl, h1, h2⟩ := stL_inv h
    exact lv_lstore_n hx hb hd rfl hL.2 (by rw [← hL.1]; exact h1) rfl (fun lsB hB => hk _ _ _ _ h2 H locs lsB hP hS (hL.put2 (v := .inr (.inr z)) hB))
  case lstore j =>
    obtain rfl : len = 2 := by rcases hl with q | q <;> simp [ilen] at q; exact q.symm
    obtain ⟨z, r, rfl, h1, h2⟩ := stL_inv h
    exact lv_lstore hx hb hd hL.2 (by rw [← hL.1]; exact h1) rfl (fun lsB hB => hk _ _ _ _ h2 H locs lsB hP hS (hL.put2 (v := .inr (.inr z)) hB))
  case iinc j n =>
    obtain rfl : len = 3 := by rcases hl with q | q <;> simp [ilen] at q; exact q.symm
    obtain ⟨z, h1, h2⟩ := ldI_inv h
    obtain ⟨h3, h4⟩ := h2
    have hm := lvp_mem (ad := G.1) ls 0 j _ h1
    rw [Nat.zero_add] at hm
    obtain ⟨q, hq⟩ := List.getElem?_of_mem hm
    exact lv_iinc hx hb hd hL.2 hq (v := iI (z + n)) (by rw [iI_add]; rfl) (by rw [← hL.1]; exact h3) rfl (fun lsB hB => hk _ _ _ _ h4 H locs lsB hP hS (hL.put1 (v := .inl (z + n)) hB))
  case iadd =>
    obtain rfl : len = 1 := by rcases hl with q | q <;> simp [ilen] at q; exact q.symm
    obtain ⟨x, y, r, rfl, h1⟩ := bin_inv h
    have := hk _ _ _ _ h1 H locs lsA hP hS hL
    simp only [List.map_cons, cv, iI_add] at this
    exact lv_iadd hx hb hd this
  case isub =>
    obtain rfl : len = 1 := by rcases hl with q | q <;> simp [ilen] at q; exact q.symm
    obtain ⟨x, y, r, rfl, h1⟩ := bin_inv h
    have := hk _ _ _ _ h1 H locs lsA hP hS hL
    simp only [List.map_cons, cv, iI_sub] at this
    exact lv_isub hx hb hd this
  case imul =>
    obtain rfl : len = 1 := by rcases hl with q | q <;> simp [ilen] at q; exact q.symm
    obtain ⟨x, y, r, rfl, h1⟩ := bin_inv h
    have := hk _ _ _ _ h1 H locs lsA hP hS hL
    simp only [List.map_cons, cv, iI_mul] at this
    exact lv_imul hx hb hd this
  case ishl =>
    obtain rfl : len = 1 := by rcases hl with q | q <;> simp [ilen] at q; exact q.symm
    obtain ⟨x, y, r, rfl, h1⟩ := bin_inv h
    have := hk _ _ _ _ h1 H locs lsA hP hS hL
    simp only [List.map_cons, cv, zshl, iI_of] at this
    exact lv_ishl hx hb hd this
  case ishr =>
    obtain rfl : len = 1 := by rcases hl with q | q <;> simp [ilen] at q; exact q.symm
    obtain ⟨x, y, r, rfl, h1⟩ := bin_inv h
    have := hk _ _ _ _ h1 H locs lsA hP hS hL
    simp only [List.map_cons, cv, zshr, iI_of] at this
    exact lv_ishr hx hb hd this
  case iand =>
    obtain rfl : len = 1 := by rcases hl with q | q <;> simp [ilen] at q; exact q.symm
    obtain ⟨x, y, r, rfl, h1⟩ := bin_inv h
    have := hk _ _ _ _ h1 H locs lsA hP hS hL
    simp only [List.map_cons, cv, zand, iI_of] at this
    exact lv_iand hx hb hd this
  case ior =>
    obtain rfl : len = 1 := by rcases hl with q | q <;> simp [ilen] at q; exact q.symm
    obtain ⟨x, y, r, rfl, h1⟩ := bin_inv h
    have := hk _ _ _ _ h1 H locs lsA hP hS hL
    simp only [List.map_cons, cv, zor, iI_of] at this
    exact lv_ior hx hb hd this
  case ixor =>
    obtain rfl : len = 1 := by rcases hl with q | q <;> simp [ilen] at q; exact q.symm
    obtain ⟨x, y, r, rfl, h1⟩ := bin_inv h
    have := hk _ _ _ _ h1 H locs lsA hP hS hL
    simp only [List.map_cons, cv, zxor, iI_of] at this
    exact lv_ixor hx hb hd this
  case idiv =>
    obtain rfl : len = 1 := by rcases hl with q | q <;> simp [ilen] at q; exact q.symm
    obtain ⟨x, y, r, rfl, r1, r2, n0, h1⟩ := binD_inv h
    have := hk _ _ _ _ h1 H locs lsA hP hS hL
    simp only [List.map_cons, cv] at this
    rw [← iI_div r1 r2] at this
    exact lv_idiv hx hb hd (iI_ne0 r2 n0) this
  case irem =>
    obtain rfl : len = 1 := by rcases hl with q | q <;> simp [ilen] at q; exact q.symm
    obtain ⟨x, y, r, rfl, r1, r2, n0, h1⟩ := binD_inv h
    have := hk _ _ _ _ h1 H locs lsA hP hS hL
    simp only [List.map_cons, cv] at this
    rw [← iI_rem r1 r2] at this
    exact lv_irem hx hb hd (iI_ne0 r2 n0) this
  case ineg =>
    obtain rfl : len = 1 := by rcases hl with q | q <;> simp [ilen] at q; exact q.symm
    obtain ⟨x, r, rfl, h1⟩ := una_inv h
    have := hk _ _ _ _ h1 H locs lsA hP hS hL
    simp only [List.map_cons, cv, iI_neg] at this
    exact lv_ineg hx hb hd this
  case i2b =>
    obtain rfl : len = 1 := by rcases hl with q | q <;> simp [ilen] at q; exact q.symm
    obtain ⟨x, r, rfl, h1⟩ := una_inv h
    have := hk _ _ _ _ h1 H locs lsA hP hS hL
    simp only [List.map_cons, cv, zi2b, iI_of] at this
    exact lv_i2b hx hb hd rfl this
  case i2s =>
    obtain rfl : len = 1 := by rcases hl with q | q <;> simp [ilen] at q; exact q.symm
    obtain ⟨x, r, rfl, h1⟩ := una_inv h
    have := hk _ _ _ _ h1 H locs lsA hP hS hL
    simp only [List.map_cons, cv, zi2s, iI_of] at this
    exact lv_i2s hx hb hd rfl this
  case i2l =>
    obtain rfl : len = 1 := by rcases hl with q | q <;> simp [ilen] at q; exact q.symm
    split at h
    · exact lv_i2l hx hb hd (iI_long h.1) (hk _ _ _ _ h.2 H locs lsA hP hS hL)
    · exact h.elim
  case l2i =>
    obtain rfl : len = 1 := by rcases hl with q | q <;> simp [ilen] at q; exact q.symm
    split at h
    · exact lv_l2i hx hb hd (iL_int _) (hk _ _ _ _ h H locs lsA hP hS hL)
    · exact h.elim
  case ladd =>
    obtain rfl : len = 1 := by rcases hl with q | q <;> simp [ilen] at q; exact q.symm
    obtain ⟨x, y, r, rfl, h1⟩ := binL_inv h
    have := hk _ _ _ _ h1 H locs lsA hP hS hL
    simp only [List.map_cons, cv, iL_add] at this
    exact lv_ladd hx hb hd this
  case lmul =>
    obtain rfl : len = 1 := by rcases hl with q | q <;> simp [ilen] at q; exact q.symm
    obtain ⟨x, y, r, rfl, h1⟩ := binL_inv h
    have := hk _ _ _ _ h1 H locs lsA hP hS hL
    simp only [List.map_cons, cv, iL_mul] at this
    exact lv_lmul hx hb hd this
  case ldiv =>
    obtain rfl : len = 1 := by rcases hl with q | q <;> simp [ilen] at q; exact q.symm
    obtain ⟨x, y, r, rfl, r1, r2, n0, h1⟩ := binDL_inv h
    have := hk _ _ _ _ h1 H locs lsA hP hS hL
    simp only [List.map_cons, cv] at this
    rw [← iL_div r1 r2] at this
    exact lv_ldiv hx hb hd (iL_ne0 r2 n0) this
  case lrem =>
    obtain rfl : len = 1 := by rcases hl with q | q <;> simp [ilen] at q; exact q.symm
    obtain ⟨x, y, r, rfl, r1, r2, n0, h1⟩ := binDL_inv h
    have := hk _ _ _ _ h1 H locs lsA hP hS hL
    simp only [List.map_cons, cv] at this
    rw [← iL_rem r1 r2] at this
    exact lv_lrem hx hb hd (iL_ne0 r2 n0) this
  case lcmp =>
    obtain rfl : len = 1 := by rcases hl with q | q <;> simp [ilen] at q; exact q.symm
    split at h
    · rename_i y x r
      obtain ⟨r1, r2, h1⟩ := h
      have := hk _ _ _ _ h1 H locs lsA hP hS hL
      have e1 : iI (lcmpZ x y) = lg_cmp (iL x) (iL y) := by
        unfold lcmpZ lg_cmp
        by_cases q1 : y < x
        · rw [if_pos q1, if_pos (show iL x > iL y from (iL_lt r2 r1).mpr q1)]; decide +kernel
        · rw [if_neg q1, if_neg (show ¬ iL x > iL y from fun z => q1 ((iL_lt r2 r1).mp z))]
          by_cases q2 : x = y
          · rw [if_pos q2, if_pos ((iL_eq r1 r2).mpr q2)]; decide +kernel
          · rw [if_neg q2, if_neg (fun z => q2 ((iL_eq r1 r2).mp z))]; decide +kernel
      simp only [List.map_cons, cv, e1] at this
      exact W.lcmp hx hb hd this
    · exact h.elim
  case dup =>
    obtain rfl : len = 1 := by rcases hl with q | q <;> simp [ilen] at q; exact q.symm
    split at h
    · exact lv_dup hx hb hd rfl (hk _ _ _ _ h H locs lsA hP hS hL)
    · exact lv_dup hx hb hd rfl (hk _ _ _ _ h H locs lsA hP hS hL)
    · exact h.elim
  case pop =>
    obtain rfl : len = 1 := by rcases hl with q | q <;> simp [ilen] at q; exact q.symm
    split at h
    · exact lv_pop hx hb hd rfl (hk _ _ _ _ h H locs lsA hP hS hL)
    · exact lv_pop hx hb hd rfl (hk _ _ _ _ h H locs lsA hP hS hL)
    · exact h.elim
  case dup2 =>
    obtain rfl : len = 1 := by rcases hl with q | q <;> simp [ilen] at q; exact q.symm
    split at h
    · exact lv_dup2_11 hx hb hd rfl rfl (hk _ _ _ _ h H locs lsA hP hS hL)
    · exact h.elim
  case goto o =>
    obtain rfl : len = 3 := by rcases hl with q | q <;> simp [ilen] at q; exact q.symm
    obtain ⟨t, e1, h1⟩ := tg _ _ h
    exact lv_goto hx hb hd e1 (hk _ _ _ _ h1 H locs lsA hP hS hL)
  case ifCond cd o =>
    obtain rfl : len = 3 := by rcases hl with q | q <;> simp [ilen] at q; exact q.symm
    split at h
    · rename_i x r
      obtain ⟨r1, h0, h1, h2⟩ := h
      have ht : (pc : Int) + o = ((((pc : Int) + o).toNat : Nat) : Int) := (Int.toNat_of_nonneg h0).symm
      have kt : cndZ cd x 0 → W p l e R s m args below meth c H locs cells slots Qf (F0 m ((pc : Int) + o).toNat lsA (r.map (cv G.1))) := fun q => hk _ _ _ _ (h1 q) H locs lsA hP hS hL
      have kf : ¬ cndZ cd x 0 → W p l e R s m args below meth c H locs cells slots Qf (F0 m (pc + 3) lsA (r.map (cv G.1))) := fun q => hk _ _ _ _ (h2 q) H locs lsA hP hS hL
      have eq0 : iI x = 0 ↔ x = 0 := by rw [← iI_0]; exact iI_eq r1 R32_0
      have lt0 : iI x < 0 ↔ x < 0 := by rw [← iI_0]; exact iI_lt r1 R32_0
      have le0 : iI x ≤ 0 ↔ x ≤ 0 := by rw [← iI_0]; exact iI_le r1 R32_0
      have gt0 : 0 < iI x ↔ 0 < x := by rw [← iI_0]; exact iI_lt R32_0 r1
      have ge0 : 0 ≤ iI x ↔ 0 ≤ x := by rw [← iI_0]; exact iI_le R32_0 r1
      cases cd
      · exact lv_if_eq hx hb hd ht (fun q => kt (eq0.mp q)) (fun q => kf (fun z => q (eq0.mpr z)))
      · exact lv_if_ne hx hb hd ht (fun q => kt (fun z => q (eq0.mpr z))) (fun q => kf (fun z => z (eq0.mp q)))
      · exact lv_if_lt hx hb hd ht (fun q => kt (lt0.mp q)) (fun q => kf (fun z => q (lt0.mpr z)))
      · exact lv_if_ge hx hb hd ht (fun q => kt (ge0.mp q)) (fun q => kf (fun z => q (ge0.mpr z)))
      · exact lv_if_gt hx hb hd ht (fun q => kt (gt0.mp q)) (fun q => kf (fun z => q (gt0.mpr z)))
      · exact lv_if_le hx hb hd ht (fun q => kt (le0.mp q)) (fun q => kf (fun z => q (le0.mpr z)))
    · exact h.elim
  case if_icmp cd o =>
    obtain rfl : len = 3 := by rcases hl with q | q <;> simp [ilen] at q; exact q.symm
    split at h
    · rename_i y x r
      obtain ⟨r1, r2, h0, h1, h2⟩ := h
      have ht : (pc : Int) + o = ((((pc : Int) + o).toNat : Nat) : Int) := (Int.toNat_of_nonneg h0).symm
      have kt : cndZ cd x y → W p l e R s m args below meth c H locs cells slots Qf (F0 m ((pc : Int) + o).toNat lsA (r.map (cv G.1))) := fun q => hk _ _ _ _ (h1 q) H locs lsA hP hS hL
      have kf : ¬ cndZ cd x y → W p l e R s m args below meth c H locs cells slots Qf (F0 m (pc + 3) lsA (r.map (cv G.1))) := fun q => hk _ _ _ _ (h2 q) H locs lsA hP hS hL
      have eq0 := iI_eq r1 r2
      have lt0 := iI_lt r1 r2
      have le0 := iI_le r1 r2
      have gt0 := iI_lt r2 r1
      have ge0 := iI_le r2 r1
      cases cd
      · exact lv_icmp_eq hx hb hd ht (fun q => kt (eq0.mp q)) (fun q => kf (fun z => q (eq0.mpr z)))
      · exact lv_icmp_ne hx hb hd ht (fun q => kt (fun z => q (eq0.mpr z))) (fun q => kf (fun z => z (eq0.mp q)))
      · exact lv_icmp_lt hx hb hd ht (fun q => kt (lt0.mp q)) (fun q => kf (fun z => q (lt0.mpr z)))
      · exact lv_icmp_ge hx hb hd ht (fun q => kt (ge0.mp q)) (fun q => kf (fun z => q (ge0.mpr z)))
      · exact lv_icmp_gt hx hb hd ht (fun q => kt (gt0.mp q)) (fun q => kf (fun z => q (gt0.mpr z)))
      · exact lv_icmp_le hx hb hd ht (fun q => kt (le0.mp q)) (fun q => kf (fun z => q (le0.mpr z)))
    · exact h.elim
  case tableswitch d lo hi os =>
    split at h
    · rename_i x r
      obtain ⟨r1, hsz, h1, h2⟩ := h
      have ex : (iI x).toInt = x := iI_toInt r1
      by_cases q : x < lo ∨ hi < x
      · obtain ⟨t, e1, h3⟩ := tg _ _ (h1 q)
        exact lv_tableOut hx hb hd (by rw [ex]; exact q) e1 (hk _ _ _ _ h3 H locs lsA hP hS hL)
      · have g1 : lo ≤ x := by omega
        have g2 : x ≤ hi := by omega
        have hlt : (x - lo).toNat < os.toList.length := by
          rw [Array.length_toList]
          omega
        obtain ⟨o, ho⟩ : ∃ o, os.toList[(x - lo).toNat]? = some o := ⟨_, List.getElem?_eq_getElem hlt⟩
        obtain ⟨t, e1, h3⟩ := tg _ _ (tsw_in os.toList lo (x - lo).toNat h2 (by omega) o ho)
        exact lv_tableIn hx hb hd (by rw [ex]; omega) (by rw [ex]; omega) (by rw [ex, ← Array.getElem?_toList]; exact ho) e1 (hk _ _ _ _ h3 H locs lsA hP hS hL)
    · exact h.elim
  case lookupswitch d ps =>
    split at h
    · rename_i x r
      obtain ⟨r1, hsz, h2⟩ := h
      have ex : (iI x).toInt = x := iI_toInt r1
      obtain ⟨t, e1, h3⟩ := tg _ _ (lsw_in ps.toList h2)
      exact lv_lookup hx hb hd hsz (by rw [ex]) e1 (hk _ _ _ _ h3 H locs lsA hP hS hL)
    · exact h.elim
  case getfield j =>
    obtain rfl : len = 3 := by rcases hl with q | q <;> simp [ilen] at q; exact q.symm
    obtain ⟨ci, f, pl, r, v, he, rfl, hp, hg, h1⟩ := gfX_inv h
    obtain ⟨z, b, hz, rfl⟩ := cpF_inv he
    obtain ⟨s1, s2, o, s3, s4⟩ := gfV_inv hg
    obtain ⟨C, T, N, hc, hkN, hin, hw⟩ : ∃ (C : String) (T : u_T) (N : Nat), vwCl[z.toNat]? = some (C, T, N) ∧ f < N ∧ (∀ w ∈ u_ws C T N, w ∈ gtb) ∧ Cond.fieldLink own j (T f).1 (T f).2.1 (T f).2.2.1 ∈ gtb := by
      rcases hz with hz | hz
      · exact hcp _ _ hz
      · obtain ⟨C, T, N, ty, a1, a2, a3, a4, -⟩ := hcp _ _ hz
        exact ⟨C, T, N, a1, a2, a3, a4⟩
    have he2 : (gw G σ)[pl]? = some (G.1 pl, .inr (z.toNat, ceV G.1 (σ pl) 0 (SH pl).2.2)) := by
      rw [gw_get hp, ce_obj s1, s2]
    have hv : (ceV G.1 (σ pl) 0 (SH pl).2.2)[f]? = some (cv G.1 v) := by
      rw [ceV_get, s3, s4]
      cases o <;> simp [cv]
    exact va_get hx hb hts hin hown hK.1 hP pl he2 hc f hkN (hts _ hw) (fun _ h9 => h9) hv hd (hk _ _ _ _ h1 H locs lsA hP hS hL)
  case putfield j =>
    obtain rfl : len = 3 := by rcases hl with q | q <;> simp [ilen] at q; exact q.symm
    obtain ⟨ci, f, b, v, pl, r, he, rfl, hp, hg, hb01, h1⟩ := pfX_inv h
    obtain ⟨z, hz, rfl⟩ := cpP_inv he
    obtain ⟨s1, s2, s3⟩ := pfV_inv hg
    obtain ⟨C, T, N, ty, hc, hkN, hin, hw, hty, hnm, hfin, hpd⟩ := hcp _ _ hz
    have he2 : (gw G σ)[pl]? = some (G.1 pl, .inr (z.toNat, ceV G.1 (σ pl) 0 (SH pl).2.2)) := by
      rw [gw_get hp, ce_obj s1, s2]
    have hset' : (gw G σ).set pl (G.1 pl, .inr (z.toNat, (ceV G.1 (σ pl) 0 (SH pl).2.2).set f (.int (iI v)))) = gw G (hset σ pl f v) :=
      gw_set hp (fun q hq => hset_ne hq) (by rw [hset_obj s1 s3, s2])
    have hnf : narrow (if b = true then FieldType.boolean else FieldType.int) (.int (iI v)) = .int (iI v) ∧ fits (if b = true then FieldType.boolean else FieldType.int) (.int (iI v)) = true := by
      cases b
      · exact ⟨rfl, rfl⟩
      · exact (iI_01 (hb01 rfl)).2
    refine va_put (ws := gw G σ) (v := .int (iI v)) hx hb hts hin ty hty hnm hown hK.1 hP (hD σ) hS pl he2 hc f hkN (hts _ hw) (fun _ h9 => h9) hfin hpd hnf.1 hnf.2 (by rw [ceV_len]; exact rnth_lt _ _ _ s3) hd (fun H1 locs1 hP1 hD1 hS1 => ?_)
    rw [hset'] at hP1
    exact hk _ _ _ _ h1 H1 locs1 lsA hP1 hS1 hL
  case getstatic j =>
    obtain rfl : len = 3 := by rcases hl with q | q <;> simp [ilen] at q; exact q.symm
    split at h
    · rename_i x pl y hc
      have hkk := hk _ _ _ _ h H locs lsA hP hS hL
      obtain ⟨z1, z2, z3⟩ := hK.2.2.1
      rcases hcp _ _ hc with ⟨rfl, hw⟩ | ⟨rfl, hw⟩ | ⟨rfl, hw⟩
      · exact va_gets hx hb z1 hS hown (hts _ hw) (fun _ h9 => h9) hd hkk
      · exact va_gets hx hb z2 hS hown (hts _ hw) (fun _ h9 => h9) hd hkk
      · exact va_gets hx hb z3 hS hown (hts _ hw) (fun _ h9 => h9) hd hkk
    · exact h.elim
  case iaload =>
    obtain rfl : len = 1 := by rcases hl with q | q <;> simp [ilen] at q; exact q.symm
    split at h
    · rename_i i pl r
      rcases acV_inv h with ⟨s1, b1, b2, h1⟩ | ⟨s1, n, f, hr, b1, b2, h1⟩
      · have hp : pl < 76 := SH_lt (by rw [s1]; decide)
        obtain ⟨i1, i2⟩ := iI_in b1 b2 (SH_small pl)
        have hkk := hk _ _ _ _ h1 H locs lsA hP hS hL
        rw [← i2] at hkk
        exact va_iald (f := fun j => iI (σ pl j)) hx hb hK.1 hP pl 0 (by rw [gw_get hp, ce_int s1]) rfl i1 hd hkk
      · obtain ⟨g1, g2, g3, g4⟩ := hK.2.2.2.1 _ _ _ hr
        obtain ⟨i1, i2⟩ := iI_in b1 b2 g4
        have hkk := hk _ _ _ _ h1 H locs lsA hP hS hL
        rw [← i2] at hkk
        exact va_sld (xs := fun j => iI (f j)) hx hb g1 g2 g3 hS i1 hd hkk
    · exact h.elim
  case laload =>
    obtain rfl : len = 1 := by rcases hl with q | q <;> simp [ilen] at q; exact q.symm
    split at h
    · rename_i i pl r
      obtain ⟨hp, s1, b1, b2, h1⟩ := h
      obtain ⟨i1, i2⟩ := iI_in b1 b2 (SH_small pl)
      have hkk := hk _ _ _ _ h1 H locs lsA hP hS hL
      rw [← i2] at hkk
      exact va_lald (f := fun j => iL (σ pl j)) hx hb hK.1 hP pl 1 (by rw [gw_get hp, ce_long s1]) rfl i1 hd hkk
    · exact h.elim
  case baload =>
    obtain rfl : len = 1 := by rcases hl with q | q <;> simp [ilen] at q; exact q.symm
    split at h
    · rename_i i pl r
      obtain ⟨hp, s1, b1, b2, h1⟩ := h
      obtain ⟨i1, i2⟩ := iI_in b1 b2 (SH_small pl)
      have hkk := hk _ _ _ _ h1 H locs lsA hP hS hL
      rw [← i2] at hkk
      exact va_zald (f := fun j => iI (σ pl j)) hx hb hK.1 hP pl 2 (by rw [gw_get hp, ce_bool s1]) rfl i1 hd hkk
    · exact h.elim
  case aaload =>
    obtain rfl : len = 1 := by rcases hl with q | q <;> simp [ilen] at q; exact q.symm
    split at h
    · rename_i i pl r
      obtain ⟨hp, s1, b1, b2, h1⟩ := h
      obtain ⟨i1, i2⟩ := iI_in b1 b2 (SH_small pl)
      split at h1
      · rename_i q hq
        have hkk := hk _ _ _ _ h1 H locs lsA hP hS hL
        refine va_aldq (f := fun j => ((SH pl).2.2.getD j none).map G.1) hx hb hK.1 hP pl 3 (by rw [gw_get hp, ce_refs s1]) rfl i1 hd ?_
        rw [i2, rnth_getD _ _ _ hq]
        exact hkk
      · exact h1.elim
    · exact h.elim
  case iastore =>
    obtain rfl : len = 1 := by rcases hl with q | q <;> simp [ilen] at q; exact q.symm
    split at h
    · rename_i v i pl r
      obtain ⟨hp, s1, b1, b2, h1⟩ := h
      obtain ⟨i1, i2⟩ := iI_in b1 b2 (SH_small pl)
      refine va_iast (f := fun j => iI (σ pl j)) hx hb hK.1 hP (hD σ) hS pl 0 (by rw [gw_get hp, ce_int s1]) rfl i1 hd (fun H1 locs1 hP1 hD1 hS1 => ?_)
      rw [i2, gw_set hp (fun q hq => hset_ne hq) (hset_arr (Or.inl s1) _ _ (ce_int s1))] at hP1
      exact hk _ _ _ _ h1 H1 locs1 lsA hP1 hS1 hL
    · exact h.elim
  case lastore =>
    obtain rfl : len = 1 := by rcases hl with q | q <;> simp [ilen] at q; exact q.symm
    split at h
    · rename_i v i pl r
      obtain ⟨hp, s1, b1, b2, h1⟩ := h
      obtain ⟨i1, i2⟩ := iI_in b1 b2 (SH_small pl)
      refine va_last (f := fun j => iL (σ pl j)) hx hb hK.1 hP (hD σ) hS pl 1 (by rw [gw_get hp, ce_long s1]) rfl i1 hd (fun H1 locs1 hP1 hD1 hS1 => ?_)
      rw [i2, gw_set hp (fun q hq => hset_ne hq) (hset_long s1)] at hP1
      exact hk _ _ _ _ h1 H1 locs1 lsA hP1 hS1 hL
    · exact h.elim
  case bastore =>
    obtain rfl : len = 1 := by rcases hl with q | q <;> simp [ilen] at q; exact q.symm
    split at h
    · rename_i v i pl r
      obtain ⟨hp, h01, s1, b1, b2, h1⟩ := h
      obtain ⟨i1, i2⟩ := iI_in b1 b2 (SH_small pl)
      refine va_zast (f := fun j => iI (σ pl j)) hx hb hK.1 hP (hD σ) hS pl 2 (by rw [gw_get hp, ce_bool s1]) rfl i1 hd (fun H1 locs1 hP1 hD1 hS1 => ?_)
      rw [i2, (iI_01 h01).1, gw_set hp (fun q hq => hset_ne hq) (hset_arr (Or.inr s1) _ _ (ce_bool s1))] at hP1
      exact hk _ _ _ _ h1 H1 locs1 lsA hP1 hS1 hL
    · exact h.elim
  case arraylength =>
    obtain rfl : len = 1 := by rcases hl with q | q <;> simp [ilen] at q; exact q.symm
    split at h
    · rename_i pl r
      split at h
      · rename_i n f hr
        obtain ⟨g1, g2, g3, g4⟩ := hK.2.2.2.1 _ _ _ hr
        have hkk := hk _ _ _ _ h H locs lsA hP hS hL
        have e1 : Int32.ofNat n = iI (n : Int) := by unfold iI; exact (Int32.ofInt_eq_ofNat).symm
        refine va_slen (xs := fun j => iI (f j)) hx hb g1 g2 g3 hS hd ?_
        rw [e1]
        exact hkk
      · exact h.elim
    · exact h.elim
  case ireturn =>
    obtain rfl : len = 1 := by rcases hl with q | q <;> simp [ilen] at q; exact q.symm
    split at h
    · exact (hret pc σ H locs lsA hP hS).1 _ hd h.1 h.2
    · exact h.elim
  case lreturn =>
    obtain rfl : len = 1 := by rcases hl with q | q <;> simp [ilen] at q; exact q.symm
    split at h
    · exact (hret pc σ H locs lsA hP hS).2.1 _ hd h.1 h.2
    · exact h.elim
  case areturn =>
    obtain rfl : len = 1 := by rcases hl with q | q <;> simp [ilen] at q; exact q.symm
    split at h
    · exact (hret pc σ H locs lsA hP hS).2.2.1 _ hd h.1 h.2
    · exact h.elim
  case return_ =>
    obtain rfl : len = 1 := by rcases hl with q | q <;> simp [ilen] at q; exact q.symm
    split at h
    · exact (hret pc σ H locs lsA hP hS).2.2.2 hd h.1 h.2
    · exact h.elim
  case invokestatic j =>
    obtain rfl : len = 3 := by rcases hl with q | q <;> simp [ilen] at q; exact q.symm
    split at h
    · rename_i x hc
      obtain ⟨w1, w2, w3, w4⟩ := hcp _ _ hc
      obtain ⟨n, dp, b, sp, a, r, rfl, ha, hb', s1, s2, hr, n1, n2, n3, n4, n5, h1⟩ := acpy_inv h
      have z1 := SH_small a
      have z2 := SH_small b
      obtain ⟨u1, u2⟩ := iI_nn n1 (by omega)
      obtain ⟨u3, u4⟩ := iI_nn n2 (by omega)
      obtain ⟨u5, u6⟩ := iI_nn n3 (by omega)
      have hcat := cat_le G.1 r
      refine va_copyi (f := fun j => iI (σ a j)) (g := fun j => iI (σ b j)) (ty := .int) hx hb (hml.trans hL.2.1.symm) hown (hts _ w1) (hts _ w2) (hts _ w3) (hts _ w4) hK.1 hP (hD σ) hS a b 0 0 (by rw [gw_get ha, ce_int s1]) (by rw [gw_get hb', ce_int s2]) rfl rfl rfl u1 u3 u5 (by rw [u2, u6]; omega) (by rw [u4, u6]; omega) (fun _ _ => rfl) hR1 (by
        have : nativeFrameWords "java/lang/System" "arraycopy" 5 = 7 := by decide +kernel
        rw [this]
        omega) hd (fun H1 locs1 hP1 hD1 hS1 => ?_)
      rw [u2, u4, u6, gw_set hb' (fun q hq => hcpy_ne hq) (hcpy_ce s2)] at hP1
      exact hk _ _ _ _ h1 H1 locs1 lsA hP1 hS1 hL
    · obtain ⟨n, S, hm, hn, hlen, hsp⟩ := inv_inv h
      obtain ⟨n', y, bc, mL, rt, f1, f2, f3, f4, f5, g1⟩ := hmT _ _ hm
      rcases g1 with ⟨g0, -⟩ | ⟨-, g2, g3, g4, g5⟩
      · cases g0
      · have hM := g5 _ _ _ hsp G
        have hst : st.map (cv G.1) = (((st.take n).reverse).map (cv G.1)).reverse ++ (st.drop n).map (cv G.1) := by
          rw [← List.map_reverse, List.reverse_reverse, ← List.map_append, List.take_append_drop]
        have hcat := cat_le G.1 (st.drop n)
        have hpre : PreS s H (Pc0 G (st.take n).reverse σ) (((st.take n).reverse).map (cv G.1)) := ⟨Pc0.blind, fun U hU hW => ⟨rfl, by rw [hU]; exact hP, by rw [hU]; exact KNs.move hK hW hS.1 hS.2.1 hAo hro⟩⟩
        have hlen2 : (((st.take n).reverse).map (cv G.1)).length = n := by simp; omega
        have hrun : va_Run p l e R s m args below meth c H locs cells slots 0 0 (F0 m pc lsA (st.map (cv G.1))) ((st.drop n).map (cv G.1)) (Qc0 G (fun r σ' => k (pc + 3) ls (r.toList ++ st.drop n) σ') ((((st.take n).reverse).map (cv G.1)).toArray)) (Aof G) := by
          rcases g4 with g4 | ⟨rfl, g4⟩
          · exact va_runS (nL := nL) ⟨hx, hb, hml, hown, hts⟩ hM (va_cwS n hts (goodIn_gtb (fun w hw => by
              simp only [va_wsS, List.cons_append, List.nil_append, List.mem_cons] at hw
              rcases hw with rfl | rfl | rfl | rfl | hw
              · exact g4
              · exact g3
              · exact f4
              · exact f3
              · exact hw)) rfl rfl rfl ⟨f5.1, f5.2, g2⟩ ⟨f1, f2⟩) hpre rfl hlen2 hL.2.1 hst (lv_room (by omega)) hd ⟨hR3, hR4⟩
          · have hN : va_Nw (.methodLinkNest RX6 j y RX7) s := by
              rcases g4 with ⟨rfl, rfl⟩ | ⟨rfl, rfl⟩
              · exact hK.2.2.2.2.1
              · exact hK.2.2.2.2.2
            exact va_runSN (nL := nL) ⟨hx, hb, hml, hown, hts⟩ hM ⟨va_cnB n hts (goodIn_gtb (fun w hw => by
              rcases List.mem_cons.mp hw with rfl | hw
              · exact f3
              · exact hw)) rfl rfl rfl hN (hts _ f4) ⟨f5.1, f5.2, g2⟩ ⟨f1, f2⟩, hts _ g3, trivial⟩ hpre rfl hlen2 hL.2.1 hst (lv_room (by omega)) hd ⟨hR3, hR4⟩
        refine aw_run hrun hS hAo (fun r σ' H1 locs1 hq hP1 hS1 => ?_)
        have := hk _ _ _ _ hq H1 locs1 lsA hP1 hS1 hL
        rw [List.map_append, show (r.toList).map (cv G.1) = (r.map (cv G.1)).toList by cases r <;> rfl] at this
        exact this
  case invokevirtual j =>
    obtain rfl : len = 3 := by rcases hl with q | q <;> simp [ilen] at q; exact q.symm
    obtain ⟨n, S, hm, hn, hlen, hsp⟩ := inv_inv h
    obtain ⟨n', y, bc, mL, rt, f1, f2, f3, f4, f5, g1⟩ := hmT _ _ hm
    rcases g1 with ⟨-, g2, g3, g4, g5, ci, T, N, g6, g7⟩ | ⟨g0, -⟩
    · obtain ⟨⟨pl, r0, e1, hp, s1, s2⟩, hAM⟩ := g7 _ _ _ hsp
      have hM := hAM G
      rw [e1] at hM
      have htk : st.take n = r0.reverse ++ [.inr (.inl pl)] := by
        have := congrArg List.reverse e1
        rw [List.reverse_reverse] at this
        rw [this]
        simp
      have hst : st.map (cv G.1) = (r0.map (cv G.1)).reverse ++ .ref (G.1 pl) :: (st.drop n).map (cv G.1) := by
        conv => lhs; rw [← List.take_append_drop n st, htk]
        simp [cv]
      have hcat := cat_le G.1 (st.drop n)
      have hln : r0.length + 1 = n := by
        have := congrArg List.length htk
        simp at this
        omega
      have g2' : (parseMethodDescriptor y.desc).map (fun d => d.parameters.length) = some r0.length := by
        cases hy : parseMethodDescriptor y.desc with
        | none => rw [hy] at g2; simp at g2
        | some d =>
          rw [hy] at g2
          simp only [Option.map_some, Option.some.injEq] at g2 ⊢
          omega
      have he2 : (gw G σ)[pl]? = some (G.1 pl, .inr (ci, ceV G.1 (σ pl) 0 (SH pl).2.2)) := by
        rw [gw_get hp, ce_obj s1, s2]
      have hpre : PreV s H y.cls (G.1 pl) (Pc0 G (.inr (.inl pl) :: r0) σ) (r0.map (cv G.1)) := ⟨Pc0.blind, va_recv hK.1 hP g6 he2, fun U hU hW => ⟨rfl, by rw [hU]; exact hP, by rw [hU]; exact KNs.move hK hW hS.1 hS.2.1 hAo hro⟩⟩
      have hrun : va_Run p l e R s m args below meth c H locs cells slots 0 0 (F0 m pc lsA (st.map (cv G.1))) ((st.drop n).map (cv G.1)) (Qc0 G (fun r σ' => k (pc + 3) ls (r.toList ++ st.drop n) σ') ((Value.ref (G.1 pl) :: r0.map (cv G.1)).toArray)) (Aof G) :=
        va_runV (nL := nL) ⟨hx, hb, hml, hown, hts⟩ hM (cwV r0.length hts (goodIn_gtb (fun w hw => by
          simp only [wsV, List.cons_append, List.nil_append, List.mem_cons] at hw
          rcases hw with rfl | rfl | rfl | rfl | rfl | hw
          · exact g3
          · exact g4
          · exact g5
          · exact f4
          · exact f3
          · exact hw)) rfl rfl rfl ⟨rfl, f5.1, f5.2, g2'⟩ ⟨f1, f2⟩) hpre rfl (by simp) hL.2.1 hst (lv_room (by omega)) hd ⟨hR3, hR4⟩
      refine aw_run hrun hS hAo (fun r σ' H1 locs1 hq hP1 hS1 => ?_)
      have := hk _ _ _ _ hq H1 locs1 lsA hP1 hS1 hL
      rw [List.map_append, show (r.toList).map (cv G.1) = (r.map (cv G.1)).toList by cases r <;> rfl] at this
      exact this
    · cases g0
end STP
end
section
/-! ===== a method out of its abstract walk ===== -/
section WPS
variable {p : Program} {l : Launch} {e : Env} {R : Room} {s : State} {m : MethodId} {args : Array Value} {below : List Frame} {meth : Method} {c : Code} {cells slots : Nat}
variable {A : Nat → Prop} {Qf : State → Prop} {nL : Nat} {G : GT} {cc : ByteArray} {own : String} {cp : Nat → Option CE} {mT : Nat → Option (Nat × Bool × MSpec)} {ro : RO} {rk : Nat} {RT : Option AV → HP → Prop}
theorem wp_sound (C : CX p l R s m args c cells slots A cc own nL G cp mT ro) (hret : RTK p l e R s m args below meth c cells slots A Qf G cc rk RT) (stop : Nat → Bool) : ∀ (n pc : Nat) (ls : LSt) (st : List AV) (σ : HP), wp cc cp mT ro rk RT (AW p l e R s m args below meth c cells slots A Qf nL G) stop n pc ls st σ → AW p l e R s m args below meth c cells slots A Qf nL G pc ls st σ
  | 0, pc, ls, st, σ, h => h
  | n + 1, pc, ls, st, σ, h => by
    simp only [wp] at h
    split at h
    · rename_i i len hd
      refine stp_sound C hret ?_ hd h.1 h.2
      intro pc' ls' st' σ' h'
      by_cases q : stop pc' = true
      · simp only [q, if_true] at h'
        exact h'
      · simp only [q] at h'
        exact wp_sound C hret stop n pc' ls' st' σ' h'
    · exact h.elim
end WPS
def nones : Nat → LSt
  | 0 => []
  | n + 1 => none :: nones n
def entL : Nat → List AV → LSt
  | n, [] => nones n
  | n, .inl z :: r => some (.inl z) :: entL (n - 1) r
  | n, .inr (.inl z) :: r => some (.inr (.inl z)) :: entL (n - 1) r
  | n, .inr (.inr z) :: r => some (.inr (.inr z)) :: none :: entL (n - 2) r
def wid : List AV → Nat
  | [] => 0
  | .inl _ :: r => 1 + wid r
  | .inr (.inl _) :: r => 1 + wid r
  | .inr (.inr _) :: r => 2 + wid r
theorem nones_len : ∀ n, (nones n).length = n
  | 0 => rfl
  | n + 1 => congrArg Nat.succ (nones_len n)
theorem nones_lvp (ad : Nat → Nat) : ∀ n k, lvp ad k (nones n) = []
  | 0, k => rfl
  | n + 1, k => nones_lvp ad n (k + 1)
theorem entL_len : ∀ (a : List AV) (n : Nat), wid a ≤ n → (entL n a).length = n
  | [], n, h => nones_len n
  | .inl z :: r, n, h => by
    have := entL_len r (n - 1) (by simp only [wid] at h; omega)
    simp only [entL, List.length_cons, this]
    simp only [wid] at h
    omega
  | .inr (.inl z) :: r, n, h => by
    have := entL_len r (n - 1) (by simp only [wid] at h; omega)
    simp only [entL, List.length_cons, this]
    simp only [wid] at h
    omega
  | .inr (.inr z) :: r, n, h => by
    have := entL_len r (n - 2) (by simp only [wid] at h; omega)
    simp only [entL, List.length_cons, this]
    simp only [wid] at h
    omega
theorem entL_lvp (ad : Nat → Nat) : ∀ (a : List AV) (n k : Nat), lvp ad k (entL n a) = lv_args k (a.map (cv ad))
  | [], n, k => nones_lvp ad n k
  | .inl z :: r, n, k => by
    have := entL_lvp ad r (n - 1) (k + 1)
    simp only [entL, lvp, List.map_cons, lv_args, this]
    rfl
  | .inr (.inl z) :: r, n, k => by
    have := entL_lvp ad r (n - 1) (k + 1)
    simp only [entL, lvp, List.map_cons, lv_args, this]
    rfl
  | .inr (.inr z) :: r, n, k => by
    have := entL_lvp ad r (n - 2) (k + 2)
    simp only [entL, lvp, List.map_cons, lv_args]
    rw [show k + 1 + 1 = k + 2 by omega, this]
    rfl
theorem wid_sl (ad : Nat → Nat) : ∀ (a : List AV), (lg_sl (a.map (cv ad))).length = wid a
  | [] => rfl
  | .inl z :: r => by
    have := wid_sl ad r
    simp only [lg_sl, List.map_cons, List.flatMap_cons, List.length_append] at this ⊢
    rw [this]
    rfl
  | .inr (.inl z) :: r => by
    have := wid_sl ad r
    simp only [lg_sl, List.map_cons, List.flatMap_cons, List.length_append] at this ⊢
    rw [this]
    rfl
  | .inr (.inr z) :: r => by
    have := wid_sl ad r
    simp only [lg_sl, List.map_cons, List.flatMap_cons, List.length_append] at this ⊢
    rw [this]
    rfl
def rkOK (rk : Nat) (rt : Option FieldType) : Prop := match rk with
  | 0 => rt = none
  | 1 => rt = some .int
  | 2 => rt = some .boolean
  | 3 => rt = some .long
  | 4 => ∃ n, rt = some (.object n)
  | _ => False
def SND (cc : ByteArray) (cp : Nat → Option CE) (mT : Nat → Option (Nat × Bool × MSpec)) (ro : RO) (rk : Nat) (RT : Option AV → HP → Prop) (K : KT) : Prop := ∀ (stop : Nat → Bool) (n pc : Nat) (ls : LSt) (st : List AV) (σ : HP), wp cc cp mT ro rk RT K stop n pc ls st σ → K pc ls st σ
theorem am_of {l : Launch} {n : Nat} {y : MethodName} {cc : ByteArray} {nL : Nat} {rt : Option FieldType} {a : List AV} {σ : HP} {Q : Option AV → HP → Prop} (rk : Nat) (cp : Nat → Option CE) (mT : Nat → Option (Nat × Bool × MSpec)) (hy : plainName y.cls = true) (hrk : rkOK rk rt) (hw : wid a ≤ nL) (hcp : ∀ i e, cp i = some e → cpV y.cls i e) (hmT : ∀ i e, mT i = some e → mV l (rmOf n) y.cls i e)
    (h : ∀ K : KT, SND cc cp mT roS rk Q K → K 0 (entL nL a) [] σ) : AM l n y cc nL rt a σ Q := by
  intro G
  refine Met.ofW (cc := cc) (maxL := nL) (ret := rt) hy rfl ?_
  intro p e s m args below meth c s₁ B hml hv
  obtain ⟨rfl, hP, hK⟩ := hv
  have hx := B.exec
  have hb := B.bytes
  have hr := B.returns
  have hts := atoms_spec (ws := Cond.code y cc nL rt :: gtb) B.pre
  have hown : s.vm.findClass y.cls = some m.cls := findClass_of_methodNamed B.named
  have hlocks := B.notSynchronized
  have C : CX p l (rmOf n) s m ((a.map (cv G.1)).toArray) c 0 0 (Aof G) cc y.cls nL G cp mT roS := ⟨hx, hb, hml, hown, fun w hw => hts w (List.mem_cons_of_mem _ hw), ⟨by show 1 ≤ n + 1; omega, by show 60 ≤ 60 * (n + 1); omega, Nat.le_refl _, Nat.le_refl _⟩, hK, fun k hk => ⟨k, hk, rfl⟩, fun _ _ _ h => h, hcp, hmT⟩
  have hret : RTK p l e (rmOf n) s m ((a.map (cv G.1)).toArray) below meth c 0 0 (Aof G) (MQ below (Qc0 G Q) ((a.map (cv G.1)).toArray) s 0 0 (Aof G)) G cc rk Q := by
    intro pc σ H locs lsA hP hS
    refine ⟨fun v hd hk hq => ?_, fun v hd hk hq => ?_, fun v hd hk hq => ?_, fun hd hk hq => ?_⟩
    · rcases hk with rfl | ⟨rfl, h01⟩
      · have hr' : meth.sig.returnType = some .int := by rw [hr]; exact hrk
        exact W.iret hx hb hr' (fun t ht hW => ⟨some (.inl v), σ, rfl, hq, by rw [ht]; exact hP, hS.F ht⟩) hS.2.2 hd
      · have hr' : meth.sig.returnType = some .boolean := by rw [hr]; exact hrk
        exact W.zret hx hb hr' (iI_01 h01).2.1 (fun t ht hW => ⟨some (.inl v), σ, rfl, hq, by rw [ht]; exact hP, hS.F ht⟩) hS.2.2 hd
    · subst hk
      have hr' : meth.sig.returnType = some .long := by rw [hr]; exact hrk
      exact W.lret hx hb hr' (fun t ht hW => ⟨some (.inr (.inr v)), σ, rfl, hq, by rw [ht]; exact hP, hS.F ht⟩) hS.2.2 hd
    · subst hk
      obtain ⟨nm, hnm⟩ := hrk
      have hr' : meth.sig.returnType = some (.object nm) := by rw [hr]; exact hnm
      exact W.aret hx hb hr' (Or.inl ⟨nm, rfl⟩) (Or.inr ⟨_, rfl⟩) (fun t ht hW => ⟨some (.inr (.inl v)), σ, rfl, hq, by rw [ht]; exact hP, hS.F ht⟩) hS.2.2 hd
    · subst hk
      have hr' : meth.sig.returnType = none := by rw [hr]; exact hrk
      exact W.vret hx hb hr' (fun t ht hW => ⟨none, σ, rfl, hq, by rw [ht]; exact hP, hS.F ht⟩) hS.2.2 hd
  have K0 := h (AW p l e (rmOf n) s m ((a.map (cv G.1)).toArray) below meth c 0 0 (Aof G) (MQ below (Qc0 G Q) ((a.map (cv G.1)).toArray) s 0 0 (Aof G)) nL G) (fun stop k pc ls st σ hh => wp_sound C hret stop k pc ls st σ hh)
  rw [lg_entry_eq]
  have hl := lv_entry (a.map (cv G.1)) (n := nL) (by rw [wid_sl]; exact hw)
  exact K0 s.heap [] _ hP va_S.rf ⟨entL_len a nL hw, by rw [entL_lvp]; exact hl⟩
end
section
/-! decode rows, printed by program -/
theorem dX0_init_0 : decode cX0_init 0 = .ok (.aload_n 0, 1) := by decide +kernel
theorem dX0_init_1 : decode cX0_init 1 = .ok (.invokespecial 1, 3) := by decide +kernel
theorem dX0_init_4 : decode cX0_init 4 = .ok (.aload_n 0, 1) := by decide +kernel
theorem dX0_init_5 : decode cX0_init 5 = .ok (.iconst 0, 1) := by decide +kernel
theorem dX0_init_6 : decode cX0_init 6 = .ok (.putfield 7, 3) := by decide +kernel
theorem dX0_init_9 : decode cX0_init 9 = .ok (.aload_n 0, 1) := by decide +kernel
theorem dX0_init_10 : decode cX0_init 10 = .ok (.bipush 16, 2) := by decide +kernel
theorem dX0_init_12 : decode cX0_init 12 = .ok (.newarray .int, 2) := by decide +kernel
theorem dX0_init_14 : decode cX0_init 14 = .ok (.putfield 13, 3) := by decide +kernel
theorem dX0_init_17 : decode cX0_init 17 = .ok (.aload_n 0, 1) := by decide +kernel
theorem dX0_init_18 : decode cX0_init 18 = .ok (.bipush 16, 2) := by decide +kernel
theorem dX0_init_20 : decode cX0_init 20 = .ok (.newarray .int, 2) := by decide +kernel
theorem dX0_init_22 : decode cX0_init 22 = .ok (.putfield 17, 3) := by decide +kernel
theorem dX0_init_25 : decode cX0_init 25 = .ok (.aload_n 0, 1) := by decide +kernel
theorem dX0_init_26 : decode cX0_init 26 = .ok (.bipush 16, 2) := by decide +kernel
theorem dX0_init_28 : decode cX0_init 28 = .ok (.newarray .int, 2) := by decide +kernel
theorem dX0_init_30 : decode cX0_init 30 = .ok (.putfield 20, 3) := by decide +kernel
theorem dX0_init_33 : decode cX0_init 33 = .ok (.return_, 1) := by decide +kernel
theorem dX0_forgetAll_0 : decode cX0_forgetAll 0 = .ok (.aload_n 0, 1) := by decide +kernel
theorem dX0_forgetAll_1 : decode cX0_forgetAll 1 = .ok (.iconst 0, 1) := by decide +kernel
theorem dX0_forgetAll_2 : decode cX0_forgetAll 2 = .ok (.putfield 7, 3) := by decide +kernel
theorem dX0_forgetAll_5 : decode cX0_forgetAll 5 = .ok (.return_, 1) := by decide +kernel
theorem dX0_keep_0 : decode cX0_keep 0 = .ok (.aload_n 0, 1) := by decide +kernel
theorem dX0_keep_1 : decode cX0_keep 1 = .ok (.getfield 7, 3) := by decide +kernel
theorem dX0_keep_4 : decode cX0_keep 4 = .ok (.bipush 16, 2) := by decide +kernel
theorem dX0_keep_6 : decode cX0_keep 6 = .ok (.if_icmp .lt 7, 3) := by decide +kernel
theorem dX0_keep_9 : decode cX0_keep 9 = .ok (.aload_n 0, 1) := by decide +kernel
theorem dX0_keep_10 : decode cX0_keep 10 = .ok (.invokevirtual 23, 3) := by decide +kernel
theorem dX0_keep_13 : decode cX0_keep 13 = .ok (.aload_n 0, 1) := by decide +kernel
theorem dX0_keep_14 : decode cX0_keep 14 = .ok (.getfield 13, 3) := by decide +kernel
theorem dX0_keep_17 : decode cX0_keep 17 = .ok (.aload_n 0, 1) := by decide +kernel
theorem dX0_keep_18 : decode cX0_keep 18 = .ok (.getfield 7, 3) := by decide +kernel
theorem dX0_keep_21 : decode cX0_keep 21 = .ok (.iload_n 1, 1) := by decide +kernel
theorem dX0_keep_22 : decode cX0_keep 22 = .ok (.iastore, 1) := by decide +kernel
theorem dX0_keep_23 : decode cX0_keep 23 = .ok (.aload_n 0, 1) := by decide +kernel
theorem dX0_keep_24 : decode cX0_keep 24 = .ok (.getfield 17, 3) := by decide +kernel
theorem dX0_keep_27 : decode cX0_keep 27 = .ok (.aload_n 0, 1) := by decide +kernel
theorem dX0_keep_28 : decode cX0_keep 28 = .ok (.getfield 7, 3) := by decide +kernel
theorem dX0_keep_31 : decode cX0_keep 31 = .ok (.iload_n 2, 1) := by decide +kernel
theorem dX0_keep_32 : decode cX0_keep 32 = .ok (.iastore, 1) := by decide +kernel
theorem dX0_keep_33 : decode cX0_keep 33 = .ok (.aload_n 0, 1) := by decide +kernel
theorem dX0_keep_34 : decode cX0_keep 34 = .ok (.getfield 20, 3) := by decide +kernel
theorem dX0_keep_37 : decode cX0_keep 37 = .ok (.aload_n 0, 1) := by decide +kernel
theorem dX0_keep_38 : decode cX0_keep 38 = .ok (.getfield 7, 3) := by decide +kernel
theorem dX0_keep_41 : decode cX0_keep 41 = .ok (.iload_n 3, 1) := by decide +kernel
theorem dX0_keep_42 : decode cX0_keep 42 = .ok (.iastore, 1) := by decide +kernel
theorem dX0_keep_43 : decode cX0_keep 43 = .ok (.aload_n 0, 1) := by decide +kernel
theorem dX0_keep_44 : decode cX0_keep 44 = .ok (.dup, 1) := by decide +kernel
theorem dX0_keep_45 : decode cX0_keep 45 = .ok (.getfield 7, 3) := by decide +kernel
theorem dX0_keep_48 : decode cX0_keep 48 = .ok (.iconst 1, 1) := by decide +kernel
theorem dX0_keep_49 : decode cX0_keep 49 = .ok (.iadd, 1) := by decide +kernel
theorem dX0_keep_50 : decode cX0_keep 50 = .ok (.putfield 7, 3) := by decide +kernel
theorem dX0_keep_53 : decode cX0_keep 53 = .ok (.return_, 1) := by decide +kernel
theorem dX0_forgetOldest_0 : decode cX0_forgetOldest 0 = .ok (.aload_n 0, 1) := by decide +kernel
theorem dX0_forgetOldest_1 : decode cX0_forgetOldest 1 = .ok (.getfield 13, 3) := by decide +kernel
theorem dX0_forgetOldest_4 : decode cX0_forgetOldest 4 = .ok (.iconst 1, 1) := by decide +kernel
theorem dX0_forgetOldest_5 : decode cX0_forgetOldest 5 = .ok (.aload_n 0, 1) := by decide +kernel
theorem dX0_forgetOldest_6 : decode cX0_forgetOldest 6 = .ok (.getfield 13, 3) := by decide +kernel
theorem dX0_forgetOldest_9 : decode cX0_forgetOldest 9 = .ok (.iconst 0, 1) := by decide +kernel
theorem dX0_forgetOldest_10 : decode cX0_forgetOldest 10 = .ok (.bipush 15, 2) := by decide +kernel
theorem dX0_forgetOldest_12 : decode cX0_forgetOldest 12 = .ok (.invokestatic 26, 3) := by decide +kernel
theorem dX0_forgetOldest_15 : decode cX0_forgetOldest 15 = .ok (.aload_n 0, 1) := by decide +kernel
theorem dX0_forgetOldest_16 : decode cX0_forgetOldest 16 = .ok (.getfield 17, 3) := by decide +kernel
theorem dX0_forgetOldest_19 : decode cX0_forgetOldest 19 = .ok (.iconst 1, 1) := by decide +kernel
theorem dX0_forgetOldest_20 : decode cX0_forgetOldest 20 = .ok (.aload_n 0, 1) := by decide +kernel
theorem dX0_forgetOldest_21 : decode cX0_forgetOldest 21 = .ok (.getfield 17, 3) := by decide +kernel
theorem dX0_forgetOldest_24 : decode cX0_forgetOldest 24 = .ok (.iconst 0, 1) := by decide +kernel
theorem dX0_forgetOldest_25 : decode cX0_forgetOldest 25 = .ok (.bipush 15, 2) := by decide +kernel
theorem dX0_forgetOldest_27 : decode cX0_forgetOldest 27 = .ok (.invokestatic 26, 3) := by decide +kernel
theorem dX0_forgetOldest_30 : decode cX0_forgetOldest 30 = .ok (.aload_n 0, 1) := by decide +kernel
theorem dX0_forgetOldest_31 : decode cX0_forgetOldest 31 = .ok (.getfield 20, 3) := by decide +kernel
theorem dX0_forgetOldest_34 : decode cX0_forgetOldest 34 = .ok (.iconst 1, 1) := by decide +kernel
theorem dX0_forgetOldest_35 : decode cX0_forgetOldest 35 = .ok (.aload_n 0, 1) := by decide +kernel
theorem dX0_forgetOldest_36 : decode cX0_forgetOldest 36 = .ok (.getfield 20, 3) := by decide +kernel
theorem dX0_forgetOldest_39 : decode cX0_forgetOldest 39 = .ok (.iconst 0, 1) := by decide +kernel
theorem dX0_forgetOldest_40 : decode cX0_forgetOldest 40 = .ok (.bipush 15, 2) := by decide +kernel
theorem dX0_forgetOldest_42 : decode cX0_forgetOldest 42 = .ok (.invokestatic 26, 3) := by decide +kernel
theorem dX0_forgetOldest_45 : decode cX0_forgetOldest 45 = .ok (.aload_n 0, 1) := by decide +kernel
theorem dX0_forgetOldest_46 : decode cX0_forgetOldest 46 = .ok (.bipush 15, 2) := by decide +kernel
theorem dX0_forgetOldest_48 : decode cX0_forgetOldest 48 = .ok (.putfield 7, 3) := by decide +kernel
theorem dX0_forgetOldest_51 : decode cX0_forgetOldest 51 = .ok (.return_, 1) := by decide +kernel
theorem dX0_takeBack_0 : decode cX0_takeBack 0 = .ok (.aload_n 0, 1) := by decide +kernel
theorem dX0_takeBack_1 : decode cX0_takeBack 1 = .ok (.getfield 7, 3) := by decide +kernel
theorem dX0_takeBack_4 : decode cX0_takeBack 4 = .ok (.ifCond .gt 4, 3) := by decide +kernel
theorem dX0_takeBack_7 : decode cX0_takeBack 7 = .ok (.return_, 1) := by decide +kernel
theorem dX0_takeBack_8 : decode cX0_takeBack 8 = .ok (.aload_n 0, 1) := by decide +kernel
theorem dX0_takeBack_9 : decode cX0_takeBack 9 = .ok (.dup, 1) := by decide +kernel
theorem dX0_takeBack_10 : decode cX0_takeBack 10 = .ok (.getfield 7, 3) := by decide +kernel
theorem dX0_takeBack_13 : decode cX0_takeBack 13 = .ok (.iconst 1, 1) := by decide +kernel
theorem dX0_takeBack_14 : decode cX0_takeBack 14 = .ok (.isub, 1) := by decide +kernel
theorem dX0_takeBack_15 : decode cX0_takeBack 15 = .ok (.putfield 7, 3) := by decide +kernel
theorem dX0_takeBack_18 : decode cX0_takeBack 18 = .ok (.aload_n 0, 1) := by decide +kernel
theorem dX0_takeBack_19 : decode cX0_takeBack 19 = .ok (.getfield 17, 3) := by decide +kernel
theorem dX0_takeBack_22 : decode cX0_takeBack 22 = .ok (.aload_n 0, 1) := by decide +kernel
theorem dX0_takeBack_23 : decode cX0_takeBack 23 = .ok (.getfield 7, 3) := by decide +kernel
theorem dX0_takeBack_26 : decode cX0_takeBack 26 = .ok (.iaload, 1) := by decide +kernel
theorem dX0_takeBack_27 : decode cX0_takeBack 27 = .ok (.istore_n 2, 1) := by decide +kernel
theorem dX0_takeBack_28 : decode cX0_takeBack 28 = .ok (.aload_n 0, 1) := by decide +kernel
theorem dX0_takeBack_29 : decode cX0_takeBack 29 = .ok (.getfield 20, 3) := by decide +kernel
theorem dX0_takeBack_32 : decode cX0_takeBack 32 = .ok (.aload_n 0, 1) := by decide +kernel
theorem dX0_takeBack_33 : decode cX0_takeBack 33 = .ok (.getfield 7, 3) := by decide +kernel
theorem dX0_takeBack_36 : decode cX0_takeBack 36 = .ok (.iaload, 1) := by decide +kernel
theorem dX0_takeBack_37 : decode cX0_takeBack 37 = .ok (.istore_n 3, 1) := by decide +kernel
theorem dX0_takeBack_38 : decode cX0_takeBack 38 = .ok (.aload_n 0, 1) := by decide +kernel
theorem dX0_takeBack_39 : decode cX0_takeBack 39 = .ok (.getfield 13, 3) := by decide +kernel
theorem dX0_takeBack_42 : decode cX0_takeBack 42 = .ok (.aload_n 0, 1) := by decide +kernel
theorem dX0_takeBack_43 : decode cX0_takeBack 43 = .ok (.getfield 7, 3) := by decide +kernel
theorem dX0_takeBack_46 : decode cX0_takeBack 46 = .ok (.iaload, 1) := by decide +kernel
theorem dX0_takeBack_47 : decode cX0_takeBack 47 = .ok (.tableswitch 53 0 2 #[25, 35, 45], 25) := by decide +kernel
theorem dX0_takeBack_72 : decode cX0_takeBack 72 = .ok (.aload_n 1, 1) := by decide +kernel
theorem dX0_takeBack_73 : decode cX0_takeBack 73 = .ok (.getfield 32, 3) := by decide +kernel
theorem dX0_takeBack_76 : decode cX0_takeBack 76 = .ok (.iload_n 2, 1) := by decide +kernel
theorem dX0_takeBack_77 : decode cX0_takeBack 77 = .ok (.iload_n 3, 1) := by decide +kernel
theorem dX0_takeBack_78 : decode cX0_takeBack 78 = .ok (.iastore, 1) := by decide +kernel
theorem dX0_takeBack_79 : decode cX0_takeBack 79 = .ok (.goto 27, 3) := by decide +kernel
theorem dX0_takeBack_82 : decode cX0_takeBack 82 = .ok (.aload_n 1, 1) := by decide +kernel
theorem dX0_takeBack_83 : decode cX0_takeBack 83 = .ok (.getfield 37, 3) := by decide +kernel
theorem dX0_takeBack_86 : decode cX0_takeBack 86 = .ok (.iload_n 2, 1) := by decide +kernel
theorem dX0_takeBack_87 : decode cX0_takeBack 87 = .ok (.iload_n 3, 1) := by decide +kernel
theorem dX0_takeBack_88 : decode cX0_takeBack 88 = .ok (.iastore, 1) := by decide +kernel
theorem dX0_takeBack_89 : decode cX0_takeBack 89 = .ok (.goto 17, 3) := by decide +kernel
theorem dX0_takeBack_92 : decode cX0_takeBack 92 = .ok (.aload_n 1, 1) := by decide +kernel
theorem dX0_takeBack_93 : decode cX0_takeBack 93 = .ok (.iload_n 3, 1) := by decide +kernel
theorem dX0_takeBack_94 : decode cX0_takeBack 94 = .ok (.putfield 40, 3) := by decide +kernel
theorem dX0_takeBack_97 : decode cX0_takeBack 97 = .ok (.goto 9, 3) := by decide +kernel
theorem dX0_takeBack_100 : decode cX0_takeBack 100 = .ok (.aload_n 1, 1) := by decide +kernel
theorem dX0_takeBack_101 : decode cX0_takeBack 101 = .ok (.iload_n 3, 1) := by decide +kernel
theorem dX0_takeBack_102 : decode cX0_takeBack 102 = .ok (.ineg, 1) := by decide +kernel
theorem dX0_takeBack_103 : decode cX0_takeBack 103 = .ok (.invokevirtual 43, 3) := by decide +kernel
theorem dX0_takeBack_106 : decode cX0_takeBack 106 = .ok (.return_, 1) := by decide +kernel
theorem dX1_init_0 : decode cX1_init 0 = .ok (.aload_n 0, 1) := by decide +kernel
theorem dX1_init_1 : decode cX1_init 1 = .ok (.invokespecial 1, 3) := by decide +kernel
theorem dX1_init_4 : decode cX1_init 4 = .ok (.aload_n 0, 1) := by decide +kernel
theorem dX1_init_5 : decode cX1_init 5 = .ok (.iconst 0, 1) := by decide +kernel
theorem dX1_init_6 : decode cX1_init 6 = .ok (.putfield 7, 3) := by decide +kernel
theorem dX1_init_9 : decode cX1_init 9 = .ok (.aload_n 0, 1) := by decide +kernel
theorem dX1_init_10 : decode cX1_init 10 = .ok (.bipush 16, 2) := by decide +kernel
theorem dX1_init_12 : decode cX1_init 12 = .ok (.newarray .int, 2) := by decide +kernel
theorem dX1_init_14 : decode cX1_init 14 = .ok (.putfield 13, 3) := by decide +kernel
theorem dX1_init_17 : decode cX1_init 17 = .ok (.aload_n 0, 1) := by decide +kernel
theorem dX1_init_18 : decode cX1_init 18 = .ok (.iconst 0, 1) := by decide +kernel
theorem dX1_init_19 : decode cX1_init 19 = .ok (.putfield 17, 3) := by decide +kernel
theorem dX1_init_22 : decode cX1_init 22 = .ok (.aload_n 0, 1) := by decide +kernel
theorem dX1_init_23 : decode cX1_init 23 = .ok (.iconst 0, 1) := by decide +kernel
theorem dX1_init_24 : decode cX1_init 24 = .ok (.putfield 20, 3) := by decide +kernel
theorem dX1_init_27 : decode cX1_init 27 = .ok (.aload_n 0, 1) := by decide +kernel
theorem dX1_init_28 : decode cX1_init 28 = .ok (.iconst 0, 1) := by decide +kernel
theorem dX1_init_29 : decode cX1_init 29 = .ok (.putfield 23, 3) := by decide +kernel
theorem dX1_init_32 : decode cX1_init 32 = .ok (.aload_n 0, 1) := by decide +kernel
theorem dX1_init_33 : decode cX1_init 33 = .ok (.iconst 0, 1) := by decide +kernel
theorem dX1_init_34 : decode cX1_init 34 = .ok (.putfield 26, 3) := by decide +kernel
theorem dX1_init_37 : decode cX1_init 37 = .ok (.return_, 1) := by decide +kernel
theorem dX1_isOne_0 : decode cX1_isOne 0 = .ok (.iload_n 1, 1) := by decide +kernel
theorem dX1_isOne_1 : decode cX1_isOne 1 = .ok (.ifCond .eq 17, 3) := by decide +kernel
theorem dX1_isOne_4 : decode cX1_isOne 4 = .ok (.iload_n 1, 1) := by decide +kernel
theorem dX1_isOne_5 : decode cX1_isOne 5 = .ok (.iload_n 0, 1) := by decide +kernel
theorem dX1_isOne_6 : decode cX1_isOne 6 = .ok (.if_icmp .eq 12, 3) := by decide +kernel
theorem dX1_isOne_9 : decode cX1_isOne 9 = .ok (.iload_n 1, 1) := by decide +kernel
theorem dX1_isOne_10 : decode cX1_isOne 10 = .ok (.getstatic 29, 3) := by decide +kernel
theorem dX1_isOne_13 : decode cX1_isOne 13 = .ok (.iload_n 0, 1) := by decide +kernel
theorem dX1_isOne_14 : decode cX1_isOne 14 = .ok (.iaload, 1) := by decide +kernel
theorem dX1_isOne_15 : decode cX1_isOne 15 = .ok (.if_icmp .ne 7, 3) := by decide +kernel
theorem dX1_isOne_18 : decode cX1_isOne 18 = .ok (.iconst 1, 1) := by decide +kernel
theorem dX1_isOne_19 : decode cX1_isOne 19 = .ok (.goto 4, 3) := by decide +kernel
theorem dX1_isOne_22 : decode cX1_isOne 22 = .ok (.iconst 0, 1) := by decide +kernel
theorem dX1_isOne_23 : decode cX1_isOne 23 = .ok (.ireturn, 1) := by decide +kernel
theorem dX1_begin_0 : decode cX1_begin 0 = .ok (.aload_n 0, 1) := by decide +kernel
theorem dX1_begin_1 : decode cX1_begin 1 = .ok (.iload_n 2, 1) := by decide +kernel
theorem dX1_begin_2 : decode cX1_begin 2 = .ok (.putfield 17, 3) := by decide +kernel
theorem dX1_begin_5 : decode cX1_begin 5 = .ok (.aload_n 0, 1) := by decide +kernel
theorem dX1_begin_6 : decode cX1_begin 6 = .ok (.iload_n 3, 1) := by decide +kernel
theorem dX1_begin_7 : decode cX1_begin 7 = .ok (.putfield 20, 3) := by decide +kernel
theorem dX1_begin_10 : decode cX1_begin 10 = .ok (.aload_n 0, 1) := by decide +kernel
theorem dX1_begin_11 : decode cX1_begin 11 = .ok (.iload 4, 2) := by decide +kernel
theorem dX1_begin_13 : decode cX1_begin 13 = .ok (.putfield 23, 3) := by decide +kernel
theorem dX1_begin_16 : decode cX1_begin 16 = .ok (.aload_n 0, 1) := by decide +kernel
theorem dX1_begin_17 : decode cX1_begin 17 = .ok (.iload 5, 2) := by decide +kernel
theorem dX1_begin_19 : decode cX1_begin 19 = .ok (.putfield 26, 3) := by decide +kernel
theorem dX1_begin_22 : decode cX1_begin 22 = .ok (.aload_n 0, 1) := by decide +kernel
theorem dX1_begin_23 : decode cX1_begin 23 = .ok (.iconst 0, 1) := by decide +kernel
theorem dX1_begin_24 : decode cX1_begin 24 = .ok (.putfield 7, 3) := by decide +kernel
theorem dX1_begin_27 : decode cX1_begin 27 = .ok (.aload_n 0, 1) := by decide +kernel
theorem dX1_begin_28 : decode cX1_begin 28 = .ok (.iload_n 1, 1) := by decide +kernel
theorem dX1_begin_29 : decode cX1_begin 29 = .ok (.ifCond .ne 11, 3) := by decide +kernel
theorem dX1_begin_32 : decode cX1_begin 32 = .ok (.getstatic 32, 3) := by decide +kernel
theorem dX1_begin_35 : decode cX1_begin 35 = .ok (.iload_n 2, 1) := by decide +kernel
theorem dX1_begin_36 : decode cX1_begin 36 = .ok (.iaload, 1) := by decide +kernel
theorem dX1_begin_37 : decode cX1_begin 37 = .ok (.goto 8, 3) := by decide +kernel
theorem dX1_begin_40 : decode cX1_begin 40 = .ok (.getstatic 35, 3) := by decide +kernel
theorem dX1_begin_43 : decode cX1_begin 43 = .ok (.iload_n 2, 1) := by decide +kernel
theorem dX1_begin_44 : decode cX1_begin 44 = .ok (.iaload, 1) := by decide +kernel
theorem dX1_begin_45 : decode cX1_begin 45 = .ok (.iconst 0, 1) := by decide +kernel
theorem dX1_begin_46 : decode cX1_begin 46 = .ok (.invokevirtual 38, 3) := by decide +kernel
theorem dX1_begin_49 : decode cX1_begin 49 = .ok (.ireturn, 1) := by decide +kernel
theorem dX1_run_0 : decode cX1_run 0 = .ok (.iload_n 2, 1) := by decide +kernel
theorem dX1_run_1 : decode cX1_run 1 = .ok (.bipush 8, 2) := by decide +kernel
theorem dX1_run_3 : decode cX1_run 3 = .ok (.if_icmp .le 5, 3) := by decide +kernel
theorem dX1_run_6 : decode cX1_run 6 = .ok (.iconst 0, 1) := by decide +kernel
theorem dX1_run_7 : decode cX1_run 7 = .ok (.ireturn, 1) := by decide +kernel
theorem dX1_run_8 : decode cX1_run 8 = .ok (.aload_n 0, 1) := by decide +kernel
theorem dX1_run_9 : decode cX1_run 9 = .ok (.iload_n 1, 1) := by decide +kernel
theorem dX1_run_10 : decode cX1_run 10 = .ok (.invokevirtual 42, 3) := by decide +kernel
theorem dX1_run_13 : decode cX1_run 13 = .ok (.iload_n 2, 1) := by decide +kernel
theorem dX1_run_14 : decode cX1_run 14 = .ok (.iconst 1, 1) := by decide +kernel
theorem dX1_run_15 : decode cX1_run 15 = .ok (.iadd, 1) := by decide +kernel
theorem dX1_run_16 : decode cX1_run 16 = .ok (.istore_n 3, 1) := by decide +kernel
theorem dX1_run_17 : decode cX1_run 17 = .ok (.iload_n 1, 1) := by decide +kernel
theorem dX1_run_18 : decode cX1_run 18 = .ok (.tableswitch 179 10 23 #[70, 75, 97, 106, 117, 179, 179, 179, 179, 179, 127, 132, 145, 157], 70) := by decide +kernel
theorem dX1_run_88 : decode cX1_run 88 = .ok (.aload_n 0, 1) := by decide +kernel
theorem dX1_run_89 : decode cX1_run 89 = .ok (.getfield 23, 3) := by decide +kernel
theorem dX1_run_92 : decode cX1_run 92 = .ok (.ireturn, 1) := by decide +kernel
theorem dX1_run_93 : decode cX1_run 93 = .ok (.aload_n 0, 1) := by decide +kernel
theorem dX1_run_94 : decode cX1_run 94 = .ok (.bipush 10, 2) := by decide +kernel
theorem dX1_run_96 : decode cX1_run 96 = .ok (.iload_n 3, 1) := by decide +kernel
theorem dX1_run_97 : decode cX1_run 97 = .ok (.invokevirtual 38, 3) := by decide +kernel
theorem dX1_run_100 : decode cX1_run 100 = .ok (.aload_n 0, 1) := by decide +kernel
theorem dX1_run_101 : decode cX1_run 101 = .ok (.getstatic 35, 3) := by decide +kernel
theorem dX1_run_104 : decode cX1_run 104 = .ok (.aload_n 0, 1) := by decide +kernel
theorem dX1_run_105 : decode cX1_run 105 = .ok (.getfield 17, 3) := by decide +kernel
theorem dX1_run_108 : decode cX1_run 108 = .ok (.iaload, 1) := by decide +kernel
theorem dX1_run_109 : decode cX1_run 109 = .ok (.iload_n 3, 1) := by decide +kernel
theorem dX1_run_110 : decode cX1_run 110 = .ok (.invokevirtual 38, 3) := by decide +kernel
theorem dX1_run_113 : decode cX1_run 113 = .ok (.iadd, 1) := by decide +kernel
theorem dX1_run_114 : decode cX1_run 114 = .ok (.ireturn, 1) := by decide +kernel
theorem dX1_run_115 : decode cX1_run 115 = .ok (.aload_n 0, 1) := by decide +kernel
theorem dX1_run_116 : decode cX1_run 116 = .ok (.bipush 11, 2) := by decide +kernel
theorem dX1_run_118 : decode cX1_run 118 = .ok (.iload_n 3, 1) := by decide +kernel
theorem dX1_run_119 : decode cX1_run 119 = .ok (.invokevirtual 38, 3) := by decide +kernel
theorem dX1_run_122 : decode cX1_run 122 = .ok (.ineg, 1) := by decide +kernel
theorem dX1_run_123 : decode cX1_run 123 = .ok (.ireturn, 1) := by decide +kernel
theorem dX1_run_124 : decode cX1_run 124 = .ok (.aload_n 0, 1) := by decide +kernel
theorem dX1_run_125 : decode cX1_run 125 = .ok (.bipush 10, 2) := by decide +kernel
theorem dX1_run_127 : decode cX1_run 127 = .ok (.iload_n 3, 1) := by decide +kernel
theorem dX1_run_128 : decode cX1_run 128 = .ok (.invokevirtual 38, 3) := by decide +kernel
theorem dX1_run_131 : decode cX1_run 131 = .ok (.bipush 100, 2) := by decide +kernel
theorem dX1_run_133 : decode cX1_run 133 = .ok (.isub, 1) := by decide +kernel
theorem dX1_run_134 : decode cX1_run 134 = .ok (.ireturn, 1) := by decide +kernel
theorem dX1_run_135 : decode cX1_run 135 = .ok (.iconst 2, 1) := by decide +kernel
theorem dX1_run_136 : decode cX1_run 136 = .ok (.aload_n 0, 1) := by decide +kernel
theorem dX1_run_137 : decode cX1_run 137 = .ok (.bipush 13, 2) := by decide +kernel
theorem dX1_run_139 : decode cX1_run 139 = .ok (.iload_n 3, 1) := by decide +kernel
theorem dX1_run_140 : decode cX1_run 140 = .ok (.invokevirtual 38, 3) := by decide +kernel
theorem dX1_run_143 : decode cX1_run 143 = .ok (.imul, 1) := by decide +kernel
theorem dX1_run_144 : decode cX1_run 144 = .ok (.ireturn, 1) := by decide +kernel
theorem dX1_run_145 : decode cX1_run 145 = .ok (.aload_n 0, 1) := by decide +kernel
theorem dX1_run_146 : decode cX1_run 146 = .ok (.getfield 20, 3) := by decide +kernel
theorem dX1_run_149 : decode cX1_run 149 = .ok (.ireturn, 1) := by decide +kernel
theorem dX1_run_150 : decode cX1_run 150 = .ok (.aload_n 0, 1) := by decide +kernel
theorem dX1_run_151 : decode cX1_run 151 = .ok (.bipush 20, 2) := by decide +kernel
theorem dX1_run_153 : decode cX1_run 153 = .ok (.iload_n 3, 1) := by decide +kernel
theorem dX1_run_154 : decode cX1_run 154 = .ok (.invokevirtual 38, 3) := by decide +kernel
theorem dX1_run_157 : decode cX1_run 157 = .ok (.aload_n 0, 1) := by decide +kernel
theorem dX1_run_158 : decode cX1_run 158 = .ok (.getfield 26, 3) := by decide +kernel
theorem dX1_run_161 : decode cX1_run 161 = .ok (.iadd, 1) := by decide +kernel
theorem dX1_run_162 : decode cX1_run 162 = .ok (.ireturn, 1) := by decide +kernel
theorem dX1_run_163 : decode cX1_run 163 = .ok (.aload_n 0, 1) := by decide +kernel
theorem dX1_run_164 : decode cX1_run 164 = .ok (.bipush 21, 2) := by decide +kernel
theorem dX1_run_166 : decode cX1_run 166 = .ok (.iload_n 3, 1) := by decide +kernel
theorem dX1_run_167 : decode cX1_run 167 = .ok (.invokevirtual 38, 3) := by decide +kernel
theorem dX1_run_170 : decode cX1_run 170 = .ok (.sipush 1000, 3) := by decide +kernel
theorem dX1_run_173 : decode cX1_run 173 = .ok (.isub, 1) := by decide +kernel
theorem dX1_run_174 : decode cX1_run 174 = .ok (.ireturn, 1) := by decide +kernel
theorem dX1_run_175 : decode cX1_run 175 = .ok (.aload_n 0, 1) := by decide +kernel
theorem dX1_run_176 : decode cX1_run 176 = .ok (.bipush 20, 2) := by decide +kernel
theorem dX1_run_178 : decode cX1_run 178 = .ok (.iload_n 3, 1) := by decide +kernel
theorem dX1_run_179 : decode cX1_run 179 = .ok (.invokevirtual 38, 3) := by decide +kernel
theorem dX1_run_182 : decode cX1_run 182 = .ok (.aload_n 0, 1) := by decide +kernel
theorem dX1_run_183 : decode cX1_run 183 = .ok (.getstatic 32, 3) := by decide +kernel
theorem dX1_run_186 : decode cX1_run 186 = .ok (.aload_n 0, 1) := by decide +kernel
theorem dX1_run_187 : decode cX1_run 187 = .ok (.getfield 17, 3) := by decide +kernel
theorem dX1_run_190 : decode cX1_run 190 = .ok (.iaload, 1) := by decide +kernel
theorem dX1_run_191 : decode cX1_run 191 = .ok (.iload_n 3, 1) := by decide +kernel
theorem dX1_run_192 : decode cX1_run 192 = .ok (.invokevirtual 38, 3) := by decide +kernel
theorem dX1_run_195 : decode cX1_run 195 = .ok (.isub, 1) := by decide +kernel
theorem dX1_run_196 : decode cX1_run 196 = .ok (.ireturn, 1) := by decide +kernel
theorem dX1_run_197 : decode cX1_run 197 = .ok (.iconst 2, 1) := by decide +kernel
theorem dX1_run_198 : decode cX1_run 198 = .ok (.aload_n 0, 1) := by decide +kernel
theorem dX1_run_199 : decode cX1_run 199 = .ok (.bipush 21, 2) := by decide +kernel
theorem dX1_run_201 : decode cX1_run 201 = .ok (.iload_n 3, 1) := by decide +kernel
theorem dX1_run_202 : decode cX1_run 202 = .ok (.invokevirtual 38, 3) := by decide +kernel
theorem dX1_run_205 : decode cX1_run 205 = .ok (.imul, 1) := by decide +kernel
theorem dX1_run_206 : decode cX1_run 206 = .ok (.ireturn, 1) := by decide +kernel
theorem dX1_leave_0 : decode cX1_leave 0 = .ok (.aload_n 0, 1) := by decide +kernel
theorem dX1_leave_1 : decode cX1_leave 1 = .ok (.getfield 7, 3) := by decide +kernel
theorem dX1_leave_4 : decode cX1_leave 4 = .ok (.bipush 16, 2) := by decide +kernel
theorem dX1_leave_6 : decode cX1_leave 6 = .ok (.if_icmp .ge 23, 3) := by decide +kernel
theorem dX1_leave_9 : decode cX1_leave 9 = .ok (.aload_n 0, 1) := by decide +kernel
theorem dX1_leave_10 : decode cX1_leave 10 = .ok (.getfield 13, 3) := by decide +kernel
theorem dX1_leave_13 : decode cX1_leave 13 = .ok (.aload_n 0, 1) := by decide +kernel
theorem dX1_leave_14 : decode cX1_leave 14 = .ok (.getfield 7, 3) := by decide +kernel
theorem dX1_leave_17 : decode cX1_leave 17 = .ok (.iload_n 1, 1) := by decide +kernel
theorem dX1_leave_18 : decode cX1_leave 18 = .ok (.iastore, 1) := by decide +kernel
theorem dX1_leave_19 : decode cX1_leave 19 = .ok (.aload_n 0, 1) := by decide +kernel
theorem dX1_leave_20 : decode cX1_leave 20 = .ok (.dup, 1) := by decide +kernel
theorem dX1_leave_21 : decode cX1_leave 21 = .ok (.getfield 7, 3) := by decide +kernel
theorem dX1_leave_24 : decode cX1_leave 24 = .ok (.iconst 1, 1) := by decide +kernel
theorem dX1_leave_25 : decode cX1_leave 25 = .ok (.iadd, 1) := by decide +kernel
theorem dX1_leave_26 : decode cX1_leave 26 = .ok (.putfield 7, 3) := by decide +kernel
theorem dX1_leave_29 : decode cX1_leave 29 = .ok (.return_, 1) := by decide +kernel
theorem dX2_init_0 : decode cX2_init 0 = .ok (.aload_n 0, 1) := by decide +kernel
theorem dX2_init_1 : decode cX2_init 1 = .ok (.invokespecial 3, 3) := by decide +kernel
theorem dX2_init_4 : decode cX2_init 4 = .ok (.aload_n 0, 1) := by decide +kernel
theorem dX2_init_5 : decode cX2_init 5 = .ok (.iconst 0, 1) := by decide +kernel
theorem dX2_init_6 : decode cX2_init 6 = .ok (.putfield 9, 3) := by decide +kernel
theorem dX2_init_9 : decode cX2_init 9 = .ok (.aload_n 0, 1) := by decide +kernel
theorem dX2_init_10 : decode cX2_init 10 = .ok (.iconst 0, 1) := by decide +kernel
theorem dX2_init_11 : decode cX2_init 11 = .ok (.putfield 15, 3) := by decide +kernel
theorem dX2_init_14 : decode cX2_init 14 = .ok (.aload_n 0, 1) := by decide +kernel
theorem dX2_init_15 : decode cX2_init 15 = .ok (.iconst 0, 1) := by decide +kernel
theorem dX2_init_16 : decode cX2_init 16 = .ok (.putfield 18, 3) := by decide +kernel
theorem dX2_init_19 : decode cX2_init 19 = .ok (.aload_n 0, 1) := by decide +kernel
theorem dX2_init_20 : decode cX2_init 20 = .ok (.bipush 10, 2) := by decide +kernel
theorem dX2_init_22 : decode cX2_init 22 = .ok (.newarray .int, 2) := by decide +kernel
theorem dX2_init_24 : decode cX2_init 24 = .ok (.putfield 21, 3) := by decide +kernel
theorem dX2_init_27 : decode cX2_init 27 = .ok (.aload_n 0, 1) := by decide +kernel
theorem dX2_init_28 : decode cX2_init 28 = .ok (.bipush 40, 2) := by decide +kernel
theorem dX2_init_30 : decode cX2_init 30 = .ok (.newarray .int, 2) := by decide +kernel
theorem dX2_init_32 : decode cX2_init 32 = .ok (.putfield 25, 3) := by decide +kernel
theorem dX2_init_35 : decode cX2_init 35 = .ok (.aload_n 0, 1) := by decide +kernel
theorem dX2_init_36 : decode cX2_init 36 = .ok (.bipush 40, 2) := by decide +kernel
theorem dX2_init_38 : decode cX2_init 38 = .ok (.newarray .int, 2) := by decide +kernel
theorem dX2_init_40 : decode cX2_init 40 = .ok (.putfield 28, 3) := by decide +kernel
theorem dX2_init_43 : decode cX2_init 43 = .ok (.aload_n 0, 1) := by decide +kernel
theorem dX2_init_44 : decode cX2_init 44 = .ok (.sipush 240, 3) := by decide +kernel
theorem dX2_init_47 : decode cX2_init 47 = .ok (.newarray .int, 2) := by decide +kernel
theorem dX2_init_49 : decode cX2_init 49 = .ok (.putfield 31, 3) := by decide +kernel
theorem dX2_init_52 : decode cX2_init 52 = .ok (.aload_n 0, 1) := by decide +kernel
theorem dX2_init_53 : decode cX2_init 53 = .ok (.sipush 240, 3) := by decide +kernel
theorem dX2_init_56 : decode cX2_init 56 = .ok (.newarray .long, 2) := by decide +kernel
theorem dX2_init_58 : decode cX2_init 58 = .ok (.putfield 34, 3) := by decide +kernel
theorem dX2_init_61 : decode cX2_init 61 = .ok (.aload_n 0, 1) := by decide +kernel
theorem dX2_init_62 : decode cX2_init 62 = .ok (.sipush 240, 3) := by decide +kernel
theorem dX2_init_65 : decode cX2_init 65 = .ok (.newarray .int, 2) := by decide +kernel
theorem dX2_init_67 : decode cX2_init 67 = .ok (.putfield 38, 3) := by decide +kernel
theorem dX2_init_70 : decode cX2_init 70 = .ok (.aload_n 0, 1) := by decide +kernel
theorem dX2_init_71 : decode cX2_init 71 = .ok (.bipush 7, 2) := by decide +kernel
theorem dX2_init_73 : decode cX2_init 73 = .ok (.newarray .int, 2) := by decide +kernel
theorem dX2_init_75 : decode cX2_init 75 = .ok (.putfield 41, 3) := by decide +kernel
theorem dX2_init_78 : decode cX2_init 78 = .ok (.return_, 1) := by decide +kernel
theorem dX2_solve_0 : decode cX2_solve 0 = .ok (.aload_n 1, 1) := by decide +kernel
theorem dX2_solve_1 : decode cX2_solve 1 = .ok (.getfield 44, 3) := by decide +kernel
theorem dX2_solve_4 : decode cX2_solve 4 = .ok (.iconst 1, 1) := by decide +kernel
theorem dX2_solve_5 : decode cX2_solve 5 = .ok (.isub, 1) := by decide +kernel
theorem dX2_solve_6 : decode cX2_solve 6 = .ok (.istore_n 2, 1) := by decide +kernel
theorem dX2_solve_7 : decode cX2_solve 7 = .ok (.iload_n 2, 1) := by decide +kernel
theorem dX2_solve_8 : decode cX2_solve 8 = .ok (.ifCond .lt 57, 3) := by decide +kernel
theorem dX2_solve_11 : decode cX2_solve 11 = .ok (.iconst 0, 1) := by decide +kernel
theorem dX2_solve_12 : decode cX2_solve 12 = .ok (.istore_n 3, 1) := by decide +kernel
theorem dX2_solve_13 : decode cX2_solve 13 = .ok (.iload_n 3, 1) := by decide +kernel
theorem dX2_solve_14 : decode cX2_solve 14 = .ok (.bipush 24, 2) := by decide +kernel
theorem dX2_solve_16 : decode cX2_solve 16 = .ok (.if_icmp .ge 43, 3) := by decide +kernel
theorem dX2_solve_19 : decode cX2_solve 19 = .ok (.iload_n 2, 1) := by decide +kernel
theorem dX2_solve_20 : decode cX2_solve 20 = .ok (.bipush 24, 2) := by decide +kernel
theorem dX2_solve_22 : decode cX2_solve 22 = .ok (.imul, 1) := by decide +kernel
theorem dX2_solve_23 : decode cX2_solve 23 = .ok (.iload_n 3, 1) := by decide +kernel
theorem dX2_solve_24 : decode cX2_solve 24 = .ok (.iadd, 1) := by decide +kernel
theorem dX2_solve_25 : decode cX2_solve 25 = .ok (.istore 4, 2) := by decide +kernel
theorem dX2_solve_27 : decode cX2_solve 27 = .ok (.aload_n 0, 1) := by decide +kernel
theorem dX2_solve_28 : decode cX2_solve 28 = .ok (.aload_n 1, 1) := by decide +kernel
theorem dX2_solve_29 : decode cX2_solve 29 = .ok (.iload_n 2, 1) := by decide +kernel
theorem dX2_solve_30 : decode cX2_solve 30 = .ok (.iload_n 3, 1) := by decide +kernel
theorem dX2_solve_31 : decode cX2_solve 31 = .ok (.invokevirtual 49, 3) := by decide +kernel
theorem dX2_solve_34 : decode cX2_solve 34 = .ok (.aload_n 0, 1) := by decide +kernel
theorem dX2_solve_35 : decode cX2_solve 35 = .ok (.getfield 31, 3) := by decide +kernel
theorem dX2_solve_38 : decode cX2_solve 38 = .ok (.iload 4, 2) := by decide +kernel
theorem dX2_solve_40 : decode cX2_solve 40 = .ok (.dup2, 1) := by decide +kernel
theorem dX2_solve_41 : decode cX2_solve 41 = .ok (.iaload, 1) := by decide +kernel
theorem dX2_solve_42 : decode cX2_solve 42 = .ok (.aload_n 1, 1) := by decide +kernel
theorem dX2_solve_43 : decode cX2_solve 43 = .ok (.iload_n 2, 1) := by decide +kernel
theorem dX2_solve_44 : decode cX2_solve 44 = .ok (.bipush (-15), 2) := by decide +kernel
theorem dX2_solve_46 : decode cX2_solve 46 = .ok (.iload_n 3, 1) := by decide +kernel
theorem dX2_solve_47 : decode cX2_solve 47 = .ok (.iadd, 1) := by decide +kernel
theorem dX2_solve_48 : decode cX2_solve 48 = .ok (.invokevirtual 53, 3) := by decide +kernel
theorem dX2_solve_51 : decode cX2_solve 51 = .ok (.iadd, 1) := by decide +kernel
theorem dX2_solve_52 : decode cX2_solve 52 = .ok (.iastore, 1) := by decide +kernel
theorem dX2_solve_53 : decode cX2_solve 53 = .ok (.iinc 3 1, 3) := by decide +kernel
theorem dX2_solve_56 : decode cX2_solve 56 = .ok (.goto (-43), 3) := by decide +kernel
theorem dX2_solve_59 : decode cX2_solve 59 = .ok (.iinc 2 (-1), 3) := by decide +kernel
theorem dX2_solve_62 : decode cX2_solve 62 = .ok (.goto (-55), 3) := by decide +kernel
theorem dX2_solve_65 : decode cX2_solve 65 = .ok (.aload_n 0, 1) := by decide +kernel
theorem dX2_solve_66 : decode cX2_solve 66 = .ok (.aload_n 1, 1) := by decide +kernel
theorem dX2_solve_67 : decode cX2_solve 67 = .ok (.getfield 44, 3) := by decide +kernel
theorem dX2_solve_70 : decode cX2_solve 70 = .ok (.invokevirtual 57, 3) := by decide +kernel
theorem dX2_solve_73 : decode cX2_solve 73 = .ok (.return_, 1) := by decide +kernel
theorem dX2_goOn_0 : decode cX2_goOn 0 = .ok (.iload_n 2, 1) := by decide +kernel
theorem dX2_goOn_1 : decode cX2_goOn 1 = .ok (.bipush 24, 2) := by decide +kernel
theorem dX2_goOn_3 : decode cX2_goOn 3 = .ok (.imul, 1) := by decide +kernel
theorem dX2_goOn_4 : decode cX2_goOn 4 = .ok (.iload_n 3, 1) := by decide +kernel
theorem dX2_goOn_5 : decode cX2_goOn 5 = .ok (.iadd, 1) := by decide +kernel
theorem dX2_goOn_6 : decode cX2_goOn 6 = .ok (.istore 4, 2) := by decide +kernel
theorem dX2_goOn_8 : decode cX2_goOn 8 = .ok (.iload_n 2, 1) := by decide +kernel
theorem dX2_goOn_9 : decode cX2_goOn 9 = .ok (.iconst 1, 1) := by decide +kernel
theorem dX2_goOn_10 : decode cX2_goOn 10 = .ok (.iadd, 1) := by decide +kernel
theorem dX2_goOn_11 : decode cX2_goOn 11 = .ok (.aload_n 1, 1) := by decide +kernel
theorem dX2_goOn_12 : decode cX2_goOn 12 = .ok (.getfield 44, 3) := by decide +kernel
theorem dX2_goOn_15 : decode cX2_goOn 15 = .ok (.if_icmp .lt 30, 3) := by decide +kernel
theorem dX2_goOn_18 : decode cX2_goOn 18 = .ok (.aload_n 0, 1) := by decide +kernel
theorem dX2_goOn_19 : decode cX2_goOn 19 = .ok (.getfield 31, 3) := by decide +kernel
theorem dX2_goOn_22 : decode cX2_goOn 22 = .ok (.iload 4, 2) := by decide +kernel
theorem dX2_goOn_24 : decode cX2_goOn 24 = .ok (.iconst 0, 1) := by decide +kernel
theorem dX2_goOn_25 : decode cX2_goOn 25 = .ok (.iastore, 1) := by decide +kernel
theorem dX2_goOn_26 : decode cX2_goOn 26 = .ok (.aload_n 0, 1) := by decide +kernel
theorem dX2_goOn_27 : decode cX2_goOn 27 = .ok (.getfield 34, 3) := by decide +kernel
theorem dX2_goOn_30 : decode cX2_goOn 30 = .ok (.iload 4, 2) := by decide +kernel
theorem dX2_goOn_32 : decode cX2_goOn 32 = .ok (.lconst 1, 1) := by decide +kernel
theorem dX2_goOn_33 : decode cX2_goOn 33 = .ok (.lastore, 1) := by decide +kernel
theorem dX2_goOn_34 : decode cX2_goOn 34 = .ok (.aload_n 0, 1) := by decide +kernel
theorem dX2_goOn_35 : decode cX2_goOn 35 = .ok (.getfield 38, 3) := by decide +kernel
theorem dX2_goOn_38 : decode cX2_goOn 38 = .ok (.iload 4, 2) := by decide +kernel
theorem dX2_goOn_40 : decode cX2_goOn 40 = .ok (.iload_n 3, 1) := by decide +kernel
theorem dX2_goOn_41 : decode cX2_goOn 41 = .ok (.iastore, 1) := by decide +kernel
theorem dX2_goOn_42 : decode cX2_goOn 42 = .ok (.goto 82, 3) := by decide +kernel
theorem dX2_goOn_45 : decode cX2_goOn 45 = .ok (.aload_n 1, 1) := by decide +kernel
theorem dX2_goOn_46 : decode cX2_goOn 46 = .ok (.iload_n 2, 1) := by decide +kernel
theorem dX2_goOn_47 : decode cX2_goOn 47 = .ok (.iconst 1, 1) := by decide +kernel
theorem dX2_goOn_48 : decode cX2_goOn 48 = .ok (.iadd, 1) := by decide +kernel
theorem dX2_goOn_49 : decode cX2_goOn 49 = .ok (.invokevirtual 61, 3) := by decide +kernel
theorem dX2_goOn_52 : decode cX2_goOn 52 = .ok (.ifCond .eq 48, 3) := by decide +kernel
theorem dX2_goOn_55 : decode cX2_goOn 55 = .ok (.aload_n 0, 1) := by decide +kernel
theorem dX2_goOn_56 : decode cX2_goOn 56 = .ok (.getfield 31, 3) := by decide +kernel
theorem dX2_goOn_59 : decode cX2_goOn 59 = .ok (.iload 4, 2) := by decide +kernel
theorem dX2_goOn_61 : decode cX2_goOn 61 = .ok (.aload_n 0, 1) := by decide +kernel
theorem dX2_goOn_62 : decode cX2_goOn 62 = .ok (.getfield 31, 3) := by decide +kernel
theorem dX2_goOn_65 : decode cX2_goOn 65 = .ok (.iload 4, 2) := by decide +kernel
theorem dX2_goOn_67 : decode cX2_goOn 67 = .ok (.bipush 24, 2) := by decide +kernel
theorem dX2_goOn_69 : decode cX2_goOn 69 = .ok (.iadd, 1) := by decide +kernel
theorem dX2_goOn_70 : decode cX2_goOn 70 = .ok (.iaload, 1) := by decide +kernel
theorem dX2_goOn_71 : decode cX2_goOn 71 = .ok (.iastore, 1) := by decide +kernel
theorem dX2_goOn_72 : decode cX2_goOn 72 = .ok (.aload_n 0, 1) := by decide +kernel
theorem dX2_goOn_73 : decode cX2_goOn 73 = .ok (.getfield 34, 3) := by decide +kernel
theorem dX2_goOn_76 : decode cX2_goOn 76 = .ok (.iload 4, 2) := by decide +kernel
theorem dX2_goOn_78 : decode cX2_goOn 78 = .ok (.aload_n 0, 1) := by decide +kernel
theorem dX2_goOn_79 : decode cX2_goOn 79 = .ok (.getfield 34, 3) := by decide +kernel
theorem dX2_goOn_82 : decode cX2_goOn 82 = .ok (.iload 4, 2) := by decide +kernel
theorem dX2_goOn_84 : decode cX2_goOn 84 = .ok (.bipush 24, 2) := by decide +kernel
theorem dX2_goOn_86 : decode cX2_goOn 86 = .ok (.iadd, 1) := by decide +kernel
theorem dX2_goOn_87 : decode cX2_goOn 87 = .ok (.laload, 1) := by decide +kernel
theorem dX2_goOn_88 : decode cX2_goOn 88 = .ok (.lastore, 1) := by decide +kernel
theorem dX2_goOn_89 : decode cX2_goOn 89 = .ok (.aload_n 0, 1) := by decide +kernel
theorem dX2_goOn_90 : decode cX2_goOn 90 = .ok (.getfield 38, 3) := by decide +kernel
theorem dX2_goOn_93 : decode cX2_goOn 93 = .ok (.iload 4, 2) := by decide +kernel
theorem dX2_goOn_95 : decode cX2_goOn 95 = .ok (.iload_n 3, 1) := by decide +kernel
theorem dX2_goOn_96 : decode cX2_goOn 96 = .ok (.iastore, 1) := by decide +kernel
theorem dX2_goOn_97 : decode cX2_goOn 97 = .ok (.goto 27, 3) := by decide +kernel
theorem dX2_goOn_100 : decode cX2_goOn 100 = .ok (.aload_n 0, 1) := by decide +kernel
theorem dX2_goOn_101 : decode cX2_goOn 101 = .ok (.iload 4, 2) := by decide +kernel
theorem dX2_goOn_103 : decode cX2_goOn 103 = .ok (.iload_n 3, 1) := by decide +kernel
theorem dX2_goOn_104 : decode cX2_goOn 104 = .ok (.aload_n 1, 1) := by decide +kernel
theorem dX2_goOn_105 : decode cX2_goOn 105 = .ok (.getfield 65, 3) := by decide +kernel
theorem dX2_goOn_108 : decode cX2_goOn 108 = .ok (.iload_n 2, 1) := by decide +kernel
theorem dX2_goOn_109 : decode cX2_goOn 109 = .ok (.iconst 1, 1) := by decide +kernel
theorem dX2_goOn_110 : decode cX2_goOn 110 = .ok (.iadd, 1) := by decide +kernel
theorem dX2_goOn_111 : decode cX2_goOn 111 = .ok (.iaload, 1) := by decide +kernel
theorem dX2_goOn_112 : decode cX2_goOn 112 = .ok (.iconst 1, 1) := by decide +kernel
theorem dX2_goOn_113 : decode cX2_goOn 113 = .ok (.if_icmp .ne 7, 3) := by decide +kernel
theorem dX2_goOn_116 : decode cX2_goOn 116 = .ok (.iconst 1, 1) := by decide +kernel
theorem dX2_goOn_117 : decode cX2_goOn 117 = .ok (.goto 4, 3) := by decide +kernel
theorem dX2_goOn_120 : decode cX2_goOn 120 = .ok (.iconst 0, 1) := by decide +kernel
theorem dX2_goOn_121 : decode cX2_goOn 121 = .ok (.invokevirtual 68, 3) := by decide +kernel
theorem dX2_goOn_124 : decode cX2_goOn 124 = .ok (.return_, 1) := by decide +kernel
theorem dX2_choose_0 : decode cX2_choose 0 = .ok (.iload_n 1, 1) := by decide +kernel
theorem dX2_choose_1 : decode cX2_choose 1 = .ok (.iload_n 2, 1) := by decide +kernel
theorem dX2_choose_2 : decode cX2_choose 2 = .ok (.isub, 1) := by decide +kernel
theorem dX2_choose_3 : decode cX2_choose 3 = .ok (.bipush 24, 2) := by decide +kernel
theorem dX2_choose_5 : decode cX2_choose 5 = .ok (.iadd, 1) := by decide +kernel
theorem dX2_choose_6 : decode cX2_choose 6 = .ok (.istore 4, 2) := by decide +kernel
theorem dX2_choose_8 : decode cX2_choose 8 = .ok (.ldc 74, 2) := by decide +kernel
theorem dX2_choose_10 : decode cX2_choose 10 = .ok (.istore 5, 2) := by decide +kernel
theorem dX2_choose_12 : decode cX2_choose 12 = .ok (.iconst 0, 1) := by decide +kernel
theorem dX2_choose_13 : decode cX2_choose 13 = .ok (.istore 6, 2) := by decide +kernel
theorem dX2_choose_15 : decode cX2_choose 15 = .ok (.lconst 0, 1) := by decide +kernel
theorem dX2_choose_16 : decode cX2_choose 16 = .ok (.lstore 7, 2) := by decide +kernel
theorem dX2_choose_18 : decode cX2_choose 18 = .ok (.iconst 0, 1) := by decide +kernel
theorem dX2_choose_19 : decode cX2_choose 19 = .ok (.istore 9, 2) := by decide +kernel
theorem dX2_choose_21 : decode cX2_choose 21 = .ok (.iload 9, 2) := by decide +kernel
theorem dX2_choose_23 : decode cX2_choose 23 = .ok (.bipush 24, 2) := by decide +kernel
theorem dX2_choose_25 : decode cX2_choose 25 = .ok (.if_icmp .ge 106, 3) := by decide +kernel
theorem dX2_choose_28 : decode cX2_choose 28 = .ok (.iload 9, 2) := by decide +kernel
theorem dX2_choose_30 : decode cX2_choose 30 = .ok (.iload_n 2, 1) := by decide +kernel
theorem dX2_choose_31 : decode cX2_choose 31 = .ok (.if_icmp .ge 10, 3) := by decide +kernel
theorem dX2_choose_34 : decode cX2_choose 34 = .ok (.iload_n 2, 1) := by decide +kernel
theorem dX2_choose_35 : decode cX2_choose 35 = .ok (.iload 9, 2) := by decide +kernel
theorem dX2_choose_37 : decode cX2_choose 37 = .ok (.isub, 1) := by decide +kernel
theorem dX2_choose_38 : decode cX2_choose 38 = .ok (.goto 7, 3) := by decide +kernel
theorem dX2_choose_41 : decode cX2_choose 41 = .ok (.iload 9, 2) := by decide +kernel
theorem dX2_choose_43 : decode cX2_choose 43 = .ok (.iload_n 2, 1) := by decide +kernel
theorem dX2_choose_44 : decode cX2_choose 44 = .ok (.isub, 1) := by decide +kernel
theorem dX2_choose_45 : decode cX2_choose 45 = .ok (.istore 10, 2) := by decide +kernel
theorem dX2_choose_47 : decode cX2_choose 47 = .ok (.aload_n 0, 1) := by decide +kernel
theorem dX2_choose_48 : decode cX2_choose 48 = .ok (.getfield 31, 3) := by decide +kernel
theorem dX2_choose_51 : decode cX2_choose 51 = .ok (.iload 4, 2) := by decide +kernel
theorem dX2_choose_53 : decode cX2_choose 53 = .ok (.iload 9, 2) := by decide +kernel
theorem dX2_choose_55 : decode cX2_choose 55 = .ok (.iadd, 1) := by decide +kernel
theorem dX2_choose_56 : decode cX2_choose 56 = .ok (.iaload, 1) := by decide +kernel
theorem dX2_choose_57 : decode cX2_choose 57 = .ok (.iload_n 3, 1) := by decide +kernel
theorem dX2_choose_58 : decode cX2_choose 58 = .ok (.ifCond .eq 10, 3) := by decide +kernel
theorem dX2_choose_61 : decode cX2_choose 61 = .ok (.iload 10, 2) := by decide +kernel
theorem dX2_choose_63 : decode cX2_choose 63 = .ok (.iconst 2, 1) := by decide +kernel
theorem dX2_choose_64 : decode cX2_choose 64 = .ok (.idiv, 1) := by decide +kernel
theorem dX2_choose_65 : decode cX2_choose 65 = .ok (.goto 5, 3) := by decide +kernel
theorem dX2_choose_68 : decode cX2_choose 68 = .ok (.iload 10, 2) := by decide +kernel
theorem dX2_choose_70 : decode cX2_choose 70 = .ok (.iadd, 1) := by decide +kernel
theorem dX2_choose_71 : decode cX2_choose 71 = .ok (.istore 11, 2) := by decide +kernel
theorem dX2_choose_73 : decode cX2_choose 73 = .ok (.iload 11, 2) := by decide +kernel
theorem dX2_choose_75 : decode cX2_choose 75 = .ok (.iload 5, 2) := by decide +kernel
theorem dX2_choose_77 : decode cX2_choose 77 = .ok (.if_icmp .ge 26, 3) := by decide +kernel
theorem dX2_choose_80 : decode cX2_choose 80 = .ok (.iload 11, 2) := by decide +kernel
theorem dX2_choose_82 : decode cX2_choose 82 = .ok (.istore 5, 2) := by decide +kernel
theorem dX2_choose_84 : decode cX2_choose 84 = .ok (.iload 9, 2) := by decide +kernel
theorem dX2_choose_86 : decode cX2_choose 86 = .ok (.istore 6, 2) := by decide +kernel
theorem dX2_choose_88 : decode cX2_choose 88 = .ok (.aload_n 0, 1) := by decide +kernel
theorem dX2_choose_89 : decode cX2_choose 89 = .ok (.getfield 34, 3) := by decide +kernel
theorem dX2_choose_92 : decode cX2_choose 92 = .ok (.iload 4, 2) := by decide +kernel
theorem dX2_choose_94 : decode cX2_choose 94 = .ok (.iload 9, 2) := by decide +kernel
theorem dX2_choose_96 : decode cX2_choose 96 = .ok (.iadd, 1) := by decide +kernel
theorem dX2_choose_97 : decode cX2_choose 97 = .ok (.laload, 1) := by decide +kernel
theorem dX2_choose_98 : decode cX2_choose 98 = .ok (.lstore 7, 2) := by decide +kernel
theorem dX2_choose_100 : decode cX2_choose 100 = .ok (.goto 25, 3) := by decide +kernel
theorem dX2_choose_103 : decode cX2_choose 103 = .ok (.iload 11, 2) := by decide +kernel
theorem dX2_choose_105 : decode cX2_choose 105 = .ok (.iload 5, 2) := by decide +kernel
theorem dX2_choose_107 : decode cX2_choose 107 = .ok (.if_icmp .ne 18, 3) := by decide +kernel
theorem dX2_choose_110 : decode cX2_choose 110 = .ok (.lload 7, 2) := by decide +kernel
theorem dX2_choose_112 : decode cX2_choose 112 = .ok (.aload_n 0, 1) := by decide +kernel
theorem dX2_choose_113 : decode cX2_choose 113 = .ok (.getfield 34, 3) := by decide +kernel
theorem dX2_choose_116 : decode cX2_choose 116 = .ok (.iload 4, 2) := by decide +kernel
theorem dX2_choose_118 : decode cX2_choose 118 = .ok (.iload 9, 2) := by decide +kernel
theorem dX2_choose_120 : decode cX2_choose 120 = .ok (.iadd, 1) := by decide +kernel
theorem dX2_choose_121 : decode cX2_choose 121 = .ok (.laload, 1) := by decide +kernel
theorem dX2_choose_122 : decode cX2_choose 122 = .ok (.ladd, 1) := by decide +kernel
theorem dX2_choose_123 : decode cX2_choose 123 = .ok (.lstore 7, 2) := by decide +kernel
theorem dX2_choose_125 : decode cX2_choose 125 = .ok (.iinc 9 1, 3) := by decide +kernel
theorem dX2_choose_128 : decode cX2_choose 128 = .ok (.goto (-107), 3) := by decide +kernel
theorem dX2_choose_131 : decode cX2_choose 131 = .ok (.aload_n 0, 1) := by decide +kernel
theorem dX2_choose_132 : decode cX2_choose 132 = .ok (.getfield 31, 3) := by decide +kernel
theorem dX2_choose_135 : decode cX2_choose 135 = .ok (.iload_n 1, 1) := by decide +kernel
theorem dX2_choose_136 : decode cX2_choose 136 = .ok (.iload 5, 2) := by decide +kernel
theorem dX2_choose_138 : decode cX2_choose 138 = .ok (.iastore, 1) := by decide +kernel
theorem dX2_choose_139 : decode cX2_choose 139 = .ok (.aload_n 0, 1) := by decide +kernel
theorem dX2_choose_140 : decode cX2_choose 140 = .ok (.getfield 34, 3) := by decide +kernel
theorem dX2_choose_143 : decode cX2_choose 143 = .ok (.iload_n 1, 1) := by decide +kernel
theorem dX2_choose_144 : decode cX2_choose 144 = .ok (.lload 7, 2) := by decide +kernel
theorem dX2_choose_146 : decode cX2_choose 146 = .ok (.lastore, 1) := by decide +kernel
theorem dX2_choose_147 : decode cX2_choose 147 = .ok (.aload_n 0, 1) := by decide +kernel
theorem dX2_choose_148 : decode cX2_choose 148 = .ok (.getfield 38, 3) := by decide +kernel
theorem dX2_choose_151 : decode cX2_choose 151 = .ok (.iload_n 1, 1) := by decide +kernel
theorem dX2_choose_152 : decode cX2_choose 152 = .ok (.iload 6, 2) := by decide +kernel
theorem dX2_choose_154 : decode cX2_choose 154 = .ok (.iastore, 1) := by decide +kernel
theorem dX2_choose_155 : decode cX2_choose 155 = .ok (.return_, 1) := by decide +kernel
theorem dX2_pick_0 : decode cX2_pick 0 = .ok (.iconst 0, 1) := by decide +kernel
theorem dX2_pick_1 : decode cX2_pick 1 = .ok (.istore_n 2, 1) := by decide +kernel
theorem dX2_pick_2 : decode cX2_pick 2 = .ok (.lconst 0, 1) := by decide +kernel
theorem dX2_pick_3 : decode cX2_pick 3 = .ok (.lstore_n 3, 1) := by decide +kernel
theorem dX2_pick_4 : decode cX2_pick 4 = .ok (.iconst 0, 1) := by decide +kernel
theorem dX2_pick_5 : decode cX2_pick 5 = .ok (.istore 5, 2) := by decide +kernel
theorem dX2_pick_7 : decode cX2_pick 7 = .ok (.iload 5, 2) := by decide +kernel
theorem dX2_pick_9 : decode cX2_pick 9 = .ok (.bipush 24, 2) := by decide +kernel
theorem dX2_pick_11 : decode cX2_pick 11 = .ok (.if_icmp .ge 56, 3) := by decide +kernel
theorem dX2_pick_14 : decode cX2_pick 14 = .ok (.aload_n 0, 1) := by decide +kernel
theorem dX2_pick_15 : decode cX2_pick 15 = .ok (.getfield 31, 3) := by decide +kernel
theorem dX2_pick_18 : decode cX2_pick 18 = .ok (.iload 5, 2) := by decide +kernel
theorem dX2_pick_20 : decode cX2_pick 20 = .ok (.iaload, 1) := by decide +kernel
theorem dX2_pick_21 : decode cX2_pick 21 = .ok (.aload_n 0, 1) := by decide +kernel
theorem dX2_pick_22 : decode cX2_pick 22 = .ok (.getfield 31, 3) := by decide +kernel
theorem dX2_pick_25 : decode cX2_pick 25 = .ok (.iload_n 2, 1) := by decide +kernel
theorem dX2_pick_26 : decode cX2_pick 26 = .ok (.iaload, 1) := by decide +kernel
theorem dX2_pick_27 : decode cX2_pick 27 = .ok (.if_icmp .ge 8, 3) := by decide +kernel
theorem dX2_pick_30 : decode cX2_pick 30 = .ok (.iload 5, 2) := by decide +kernel
theorem dX2_pick_32 : decode cX2_pick 32 = .ok (.istore_n 2, 1) := by decide +kernel
theorem dX2_pick_33 : decode cX2_pick 33 = .ok (.lconst 0, 1) := by decide +kernel
theorem dX2_pick_34 : decode cX2_pick 34 = .ok (.lstore_n 3, 1) := by decide +kernel
theorem dX2_pick_35 : decode cX2_pick 35 = .ok (.aload_n 0, 1) := by decide +kernel
theorem dX2_pick_36 : decode cX2_pick 36 = .ok (.getfield 31, 3) := by decide +kernel
theorem dX2_pick_39 : decode cX2_pick 39 = .ok (.iload 5, 2) := by decide +kernel
theorem dX2_pick_41 : decode cX2_pick 41 = .ok (.iaload, 1) := by decide +kernel
theorem dX2_pick_42 : decode cX2_pick 42 = .ok (.aload_n 0, 1) := by decide +kernel
theorem dX2_pick_43 : decode cX2_pick 43 = .ok (.getfield 31, 3) := by decide +kernel
theorem dX2_pick_46 : decode cX2_pick 46 = .ok (.iload_n 2, 1) := by decide +kernel
theorem dX2_pick_47 : decode cX2_pick 47 = .ok (.iaload, 1) := by decide +kernel
theorem dX2_pick_48 : decode cX2_pick 48 = .ok (.if_icmp .ne 13, 3) := by decide +kernel
theorem dX2_pick_51 : decode cX2_pick 51 = .ok (.lload_n 3, 1) := by decide +kernel
theorem dX2_pick_52 : decode cX2_pick 52 = .ok (.aload_n 0, 1) := by decide +kernel
theorem dX2_pick_53 : decode cX2_pick 53 = .ok (.getfield 34, 3) := by decide +kernel
theorem dX2_pick_56 : decode cX2_pick 56 = .ok (.iload 5, 2) := by decide +kernel
theorem dX2_pick_58 : decode cX2_pick 58 = .ok (.laload, 1) := by decide +kernel
theorem dX2_pick_59 : decode cX2_pick 59 = .ok (.ladd, 1) := by decide +kernel
theorem dX2_pick_60 : decode cX2_pick 60 = .ok (.lstore_n 3, 1) := by decide +kernel
theorem dX2_pick_61 : decode cX2_pick 61 = .ok (.iinc 5 1, 3) := by decide +kernel
theorem dX2_pick_64 : decode cX2_pick 64 = .ok (.goto (-57), 3) := by decide +kernel
theorem dX2_pick_67 : decode cX2_pick 67 = .ok (.aload_n 0, 1) := by decide +kernel
theorem dX2_pick_68 : decode cX2_pick 68 = .ok (.aload_n 0, 1) := by decide +kernel
theorem dX2_pick_69 : decode cX2_pick 69 = .ok (.getfield 31, 3) := by decide +kernel
theorem dX2_pick_72 : decode cX2_pick 72 = .ok (.iload_n 2, 1) := by decide +kernel
theorem dX2_pick_73 : decode cX2_pick 73 = .ok (.iaload, 1) := by decide +kernel
theorem dX2_pick_74 : decode cX2_pick 74 = .ok (.putfield 9, 3) := by decide +kernel
theorem dX2_pick_77 : decode cX2_pick 77 = .ok (.aload_n 0, 1) := by decide +kernel
theorem dX2_pick_78 : decode cX2_pick 78 = .ok (.lload_n 3, 1) := by decide +kernel
theorem dX2_pick_79 : decode cX2_pick 79 = .ok (.ldc2_w 75, 3) := by decide +kernel
theorem dX2_pick_82 : decode cX2_pick 82 = .ok (.invokestatic 77, 3) := by decide +kernel
theorem dX2_pick_85 : decode cX2_pick 85 = .ok (.l2i, 1) := by decide +kernel
theorem dX2_pick_86 : decode cX2_pick 86 = .ok (.putfield 15, 3) := by decide +kernel
theorem dX2_pick_89 : decode cX2_pick 89 = .ok (.iload_n 2, 1) := by decide +kernel
theorem dX2_pick_90 : decode cX2_pick 90 = .ok (.istore 5, 2) := by decide +kernel
theorem dX2_pick_92 : decode cX2_pick 92 = .ok (.iconst 0, 1) := by decide +kernel
theorem dX2_pick_93 : decode cX2_pick 93 = .ok (.istore 6, 2) := by decide +kernel
theorem dX2_pick_95 : decode cX2_pick 95 = .ok (.iload 6, 2) := by decide +kernel
theorem dX2_pick_97 : decode cX2_pick 97 = .ok (.iload_n 1, 1) := by decide +kernel
theorem dX2_pick_98 : decode cX2_pick 98 = .ok (.if_icmp .ge 36, 3) := by decide +kernel
theorem dX2_pick_101 : decode cX2_pick 101 = .ok (.aload_n 0, 1) := by decide +kernel
theorem dX2_pick_102 : decode cX2_pick 102 = .ok (.getfield 21, 3) := by decide +kernel
theorem dX2_pick_105 : decode cX2_pick 105 = .ok (.iload 6, 2) := by decide +kernel
theorem dX2_pick_107 : decode cX2_pick 107 = .ok (.bipush (-15), 2) := by decide +kernel
theorem dX2_pick_109 : decode cX2_pick 109 = .ok (.iload 5, 2) := by decide +kernel
theorem dX2_pick_111 : decode cX2_pick 111 = .ok (.iadd, 1) := by decide +kernel
theorem dX2_pick_112 : decode cX2_pick 112 = .ok (.iastore, 1) := by decide +kernel
theorem dX2_pick_113 : decode cX2_pick 113 = .ok (.aload_n 0, 1) := by decide +kernel
theorem dX2_pick_114 : decode cX2_pick 114 = .ok (.getfield 38, 3) := by decide +kernel
theorem dX2_pick_117 : decode cX2_pick 117 = .ok (.iload 6, 2) := by decide +kernel
theorem dX2_pick_119 : decode cX2_pick 119 = .ok (.bipush 24, 2) := by decide +kernel
theorem dX2_pick_121 : decode cX2_pick 121 = .ok (.imul, 1) := by decide +kernel
theorem dX2_pick_122 : decode cX2_pick 122 = .ok (.iload 5, 2) := by decide +kernel
theorem dX2_pick_124 : decode cX2_pick 124 = .ok (.iadd, 1) := by decide +kernel
theorem dX2_pick_125 : decode cX2_pick 125 = .ok (.iaload, 1) := by decide +kernel
theorem dX2_pick_126 : decode cX2_pick 126 = .ok (.istore 5, 2) := by decide +kernel
theorem dX2_pick_128 : decode cX2_pick 128 = .ok (.iinc 6 1, 3) := by decide +kernel
theorem dX2_pick_131 : decode cX2_pick 131 = .ok (.goto (-36), 3) := by decide +kernel
theorem dX2_pick_134 : decode cX2_pick 134 = .ok (.return_, 1) := by decide +kernel
theorem dX2_spell_0 : decode cX2_spell 0 = .ok (.aload_n 0, 1) := by decide +kernel
theorem dX2_spell_1 : decode cX2_spell 1 = .ok (.iconst 0, 1) := by decide +kernel
theorem dX2_spell_2 : decode cX2_spell 2 = .ok (.putfield 18, 3) := by decide +kernel
theorem dX2_spell_5 : decode cX2_spell 5 = .ok (.iconst 0, 1) := by decide +kernel
theorem dX2_spell_6 : decode cX2_spell 6 = .ok (.istore_n 2, 1) := by decide +kernel
theorem dX2_spell_7 : decode cX2_spell 7 = .ok (.iload_n 2, 1) := by decide +kernel
theorem dX2_spell_8 : decode cX2_spell 8 = .ok (.aload_n 1, 1) := by decide +kernel
theorem dX2_spell_9 : decode cX2_spell 9 = .ok (.getfield 83, 3) := by decide +kernel
theorem dX2_spell_12 : decode cX2_spell 12 = .ok (.if_icmp .ge 70, 3) := by decide +kernel
theorem dX2_spell_15 : decode cX2_spell 15 = .ok (.aload_n 1, 1) := by decide +kernel
theorem dX2_spell_16 : decode cX2_spell 16 = .ok (.getfield 86, 3) := by decide +kernel
theorem dX2_spell_19 : decode cX2_spell 19 = .ok (.iload_n 2, 1) := by decide +kernel
theorem dX2_spell_20 : decode cX2_spell 20 = .ok (.iaload, 1) := by decide +kernel
theorem dX2_spell_21 : decode cX2_spell 21 = .ok (.istore_n 3, 1) := by decide +kernel
theorem dX2_spell_22 : decode cX2_spell 22 = .ok (.iload_n 2, 1) := by decide +kernel
theorem dX2_spell_23 : decode cX2_spell 23 = .ok (.aload_n 1, 1) := by decide +kernel
theorem dX2_spell_24 : decode cX2_spell 24 = .ok (.getfield 89, 3) := by decide +kernel
theorem dX2_spell_27 : decode cX2_spell 27 = .ok (.iload_n 3, 1) := by decide +kernel
theorem dX2_spell_28 : decode cX2_spell 28 = .ok (.iaload, 1) := by decide +kernel
theorem dX2_spell_29 : decode cX2_spell 29 = .ok (.if_icmp .ne 21, 3) := by decide +kernel
theorem dX2_spell_32 : decode cX2_spell 32 = .ok (.aload_n 1, 1) := by decide +kernel
theorem dX2_spell_33 : decode cX2_spell 33 = .ok (.getfield 92, 3) := by decide +kernel
theorem dX2_spell_36 : decode cX2_spell 36 = .ok (.iload_n 3, 1) := by decide +kernel
theorem dX2_spell_37 : decode cX2_spell 37 = .ok (.iaload, 1) := by decide +kernel
theorem dX2_spell_38 : decode cX2_spell 38 = .ok (.iconst 1, 1) := by decide +kernel
theorem dX2_spell_39 : decode cX2_spell 39 = .ok (.if_icmp .ne 11, 3) := by decide +kernel
theorem dX2_spell_42 : decode cX2_spell 42 = .ok (.aload_n 0, 1) := by decide +kernel
theorem dX2_spell_43 : decode cX2_spell 43 = .ok (.aload_n 1, 1) := by decide +kernel
theorem dX2_spell_44 : decode cX2_spell 44 = .ok (.getfield 95, 3) := by decide +kernel
theorem dX2_spell_47 : decode cX2_spell 47 = .ok (.invokevirtual 98, 3) := by decide +kernel
theorem dX2_spell_50 : decode cX2_spell 50 = .ok (.aload_n 0, 1) := by decide +kernel
theorem dX2_spell_51 : decode cX2_spell 51 = .ok (.getfield 25, 3) := by decide +kernel
theorem dX2_spell_54 : decode cX2_spell 54 = .ok (.iload_n 2, 1) := by decide +kernel
theorem dX2_spell_55 : decode cX2_spell 55 = .ok (.aload_n 0, 1) := by decide +kernel
theorem dX2_spell_56 : decode cX2_spell 56 = .ok (.getfield 21, 3) := by decide +kernel
theorem dX2_spell_59 : decode cX2_spell 59 = .ok (.iload_n 3, 1) := by decide +kernel
theorem dX2_spell_60 : decode cX2_spell 60 = .ok (.iaload, 1) := by decide +kernel
theorem dX2_spell_61 : decode cX2_spell 61 = .ok (.aload_n 1, 1) := by decide +kernel
theorem dX2_spell_62 : decode cX2_spell 62 = .ok (.getfield 101, 3) := by decide +kernel
theorem dX2_spell_65 : decode cX2_spell 65 = .ok (.iload_n 2, 1) := by decide +kernel
theorem dX2_spell_66 : decode cX2_spell 66 = .ok (.iaload, 1) := by decide +kernel
theorem dX2_spell_67 : decode cX2_spell 67 = .ok (.invokestatic 104, 3) := by decide +kernel
theorem dX2_spell_70 : decode cX2_spell 70 = .ok (.iastore, 1) := by decide +kernel
theorem dX2_spell_71 : decode cX2_spell 71 = .ok (.aload_n 0, 1) := by decide +kernel
theorem dX2_spell_72 : decode cX2_spell 72 = .ok (.iload_n 2, 1) := by decide +kernel
theorem dX2_spell_73 : decode cX2_spell 73 = .ok (.invokevirtual 109, 3) := by decide +kernel
theorem dX2_spell_76 : decode cX2_spell 76 = .ok (.iinc 2 1, 3) := by decide +kernel
theorem dX2_spell_79 : decode cX2_spell 79 = .ok (.goto (-72), 3) := by decide +kernel
theorem dX2_spell_82 : decode cX2_spell 82 = .ok (.return_, 1) := by decide +kernel
theorem dX2_beginBar_0 : decode cX2_beginBar 0 = .ok (.iconst 0, 1) := by decide +kernel
theorem dX2_beginBar_1 : decode cX2_beginBar 1 = .ok (.istore_n 2, 1) := by decide +kernel
theorem dX2_beginBar_2 : decode cX2_beginBar 2 = .ok (.iload_n 2, 1) := by decide +kernel
theorem dX2_beginBar_3 : decode cX2_beginBar 3 = .ok (.bipush 7, 2) := by decide +kernel
theorem dX2_beginBar_5 : decode cX2_beginBar 5 = .ok (.if_icmp .ge 20, 3) := by decide +kernel
theorem dX2_beginBar_8 : decode cX2_beginBar 8 = .ok (.aload_n 0, 1) := by decide +kernel
theorem dX2_beginBar_9 : decode cX2_beginBar 9 = .ok (.getfield 41, 3) := by decide +kernel
theorem dX2_beginBar_12 : decode cX2_beginBar 12 = .ok (.iload_n 2, 1) := by decide +kernel
theorem dX2_beginBar_13 : decode cX2_beginBar 13 = .ok (.iload_n 1, 1) := by decide +kernel
theorem dX2_beginBar_14 : decode cX2_beginBar 14 = .ok (.iload_n 2, 1) := by decide +kernel
theorem dX2_beginBar_15 : decode cX2_beginBar 15 = .ok (.invokestatic 112, 3) := by decide +kernel
theorem dX2_beginBar_18 : decode cX2_beginBar 18 = .ok (.iastore, 1) := by decide +kernel
theorem dX2_beginBar_19 : decode cX2_beginBar 19 = .ok (.iinc 2 1, 3) := by decide +kernel
theorem dX2_beginBar_22 : decode cX2_beginBar 22 = .ok (.goto (-20), 3) := by decide +kernel
theorem dX2_beginBar_25 : decode cX2_beginBar 25 = .ok (.return_, 1) := by decide +kernel
theorem dX2_print_0 : decode cX2_print 0 = .ok (.aload_n 0, 1) := by decide +kernel
theorem dX2_print_1 : decode cX2_print 1 = .ok (.getfield 25, 3) := by decide +kernel
theorem dX2_print_4 : decode cX2_print 4 = .ok (.iload_n 1, 1) := by decide +kernel
theorem dX2_print_5 : decode cX2_print 5 = .ok (.iaload, 1) := by decide +kernel
theorem dX2_print_6 : decode cX2_print 6 = .ok (.invokestatic 115, 3) := by decide +kernel
theorem dX2_print_9 : decode cX2_print 9 = .ok (.istore_n 2, 1) := by decide +kernel
theorem dX2_print_10 : decode cX2_print 10 = .ok (.aload_n 0, 1) := by decide +kernel
theorem dX2_print_11 : decode cX2_print 11 = .ok (.getfield 25, 3) := by decide +kernel
theorem dX2_print_14 : decode cX2_print 14 = .ok (.iload_n 1, 1) := by decide +kernel
theorem dX2_print_15 : decode cX2_print 15 = .ok (.iaload, 1) := by decide +kernel
theorem dX2_print_16 : decode cX2_print 16 = .ok (.invokestatic 119, 3) := by decide +kernel
theorem dX2_print_19 : decode cX2_print 19 = .ok (.istore_n 3, 1) := by decide +kernel
theorem dX2_print_20 : decode cX2_print 20 = .ok (.aload_n 0, 1) := by decide +kernel
theorem dX2_print_21 : decode cX2_print 21 = .ok (.getfield 41, 3) := by decide +kernel
theorem dX2_print_24 : decode cX2_print 24 = .ok (.iload_n 2, 1) := by decide +kernel
theorem dX2_print_25 : decode cX2_print 25 = .ok (.iaload, 1) := by decide +kernel
theorem dX2_print_26 : decode cX2_print 26 = .ok (.iload_n 3, 1) := by decide +kernel
theorem dX2_print_27 : decode cX2_print 27 = .ok (.if_icmp .ne 14, 3) := by decide +kernel
theorem dX2_print_30 : decode cX2_print 30 = .ok (.aload_n 0, 1) := by decide +kernel
theorem dX2_print_31 : decode cX2_print 31 = .ok (.getfield 28, 3) := by decide +kernel
theorem dX2_print_34 : decode cX2_print 34 = .ok (.iload_n 1, 1) := by decide +kernel
theorem dX2_print_35 : decode cX2_print 35 = .ok (.ldc 122, 2) := by decide +kernel
theorem dX2_print_37 : decode cX2_print 37 = .ok (.iastore, 1) := by decide +kernel
theorem dX2_print_38 : decode cX2_print 38 = .ok (.goto 27, 3) := by decide +kernel
theorem dX2_print_41 : decode cX2_print 41 = .ok (.aload_n 0, 1) := by decide +kernel
theorem dX2_print_42 : decode cX2_print 42 = .ok (.getfield 28, 3) := by decide +kernel
theorem dX2_print_45 : decode cX2_print 45 = .ok (.iload_n 1, 1) := by decide +kernel
theorem dX2_print_46 : decode cX2_print 46 = .ok (.iload_n 3, 1) := by decide +kernel
theorem dX2_print_47 : decode cX2_print 47 = .ok (.iastore, 1) := by decide +kernel
theorem dX2_print_48 : decode cX2_print 48 = .ok (.aload_n 0, 1) := by decide +kernel
theorem dX2_print_49 : decode cX2_print 49 = .ok (.getfield 41, 3) := by decide +kernel
theorem dX2_print_52 : decode cX2_print 52 = .ok (.iload_n 2, 1) := by decide +kernel
theorem dX2_print_53 : decode cX2_print 53 = .ok (.iload_n 3, 1) := by decide +kernel
theorem dX2_print_54 : decode cX2_print 54 = .ok (.iastore, 1) := by decide +kernel
theorem dX2_print_55 : decode cX2_print 55 = .ok (.aload_n 0, 1) := by decide +kernel
theorem dX2_print_56 : decode cX2_print 56 = .ok (.dup, 1) := by decide +kernel
theorem dX2_print_57 : decode cX2_print 57 = .ok (.getfield 18, 3) := by decide +kernel
theorem dX2_print_60 : decode cX2_print 60 = .ok (.iconst 1, 1) := by decide +kernel
theorem dX2_print_61 : decode cX2_print 61 = .ok (.iadd, 1) := by decide +kernel
theorem dX2_print_62 : decode cX2_print 62 = .ok (.putfield 18, 3) := by decide +kernel
theorem dX2_print_65 : decode cX2_print 65 = .ok (.return_, 1) := by decide +kernel
theorem dX3_letterOf_0 : decode cX3_letterOf 0 = .ok (.iload_n 0, 1) := by decide +kernel
theorem dX3_letterOf_1 : decode cX3_letterOf 1 = .ok (.iconst 1, 1) := by decide +kernel
theorem dX3_letterOf_2 : decode cX3_letterOf 2 = .ok (.iadd, 1) := by decide +kernel
theorem dX3_letterOf_3 : decode cX3_letterOf 3 = .ok (.bipush 7, 2) := by decide +kernel
theorem dX3_letterOf_5 : decode cX3_letterOf 5 = .ok (.invokestatic 9, 3) := by decide +kernel
theorem dX3_letterOf_8 : decode cX3_letterOf 8 = .ok (.ireturn, 1) := by decide +kernel
theorem dX3_alterOf_0 : decode cX3_alterOf 0 = .ok (.iload_n 0, 1) := by decide +kernel
theorem dX3_alterOf_1 : decode cX3_alterOf 1 = .ok (.iconst 1, 1) := by decide +kernel
theorem dX3_alterOf_2 : decode cX3_alterOf 2 = .ok (.iadd, 1) := by decide +kernel
theorem dX3_alterOf_3 : decode cX3_alterOf 3 = .ok (.bipush 7, 2) := by decide +kernel
theorem dX3_alterOf_5 : decode cX3_alterOf 5 = .ok (.invokestatic 15, 3) := by decide +kernel
theorem dX3_alterOf_8 : decode cX3_alterOf 8 = .ok (.ireturn, 1) := by decide +kernel
theorem dX3_keyOf_0 : decode cX3_keyOf 0 = .ok (.bipush 7, 2) := by decide +kernel
theorem dX3_keyOf_2 : decode cX3_keyOf 2 = .ok (.iload_n 0, 1) := by decide +kernel
theorem dX3_keyOf_3 : decode cX3_keyOf 3 = .ok (.imul, 1) := by decide +kernel
theorem dX3_keyOf_4 : decode cX3_keyOf 4 = .ok (.bipush 12, 2) := by decide +kernel
theorem dX3_keyOf_6 : decode cX3_keyOf 6 = .ok (.invokestatic 9, 3) := by decide +kernel
theorem dX3_keyOf_9 : decode cX3_keyOf 9 = .ok (.ireturn, 1) := by decide +kernel
theorem dX3_placeIn_0 : decode cX3_placeIn 0 = .ok (.iload_n 0, 1) := by decide +kernel
theorem dX3_placeIn_1 : decode cX3_placeIn 1 = .ok (.bipush 7, 2) := by decide +kernel
theorem dX3_placeIn_3 : decode cX3_placeIn 3 = .ok (.iload_n 1, 1) := by decide +kernel
theorem dX3_placeIn_4 : decode cX3_placeIn 4 = .ok (.imul, 1) := by decide +kernel
theorem dX3_placeIn_5 : decode cX3_placeIn 5 = .ok (.iload_n 0, 1) := by decide +kernel
theorem dX3_placeIn_6 : decode cX3_placeIn 6 = .ok (.isub, 1) := by decide +kernel
theorem dX3_placeIn_7 : decode cX3_placeIn 7 = .ok (.bipush 12, 2) := by decide +kernel
theorem dX3_placeIn_9 : decode cX3_placeIn 9 = .ok (.invokestatic 9, 3) := by decide +kernel
theorem dX3_placeIn_12 : decode cX3_placeIn 12 = .ok (.iadd, 1) := by decide +kernel
theorem dX3_placeIn_13 : decode cX3_placeIn 13 = .ok (.ireturn, 1) := by decide +kernel
theorem dX3_headOf_0 : decode cX3_headOf 0 = .ok (.iload_n 1, 1) := by decide +kernel
theorem dX3_headOf_1 : decode cX3_headOf 1 = .ok (.iload_n 0, 1) := by decide +kernel
theorem dX3_headOf_2 : decode cX3_headOf 2 = .ok (.bipush 7, 2) := by decide +kernel
theorem dX3_headOf_4 : decode cX3_headOf 4 = .ok (.isub, 1) := by decide +kernel
theorem dX3_headOf_5 : decode cX3_headOf 5 = .ok (.if_icmp .ge 5, 3) := by decide +kernel
theorem dX3_headOf_8 : decode cX3_headOf 8 = .ok (.iconst 1, 1) := by decide +kernel
theorem dX3_headOf_9 : decode cX3_headOf 9 = .ok (.ireturn, 1) := by decide +kernel
theorem dX3_headOf_10 : decode cX3_headOf 10 = .ok (.iload_n 1, 1) := by decide +kernel
theorem dX3_headOf_11 : decode cX3_headOf 11 = .ok (.iload_n 0, 1) := by decide +kernel
theorem dX3_headOf_12 : decode cX3_headOf 12 = .ok (.if_icmp .lt 7, 3) := by decide +kernel
theorem dX3_headOf_15 : decode cX3_headOf 15 = .ok (.iconst (-1), 1) := by decide +kernel
theorem dX3_headOf_16 : decode cX3_headOf 16 = .ok (.goto 4, 3) := by decide +kernel
theorem dX3_headOf_19 : decode cX3_headOf 19 = .ok (.iconst 0, 1) := by decide +kernel
theorem dX3_headOf_20 : decode cX3_headOf 20 = .ok (.ireturn, 1) := by decide +kernel
theorem dX4_init_0 : decode cX4_init 0 = .ok (.aload_n 0, 1) := by decide +kernel
theorem dX4_init_1 : decode cX4_init 1 = .ok (.invokespecial 3, 3) := by decide +kernel
theorem dX4_init_4 : decode cX4_init 4 = .ok (.aload_n 0, 1) := by decide +kernel
theorem dX4_init_5 : decode cX4_init 5 = .ok (.iconst 0, 1) := by decide +kernel
theorem dX4_init_6 : decode cX4_init 6 = .ok (.putfield 9, 3) := by decide +kernel
theorem dX4_init_9 : decode cX4_init 9 = .ok (.aload_n 0, 1) := by decide +kernel
theorem dX4_init_10 : decode cX4_init 10 = .ok (.iconst 0, 1) := by decide +kernel
theorem dX4_init_11 : decode cX4_init 11 = .ok (.putfield 15, 3) := by decide +kernel
theorem dX4_init_14 : decode cX4_init 14 = .ok (.aload_n 0, 1) := by decide +kernel
theorem dX4_init_15 : decode cX4_init 15 = .ok (.iconst 0, 1) := by decide +kernel
theorem dX4_init_16 : decode cX4_init 16 = .ok (.putfield 18, 3) := by decide +kernel
theorem dX4_init_19 : decode cX4_init 19 = .ok (.aload_n 0, 1) := by decide +kernel
theorem dX4_init_20 : decode cX4_init 20 = .ok (.bipush 10, 2) := by decide +kernel
theorem dX4_init_22 : decode cX4_init 22 = .ok (.newarray .int, 2) := by decide +kernel
theorem dX4_init_24 : decode cX4_init 24 = .ok (.putfield 21, 3) := by decide +kernel
theorem dX4_init_27 : decode cX4_init 27 = .ok (.aload_n 0, 1) := by decide +kernel
theorem dX4_init_28 : decode cX4_init 28 = .ok (.bipush 10, 2) := by decide +kernel
theorem dX4_init_30 : decode cX4_init 30 = .ok (.newarray .int, 2) := by decide +kernel
theorem dX4_init_32 : decode cX4_init 32 = .ok (.putfield 25, 3) := by decide +kernel
theorem dX4_init_35 : decode cX4_init 35 = .ok (.aload_n 0, 1) := by decide +kernel
theorem dX4_init_36 : decode cX4_init 36 = .ok (.bipush 10, 2) := by decide +kernel
theorem dX4_init_38 : decode cX4_init 38 = .ok (.newarray .int, 2) := by decide +kernel
theorem dX4_init_40 : decode cX4_init 40 = .ok (.putfield 28, 3) := by decide +kernel
theorem dX4_init_43 : decode cX4_init 43 = .ok (.aload_n 0, 1) := by decide +kernel
theorem dX4_init_44 : decode cX4_init 44 = .ok (.bipush 11, 2) := by decide +kernel
theorem dX4_init_46 : decode cX4_init 46 = .ok (.newarray .int, 2) := by decide +kernel
theorem dX4_init_48 : decode cX4_init 48 = .ok (.putfield 31, 3) := by decide +kernel
theorem dX4_init_51 : decode cX4_init 51 = .ok (.aload_n 0, 1) := by decide +kernel
theorem dX4_init_52 : decode cX4_init 52 = .ok (.bipush 40, 2) := by decide +kernel
theorem dX4_init_54 : decode cX4_init 54 = .ok (.newarray .int, 2) := by decide +kernel
theorem dX4_init_56 : decode cX4_init 56 = .ok (.putfield 34, 3) := by decide +kernel
theorem dX4_init_59 : decode cX4_init 59 = .ok (.aload_n 0, 1) := by decide +kernel
theorem dX4_init_60 : decode cX4_init 60 = .ok (.bipush 40, 2) := by decide +kernel
theorem dX4_init_62 : decode cX4_init 62 = .ok (.newarray .int, 2) := by decide +kernel
theorem dX4_init_64 : decode cX4_init 64 = .ok (.putfield 37, 3) := by decide +kernel
theorem dX4_init_67 : decode cX4_init 67 = .ok (.return_, 1) := by decide +kernel
theorem dX4_clear_0 : decode cX4_clear 0 = .ok (.aload_n 0, 1) := by decide +kernel
theorem dX4_clear_1 : decode cX4_clear 1 = .ok (.iconst 0, 1) := by decide +kernel
theorem dX4_clear_2 : decode cX4_clear 2 = .ok (.putfield 9, 3) := by decide +kernel
theorem dX4_clear_5 : decode cX4_clear 5 = .ok (.aload_n 0, 1) := by decide +kernel
theorem dX4_clear_6 : decode cX4_clear 6 = .ok (.iconst 0, 1) := by decide +kernel
theorem dX4_clear_7 : decode cX4_clear 7 = .ok (.putfield 15, 3) := by decide +kernel
theorem dX4_clear_10 : decode cX4_clear 10 = .ok (.aload_n 0, 1) := by decide +kernel
theorem dX4_clear_11 : decode cX4_clear 11 = .ok (.iconst 0, 1) := by decide +kernel
theorem dX4_clear_12 : decode cX4_clear 12 = .ok (.putfield 18, 3) := by decide +kernel
theorem dX4_clear_15 : decode cX4_clear 15 = .ok (.return_, 1) := by decide +kernel
theorem dX4_becomeLike_0 : decode cX4_becomeLike 0 = .ok (.aload_n 0, 1) := by decide +kernel
theorem dX4_becomeLike_1 : decode cX4_becomeLike 1 = .ok (.aload_n 1, 1) := by decide +kernel
theorem dX4_becomeLike_2 : decode cX4_becomeLike 2 = .ok (.getfield 9, 3) := by decide +kernel
theorem dX4_becomeLike_5 : decode cX4_becomeLike 5 = .ok (.putfield 9, 3) := by decide +kernel
theorem dX4_becomeLike_8 : decode cX4_becomeLike 8 = .ok (.aload_n 0, 1) := by decide +kernel
theorem dX4_becomeLike_9 : decode cX4_becomeLike 9 = .ok (.aload_n 1, 1) := by decide +kernel
theorem dX4_becomeLike_10 : decode cX4_becomeLike 10 = .ok (.getfield 15, 3) := by decide +kernel
theorem dX4_becomeLike_13 : decode cX4_becomeLike 13 = .ok (.putfield 15, 3) := by decide +kernel
theorem dX4_becomeLike_16 : decode cX4_becomeLike 16 = .ok (.aload_n 0, 1) := by decide +kernel
theorem dX4_becomeLike_17 : decode cX4_becomeLike 17 = .ok (.aload_n 1, 1) := by decide +kernel
theorem dX4_becomeLike_18 : decode cX4_becomeLike 18 = .ok (.getfield 18, 3) := by decide +kernel
theorem dX4_becomeLike_21 : decode cX4_becomeLike 21 = .ok (.putfield 18, 3) := by decide +kernel
theorem dX4_becomeLike_24 : decode cX4_becomeLike 24 = .ok (.aload_n 1, 1) := by decide +kernel
theorem dX4_becomeLike_25 : decode cX4_becomeLike 25 = .ok (.getfield 21, 3) := by decide +kernel
theorem dX4_becomeLike_28 : decode cX4_becomeLike 28 = .ok (.iconst 0, 1) := by decide +kernel
theorem dX4_becomeLike_29 : decode cX4_becomeLike 29 = .ok (.aload_n 0, 1) := by decide +kernel
theorem dX4_becomeLike_30 : decode cX4_becomeLike 30 = .ok (.getfield 21, 3) := by decide +kernel
theorem dX4_becomeLike_33 : decode cX4_becomeLike 33 = .ok (.iconst 0, 1) := by decide +kernel
theorem dX4_becomeLike_34 : decode cX4_becomeLike 34 = .ok (.aload_n 0, 1) := by decide +kernel
theorem dX4_becomeLike_35 : decode cX4_becomeLike 35 = .ok (.getfield 15, 3) := by decide +kernel
theorem dX4_becomeLike_38 : decode cX4_becomeLike 38 = .ok (.invokestatic 40, 3) := by decide +kernel
theorem dX4_becomeLike_41 : decode cX4_becomeLike 41 = .ok (.aload_n 1, 1) := by decide +kernel
theorem dX4_becomeLike_42 : decode cX4_becomeLike 42 = .ok (.getfield 25, 3) := by decide +kernel
theorem dX4_becomeLike_45 : decode cX4_becomeLike 45 = .ok (.iconst 0, 1) := by decide +kernel
theorem dX4_becomeLike_46 : decode cX4_becomeLike 46 = .ok (.aload_n 0, 1) := by decide +kernel
theorem dX4_becomeLike_47 : decode cX4_becomeLike 47 = .ok (.getfield 25, 3) := by decide +kernel
theorem dX4_becomeLike_50 : decode cX4_becomeLike 50 = .ok (.iconst 0, 1) := by decide +kernel
theorem dX4_becomeLike_51 : decode cX4_becomeLike 51 = .ok (.aload_n 0, 1) := by decide +kernel
theorem dX4_becomeLike_52 : decode cX4_becomeLike 52 = .ok (.getfield 15, 3) := by decide +kernel
theorem dX4_becomeLike_55 : decode cX4_becomeLike 55 = .ok (.invokestatic 40, 3) := by decide +kernel
theorem dX4_becomeLike_58 : decode cX4_becomeLike 58 = .ok (.aload_n 1, 1) := by decide +kernel
theorem dX4_becomeLike_59 : decode cX4_becomeLike 59 = .ok (.getfield 28, 3) := by decide +kernel
theorem dX4_becomeLike_62 : decode cX4_becomeLike 62 = .ok (.iconst 0, 1) := by decide +kernel
theorem dX4_becomeLike_63 : decode cX4_becomeLike 63 = .ok (.aload_n 0, 1) := by decide +kernel
theorem dX4_becomeLike_64 : decode cX4_becomeLike 64 = .ok (.getfield 28, 3) := by decide +kernel
theorem dX4_becomeLike_67 : decode cX4_becomeLike 67 = .ok (.iconst 0, 1) := by decide +kernel
theorem dX4_becomeLike_68 : decode cX4_becomeLike 68 = .ok (.aload_n 0, 1) := by decide +kernel
theorem dX4_becomeLike_69 : decode cX4_becomeLike 69 = .ok (.getfield 15, 3) := by decide +kernel
theorem dX4_becomeLike_72 : decode cX4_becomeLike 72 = .ok (.invokestatic 40, 3) := by decide +kernel
theorem dX4_becomeLike_75 : decode cX4_becomeLike 75 = .ok (.aload_n 1, 1) := by decide +kernel
theorem dX4_becomeLike_76 : decode cX4_becomeLike 76 = .ok (.getfield 31, 3) := by decide +kernel
theorem dX4_becomeLike_79 : decode cX4_becomeLike 79 = .ok (.iconst 0, 1) := by decide +kernel
theorem dX4_becomeLike_80 : decode cX4_becomeLike 80 = .ok (.aload_n 0, 1) := by decide +kernel
theorem dX4_becomeLike_81 : decode cX4_becomeLike 81 = .ok (.getfield 31, 3) := by decide +kernel
theorem dX4_becomeLike_84 : decode cX4_becomeLike 84 = .ok (.iconst 0, 1) := by decide +kernel
theorem dX4_becomeLike_85 : decode cX4_becomeLike 85 = .ok (.aload_n 0, 1) := by decide +kernel
theorem dX4_becomeLike_86 : decode cX4_becomeLike 86 = .ok (.getfield 15, 3) := by decide +kernel
theorem dX4_becomeLike_89 : decode cX4_becomeLike 89 = .ok (.iconst 1, 1) := by decide +kernel
theorem dX4_becomeLike_90 : decode cX4_becomeLike 90 = .ok (.iadd, 1) := by decide +kernel
theorem dX4_becomeLike_91 : decode cX4_becomeLike 91 = .ok (.invokestatic 40, 3) := by decide +kernel
theorem dX4_becomeLike_94 : decode cX4_becomeLike 94 = .ok (.aload_n 1, 1) := by decide +kernel
theorem dX4_becomeLike_95 : decode cX4_becomeLike 95 = .ok (.getfield 34, 3) := by decide +kernel
theorem dX4_becomeLike_98 : decode cX4_becomeLike 98 = .ok (.iconst 0, 1) := by decide +kernel
theorem dX4_becomeLike_99 : decode cX4_becomeLike 99 = .ok (.aload_n 0, 1) := by decide +kernel
theorem dX4_becomeLike_100 : decode cX4_becomeLike 100 = .ok (.getfield 34, 3) := by decide +kernel
theorem dX4_becomeLike_103 : decode cX4_becomeLike 103 = .ok (.iconst 0, 1) := by decide +kernel
theorem dX4_becomeLike_104 : decode cX4_becomeLike 104 = .ok (.aload_n 0, 1) := by decide +kernel
theorem dX4_becomeLike_105 : decode cX4_becomeLike 105 = .ok (.getfield 18, 3) := by decide +kernel
theorem dX4_becomeLike_108 : decode cX4_becomeLike 108 = .ok (.invokestatic 40, 3) := by decide +kernel
theorem dX4_becomeLike_111 : decode cX4_becomeLike 111 = .ok (.aload_n 1, 1) := by decide +kernel
theorem dX4_becomeLike_112 : decode cX4_becomeLike 112 = .ok (.getfield 37, 3) := by decide +kernel
theorem dX4_becomeLike_115 : decode cX4_becomeLike 115 = .ok (.iconst 0, 1) := by decide +kernel
theorem dX4_becomeLike_116 : decode cX4_becomeLike 116 = .ok (.aload_n 0, 1) := by decide +kernel
theorem dX4_becomeLike_117 : decode cX4_becomeLike 117 = .ok (.getfield 37, 3) := by decide +kernel
theorem dX4_becomeLike_120 : decode cX4_becomeLike 120 = .ok (.iconst 0, 1) := by decide +kernel
theorem dX4_becomeLike_121 : decode cX4_becomeLike 121 = .ok (.aload_n 0, 1) := by decide +kernel
theorem dX4_becomeLike_122 : decode cX4_becomeLike 122 = .ok (.getfield 18, 3) := by decide +kernel
theorem dX4_becomeLike_125 : decode cX4_becomeLike 125 = .ok (.invokestatic 40, 3) := by decide +kernel
theorem dX4_becomeLike_128 : decode cX4_becomeLike 128 = .ok (.return_, 1) := by decide +kernel
theorem dX4_addChord_0 : decode cX4_addChord 0 = .ok (.aload_n 0, 1) := by decide +kernel
theorem dX4_addChord_1 : decode cX4_addChord 1 = .ok (.getfield 15, 3) := by decide +kernel
theorem dX4_addChord_4 : decode cX4_addChord 4 = .ok (.bipush 10, 2) := by decide +kernel
theorem dX4_addChord_6 : decode cX4_addChord 6 = .ok (.if_icmp .ge 85, 3) := by decide +kernel
theorem dX4_addChord_9 : decode cX4_addChord 9 = .ok (.aload_n 0, 1) := by decide +kernel
theorem dX4_addChord_10 : decode cX4_addChord 10 = .ok (.getfield 21, 3) := by decide +kernel
theorem dX4_addChord_13 : decode cX4_addChord 13 = .ok (.aload_n 0, 1) := by decide +kernel
theorem dX4_addChord_14 : decode cX4_addChord 14 = .ok (.getfield 15, 3) := by decide +kernel
theorem dX4_addChord_17 : decode cX4_addChord 17 = .ok (.iload_n 1, 1) := by decide +kernel
theorem dX4_addChord_18 : decode cX4_addChord 18 = .ok (.iastore, 1) := by decide +kernel
theorem dX4_addChord_19 : decode cX4_addChord 19 = .ok (.aload_n 0, 1) := by decide +kernel
theorem dX4_addChord_20 : decode cX4_addChord 20 = .ok (.getfield 25, 3) := by decide +kernel
theorem dX4_addChord_23 : decode cX4_addChord 23 = .ok (.aload_n 0, 1) := by decide +kernel
theorem dX4_addChord_24 : decode cX4_addChord 24 = .ok (.getfield 15, 3) := by decide +kernel
theorem dX4_addChord_27 : decode cX4_addChord 27 = .ok (.iload_n 2, 1) := by decide +kernel
theorem dX4_addChord_28 : decode cX4_addChord 28 = .ok (.ifCond .eq 7, 3) := by decide +kernel
theorem dX4_addChord_31 : decode cX4_addChord 31 = .ok (.iconst 1, 1) := by decide +kernel
theorem dX4_addChord_32 : decode cX4_addChord 32 = .ok (.goto 4, 3) := by decide +kernel
theorem dX4_addChord_35 : decode cX4_addChord 35 = .ok (.iconst 0, 1) := by decide +kernel
theorem dX4_addChord_36 : decode cX4_addChord 36 = .ok (.iastore, 1) := by decide +kernel
theorem dX4_addChord_37 : decode cX4_addChord 37 = .ok (.aload_n 0, 1) := by decide +kernel
theorem dX4_addChord_38 : decode cX4_addChord 38 = .ok (.getfield 28, 3) := by decide +kernel
theorem dX4_addChord_41 : decode cX4_addChord 41 = .ok (.aload_n 0, 1) := by decide +kernel
theorem dX4_addChord_42 : decode cX4_addChord 42 = .ok (.getfield 15, 3) := by decide +kernel
theorem dX4_addChord_45 : decode cX4_addChord 45 = .ok (.iload_n 3, 1) := by decide +kernel
theorem dX4_addChord_46 : decode cX4_addChord 46 = .ok (.ifCond .eq 7, 3) := by decide +kernel
theorem dX4_addChord_49 : decode cX4_addChord 49 = .ok (.iconst 1, 1) := by decide +kernel
theorem dX4_addChord_50 : decode cX4_addChord 50 = .ok (.goto 4, 3) := by decide +kernel
theorem dX4_addChord_53 : decode cX4_addChord 53 = .ok (.iconst 0, 1) := by decide +kernel
theorem dX4_addChord_54 : decode cX4_addChord 54 = .ok (.iastore, 1) := by decide +kernel
theorem dX4_addChord_55 : decode cX4_addChord 55 = .ok (.aload_n 0, 1) := by decide +kernel
theorem dX4_addChord_56 : decode cX4_addChord 56 = .ok (.getfield 31, 3) := by decide +kernel
theorem dX4_addChord_59 : decode cX4_addChord 59 = .ok (.aload_n 0, 1) := by decide +kernel
theorem dX4_addChord_60 : decode cX4_addChord 60 = .ok (.getfield 15, 3) := by decide +kernel
theorem dX4_addChord_63 : decode cX4_addChord 63 = .ok (.aload_n 0, 1) := by decide +kernel
theorem dX4_addChord_64 : decode cX4_addChord 64 = .ok (.getfield 18, 3) := by decide +kernel
theorem dX4_addChord_67 : decode cX4_addChord 67 = .ok (.iastore, 1) := by decide +kernel
theorem dX4_addChord_68 : decode cX4_addChord 68 = .ok (.aload_n 0, 1) := by decide +kernel
theorem dX4_addChord_69 : decode cX4_addChord 69 = .ok (.dup, 1) := by decide +kernel
theorem dX4_addChord_70 : decode cX4_addChord 70 = .ok (.getfield 15, 3) := by decide +kernel
theorem dX4_addChord_73 : decode cX4_addChord 73 = .ok (.iconst 1, 1) := by decide +kernel
theorem dX4_addChord_74 : decode cX4_addChord 74 = .ok (.iadd, 1) := by decide +kernel
theorem dX4_addChord_75 : decode cX4_addChord 75 = .ok (.putfield 15, 3) := by decide +kernel
theorem dX4_addChord_78 : decode cX4_addChord 78 = .ok (.aload_n 0, 1) := by decide +kernel
theorem dX4_addChord_79 : decode cX4_addChord 79 = .ok (.getfield 31, 3) := by decide +kernel
theorem dX4_addChord_82 : decode cX4_addChord 82 = .ok (.aload_n 0, 1) := by decide +kernel
theorem dX4_addChord_83 : decode cX4_addChord 83 = .ok (.getfield 15, 3) := by decide +kernel
theorem dX4_addChord_86 : decode cX4_addChord 86 = .ok (.aload_n 0, 1) := by decide +kernel
theorem dX4_addChord_87 : decode cX4_addChord 87 = .ok (.getfield 18, 3) := by decide +kernel
theorem dX4_addChord_90 : decode cX4_addChord 90 = .ok (.iastore, 1) := by decide +kernel
theorem dX4_addChord_91 : decode cX4_addChord 91 = .ok (.return_, 1) := by decide +kernel
theorem dX4_addKey_0 : decode cX4_addKey 0 = .ok (.aload_n 0, 1) := by decide +kernel
theorem dX4_addKey_1 : decode cX4_addKey 1 = .ok (.getfield 15, 3) := by decide +kernel
theorem dX4_addKey_4 : decode cX4_addKey 4 = .ok (.ifCond .le 60, 3) := by decide +kernel
theorem dX4_addKey_7 : decode cX4_addKey 7 = .ok (.aload_n 0, 1) := by decide +kernel
theorem dX4_addKey_8 : decode cX4_addKey 8 = .ok (.getfield 18, 3) := by decide +kernel
theorem dX4_addKey_11 : decode cX4_addKey 11 = .ok (.bipush 40, 2) := by decide +kernel
theorem dX4_addKey_13 : decode cX4_addKey 13 = .ok (.if_icmp .ge 51, 3) := by decide +kernel
theorem dX4_addKey_16 : decode cX4_addKey 16 = .ok (.aload_n 0, 1) := by decide +kernel
theorem dX4_addKey_17 : decode cX4_addKey 17 = .ok (.getfield 34, 3) := by decide +kernel
theorem dX4_addKey_20 : decode cX4_addKey 20 = .ok (.aload_n 0, 1) := by decide +kernel
theorem dX4_addKey_21 : decode cX4_addKey 21 = .ok (.getfield 18, 3) := by decide +kernel
theorem dX4_addKey_24 : decode cX4_addKey 24 = .ok (.iload_n 1, 1) := by decide +kernel
theorem dX4_addKey_25 : decode cX4_addKey 25 = .ok (.iastore, 1) := by decide +kernel
theorem dX4_addKey_26 : decode cX4_addKey 26 = .ok (.aload_n 0, 1) := by decide +kernel
theorem dX4_addKey_27 : decode cX4_addKey 27 = .ok (.getfield 37, 3) := by decide +kernel
theorem dX4_addKey_30 : decode cX4_addKey 30 = .ok (.aload_n 0, 1) := by decide +kernel
theorem dX4_addKey_31 : decode cX4_addKey 31 = .ok (.getfield 18, 3) := by decide +kernel
theorem dX4_addKey_34 : decode cX4_addKey 34 = .ok (.aload_n 0, 1) := by decide +kernel
theorem dX4_addKey_35 : decode cX4_addKey 35 = .ok (.getfield 15, 3) := by decide +kernel
theorem dX4_addKey_38 : decode cX4_addKey 38 = .ok (.iconst 1, 1) := by decide +kernel
theorem dX4_addKey_39 : decode cX4_addKey 39 = .ok (.isub, 1) := by decide +kernel
theorem dX4_addKey_40 : decode cX4_addKey 40 = .ok (.iastore, 1) := by decide +kernel
theorem dX4_addKey_41 : decode cX4_addKey 41 = .ok (.aload_n 0, 1) := by decide +kernel
theorem dX4_addKey_42 : decode cX4_addKey 42 = .ok (.dup, 1) := by decide +kernel
theorem dX4_addKey_43 : decode cX4_addKey 43 = .ok (.getfield 18, 3) := by decide +kernel
theorem dX4_addKey_46 : decode cX4_addKey 46 = .ok (.iconst 1, 1) := by decide +kernel
theorem dX4_addKey_47 : decode cX4_addKey 47 = .ok (.iadd, 1) := by decide +kernel
theorem dX4_addKey_48 : decode cX4_addKey 48 = .ok (.putfield 18, 3) := by decide +kernel
theorem dX4_addKey_51 : decode cX4_addKey 51 = .ok (.aload_n 0, 1) := by decide +kernel
theorem dX4_addKey_52 : decode cX4_addKey 52 = .ok (.getfield 31, 3) := by decide +kernel
theorem dX4_addKey_55 : decode cX4_addKey 55 = .ok (.aload_n 0, 1) := by decide +kernel
theorem dX4_addKey_56 : decode cX4_addKey 56 = .ok (.getfield 15, 3) := by decide +kernel
theorem dX4_addKey_59 : decode cX4_addKey 59 = .ok (.aload_n 0, 1) := by decide +kernel
theorem dX4_addKey_60 : decode cX4_addKey 60 = .ok (.getfield 18, 3) := by decide +kernel
theorem dX4_addKey_63 : decode cX4_addKey 63 = .ok (.iastore, 1) := by decide +kernel
theorem dX4_addKey_64 : decode cX4_addKey 64 = .ok (.return_, 1) := by decide +kernel
theorem dX4_sizeOf_0 : decode cX4_sizeOf 0 = .ok (.aload_n 0, 1) := by decide +kernel
theorem dX4_sizeOf_1 : decode cX4_sizeOf 1 = .ok (.getfield 31, 3) := by decide +kernel
theorem dX4_sizeOf_4 : decode cX4_sizeOf 4 = .ok (.iload_n 1, 1) := by decide +kernel
theorem dX4_sizeOf_5 : decode cX4_sizeOf 5 = .ok (.iconst 1, 1) := by decide +kernel
theorem dX4_sizeOf_6 : decode cX4_sizeOf 6 = .ok (.iadd, 1) := by decide +kernel
theorem dX4_sizeOf_7 : decode cX4_sizeOf 7 = .ok (.iaload, 1) := by decide +kernel
theorem dX4_sizeOf_8 : decode cX4_sizeOf 8 = .ok (.aload_n 0, 1) := by decide +kernel
theorem dX4_sizeOf_9 : decode cX4_sizeOf 9 = .ok (.getfield 31, 3) := by decide +kernel
theorem dX4_sizeOf_12 : decode cX4_sizeOf 12 = .ok (.iload_n 1, 1) := by decide +kernel
theorem dX4_sizeOf_13 : decode cX4_sizeOf 13 = .ok (.iaload, 1) := by decide +kernel
theorem dX4_sizeOf_14 : decode cX4_sizeOf 14 = .ok (.isub, 1) := by decide +kernel
theorem dX4_sizeOf_15 : decode cX4_sizeOf 15 = .ok (.ireturn, 1) := by decide +kernel
theorem dX4_moveBy_0 : decode cX4_moveBy 0 = .ok (.aload_n 0, 1) := by decide +kernel
theorem dX4_moveBy_1 : decode cX4_moveBy 1 = .ok (.dup, 1) := by decide +kernel
theorem dX4_moveBy_2 : decode cX4_moveBy 2 = .ok (.getfield 9, 3) := by decide +kernel
theorem dX4_moveBy_5 : decode cX4_moveBy 5 = .ok (.iload_n 1, 1) := by decide +kernel
theorem dX4_moveBy_6 : decode cX4_moveBy 6 = .ok (.iadd, 1) := by decide +kernel
theorem dX4_moveBy_7 : decode cX4_moveBy 7 = .ok (.putfield 9, 3) := by decide +kernel
theorem dX4_moveBy_10 : decode cX4_moveBy 10 = .ok (.iconst 0, 1) := by decide +kernel
theorem dX4_moveBy_11 : decode cX4_moveBy 11 = .ok (.istore_n 2, 1) := by decide +kernel
theorem dX4_moveBy_12 : decode cX4_moveBy 12 = .ok (.iload_n 2, 1) := by decide +kernel
theorem dX4_moveBy_13 : decode cX4_moveBy 13 = .ok (.aload_n 0, 1) := by decide +kernel
theorem dX4_moveBy_14 : decode cX4_moveBy 14 = .ok (.getfield 18, 3) := by decide +kernel
theorem dX4_moveBy_17 : decode cX4_moveBy 17 = .ok (.if_icmp .ge 31, 3) := by decide +kernel
theorem dX4_moveBy_20 : decode cX4_moveBy 20 = .ok (.aload_n 0, 1) := by decide +kernel
theorem dX4_moveBy_21 : decode cX4_moveBy 21 = .ok (.getfield 34, 3) := by decide +kernel
theorem dX4_moveBy_24 : decode cX4_moveBy 24 = .ok (.iload_n 2, 1) := by decide +kernel
theorem dX4_moveBy_25 : decode cX4_moveBy 25 = .ok (.aload_n 0, 1) := by decide +kernel
theorem dX4_moveBy_26 : decode cX4_moveBy 26 = .ok (.getfield 34, 3) := by decide +kernel
theorem dX4_moveBy_29 : decode cX4_moveBy 29 = .ok (.iload_n 2, 1) := by decide +kernel
theorem dX4_moveBy_30 : decode cX4_moveBy 30 = .ok (.iaload, 1) := by decide +kernel
theorem dX4_moveBy_31 : decode cX4_moveBy 31 = .ok (.bipush 7, 2) := by decide +kernel
theorem dX4_moveBy_33 : decode cX4_moveBy 33 = .ok (.iload_n 1, 1) := by decide +kernel
theorem dX4_moveBy_34 : decode cX4_moveBy 34 = .ok (.imul, 1) := by decide +kernel
theorem dX4_moveBy_35 : decode cX4_moveBy 35 = .ok (.iadd, 1) := by decide +kernel
theorem dX4_moveBy_36 : decode cX4_moveBy 36 = .ok (.bipush 12, 2) := by decide +kernel
theorem dX4_moveBy_38 : decode cX4_moveBy 38 = .ok (.invokestatic 46, 3) := by decide +kernel
theorem dX4_moveBy_41 : decode cX4_moveBy 41 = .ok (.iastore, 1) := by decide +kernel
theorem dX4_moveBy_42 : decode cX4_moveBy 42 = .ok (.iinc 2 1, 3) := by decide +kernel
theorem dX4_moveBy_45 : decode cX4_moveBy 45 = .ok (.goto (-33), 3) := by decide +kernel
theorem dX4_moveBy_48 : decode cX4_moveBy 48 = .ok (.return_, 1) := by decide +kernel
theorem dX4_staysWithin_0 : decode cX4_staysWithin 0 = .ok (.iload_n 1, 1) := by decide +kernel
theorem dX4_staysWithin_1 : decode cX4_staysWithin 1 = .ok (.ifCond .le 27, 3) := by decide +kernel
theorem dX4_staysWithin_4 : decode cX4_staysWithin 4 = .ok (.aload_n 0, 1) := by decide +kernel
theorem dX4_staysWithin_5 : decode cX4_staysWithin 5 = .ok (.getfield 21, 3) := by decide +kernel
theorem dX4_staysWithin_8 : decode cX4_staysWithin 8 = .ok (.iload_n 1, 1) := by decide +kernel
theorem dX4_staysWithin_9 : decode cX4_staysWithin 9 = .ok (.iaload, 1) := by decide +kernel
theorem dX4_staysWithin_10 : decode cX4_staysWithin 10 = .ok (.iconst 4, 1) := by decide +kernel
theorem dX4_staysWithin_11 : decode cX4_staysWithin 11 = .ok (.if_icmp .eq 13, 3) := by decide +kernel
theorem dX4_staysWithin_14 : decode cX4_staysWithin 14 = .ok (.aload_n 0, 1) := by decide +kernel
theorem dX4_staysWithin_15 : decode cX4_staysWithin 15 = .ok (.getfield 21, 3) := by decide +kernel
theorem dX4_staysWithin_18 : decode cX4_staysWithin 18 = .ok (.iload_n 1, 1) := by decide +kernel
theorem dX4_staysWithin_19 : decode cX4_staysWithin 19 = .ok (.iaload, 1) := by decide +kernel
theorem dX4_staysWithin_20 : decode cX4_staysWithin 20 = .ok (.iconst 5, 1) := by decide +kernel
theorem dX4_staysWithin_21 : decode cX4_staysWithin 21 = .ok (.if_icmp .ne 7, 3) := by decide +kernel
theorem dX4_staysWithin_24 : decode cX4_staysWithin 24 = .ok (.iconst 1, 1) := by decide +kernel
theorem dX4_staysWithin_25 : decode cX4_staysWithin 25 = .ok (.goto 4, 3) := by decide +kernel
theorem dX4_staysWithin_28 : decode cX4_staysWithin 28 = .ok (.iconst 0, 1) := by decide +kernel
theorem dX4_staysWithin_29 : decode cX4_staysWithin 29 = .ok (.ireturn, 1) := by decide +kernel
theorem dX4_priceBy_0 : decode cX4_priceBy 0 = .ok (.aload_n 0, 1) := by decide +kernel
theorem dX4_priceBy_1 : decode cX4_priceBy 1 = .ok (.getfield 21, 3) := by decide +kernel
theorem dX4_priceBy_4 : decode cX4_priceBy 4 = .ok (.iload_n 1, 1) := by decide +kernel
theorem dX4_priceBy_5 : decode cX4_priceBy 5 = .ok (.iaload, 1) := by decide +kernel
theorem dX4_priceBy_6 : decode cX4_priceBy 6 = .ok (.istore_n 3, 1) := by decide +kernel
theorem dX4_priceBy_7 : decode cX4_priceBy 7 = .ok (.iload_n 3, 1) := by decide +kernel
theorem dX4_priceBy_8 : decode cX4_priceBy 8 = .ok (.iconst 5, 1) := by decide +kernel
theorem dX4_priceBy_9 : decode cX4_priceBy 9 = .ok (.if_icmp .ne 5, 3) := by decide +kernel
theorem dX4_priceBy_12 : decode cX4_priceBy 12 = .ok (.iconst 0, 1) := by decide +kernel
theorem dX4_priceBy_13 : decode cX4_priceBy 13 = .ok (.ireturn, 1) := by decide +kernel
theorem dX4_priceBy_14 : decode cX4_priceBy 14 = .ok (.iconst 0, 1) := by decide +kernel
theorem dX4_priceBy_15 : decode cX4_priceBy 15 = .ok (.istore 4, 2) := by decide +kernel
theorem dX4_priceBy_17 : decode cX4_priceBy 17 = .ok (.iconst 0, 1) := by decide +kernel
theorem dX4_priceBy_18 : decode cX4_priceBy 18 = .ok (.istore 5, 2) := by decide +kernel
theorem dX4_priceBy_20 : decode cX4_priceBy 20 = .ok (.aload_n 0, 1) := by decide +kernel
theorem dX4_priceBy_21 : decode cX4_priceBy 21 = .ok (.getfield 31, 3) := by decide +kernel
theorem dX4_priceBy_24 : decode cX4_priceBy 24 = .ok (.iload_n 1, 1) := by decide +kernel
theorem dX4_priceBy_25 : decode cX4_priceBy 25 = .ok (.iaload, 1) := by decide +kernel
theorem dX4_priceBy_26 : decode cX4_priceBy 26 = .ok (.istore 6, 2) := by decide +kernel
theorem dX4_priceBy_28 : decode cX4_priceBy 28 = .ok (.iload 6, 2) := by decide +kernel
theorem dX4_priceBy_30 : decode cX4_priceBy 30 = .ok (.aload_n 0, 1) := by decide +kernel
theorem dX4_priceBy_31 : decode cX4_priceBy 31 = .ok (.getfield 31, 3) := by decide +kernel
theorem dX4_priceBy_34 : decode cX4_priceBy 34 = .ok (.iload_n 1, 1) := by decide +kernel
theorem dX4_priceBy_35 : decode cX4_priceBy 35 = .ok (.iconst 1, 1) := by decide +kernel
theorem dX4_priceBy_36 : decode cX4_priceBy 36 = .ok (.iadd, 1) := by decide +kernel
theorem dX4_priceBy_37 : decode cX4_priceBy 37 = .ok (.iaload, 1) := by decide +kernel
theorem dX4_priceBy_38 : decode cX4_priceBy 38 = .ok (.if_icmp .ge 80, 3) := by decide +kernel
theorem dX4_priceBy_41 : decode cX4_priceBy 41 = .ok (.iload_n 2, 1) := by decide +kernel
theorem dX4_priceBy_42 : decode cX4_priceBy 42 = .ok (.aload_n 0, 1) := by decide +kernel
theorem dX4_priceBy_43 : decode cX4_priceBy 43 = .ok (.getfield 34, 3) := by decide +kernel
theorem dX4_priceBy_46 : decode cX4_priceBy 46 = .ok (.iload 6, 2) := by decide +kernel
theorem dX4_priceBy_48 : decode cX4_priceBy 48 = .ok (.iaload, 1) := by decide +kernel
theorem dX4_priceBy_49 : decode cX4_priceBy 49 = .ok (.invokestatic 52, 3) := by decide +kernel
theorem dX4_priceBy_52 : decode cX4_priceBy 52 = .ok (.istore 7, 2) := by decide +kernel
theorem dX4_priceBy_54 : decode cX4_priceBy 54 = .ok (.iload 7, 2) := by decide +kernel
theorem dX4_priceBy_56 : decode cX4_priceBy 56 = .ok (.invokestatic 57, 3) := by decide +kernel
theorem dX4_priceBy_59 : decode cX4_priceBy 59 = .ok (.istore 8, 2) := by decide +kernel
theorem dX4_priceBy_61 : decode cX4_priceBy 61 = .ok (.iload 4, 2) := by decide +kernel
theorem dX4_priceBy_63 : decode cX4_priceBy 63 = .ok (.iload_n 3, 1) := by decide +kernel
theorem dX4_priceBy_64 : decode cX4_priceBy 64 = .ok (.iload 7, 2) := by decide +kernel
theorem dX4_priceBy_66 : decode cX4_priceBy 66 = .ok (.invokestatic 61, 3) := by decide +kernel
theorem dX4_priceBy_69 : decode cX4_priceBy 69 = .ok (.aload_n 0, 1) := by decide +kernel
theorem dX4_priceBy_70 : decode cX4_priceBy 70 = .ok (.getfield 9, 3) := by decide +kernel
theorem dX4_priceBy_73 : decode cX4_priceBy 73 = .ok (.iload 8, 2) := by decide +kernel
theorem dX4_priceBy_75 : decode cX4_priceBy 75 = .ok (.invokestatic 64, 3) := by decide +kernel
theorem dX4_priceBy_78 : decode cX4_priceBy 78 = .ok (.invokestatic 67, 3) := by decide +kernel
theorem dX4_priceBy_81 : decode cX4_priceBy 81 = .ok (.iadd, 1) := by decide +kernel
theorem dX4_priceBy_82 : decode cX4_priceBy 82 = .ok (.istore 4, 2) := by decide +kernel
theorem dX4_priceBy_84 : decode cX4_priceBy 84 = .ok (.iload 4, 2) := by decide +kernel
theorem dX4_priceBy_86 : decode cX4_priceBy 86 = .ok (.iconst 5, 1) := by decide +kernel
theorem dX4_priceBy_87 : decode cX4_priceBy 87 = .ok (.iload 5, 2) := by decide +kernel
theorem dX4_priceBy_89 : decode cX4_priceBy 89 = .ok (.iconst 4, 1) := by decide +kernel
theorem dX4_priceBy_90 : decode cX4_priceBy 90 = .ok (.iload 8, 2) := by decide +kernel
theorem dX4_priceBy_92 : decode cX4_priceBy 92 = .ok (.imul, 1) := by decide +kernel
theorem dX4_priceBy_93 : decode cX4_priceBy 93 = .ok (.ishr, 1) := by decide +kernel
theorem dX4_priceBy_94 : decode cX4_priceBy 94 = .ok (.bipush 15, 2) := by decide +kernel
theorem dX4_priceBy_96 : decode cX4_priceBy 96 = .ok (.iand, 1) := by decide +kernel
theorem dX4_priceBy_97 : decode cX4_priceBy 97 = .ok (.imul, 1) := by decide +kernel
theorem dX4_priceBy_98 : decode cX4_priceBy 98 = .ok (.iadd, 1) := by decide +kernel
theorem dX4_priceBy_99 : decode cX4_priceBy 99 = .ok (.istore 4, 2) := by decide +kernel
theorem dX4_priceBy_101 : decode cX4_priceBy 101 = .ok (.iload 5, 2) := by decide +kernel
theorem dX4_priceBy_103 : decode cX4_priceBy 103 = .ok (.iconst 1, 1) := by decide +kernel
theorem dX4_priceBy_104 : decode cX4_priceBy 104 = .ok (.iconst 4, 1) := by decide +kernel
theorem dX4_priceBy_105 : decode cX4_priceBy 105 = .ok (.iload 8, 2) := by decide +kernel
theorem dX4_priceBy_107 : decode cX4_priceBy 107 = .ok (.imul, 1) := by decide +kernel
theorem dX4_priceBy_108 : decode cX4_priceBy 108 = .ok (.ishl, 1) := by decide +kernel
theorem dX4_priceBy_109 : decode cX4_priceBy 109 = .ok (.iadd, 1) := by decide +kernel
theorem dX4_priceBy_110 : decode cX4_priceBy 110 = .ok (.istore 5, 2) := by decide +kernel
theorem dX4_priceBy_112 : decode cX4_priceBy 112 = .ok (.iinc 6 1, 3) := by decide +kernel
theorem dX4_priceBy_115 : decode cX4_priceBy 115 = .ok (.goto (-87), 3) := by decide +kernel
theorem dX4_priceBy_118 : decode cX4_priceBy 118 = .ok (.iload 4, 2) := by decide +kernel
theorem dX4_priceBy_120 : decode cX4_priceBy 120 = .ok (.ireturn, 1) := by decide +kernel
theorem dX4_priceOfName_0 : decode cX4_priceOfName 0 = .ok (.iload_n 1, 1) := by decide +kernel
theorem dX4_priceOfName_1 : decode cX4_priceOfName 1 = .ok (.iload_n 2, 1) := by decide +kernel
theorem dX4_priceOfName_2 : decode cX4_priceOfName 2 = .ok (.isub, 1) := by decide +kernel
theorem dX4_priceOfName_3 : decode cX4_priceOfName 3 = .ok (.invokestatic 71, 3) := by decide +kernel
theorem dX4_priceOfName_6 : decode cX4_priceOfName 6 = .ok (.istore_n 3, 1) := by decide +kernel
theorem dX4_priceOfName_7 : decode cX4_priceOfName 7 = .ok (.iload_n 0, 1) := by decide +kernel
theorem dX4_priceOfName_8 : decode cX4_priceOfName 8 = .ok (.iconst 2, 1) := by decide +kernel
theorem dX4_priceOfName_9 : decode cX4_priceOfName 9 = .ok (.if_icmp .ne 7, 3) := by decide +kernel
theorem dX4_priceOfName_12 : decode cX4_priceOfName 12 = .ok (.iload_n 1, 1) := by decide +kernel
theorem dX4_priceOfName_13 : decode cX4_priceOfName 13 = .ok (.ifCond .gt 12, 3) := by decide +kernel
theorem dX4_priceOfName_16 : decode cX4_priceOfName 16 = .ok (.iload_n 0, 1) := by decide +kernel
theorem dX4_priceOfName_17 : decode cX4_priceOfName 17 = .ok (.iconst 3, 1) := by decide +kernel
theorem dX4_priceOfName_18 : decode cX4_priceOfName 18 = .ok (.if_icmp .ne 11, 3) := by decide +kernel
theorem dX4_priceOfName_21 : decode cX4_priceOfName 21 = .ok (.iload_n 1, 1) := by decide +kernel
theorem dX4_priceOfName_22 : decode cX4_priceOfName 22 = .ok (.ifCond .ge 7, 3) := by decide +kernel
theorem dX4_priceOfName_25 : decode cX4_priceOfName 25 = .ok (.iconst 1, 1) := by decide +kernel
theorem dX4_priceOfName_26 : decode cX4_priceOfName 26 = .ok (.goto 4, 3) := by decide +kernel
theorem dX4_priceOfName_29 : decode cX4_priceOfName 29 = .ok (.iconst 0, 1) := by decide +kernel
theorem dX4_priceOfName_30 : decode cX4_priceOfName 30 = .ok (.istore 4, 2) := by decide +kernel
theorem dX4_priceOfName_32 : decode cX4_priceOfName 32 = .ok (.iload 4, 2) := by decide +kernel
theorem dX4_priceOfName_34 : decode cX4_priceOfName 34 = .ok (.ifCond .eq 7, 3) := by decide +kernel
theorem dX4_priceOfName_37 : decode cX4_priceOfName 37 = .ok (.iload_n 3, 1) := by decide +kernel
theorem dX4_priceOfName_38 : decode cX4_priceOfName 38 = .ok (.goto 6, 3) := by decide +kernel
theorem dX4_priceOfName_41 : decode cX4_priceOfName 41 = .ok (.iconst 2, 1) := by decide +kernel
theorem dX4_priceOfName_42 : decode cX4_priceOfName 42 = .ok (.iload_n 3, 1) := by decide +kernel
theorem dX4_priceOfName_43 : decode cX4_priceOfName 43 = .ok (.imul, 1) := by decide +kernel
theorem dX4_priceOfName_44 : decode cX4_priceOfName 44 = .ok (.ireturn, 1) := by decide +kernel
theorem dX4_priceOfStep_0 : decode cX4_priceOfStep 0 = .ok (.iload_n 2, 1) := by decide +kernel
theorem dX4_priceOfStep_1 : decode cX4_priceOfStep 1 = .ok (.iload_n 3, 1) := by decide +kernel
theorem dX4_priceOfStep_2 : decode cX4_priceOfStep 2 = .ok (.isub, 1) := by decide +kernel
theorem dX4_priceOfStep_3 : decode cX4_priceOfStep 3 = .ok (.invokestatic 71, 3) := by decide +kernel
theorem dX4_priceOfStep_6 : decode cX4_priceOfStep 6 = .ok (.istore 4, 2) := by decide +kernel
theorem dX4_priceOfStep_8 : decode cX4_priceOfStep 8 = .ok (.aload_n 0, 1) := by decide +kernel
theorem dX4_priceOfStep_9 : decode cX4_priceOfStep 9 = .ok (.getfield 28, 3) := by decide +kernel
theorem dX4_priceOfStep_12 : decode cX4_priceOfStep 12 = .ok (.iload_n 1, 1) := by decide +kernel
theorem dX4_priceOfStep_13 : decode cX4_priceOfStep 13 = .ok (.iaload, 1) := by decide +kernel
theorem dX4_priceOfStep_14 : decode cX4_priceOfStep 14 = .ok (.iconst 1, 1) := by decide +kernel
theorem dX4_priceOfStep_15 : decode cX4_priceOfStep 15 = .ok (.if_icmp .ne 10, 3) := by decide +kernel
theorem dX4_priceOfStep_18 : decode cX4_priceOfStep 18 = .ok (.iload 4, 2) := by decide +kernel
theorem dX4_priceOfStep_20 : decode cX4_priceOfStep 20 = .ok (.iconst 2, 1) := by decide +kernel
theorem dX4_priceOfStep_21 : decode cX4_priceOfStep 21 = .ok (.idiv, 1) := by decide +kernel
theorem dX4_priceOfStep_22 : decode cX4_priceOfStep 22 = .ok (.goto 5, 3) := by decide +kernel
theorem dX4_priceOfStep_25 : decode cX4_priceOfStep 25 = .ok (.iload 4, 2) := by decide +kernel
theorem dX4_priceOfStep_27 : decode cX4_priceOfStep 27 = .ok (.ireturn, 1) := by decide +kernel
theorem dX5_init_0 : decode cX5_init 0 = .ok (.aload_n 0, 1) := by decide +kernel
theorem dX5_init_1 : decode cX5_init 1 = .ok (.invokespecial 1, 3) := by decide +kernel
theorem dX5_init_4 : decode cX5_init 4 = .ok (.aload_n 0, 1) := by decide +kernel
theorem dX5_init_5 : decode cX5_init 5 = .ok (.sipush 320, 3) := by decide +kernel
theorem dX5_init_8 : decode cX5_init 8 = .ok (.newarray .int, 2) := by decide +kernel
theorem dX5_init_10 : decode cX5_init 10 = .ok (.putfield 9, 3) := by decide +kernel
theorem dX5_init_13 : decode cX5_init 13 = .ok (.aload_n 0, 1) := by decide +kernel
theorem dX5_init_14 : decode cX5_init 14 = .ok (.bipush 8, 2) := by decide +kernel
theorem dX5_init_16 : decode cX5_init 16 = .ok (.newarray .int, 2) := by decide +kernel
theorem dX5_init_18 : decode cX5_init 18 = .ok (.putfield 13, 3) := by decide +kernel
theorem dX5_init_21 : decode cX5_init 21 = .ok (.aload_n 0, 1) := by decide +kernel
theorem dX5_init_22 : decode cX5_init 22 = .ok (.bipush 8, 2) := by decide +kernel
theorem dX5_init_24 : decode cX5_init 24 = .ok (.newarray .int, 2) := by decide +kernel
theorem dX5_init_26 : decode cX5_init 26 = .ok (.putfield 16, 3) := by decide +kernel
theorem dX5_init_29 : decode cX5_init 29 = .ok (.iconst 0, 1) := by decide +kernel
theorem dX5_init_30 : decode cX5_init 30 = .ok (.istore_n 1, 1) := by decide +kernel
theorem dX5_init_31 : decode cX5_init 31 = .ok (.iload_n 1, 1) := by decide +kernel
theorem dX5_init_32 : decode cX5_init 32 = .ok (.bipush 8, 2) := by decide +kernel
theorem dX5_init_34 : decode cX5_init 34 = .ok (.if_icmp .ge 16, 3) := by decide +kernel
theorem dX5_init_37 : decode cX5_init 37 = .ok (.aload_n 0, 1) := by decide +kernel
theorem dX5_init_38 : decode cX5_init 38 = .ok (.getfield 16, 3) := by decide +kernel
theorem dX5_init_41 : decode cX5_init 41 = .ok (.iload_n 1, 1) := by decide +kernel
theorem dX5_init_42 : decode cX5_init 42 = .ok (.iconst (-1), 1) := by decide +kernel
theorem dX5_init_43 : decode cX5_init 43 = .ok (.iastore, 1) := by decide +kernel
theorem dX5_init_44 : decode cX5_init 44 = .ok (.iinc 1 1, 3) := by decide +kernel
theorem dX5_init_47 : decode cX5_init 47 = .ok (.goto (-16), 3) := by decide +kernel
theorem dX5_init_50 : decode cX5_init 50 = .ok (.return_, 1) := by decide +kernel
theorem dX5_isRow_0 : decode cX5_isRow 0 = .ok (.iload_n 0, 1) := by decide +kernel
theorem dX5_isRow_1 : decode cX5_isRow 1 = .ok (.ifCond .lt 13, 3) := by decide +kernel
theorem dX5_isRow_4 : decode cX5_isRow 4 = .ok (.iload_n 0, 1) := by decide +kernel
theorem dX5_isRow_5 : decode cX5_isRow 5 = .ok (.bipush 8, 2) := by decide +kernel
theorem dX5_isRow_7 : decode cX5_isRow 7 = .ok (.if_icmp .ge 7, 3) := by decide +kernel
theorem dX5_isRow_10 : decode cX5_isRow 10 = .ok (.iconst 1, 1) := by decide +kernel
theorem dX5_isRow_11 : decode cX5_isRow 11 = .ok (.goto 4, 3) := by decide +kernel
theorem dX5_isRow_14 : decode cX5_isRow 14 = .ok (.iconst 0, 1) := by decide +kernel
theorem dX5_isRow_15 : decode cX5_isRow 15 = .ok (.ireturn, 1) := by decide +kernel
theorem dX5_isMissing_0 : decode cX5_isMissing 0 = .ok (.aload_n 0, 1) := by decide +kernel
theorem dX5_isMissing_1 : decode cX5_isMissing 1 = .ok (.getfield 16, 3) := by decide +kernel
theorem dX5_isMissing_4 : decode cX5_isMissing 4 = .ok (.iload_n 1, 1) := by decide +kernel
theorem dX5_isMissing_5 : decode cX5_isMissing 5 = .ok (.iaload, 1) := by decide +kernel
theorem dX5_isMissing_6 : decode cX5_isMissing 6 = .ok (.iconst (-1), 1) := by decide +kernel
theorem dX5_isMissing_7 : decode cX5_isMissing 7 = .ok (.if_icmp .ne 7, 3) := by decide +kernel
theorem dX5_isMissing_10 : decode cX5_isMissing 10 = .ok (.iconst 1, 1) := by decide +kernel
theorem dX5_isMissing_11 : decode cX5_isMissing 11 = .ok (.goto 4, 3) := by decide +kernel
theorem dX5_isMissing_14 : decode cX5_isMissing 14 = .ok (.iconst 0, 1) := by decide +kernel
theorem dX5_isMissing_15 : decode cX5_isMissing 15 = .ok (.ireturn, 1) := by decide +kernel
theorem dX5_ofOneLane_0 : decode cX5_ofOneLane 0 = .ok (.aload_n 0, 1) := by decide +kernel
theorem dX5_ofOneLane_1 : decode cX5_ofOneLane 1 = .ok (.getfield 13, 3) := by decide +kernel
theorem dX5_ofOneLane_4 : decode cX5_ofOneLane 4 = .ok (.iload_n 1, 1) := by decide +kernel
theorem dX5_ofOneLane_5 : decode cX5_ofOneLane 5 = .ok (.iaload, 1) := by decide +kernel
theorem dX5_ofOneLane_6 : decode cX5_ofOneLane 6 = .ok (.aload_n 0, 1) := by decide +kernel
theorem dX5_ofOneLane_7 : decode cX5_ofOneLane 7 = .ok (.getfield 13, 3) := by decide +kernel
theorem dX5_ofOneLane_10 : decode cX5_ofOneLane 10 = .ok (.iload_n 2, 1) := by decide +kernel
theorem dX5_ofOneLane_11 : decode cX5_ofOneLane 11 = .ok (.iaload, 1) := by decide +kernel
theorem dX5_ofOneLane_12 : decode cX5_ofOneLane 12 = .ok (.if_icmp .ne 7, 3) := by decide +kernel
theorem dX5_ofOneLane_15 : decode cX5_ofOneLane 15 = .ok (.iconst 1, 1) := by decide +kernel
theorem dX5_ofOneLane_16 : decode cX5_ofOneLane 16 = .ok (.goto 4, 3) := by decide +kernel
theorem dX5_ofOneLane_19 : decode cX5_ofOneLane 19 = .ok (.iconst 0, 1) := by decide +kernel
theorem dX5_ofOneLane_20 : decode cX5_ofOneLane 20 = .ok (.ireturn, 1) := by decide +kernel
theorem dX5_holds_0 : decode cX5_holds 0 = .ok (.iload_n 2, 1) := by decide +kernel
theorem dX5_holds_1 : decode cX5_holds 1 = .ok (.ifCond .lt 23, 3) := by decide +kernel
theorem dX5_holds_4 : decode cX5_holds 4 = .ok (.iload_n 3, 1) := by decide +kernel
theorem dX5_holds_5 : decode cX5_holds 5 = .ok (.ifCond .lt 19, 3) := by decide +kernel
theorem dX5_holds_8 : decode cX5_holds 8 = .ok (.iload_n 3, 1) := by decide +kernel
theorem dX5_holds_9 : decode cX5_holds 9 = .ok (.aload_n 0, 1) := by decide +kernel
theorem dX5_holds_10 : decode cX5_holds 10 = .ok (.getfield 16, 3) := by decide +kernel
theorem dX5_holds_13 : decode cX5_holds 13 = .ok (.iload_n 1, 1) := by decide +kernel
theorem dX5_holds_14 : decode cX5_holds 14 = .ok (.iaload, 1) := by decide +kernel
theorem dX5_holds_15 : decode cX5_holds 15 = .ok (.iload_n 2, 1) := by decide +kernel
theorem dX5_holds_16 : decode cX5_holds 16 = .ok (.isub, 1) := by decide +kernel
theorem dX5_holds_17 : decode cX5_holds 17 = .ok (.if_icmp .gt 7, 3) := by decide +kernel
theorem dX5_holds_20 : decode cX5_holds 20 = .ok (.iconst 1, 1) := by decide +kernel
theorem dX5_holds_21 : decode cX5_holds 21 = .ok (.goto 4, 3) := by decide +kernel
theorem dX5_holds_24 : decode cX5_holds 24 = .ok (.iconst 0, 1) := by decide +kernel
theorem dX5_holds_25 : decode cX5_holds 25 = .ok (.ireturn, 1) := by decide +kernel
theorem dX5_make_0 : decode cX5_make 0 = .ok (.aload_n 0, 1) := by decide +kernel
theorem dX5_make_1 : decode cX5_make 1 = .ok (.getfield 13, 3) := by decide +kernel
theorem dX5_make_4 : decode cX5_make 4 = .ok (.iload_n 1, 1) := by decide +kernel
theorem dX5_make_5 : decode cX5_make 5 = .ok (.iload_n 2, 1) := by decide +kernel
theorem dX5_make_6 : decode cX5_make 6 = .ok (.iastore, 1) := by decide +kernel
theorem dX5_make_7 : decode cX5_make 7 = .ok (.aload_n 0, 1) := by decide +kernel
theorem dX5_make_8 : decode cX5_make 8 = .ok (.getfield 16, 3) := by decide +kernel
theorem dX5_make_11 : decode cX5_make 11 = .ok (.iload_n 1, 1) := by decide +kernel
theorem dX5_make_12 : decode cX5_make 12 = .ok (.iload_n 3, 1) := by decide +kernel
theorem dX5_make_13 : decode cX5_make 13 = .ok (.iastore, 1) := by decide +kernel
theorem dX5_make_14 : decode cX5_make 14 = .ok (.iconst 0, 1) := by decide +kernel
theorem dX5_make_15 : decode cX5_make 15 = .ok (.istore 4, 2) := by decide +kernel
theorem dX5_make_17 : decode cX5_make 17 = .ok (.iload 4, 2) := by decide +kernel
theorem dX5_make_19 : decode cX5_make 19 = .ok (.iload_n 3, 1) := by decide +kernel
theorem dX5_make_20 : decode cX5_make 20 = .ok (.if_icmp .ge 22, 3) := by decide +kernel
theorem dX5_make_23 : decode cX5_make 23 = .ok (.aload_n 0, 1) := by decide +kernel
theorem dX5_make_24 : decode cX5_make 24 = .ok (.getfield 9, 3) := by decide +kernel
theorem dX5_make_27 : decode cX5_make 27 = .ok (.iload_n 1, 1) := by decide +kernel
theorem dX5_make_28 : decode cX5_make 28 = .ok (.bipush 40, 2) := by decide +kernel
theorem dX5_make_30 : decode cX5_make 30 = .ok (.imul, 1) := by decide +kernel
theorem dX5_make_31 : decode cX5_make 31 = .ok (.iload 4, 2) := by decide +kernel
theorem dX5_make_33 : decode cX5_make 33 = .ok (.iadd, 1) := by decide +kernel
theorem dX5_make_34 : decode cX5_make 34 = .ok (.iconst 0, 1) := by decide +kernel
theorem dX5_make_35 : decode cX5_make 35 = .ok (.iastore, 1) := by decide +kernel
theorem dX5_make_36 : decode cX5_make 36 = .ok (.iinc 4 1, 3) := by decide +kernel
theorem dX5_make_39 : decode cX5_make 39 = .ok (.goto (-22), 3) := by decide +kernel
theorem dX5_make_42 : decode cX5_make 42 = .ok (.return_, 1) := by decide +kernel
theorem dX5_put_0 : decode cX5_put 0 = .ok (.iload_n 3, 1) := by decide +kernel
theorem dX5_put_1 : decode cX5_put 1 = .ok (.istore 4, 2) := by decide +kernel
theorem dX5_put_3 : decode cX5_put 3 = .ok (.aload_n 0, 1) := by decide +kernel
theorem dX5_put_4 : decode cX5_put 4 = .ok (.getfield 13, 3) := by decide +kernel
theorem dX5_put_7 : decode cX5_put 7 = .ok (.iload_n 1, 1) := by decide +kernel
theorem dX5_put_8 : decode cX5_put 8 = .ok (.iaload, 1) := by decide +kernel
theorem dX5_put_9 : decode cX5_put 9 = .ok (.ifCond .ne 10, 3) := by decide +kernel
theorem dX5_put_12 : decode cX5_put 12 = .ok (.iload_n 3, 1) := by decide +kernel
theorem dX5_put_13 : decode cX5_put 13 = .ok (.i2b, 1) := by decide +kernel
theorem dX5_put_14 : decode cX5_put 14 = .ok (.istore 4, 2) := by decide +kernel
theorem dX5_put_16 : decode cX5_put 16 = .ok (.goto 17, 3) := by decide +kernel
theorem dX5_put_19 : decode cX5_put 19 = .ok (.aload_n 0, 1) := by decide +kernel
theorem dX5_put_20 : decode cX5_put 20 = .ok (.getfield 13, 3) := by decide +kernel
theorem dX5_put_23 : decode cX5_put 23 = .ok (.iload_n 1, 1) := by decide +kernel
theorem dX5_put_24 : decode cX5_put 24 = .ok (.iaload, 1) := by decide +kernel
theorem dX5_put_25 : decode cX5_put 25 = .ok (.iconst 1, 1) := by decide +kernel
theorem dX5_put_26 : decode cX5_put 26 = .ok (.if_icmp .ne 7, 3) := by decide +kernel
theorem dX5_put_29 : decode cX5_put 29 = .ok (.iload_n 3, 1) := by decide +kernel
theorem dX5_put_30 : decode cX5_put 30 = .ok (.i2s, 1) := by decide +kernel
theorem dX5_put_31 : decode cX5_put 31 = .ok (.istore 4, 2) := by decide +kernel
theorem dX5_put_33 : decode cX5_put 33 = .ok (.aload_n 0, 1) := by decide +kernel
theorem dX5_put_34 : decode cX5_put 34 = .ok (.getfield 9, 3) := by decide +kernel
theorem dX5_put_37 : decode cX5_put 37 = .ok (.iload_n 1, 1) := by decide +kernel
theorem dX5_put_38 : decode cX5_put 38 = .ok (.bipush 40, 2) := by decide +kernel
theorem dX5_put_40 : decode cX5_put 40 = .ok (.imul, 1) := by decide +kernel
theorem dX5_put_41 : decode cX5_put 41 = .ok (.iload_n 2, 1) := by decide +kernel
theorem dX5_put_42 : decode cX5_put 42 = .ok (.iadd, 1) := by decide +kernel
theorem dX5_put_43 : decode cX5_put 43 = .ok (.iload 4, 2) := by decide +kernel
theorem dX5_put_45 : decode cX5_put 45 = .ok (.iastore, 1) := by decide +kernel
theorem dX5_put_46 : decode cX5_put 46 = .ok (.iload 4, 2) := by decide +kernel
theorem dX5_put_48 : decode cX5_put 48 = .ok (.ireturn, 1) := by decide +kernel
theorem dX5_itemOf_0 : decode cX5_itemOf 0 = .ok (.aload_n 0, 1) := by decide +kernel
theorem dX5_itemOf_1 : decode cX5_itemOf 1 = .ok (.getfield 9, 3) := by decide +kernel
theorem dX5_itemOf_4 : decode cX5_itemOf 4 = .ok (.iload_n 1, 1) := by decide +kernel
theorem dX5_itemOf_5 : decode cX5_itemOf 5 = .ok (.bipush 40, 2) := by decide +kernel
theorem dX5_itemOf_7 : decode cX5_itemOf 7 = .ok (.imul, 1) := by decide +kernel
theorem dX5_itemOf_8 : decode cX5_itemOf 8 = .ok (.iload_n 2, 1) := by decide +kernel
theorem dX5_itemOf_9 : decode cX5_itemOf 9 = .ok (.iadd, 1) := by decide +kernel
theorem dX5_itemOf_10 : decode cX5_itemOf 10 = .ok (.iaload, 1) := by decide +kernel
theorem dX5_itemOf_11 : decode cX5_itemOf 11 = .ok (.ireturn, 1) := by decide +kernel
theorem dX5_carry_0 : decode cX5_carry 0 = .ok (.aload_n 0, 1) := by decide +kernel
theorem dX5_carry_1 : decode cX5_carry 1 = .ok (.getfield 9, 3) := by decide +kernel
theorem dX5_carry_4 : decode cX5_carry 4 = .ok (.iload_n 1, 1) := by decide +kernel
theorem dX5_carry_5 : decode cX5_carry 5 = .ok (.bipush 40, 2) := by decide +kernel
theorem dX5_carry_7 : decode cX5_carry 7 = .ok (.imul, 1) := by decide +kernel
theorem dX5_carry_8 : decode cX5_carry 8 = .ok (.iload_n 2, 1) := by decide +kernel
theorem dX5_carry_9 : decode cX5_carry 9 = .ok (.iadd, 1) := by decide +kernel
theorem dX5_carry_10 : decode cX5_carry 10 = .ok (.aload_n 0, 1) := by decide +kernel
theorem dX5_carry_11 : decode cX5_carry 11 = .ok (.getfield 9, 3) := by decide +kernel
theorem dX5_carry_14 : decode cX5_carry 14 = .ok (.iload_n 3, 1) := by decide +kernel
theorem dX5_carry_15 : decode cX5_carry 15 = .ok (.bipush 40, 2) := by decide +kernel
theorem dX5_carry_17 : decode cX5_carry 17 = .ok (.imul, 1) := by decide +kernel
theorem dX5_carry_18 : decode cX5_carry 18 = .ok (.iload 4, 2) := by decide +kernel
theorem dX5_carry_20 : decode cX5_carry 20 = .ok (.iadd, 1) := by decide +kernel
theorem dX5_carry_21 : decode cX5_carry 21 = .ok (.iload 5, 2) := by decide +kernel
theorem dX5_carry_23 : decode cX5_carry 23 = .ok (.invokestatic 19, 3) := by decide +kernel
theorem dX5_carry_26 : decode cX5_carry 26 = .ok (.return_, 1) := by decide +kernel
theorem dX5_lose_0 : decode cX5_lose 0 = .ok (.aload_n 0, 1) := by decide +kernel
theorem dX5_lose_1 : decode cX5_lose 1 = .ok (.getfield 16, 3) := by decide +kernel
theorem dX5_lose_4 : decode cX5_lose 4 = .ok (.iload_n 1, 1) := by decide +kernel
theorem dX5_lose_5 : decode cX5_lose 5 = .ok (.iaload, 1) := by decide +kernel
theorem dX5_lose_6 : decode cX5_lose 6 = .ok (.istore_n 2, 1) := by decide +kernel
theorem dX5_lose_7 : decode cX5_lose 7 = .ok (.aload_n 0, 1) := by decide +kernel
theorem dX5_lose_8 : decode cX5_lose 8 = .ok (.getfield 16, 3) := by decide +kernel
theorem dX5_lose_11 : decode cX5_lose 11 = .ok (.iload_n 1, 1) := by decide +kernel
theorem dX5_lose_12 : decode cX5_lose 12 = .ok (.iconst (-1), 1) := by decide +kernel
theorem dX5_lose_13 : decode cX5_lose 13 = .ok (.iastore, 1) := by decide +kernel
theorem dX5_lose_14 : decode cX5_lose 14 = .ok (.iload_n 2, 1) := by decide +kernel
theorem dX5_lose_15 : decode cX5_lose 15 = .ok (.ireturn, 1) := by decide +kernel
theorem dX5_howMany_0 : decode cX5_howMany 0 = .ok (.iconst 0, 1) := by decide +kernel
theorem dX5_howMany_1 : decode cX5_howMany 1 = .ok (.istore_n 1, 1) := by decide +kernel
theorem dX5_howMany_2 : decode cX5_howMany 2 = .ok (.iconst 0, 1) := by decide +kernel
theorem dX5_howMany_3 : decode cX5_howMany 3 = .ok (.istore_n 2, 1) := by decide +kernel
theorem dX5_howMany_4 : decode cX5_howMany 4 = .ok (.iload_n 2, 1) := by decide +kernel
theorem dX5_howMany_5 : decode cX5_howMany 5 = .ok (.bipush 8, 2) := by decide +kernel
theorem dX5_howMany_7 : decode cX5_howMany 7 = .ok (.if_icmp .ge 27, 3) := by decide +kernel
theorem dX5_howMany_10 : decode cX5_howMany 10 = .ok (.iload_n 1, 1) := by decide +kernel
theorem dX5_howMany_11 : decode cX5_howMany 11 = .ok (.aload_n 0, 1) := by decide +kernel
theorem dX5_howMany_12 : decode cX5_howMany 12 = .ok (.getfield 16, 3) := by decide +kernel
theorem dX5_howMany_15 : decode cX5_howMany 15 = .ok (.iload_n 2, 1) := by decide +kernel
theorem dX5_howMany_16 : decode cX5_howMany 16 = .ok (.iaload, 1) := by decide +kernel
theorem dX5_howMany_17 : decode cX5_howMany 17 = .ok (.iconst (-1), 1) := by decide +kernel
theorem dX5_howMany_18 : decode cX5_howMany 18 = .ok (.if_icmp .ne 7, 3) := by decide +kernel
theorem dX5_howMany_21 : decode cX5_howMany 21 = .ok (.iconst 0, 1) := by decide +kernel
theorem dX5_howMany_22 : decode cX5_howMany 22 = .ok (.goto 4, 3) := by decide +kernel
theorem dX5_howMany_25 : decode cX5_howMany 25 = .ok (.iconst 1, 1) := by decide +kernel
theorem dX5_howMany_26 : decode cX5_howMany 26 = .ok (.iadd, 1) := by decide +kernel
theorem dX5_howMany_27 : decode cX5_howMany 27 = .ok (.istore_n 1, 1) := by decide +kernel
theorem dX5_howMany_28 : decode cX5_howMany 28 = .ok (.iinc 2 1, 3) := by decide +kernel
theorem dX5_howMany_31 : decode cX5_howMany 31 = .ok (.goto (-27), 3) := by decide +kernel
theorem dX5_howMany_34 : decode cX5_howMany 34 = .ok (.iload_n 1, 1) := by decide +kernel
theorem dX5_howMany_35 : decode cX5_howMany 35 = .ok (.ireturn, 1) := by decide +kernel
theorem dX6_init_0 : decode cX6_init 0 = .ok (.aload_n 0, 1) := by decide +kernel
theorem dX6_init_1 : decode cX6_init 1 = .ok (.invokespecial 3, 3) := by decide +kernel
theorem dX6_init_4 : decode cX6_init 4 = .ok (.aload_n 0, 1) := by decide +kernel
theorem dX6_init_5 : decode cX6_init 5 = .ok (.sipush 130, 3) := by decide +kernel
theorem dX6_init_8 : decode cX6_init 8 = .ok (.newarray .int, 2) := by decide +kernel
theorem dX6_init_10 : decode cX6_init 10 = .ok (.putfield 11, 3) := by decide +kernel
theorem dX6_init_13 : decode cX6_init 13 = .ok (.aload_n 0, 1) := by decide +kernel
theorem dX6_init_14 : decode cX6_init 14 = .ok (.iconst 0, 1) := by decide +kernel
theorem dX6_init_15 : decode cX6_init 15 = .ok (.putfield 15, 3) := by decide +kernel
theorem dX6_init_18 : decode cX6_init 18 = .ok (.aload_n 0, 1) := by decide +kernel
theorem dX6_init_19 : decode cX6_init 19 = .ok (.iconst 0, 1) := by decide +kernel
theorem dX6_init_20 : decode cX6_init 20 = .ok (.putfield 19, 3) := by decide +kernel
theorem dX6_init_23 : decode cX6_init 23 = .ok (.return_, 1) := by decide +kernel
theorem dX6_put_0 : decode cX6_put 0 = .ok (.aload_n 0, 1) := by decide +kernel
theorem dX6_put_1 : decode cX6_put 1 = .ok (.getfield 15, 3) := by decide +kernel
theorem dX6_put_4 : decode cX6_put 4 = .ok (.sipush 130, 3) := by decide +kernel
theorem dX6_put_7 : decode cX6_put 7 = .ok (.if_icmp .ge 23, 3) := by decide +kernel
theorem dX6_put_10 : decode cX6_put 10 = .ok (.aload_n 0, 1) := by decide +kernel
theorem dX6_put_11 : decode cX6_put 11 = .ok (.getfield 11, 3) := by decide +kernel
theorem dX6_put_14 : decode cX6_put 14 = .ok (.aload_n 0, 1) := by decide +kernel
theorem dX6_put_15 : decode cX6_put 15 = .ok (.getfield 15, 3) := by decide +kernel
theorem dX6_put_18 : decode cX6_put 18 = .ok (.iload_n 1, 1) := by decide +kernel
theorem dX6_put_19 : decode cX6_put 19 = .ok (.iastore, 1) := by decide +kernel
theorem dX6_put_20 : decode cX6_put 20 = .ok (.aload_n 0, 1) := by decide +kernel
theorem dX6_put_21 : decode cX6_put 21 = .ok (.dup, 1) := by decide +kernel
theorem dX6_put_22 : decode cX6_put 22 = .ok (.getfield 15, 3) := by decide +kernel
theorem dX6_put_25 : decode cX6_put 25 = .ok (.iconst 1, 1) := by decide +kernel
theorem dX6_put_26 : decode cX6_put 26 = .ok (.iadd, 1) := by decide +kernel
theorem dX6_put_27 : decode cX6_put 27 = .ok (.putfield 15, 3) := by decide +kernel
theorem dX6_put_30 : decode cX6_put 30 = .ok (.return_, 1) := by decide +kernel
theorem dX6_readInto_0 : decode cX6_readInto 0 = .ok (.aload_n 1, 1) := by decide +kernel
theorem dX6_readInto_1 : decode cX6_readInto 1 = .ok (.invokevirtual 22, 3) := by decide +kernel
theorem dX6_readInto_4 : decode cX6_readInto 4 = .ok (.aload_n 0, 1) := by decide +kernel
theorem dX6_readInto_5 : decode cX6_readInto 5 = .ok (.iconst 0, 1) := by decide +kernel
theorem dX6_readInto_6 : decode cX6_readInto 6 = .ok (.putfield 19, 3) := by decide +kernel
theorem dX6_readInto_9 : decode cX6_readInto 9 = .ok (.aload_n 0, 1) := by decide +kernel
theorem dX6_readInto_10 : decode cX6_readInto 10 = .ok (.iconst 0, 1) := by decide +kernel
theorem dX6_readInto_11 : decode cX6_readInto 11 = .ok (.putfield 27, 3) := by decide +kernel
theorem dX6_readInto_14 : decode cX6_readInto 14 = .ok (.aload_n 0, 1) := by decide +kernel
theorem dX6_readInto_15 : decode cX6_readInto 15 = .ok (.iconst 1, 1) := by decide +kernel
theorem dX6_readInto_16 : decode cX6_readInto 16 = .ok (.putfield 30, 3) := by decide +kernel
theorem dX6_readInto_19 : decode cX6_readInto 19 = .ok (.aload_n 0, 1) := by decide +kernel
theorem dX6_readInto_20 : decode cX6_readInto 20 = .ok (.iconst 1, 1) := by decide +kernel
theorem dX6_readInto_21 : decode cX6_readInto 21 = .ok (.putfield 34, 3) := by decide +kernel
theorem dX6_readInto_24 : decode cX6_readInto 24 = .ok (.iconst 0, 1) := by decide +kernel
theorem dX6_readInto_25 : decode cX6_readInto 25 = .ok (.istore_n 2, 1) := by decide +kernel
theorem dX6_readInto_26 : decode cX6_readInto 26 = .ok (.iload_n 2, 1) := by decide +kernel
theorem dX6_readInto_27 : decode cX6_readInto 27 = .ok (.sipush 130, 3) := by decide +kernel
theorem dX6_readInto_30 : decode cX6_readInto 30 = .ok (.if_icmp .gt 61, 3) := by decide +kernel
theorem dX6_readInto_33 : decode cX6_readInto 33 = .ok (.aload_n 0, 1) := by decide +kernel
theorem dX6_readInto_34 : decode cX6_readInto 34 = .ok (.invokevirtual 37, 3) := by decide +kernel
theorem dX6_readInto_37 : decode cX6_readInto 37 = .ok (.aload_n 0, 1) := by decide +kernel
theorem dX6_readInto_38 : decode cX6_readInto 38 = .ok (.getfield 40, 3) := by decide +kernel
theorem dX6_readInto_41 : decode cX6_readInto 41 = .ok (.iconst (-1), 1) := by decide +kernel
theorem dX6_readInto_42 : decode cX6_readInto 42 = .ok (.if_icmp .ne 18, 3) := by decide +kernel
theorem dX6_readInto_45 : decode cX6_readInto 45 = .ok (.aload_n 0, 1) := by decide +kernel
theorem dX6_readInto_46 : decode cX6_readInto 46 = .ok (.getfield 27, 3) := by decide +kernel
theorem dX6_readInto_49 : decode cX6_readInto 49 = .ok (.bipush 6, 2) := by decide +kernel
theorem dX6_readInto_51 : decode cX6_readInto 51 = .ok (.if_icmp .ne 7, 3) := by decide +kernel
theorem dX6_readInto_54 : decode cX6_readInto 54 = .ok (.iconst 0, 1) := by decide +kernel
theorem dX6_readInto_55 : decode cX6_readInto 55 = .ok (.goto 4, 3) := by decide +kernel
theorem dX6_readInto_58 : decode cX6_readInto 58 = .ok (.iconst 1, 1) := by decide +kernel
theorem dX6_readInto_59 : decode cX6_readInto 59 = .ok (.ireturn, 1) := by decide +kernel
theorem dX6_readInto_60 : decode cX6_readInto 60 = .ok (.aload_n 0, 1) := by decide +kernel
theorem dX6_readInto_61 : decode cX6_readInto 61 = .ok (.aload_n 1, 1) := by decide +kernel
theorem dX6_readInto_62 : decode cX6_readInto 62 = .ok (.invokevirtual 43, 3) := by decide +kernel
theorem dX6_readInto_65 : decode cX6_readInto 65 = .ok (.istore_n 3, 1) := by decide +kernel
theorem dX6_readInto_66 : decode cX6_readInto 66 = .ok (.iload_n 3, 1) := by decide +kernel
theorem dX6_readInto_67 : decode cX6_readInto 67 = .ok (.ifCond .eq 5, 3) := by decide +kernel
theorem dX6_readInto_70 : decode cX6_readInto 70 = .ok (.iload_n 3, 1) := by decide +kernel
theorem dX6_readInto_71 : decode cX6_readInto 71 = .ok (.ireturn, 1) := by decide +kernel
theorem dX6_readInto_72 : decode cX6_readInto 72 = .ok (.aload_n 0, 1) := by decide +kernel
theorem dX6_readInto_73 : decode cX6_readInto 73 = .ok (.dup, 1) := by decide +kernel
theorem dX6_readInto_74 : decode cX6_readInto 74 = .ok (.getfield 19, 3) := by decide +kernel
theorem dX6_readInto_77 : decode cX6_readInto 77 = .ok (.aload_n 0, 1) := by decide +kernel
theorem dX6_readInto_78 : decode cX6_readInto 78 = .ok (.getfield 47, 3) := by decide +kernel
theorem dX6_readInto_81 : decode cX6_readInto 81 = .ok (.iadd, 1) := by decide +kernel
theorem dX6_readInto_82 : decode cX6_readInto 82 = .ok (.putfield 19, 3) := by decide +kernel
theorem dX6_readInto_85 : decode cX6_readInto 85 = .ok (.iinc 2 1, 3) := by decide +kernel
theorem dX6_readInto_88 : decode cX6_readInto 88 = .ok (.goto (-62), 3) := by decide +kernel
theorem dX6_readInto_91 : decode cX6_readInto 91 = .ok (.iconst 1, 1) := by decide +kernel
theorem dX6_readInto_92 : decode cX6_readInto 92 = .ok (.ireturn, 1) := by decide +kernel
theorem dX6_takeToken_0 : decode cX6_takeToken 0 = .ok (.aload_n 0, 1) := by decide +kernel
theorem dX6_takeToken_1 : decode cX6_takeToken 1 = .ok (.iconst 1, 1) := by decide +kernel
theorem dX6_takeToken_2 : decode cX6_takeToken 2 = .ok (.putfield 47, 3) := by decide +kernel
theorem dX6_takeToken_5 : decode cX6_takeToken 5 = .ok (.aload_n 0, 1) := by decide +kernel
theorem dX6_takeToken_6 : decode cX6_takeToken 6 = .ok (.getfield 19, 3) := by decide +kernel
theorem dX6_takeToken_9 : decode cX6_takeToken 9 = .ok (.aload_n 0, 1) := by decide +kernel
theorem dX6_takeToken_10 : decode cX6_takeToken 10 = .ok (.getfield 15, 3) := by decide +kernel
theorem dX6_takeToken_13 : decode cX6_takeToken 13 = .ok (.if_icmp .lt 11, 3) := by decide +kernel
theorem dX6_takeToken_16 : decode cX6_takeToken 16 = .ok (.aload_n 0, 1) := by decide +kernel
theorem dX6_takeToken_17 : decode cX6_takeToken 17 = .ok (.iconst (-1), 1) := by decide +kernel
theorem dX6_takeToken_18 : decode cX6_takeToken 18 = .ok (.putfield 40, 3) := by decide +kernel
theorem dX6_takeToken_21 : decode cX6_takeToken 21 = .ok (.goto 75, 3) := by decide +kernel
theorem dX6_takeToken_24 : decode cX6_takeToken 24 = .ok (.aload_n 0, 1) := by decide +kernel
theorem dX6_takeToken_25 : decode cX6_takeToken 25 = .ok (.aload_n 0, 1) := by decide +kernel
theorem dX6_takeToken_26 : decode cX6_takeToken 26 = .ok (.getfield 19, 3) := by decide +kernel
theorem dX6_takeToken_29 : decode cX6_takeToken 29 = .ok (.invokevirtual 50, 3) := by decide +kernel
theorem dX6_takeToken_32 : decode cX6_takeToken 32 = .ok (.ifCond .eq 10, 3) := by decide +kernel
theorem dX6_takeToken_35 : decode cX6_takeToken 35 = .ok (.aload_n 0, 1) := by decide +kernel
theorem dX6_takeToken_36 : decode cX6_takeToken 36 = .ok (.invokevirtual 54, 3) := by decide +kernel
theorem dX6_takeToken_39 : decode cX6_takeToken 39 = .ok (.goto 57, 3) := by decide +kernel
theorem dX6_takeToken_42 : decode cX6_takeToken 42 = .ok (.aload_n 0, 1) := by decide +kernel
theorem dX6_takeToken_43 : decode cX6_takeToken 43 = .ok (.getfield 11, 3) := by decide +kernel
theorem dX6_takeToken_46 : decode cX6_takeToken 46 = .ok (.aload_n 0, 1) := by decide +kernel
theorem dX6_takeToken_47 : decode cX6_takeToken 47 = .ok (.getfield 19, 3) := by decide +kernel
theorem dX6_takeToken_50 : decode cX6_takeToken 50 = .ok (.iaload, 1) := by decide +kernel
theorem dX6_takeToken_51 : decode cX6_takeToken 51 = .ok (.istore_n 1, 1) := by decide +kernel
theorem dX6_takeToken_52 : decode cX6_takeToken 52 = .ok (.iload_n 1, 1) := by decide +kernel
theorem dX6_takeToken_53 : decode cX6_takeToken 53 = .ok (.bipush 97, 2) := by decide +kernel
theorem dX6_takeToken_55 : decode cX6_takeToken 55 = .ok (.if_icmp .lt 9, 3) := by decide +kernel
theorem dX6_takeToken_58 : decode cX6_takeToken 58 = .ok (.iload_n 1, 1) := by decide +kernel
theorem dX6_takeToken_59 : decode cX6_takeToken 59 = .ok (.bipush 122, 2) := by decide +kernel
theorem dX6_takeToken_61 : decode cX6_takeToken 61 = .ok (.if_icmp .le 15, 3) := by decide +kernel
theorem dX6_takeToken_64 : decode cX6_takeToken 64 = .ok (.iload_n 1, 1) := by decide +kernel
theorem dX6_takeToken_65 : decode cX6_takeToken 65 = .ok (.bipush 44, 2) := by decide +kernel
theorem dX6_takeToken_67 : decode cX6_takeToken 67 = .ok (.if_icmp .eq 9, 3) := by decide +kernel
theorem dX6_takeToken_70 : decode cX6_takeToken 70 = .ok (.iload_n 1, 1) := by decide +kernel
theorem dX6_takeToken_71 : decode cX6_takeToken 71 = .ok (.bipush 59, 2) := by decide +kernel
theorem dX6_takeToken_73 : decode cX6_takeToken 73 = .ok (.if_icmp .ne 7, 3) := by decide +kernel
theorem dX6_takeToken_76 : decode cX6_takeToken 76 = .ok (.iconst 1, 1) := by decide +kernel
theorem dX6_takeToken_77 : decode cX6_takeToken 77 = .ok (.goto 4, 3) := by decide +kernel
theorem dX6_takeToken_80 : decode cX6_takeToken 80 = .ok (.iconst 0, 1) := by decide +kernel
theorem dX6_takeToken_81 : decode cX6_takeToken 81 = .ok (.istore_n 2, 1) := by decide +kernel
theorem dX6_takeToken_82 : decode cX6_takeToken 82 = .ok (.aload_n 0, 1) := by decide +kernel
theorem dX6_takeToken_83 : decode cX6_takeToken 83 = .ok (.iload_n 2, 1) := by decide +kernel
theorem dX6_takeToken_84 : decode cX6_takeToken 84 = .ok (.ifCond .eq 7, 3) := by decide +kernel
theorem dX6_takeToken_87 : decode cX6_takeToken 87 = .ok (.iload_n 1, 1) := by decide +kernel
theorem dX6_takeToken_88 : decode cX6_takeToken 88 = .ok (.goto 5, 3) := by decide +kernel
theorem dX6_takeToken_91 : decode cX6_takeToken 91 = .ok (.bipush (-2), 2) := by decide +kernel
theorem dX6_takeToken_93 : decode cX6_takeToken 93 = .ok (.putfield 40, 3) := by decide +kernel
theorem dX6_takeToken_96 : decode cX6_takeToken 96 = .ok (.return_, 1) := by decide +kernel
theorem dX6_takeNumber_0 : decode cX6_takeNumber 0 = .ok (.aload_n 0, 1) := by decide +kernel
theorem dX6_takeNumber_1 : decode cX6_takeNumber 1 = .ok (.aload_n 0, 1) := by decide +kernel
theorem dX6_takeNumber_2 : decode cX6_takeNumber 2 = .ok (.getfield 11, 3) := by decide +kernel
theorem dX6_takeNumber_5 : decode cX6_takeNumber 5 = .ok (.aload_n 0, 1) := by decide +kernel
theorem dX6_takeNumber_6 : decode cX6_takeNumber 6 = .ok (.getfield 19, 3) := by decide +kernel
theorem dX6_takeNumber_9 : decode cX6_takeNumber 9 = .ok (.iaload, 1) := by decide +kernel
theorem dX6_takeNumber_10 : decode cX6_takeNumber 10 = .ok (.bipush 48, 2) := by decide +kernel
theorem dX6_takeNumber_12 : decode cX6_takeNumber 12 = .ok (.isub, 1) := by decide +kernel
theorem dX6_takeNumber_13 : decode cX6_takeNumber 13 = .ok (.putfield 57, 3) := by decide +kernel
theorem dX6_takeNumber_16 : decode cX6_takeNumber 16 = .ok (.aload_n 0, 1) := by decide +kernel
theorem dX6_takeNumber_17 : decode cX6_takeNumber 17 = .ok (.bipush (-3), 2) := by decide +kernel
theorem dX6_takeNumber_19 : decode cX6_takeNumber 19 = .ok (.putfield 40, 3) := by decide +kernel
theorem dX6_takeNumber_22 : decode cX6_takeNumber 22 = .ok (.aload_n 0, 1) := by decide +kernel
theorem dX6_takeNumber_23 : decode cX6_takeNumber 23 = .ok (.aload_n 0, 1) := by decide +kernel
theorem dX6_takeNumber_24 : decode cX6_takeNumber 24 = .ok (.getfield 19, 3) := by decide +kernel
theorem dX6_takeNumber_27 : decode cX6_takeNumber 27 = .ok (.iconst 1, 1) := by decide +kernel
theorem dX6_takeNumber_28 : decode cX6_takeNumber 28 = .ok (.iadd, 1) := by decide +kernel
theorem dX6_takeNumber_29 : decode cX6_takeNumber 29 = .ok (.invokevirtual 50, 3) := by decide +kernel
theorem dX6_takeNumber_32 : decode cX6_takeNumber 32 = .ok (.ifCond .eq 53, 3) := by decide +kernel
theorem dX6_takeNumber_35 : decode cX6_takeNumber 35 = .ok (.aload_n 0, 1) := by decide +kernel
theorem dX6_takeNumber_36 : decode cX6_takeNumber 36 = .ok (.iconst 2, 1) := by decide +kernel
theorem dX6_takeNumber_37 : decode cX6_takeNumber 37 = .ok (.putfield 47, 3) := by decide +kernel
theorem dX6_takeNumber_40 : decode cX6_takeNumber 40 = .ok (.aload_n 0, 1) := by decide +kernel
theorem dX6_takeNumber_41 : decode cX6_takeNumber 41 = .ok (.bipush 10, 2) := by decide +kernel
theorem dX6_takeNumber_43 : decode cX6_takeNumber 43 = .ok (.aload_n 0, 1) := by decide +kernel
theorem dX6_takeNumber_44 : decode cX6_takeNumber 44 = .ok (.getfield 57, 3) := by decide +kernel
theorem dX6_takeNumber_47 : decode cX6_takeNumber 47 = .ok (.imul, 1) := by decide +kernel
theorem dX6_takeNumber_48 : decode cX6_takeNumber 48 = .ok (.aload_n 0, 1) := by decide +kernel
theorem dX6_takeNumber_49 : decode cX6_takeNumber 49 = .ok (.getfield 11, 3) := by decide +kernel
theorem dX6_takeNumber_52 : decode cX6_takeNumber 52 = .ok (.aload_n 0, 1) := by decide +kernel
theorem dX6_takeNumber_53 : decode cX6_takeNumber 53 = .ok (.getfield 19, 3) := by decide +kernel
theorem dX6_takeNumber_56 : decode cX6_takeNumber 56 = .ok (.iconst 1, 1) := by decide +kernel
theorem dX6_takeNumber_57 : decode cX6_takeNumber 57 = .ok (.iadd, 1) := by decide +kernel
theorem dX6_takeNumber_58 : decode cX6_takeNumber 58 = .ok (.iaload, 1) := by decide +kernel
theorem dX6_takeNumber_59 : decode cX6_takeNumber 59 = .ok (.iadd, 1) := by decide +kernel
theorem dX6_takeNumber_60 : decode cX6_takeNumber 60 = .ok (.bipush 48, 2) := by decide +kernel
theorem dX6_takeNumber_62 : decode cX6_takeNumber 62 = .ok (.isub, 1) := by decide +kernel
theorem dX6_takeNumber_63 : decode cX6_takeNumber 63 = .ok (.putfield 57, 3) := by decide +kernel
theorem dX6_takeNumber_66 : decode cX6_takeNumber 66 = .ok (.aload_n 0, 1) := by decide +kernel
theorem dX6_takeNumber_67 : decode cX6_takeNumber 67 = .ok (.aload_n 0, 1) := by decide +kernel
theorem dX6_takeNumber_68 : decode cX6_takeNumber 68 = .ok (.getfield 19, 3) := by decide +kernel
theorem dX6_takeNumber_71 : decode cX6_takeNumber 71 = .ok (.iconst 2, 1) := by decide +kernel
theorem dX6_takeNumber_72 : decode cX6_takeNumber 72 = .ok (.iadd, 1) := by decide +kernel
theorem dX6_takeNumber_73 : decode cX6_takeNumber 73 = .ok (.invokevirtual 50, 3) := by decide +kernel
theorem dX6_takeNumber_76 : decode cX6_takeNumber 76 = .ok (.ifCond .eq 9, 3) := by decide +kernel
theorem dX6_takeNumber_79 : decode cX6_takeNumber 79 = .ok (.aload_n 0, 1) := by decide +kernel
theorem dX6_takeNumber_80 : decode cX6_takeNumber 80 = .ok (.bipush (-2), 2) := by decide +kernel
theorem dX6_takeNumber_82 : decode cX6_takeNumber 82 = .ok (.putfield 40, 3) := by decide +kernel
theorem dX6_takeNumber_85 : decode cX6_takeNumber 85 = .ok (.return_, 1) := by decide +kernel
theorem dX6_isFigure_0 : decode cX6_isFigure 0 = .ok (.iload_n 1, 1) := by decide +kernel
theorem dX6_isFigure_1 : decode cX6_isFigure 1 = .ok (.aload_n 0, 1) := by decide +kernel
theorem dX6_isFigure_2 : decode cX6_isFigure 2 = .ok (.getfield 15, 3) := by decide +kernel
theorem dX6_isFigure_5 : decode cX6_isFigure 5 = .ok (.if_icmp .ge 36, 3) := by decide +kernel
theorem dX6_isFigure_8 : decode cX6_isFigure 8 = .ok (.iload_n 1, 1) := by decide +kernel
theorem dX6_isFigure_9 : decode cX6_isFigure 9 = .ok (.sipush 130, 3) := by decide +kernel
theorem dX6_isFigure_12 : decode cX6_isFigure 12 = .ok (.if_icmp .ge 29, 3) := by decide +kernel
theorem dX6_isFigure_15 : decode cX6_isFigure 15 = .ok (.aload_n 0, 1) := by decide +kernel
theorem dX6_isFigure_16 : decode cX6_isFigure 16 = .ok (.getfield 11, 3) := by decide +kernel
theorem dX6_isFigure_19 : decode cX6_isFigure 19 = .ok (.iload_n 1, 1) := by decide +kernel
theorem dX6_isFigure_20 : decode cX6_isFigure 20 = .ok (.iaload, 1) := by decide +kernel
theorem dX6_isFigure_21 : decode cX6_isFigure 21 = .ok (.bipush 48, 2) := by decide +kernel
theorem dX6_isFigure_23 : decode cX6_isFigure 23 = .ok (.if_icmp .lt 18, 3) := by decide +kernel
theorem dX6_isFigure_26 : decode cX6_isFigure 26 = .ok (.aload_n 0, 1) := by decide +kernel
theorem dX6_isFigure_27 : decode cX6_isFigure 27 = .ok (.getfield 11, 3) := by decide +kernel
theorem dX6_isFigure_30 : decode cX6_isFigure 30 = .ok (.iload_n 1, 1) := by decide +kernel
theorem dX6_isFigure_31 : decode cX6_isFigure 31 = .ok (.iaload, 1) := by decide +kernel
theorem dX6_isFigure_32 : decode cX6_isFigure 32 = .ok (.bipush 57, 2) := by decide +kernel
theorem dX6_isFigure_34 : decode cX6_isFigure 34 = .ok (.if_icmp .gt 7, 3) := by decide +kernel
theorem dX6_isFigure_37 : decode cX6_isFigure 37 = .ok (.iconst 1, 1) := by decide +kernel
theorem dX6_isFigure_38 : decode cX6_isFigure 38 = .ok (.goto 4, 3) := by decide +kernel
theorem dX6_isFigure_41 : decode cX6_isFigure 41 = .ok (.iconst 0, 1) := by decide +kernel
theorem dX6_isFigure_42 : decode cX6_isFigure 42 = .ok (.ireturn, 1) := by decide +kernel
theorem dX6_step_0 : decode cX6_step 0 = .ok (.aload_n 0, 1) := by decide +kernel
theorem dX6_step_1 : decode cX6_step 1 = .ok (.getfield 27, 3) := by decide +kernel
theorem dX6_step_4 : decode cX6_step 4 = .ok (.tableswitch 107 0 9 #[56, 64, 70, 107, 95, 101, 107, 78, 107, 87], 56) := by decide +kernel
theorem dX6_step_60 : decode cX6_step 60 = .ok (.aload_n 0, 1) := by decide +kernel
theorem dX6_step_61 : decode cX6_step 61 = .ok (.bipush 107, 2) := by decide +kernel
theorem dX6_step_63 : decode cX6_step 63 = .ok (.iconst 1, 1) := by decide +kernel
theorem dX6_step_64 : decode cX6_step 64 = .ok (.invokevirtual 60, 3) := by decide +kernel
theorem dX6_step_67 : decode cX6_step 67 = .ok (.ireturn, 1) := by decide +kernel
theorem dX6_step_68 : decode cX6_step 68 = .ok (.aload_n 0, 1) := by decide +kernel
theorem dX6_step_69 : decode cX6_step 69 = .ok (.aload_n 1, 1) := by decide +kernel
theorem dX6_step_70 : decode cX6_step 70 = .ok (.invokevirtual 64, 3) := by decide +kernel
theorem dX6_step_73 : decode cX6_step 73 = .ok (.ireturn, 1) := by decide +kernel
theorem dX6_step_74 : decode cX6_step 74 = .ok (.aload_n 0, 1) := by decide +kernel
theorem dX6_step_75 : decode cX6_step 75 = .ok (.bipush 59, 2) := by decide +kernel
theorem dX6_step_77 : decode cX6_step 77 = .ok (.iconst 3, 1) := by decide +kernel
theorem dX6_step_78 : decode cX6_step 78 = .ok (.invokevirtual 60, 3) := by decide +kernel
theorem dX6_step_81 : decode cX6_step 81 = .ok (.ireturn, 1) := by decide +kernel
theorem dX6_step_82 : decode cX6_step 82 = .ok (.aload_n 0, 1) := by decide +kernel
theorem dX6_step_83 : decode cX6_step 83 = .ok (.bipush 59, 2) := by decide +kernel
theorem dX6_step_85 : decode cX6_step 85 = .ok (.bipush 8, 2) := by decide +kernel
theorem dX6_step_87 : decode cX6_step 87 = .ok (.invokevirtual 60, 3) := by decide +kernel
theorem dX6_step_90 : decode cX6_step 90 = .ok (.ireturn, 1) := by decide +kernel
theorem dX6_step_91 : decode cX6_step 91 = .ok (.aload_n 0, 1) := by decide +kernel
theorem dX6_step_92 : decode cX6_step 92 = .ok (.bipush 59, 2) := by decide +kernel
theorem dX6_step_94 : decode cX6_step 94 = .ok (.iconst 3, 1) := by decide +kernel
theorem dX6_step_95 : decode cX6_step 95 = .ok (.invokevirtual 60, 3) := by decide +kernel
theorem dX6_step_98 : decode cX6_step 98 = .ok (.ireturn, 1) := by decide +kernel
theorem dX6_step_99 : decode cX6_step 99 = .ok (.aload_n 0, 1) := by decide +kernel
theorem dX6_step_100 : decode cX6_step 100 = .ok (.aload_n 1, 1) := by decide +kernel
theorem dX6_step_101 : decode cX6_step 101 = .ok (.invokevirtual 67, 3) := by decide +kernel
theorem dX6_step_104 : decode cX6_step 104 = .ok (.ireturn, 1) := by decide +kernel
theorem dX6_step_105 : decode cX6_step 105 = .ok (.aload_n 0, 1) := by decide +kernel
theorem dX6_step_106 : decode cX6_step 106 = .ok (.aload_n 1, 1) := by decide +kernel
theorem dX6_step_107 : decode cX6_step 107 = .ok (.invokevirtual 70, 3) := by decide +kernel
theorem dX6_step_110 : decode cX6_step 110 = .ok (.ireturn, 1) := by decide +kernel
theorem dX6_step_111 : decode cX6_step 111 = .ok (.aload_n 0, 1) := by decide +kernel
theorem dX6_step_112 : decode cX6_step 112 = .ok (.aload_n 1, 1) := by decide +kernel
theorem dX6_step_113 : decode cX6_step 113 = .ok (.invokevirtual 73, 3) := by decide +kernel
theorem dX6_step_116 : decode cX6_step 116 = .ok (.ireturn, 1) := by decide +kernel
theorem dX6_want_0 : decode cX6_want 0 = .ok (.aload_n 0, 1) := by decide +kernel
theorem dX6_want_1 : decode cX6_want 1 = .ok (.getfield 40, 3) := by decide +kernel
theorem dX6_want_4 : decode cX6_want 4 = .ok (.iload_n 1, 1) := by decide +kernel
theorem dX6_want_5 : decode cX6_want 5 = .ok (.if_icmp .eq 5, 3) := by decide +kernel
theorem dX6_want_8 : decode cX6_want 8 = .ok (.iconst 1, 1) := by decide +kernel
theorem dX6_want_9 : decode cX6_want 9 = .ok (.ireturn, 1) := by decide +kernel
theorem dX6_want_10 : decode cX6_want 10 = .ok (.aload_n 0, 1) := by decide +kernel
theorem dX6_want_11 : decode cX6_want 11 = .ok (.iload_n 2, 1) := by decide +kernel
theorem dX6_want_12 : decode cX6_want 12 = .ok (.putfield 27, 3) := by decide +kernel
theorem dX6_want_15 : decode cX6_want 15 = .ok (.iconst 0, 1) := by decide +kernel
theorem dX6_want_16 : decode cX6_want 16 = .ok (.ireturn, 1) := by decide +kernel
theorem dX6_takeSignature_0 : decode cX6_takeSignature 0 = .ok (.aload_n 0, 1) := by decide +kernel
theorem dX6_takeSignature_1 : decode cX6_takeSignature 1 = .ok (.getfield 40, 3) := by decide +kernel
theorem dX6_takeSignature_4 : decode cX6_takeSignature 4 = .ok (.bipush (-3), 2) := by decide +kernel
theorem dX6_takeSignature_6 : decode cX6_takeSignature 6 = .ok (.if_icmp .eq 5, 3) := by decide +kernel
theorem dX6_takeSignature_9 : decode cX6_takeSignature 9 = .ok (.iconst 1, 1) := by decide +kernel
theorem dX6_takeSignature_10 : decode cX6_takeSignature 10 = .ok (.ireturn, 1) := by decide +kernel
theorem dX6_takeSignature_11 : decode cX6_takeSignature 11 = .ok (.aload_n 0, 1) := by decide +kernel
theorem dX6_takeSignature_12 : decode cX6_takeSignature 12 = .ok (.getfield 57, 3) := by decide +kernel
theorem dX6_takeSignature_15 : decode cX6_takeSignature 15 = .ok (.invokestatic 76, 3) := by decide +kernel
theorem dX6_takeSignature_18 : decode cX6_takeSignature 18 = .ok (.ifCond .ne 5, 3) := by decide +kernel
theorem dX6_takeSignature_21 : decode cX6_takeSignature 21 = .ok (.iconst 2, 1) := by decide +kernel
theorem dX6_takeSignature_22 : decode cX6_takeSignature 22 = .ok (.ireturn, 1) := by decide +kernel
theorem dX6_takeSignature_23 : decode cX6_takeSignature 23 = .ok (.aload_n 1, 1) := by decide +kernel
theorem dX6_takeSignature_24 : decode cX6_takeSignature 24 = .ok (.aload_n 0, 1) := by decide +kernel
theorem dX6_takeSignature_25 : decode cX6_takeSignature 25 = .ok (.getfield 57, 3) := by decide +kernel
theorem dX6_takeSignature_28 : decode cX6_takeSignature 28 = .ok (.putfield 79, 3) := by decide +kernel
theorem dX6_takeSignature_31 : decode cX6_takeSignature 31 = .ok (.aload_n 0, 1) := by decide +kernel
theorem dX6_takeSignature_32 : decode cX6_takeSignature 32 = .ok (.iconst 2, 1) := by decide +kernel
theorem dX6_takeSignature_33 : decode cX6_takeSignature 33 = .ok (.putfield 27, 3) := by decide +kernel
theorem dX6_takeSignature_36 : decode cX6_takeSignature 36 = .ok (.iconst 0, 1) := by decide +kernel
theorem dX6_takeSignature_37 : decode cX6_takeSignature 37 = .ok (.ireturn, 1) := by decide +kernel
theorem dX6_takeLetter_0 : decode cX6_takeLetter 0 = .ok (.aload_n 0, 1) := by decide +kernel
theorem dX6_takeLetter_1 : decode cX6_takeLetter 1 = .ok (.getfield 40, 3) := by decide +kernel
theorem dX6_takeLetter_4 : decode cX6_takeLetter 4 = .ok (.bipush 98, 2) := by decide +kernel
theorem dX6_takeLetter_6 : decode cX6_takeLetter 6 = .ok (.if_icmp .ne 25, 3) := by decide +kernel
theorem dX6_takeLetter_9 : decode cX6_takeLetter 9 = .ok (.aload_n 0, 1) := by decide +kernel
theorem dX6_takeLetter_10 : decode cX6_takeLetter 10 = .ok (.getfield 27, 3) := by decide +kernel
theorem dX6_takeLetter_13 : decode cX6_takeLetter 13 = .ok (.bipush 6, 2) := by decide +kernel
theorem dX6_takeLetter_15 : decode cX6_takeLetter 15 = .ok (.if_icmp .ne 16, 3) := by decide +kernel
theorem dX6_takeLetter_18 : decode cX6_takeLetter 18 = .ok (.aload_n 0, 1) := by decide +kernel
theorem dX6_takeLetter_19 : decode cX6_takeLetter 19 = .ok (.iconst 1, 1) := by decide +kernel
theorem dX6_takeLetter_20 : decode cX6_takeLetter 20 = .ok (.putfield 30, 3) := by decide +kernel
theorem dX6_takeLetter_23 : decode cX6_takeLetter 23 = .ok (.aload_n 0, 1) := by decide +kernel
theorem dX6_takeLetter_24 : decode cX6_takeLetter 24 = .ok (.bipush 7, 2) := by decide +kernel
theorem dX6_takeLetter_26 : decode cX6_takeLetter 26 = .ok (.putfield 27, 3) := by decide +kernel
theorem dX6_takeLetter_29 : decode cX6_takeLetter 29 = .ok (.iconst 0, 1) := by decide +kernel
theorem dX6_takeLetter_30 : decode cX6_takeLetter 30 = .ok (.ireturn, 1) := by decide +kernel
theorem dX6_takeLetter_31 : decode cX6_takeLetter 31 = .ok (.aload_n 0, 1) := by decide +kernel
theorem dX6_takeLetter_32 : decode cX6_takeLetter 32 = .ok (.getfield 40, 3) := by decide +kernel
theorem dX6_takeLetter_35 : decode cX6_takeLetter 35 = .ok (.bipush 102, 2) := by decide +kernel
theorem dX6_takeLetter_37 : decode cX6_takeLetter 37 = .ok (.if_icmp .ne 24, 3) := by decide +kernel
theorem dX6_takeLetter_40 : decode cX6_takeLetter 40 = .ok (.aload_n 0, 1) := by decide +kernel
theorem dX6_takeLetter_41 : decode cX6_takeLetter 41 = .ok (.getfield 27, 3) := by decide +kernel
theorem dX6_takeLetter_44 : decode cX6_takeLetter 44 = .ok (.iconst 3, 1) := by decide +kernel
theorem dX6_takeLetter_45 : decode cX6_takeLetter 45 = .ok (.if_icmp .eq 16, 3) := by decide +kernel
theorem dX6_takeLetter_48 : decode cX6_takeLetter 48 = .ok (.aload_n 0, 1) := by decide +kernel
theorem dX6_takeLetter_49 : decode cX6_takeLetter 49 = .ok (.iconst 1, 1) := by decide +kernel
theorem dX6_takeLetter_50 : decode cX6_takeLetter 50 = .ok (.putfield 34, 3) := by decide +kernel
theorem dX6_takeLetter_53 : decode cX6_takeLetter 53 = .ok (.aload_n 0, 1) := by decide +kernel
theorem dX6_takeLetter_54 : decode cX6_takeLetter 54 = .ok (.bipush 9, 2) := by decide +kernel
theorem dX6_takeLetter_56 : decode cX6_takeLetter 56 = .ok (.putfield 27, 3) := by decide +kernel
theorem dX6_takeLetter_59 : decode cX6_takeLetter 59 = .ok (.iconst 0, 1) := by decide +kernel
theorem dX6_takeLetter_60 : decode cX6_takeLetter 60 = .ok (.ireturn, 1) := by decide +kernel
theorem dX6_takeLetter_61 : decode cX6_takeLetter 61 = .ok (.aload_n 0, 1) := by decide +kernel
theorem dX6_takeLetter_62 : decode cX6_takeLetter 62 = .ok (.aload_n 1, 1) := by decide +kernel
theorem dX6_takeLetter_63 : decode cX6_takeLetter 63 = .ok (.invokevirtual 82, 3) := by decide +kernel
theorem dX6_takeLetter_66 : decode cX6_takeLetter 66 = .ok (.ireturn, 1) := by decide +kernel
theorem dX6_takeSort_0 : decode cX6_takeSort 0 = .ok (.aload_n 0, 1) := by decide +kernel
theorem dX6_takeSort_1 : decode cX6_takeSort 1 = .ok (.getfield 40, 3) := by decide +kernel
theorem dX6_takeSort_4 : decode cX6_takeSort 4 = .ok (.invokestatic 85, 3) := by decide +kernel
theorem dX6_takeSort_7 : decode cX6_takeSort 7 = .ok (.istore_n 2, 1) := by decide +kernel
theorem dX6_takeSort_8 : decode cX6_takeSort 8 = .ok (.iload_n 2, 1) := by decide +kernel
theorem dX6_takeSort_9 : decode cX6_takeSort 9 = .ok (.ifCond .ne 5, 3) := by decide +kernel
theorem dX6_takeSort_12 : decode cX6_takeSort 12 = .ok (.iconst 1, 1) := by decide +kernel
theorem dX6_takeSort_13 : decode cX6_takeSort 13 = .ok (.ireturn, 1) := by decide +kernel
theorem dX6_takeSort_14 : decode cX6_takeSort 14 = .ok (.aload_n 1, 1) := by decide +kernel
theorem dX6_takeSort_15 : decode cX6_takeSort 15 = .ok (.getfield 89, 3) := by decide +kernel
theorem dX6_takeSort_18 : decode cX6_takeSort 18 = .ok (.bipush 10, 2) := by decide +kernel
theorem dX6_takeSort_20 : decode cX6_takeSort 20 = .ok (.if_icmp .lt 5, 3) := by decide +kernel
theorem dX6_takeSort_23 : decode cX6_takeSort 23 = .ok (.iconst 3, 1) := by decide +kernel
theorem dX6_takeSort_24 : decode cX6_takeSort 24 = .ok (.ireturn, 1) := by decide +kernel
theorem dX6_takeSort_25 : decode cX6_takeSort 25 = .ok (.aload_n 1, 1) := by decide +kernel
theorem dX6_takeSort_26 : decode cX6_takeSort 26 = .ok (.iload_n 2, 1) := by decide +kernel
theorem dX6_takeSort_27 : decode cX6_takeSort 27 = .ok (.aload_n 0, 1) := by decide +kernel
theorem dX6_takeSort_28 : decode cX6_takeSort 28 = .ok (.getfield 30, 3) := by decide +kernel
theorem dX6_takeSort_31 : decode cX6_takeSort 31 = .ok (.aload_n 0, 1) := by decide +kernel
theorem dX6_takeSort_32 : decode cX6_takeSort 32 = .ok (.getfield 34, 3) := by decide +kernel
theorem dX6_takeSort_35 : decode cX6_takeSort 35 = .ok (.invokevirtual 92, 3) := by decide +kernel
theorem dX6_takeSort_38 : decode cX6_takeSort 38 = .ok (.aload_n 0, 1) := by decide +kernel
theorem dX6_takeSort_39 : decode cX6_takeSort 39 = .ok (.iconst 0, 1) := by decide +kernel
theorem dX6_takeSort_40 : decode cX6_takeSort 40 = .ok (.putfield 30, 3) := by decide +kernel
theorem dX6_takeSort_43 : decode cX6_takeSort 43 = .ok (.aload_n 0, 1) := by decide +kernel
theorem dX6_takeSort_44 : decode cX6_takeSort 44 = .ok (.iconst 0, 1) := by decide +kernel
theorem dX6_takeSort_45 : decode cX6_takeSort 45 = .ok (.putfield 34, 3) := by decide +kernel
theorem dX6_takeSort_48 : decode cX6_takeSort 48 = .ok (.aload_n 0, 1) := by decide +kernel
theorem dX6_takeSort_49 : decode cX6_takeSort 49 = .ok (.iconst (-1), 1) := by decide +kernel
theorem dX6_takeSort_50 : decode cX6_takeSort 50 = .ok (.putfield 96, 3) := by decide +kernel
theorem dX6_takeSort_53 : decode cX6_takeSort 53 = .ok (.aload_n 0, 1) := by decide +kernel
theorem dX6_takeSort_54 : decode cX6_takeSort 54 = .ok (.iconst 4, 1) := by decide +kernel
theorem dX6_takeSort_55 : decode cX6_takeSort 55 = .ok (.putfield 27, 3) := by decide +kernel
theorem dX6_takeSort_58 : decode cX6_takeSort 58 = .ok (.iconst 0, 1) := by decide +kernel
theorem dX6_takeSort_59 : decode cX6_takeSort 59 = .ok (.ireturn, 1) := by decide +kernel
theorem dX6_kindOfSort_0 : decode cX6_kindOfSort 0 = .ok (.iload_n 0, 1) := by decide +kernel
theorem dX6_kindOfSort_1 : decode cX6_kindOfSort 1 = .ok (.lookupswitch 61 #[(99, 51), (104, 57), (108, 55), (111, 59), (114, 53)], 51) := by decide +kernel
theorem dX6_kindOfSort_52 : decode cX6_kindOfSort 52 = .ok (.iconst 1, 1) := by decide +kernel
theorem dX6_kindOfSort_53 : decode cX6_kindOfSort 53 = .ok (.ireturn, 1) := by decide +kernel
theorem dX6_kindOfSort_54 : decode cX6_kindOfSort 54 = .ok (.iconst 2, 1) := by decide +kernel
theorem dX6_kindOfSort_55 : decode cX6_kindOfSort 55 = .ok (.ireturn, 1) := by decide +kernel
theorem dX6_kindOfSort_56 : decode cX6_kindOfSort 56 = .ok (.iconst 3, 1) := by decide +kernel
theorem dX6_kindOfSort_57 : decode cX6_kindOfSort 57 = .ok (.ireturn, 1) := by decide +kernel
theorem dX6_kindOfSort_58 : decode cX6_kindOfSort 58 = .ok (.iconst 4, 1) := by decide +kernel
theorem dX6_kindOfSort_59 : decode cX6_kindOfSort 59 = .ok (.ireturn, 1) := by decide +kernel
theorem dX6_kindOfSort_60 : decode cX6_kindOfSort 60 = .ok (.iconst 5, 1) := by decide +kernel
theorem dX6_kindOfSort_61 : decode cX6_kindOfSort 61 = .ok (.ireturn, 1) := by decide +kernel
theorem dX6_kindOfSort_62 : decode cX6_kindOfSort 62 = .ok (.iconst 0, 1) := by decide +kernel
theorem dX6_kindOfSort_63 : decode cX6_kindOfSort 63 = .ok (.ireturn, 1) := by decide +kernel
theorem dX6_takeKey_0 : decode cX6_takeKey 0 = .ok (.aload_n 0, 1) := by decide +kernel
theorem dX6_takeKey_1 : decode cX6_takeKey 1 = .ok (.getfield 40, 3) := by decide +kernel
theorem dX6_takeKey_4 : decode cX6_takeKey 4 = .ok (.bipush (-3), 2) := by decide +kernel
theorem dX6_takeKey_6 : decode cX6_takeKey 6 = .ok (.if_icmp .eq 5, 3) := by decide +kernel
theorem dX6_takeKey_9 : decode cX6_takeKey 9 = .ok (.iconst 1, 1) := by decide +kernel
theorem dX6_takeKey_10 : decode cX6_takeKey 10 = .ok (.ireturn, 1) := by decide +kernel
theorem dX6_takeKey_11 : decode cX6_takeKey 11 = .ok (.aload_n 0, 1) := by decide +kernel
theorem dX6_takeKey_12 : decode cX6_takeKey 12 = .ok (.getfield 57, 3) := by decide +kernel
theorem dX6_takeKey_15 : decode cX6_takeKey 15 = .ok (.invokestatic 99, 3) := by decide +kernel
theorem dX6_takeKey_18 : decode cX6_takeKey 18 = .ok (.ifCond .eq 14, 3) := by decide +kernel
theorem dX6_takeKey_21 : decode cX6_takeKey 21 = .ok (.aload_n 0, 1) := by decide +kernel
theorem dX6_takeKey_22 : decode cX6_takeKey 22 = .ok (.getfield 57, 3) := by decide +kernel
theorem dX6_takeKey_25 : decode cX6_takeKey 25 = .ok (.aload_n 0, 1) := by decide +kernel
theorem dX6_takeKey_26 : decode cX6_takeKey 26 = .ok (.getfield 96, 3) := by decide +kernel
theorem dX6_takeKey_29 : decode cX6_takeKey 29 = .ok (.if_icmp .gt 5, 3) := by decide +kernel
theorem dX6_takeKey_32 : decode cX6_takeKey 32 = .ok (.iconst 2, 1) := by decide +kernel
theorem dX6_takeKey_33 : decode cX6_takeKey 33 = .ok (.ireturn, 1) := by decide +kernel
theorem dX6_takeKey_34 : decode cX6_takeKey 34 = .ok (.aload_n 1, 1) := by decide +kernel
theorem dX6_takeKey_35 : decode cX6_takeKey 35 = .ok (.aload_n 0, 1) := by decide +kernel
theorem dX6_takeKey_36 : decode cX6_takeKey 36 = .ok (.getfield 57, 3) := by decide +kernel
theorem dX6_takeKey_39 : decode cX6_takeKey 39 = .ok (.invokevirtual 102, 3) := by decide +kernel
theorem dX6_takeKey_42 : decode cX6_takeKey 42 = .ok (.aload_n 0, 1) := by decide +kernel
theorem dX6_takeKey_43 : decode cX6_takeKey 43 = .ok (.aload_n 0, 1) := by decide +kernel
theorem dX6_takeKey_44 : decode cX6_takeKey 44 = .ok (.getfield 57, 3) := by decide +kernel
theorem dX6_takeKey_47 : decode cX6_takeKey 47 = .ok (.putfield 96, 3) := by decide +kernel
theorem dX6_takeKey_50 : decode cX6_takeKey 50 = .ok (.aload_n 0, 1) := by decide +kernel
theorem dX6_takeKey_51 : decode cX6_takeKey 51 = .ok (.iconst 5, 1) := by decide +kernel
theorem dX6_takeKey_52 : decode cX6_takeKey 52 = .ok (.putfield 27, 3) := by decide +kernel
theorem dX6_takeKey_55 : decode cX6_takeKey 55 = .ok (.iconst 0, 1) := by decide +kernel
theorem dX6_takeKey_56 : decode cX6_takeKey 56 = .ok (.ireturn, 1) := by decide +kernel
theorem dX6_endKey_0 : decode cX6_endKey 0 = .ok (.aload_n 1, 1) := by decide +kernel
theorem dX6_endKey_1 : decode cX6_endKey 1 = .ok (.getfield 89, 3) := by decide +kernel
theorem dX6_endKey_4 : decode cX6_endKey 4 = .ok (.ifCond .le 21, 3) := by decide +kernel
theorem dX6_endKey_7 : decode cX6_endKey 7 = .ok (.aload_n 1, 1) := by decide +kernel
theorem dX6_endKey_8 : decode cX6_endKey 8 = .ok (.aload_n 1, 1) := by decide +kernel
theorem dX6_endKey_9 : decode cX6_endKey 9 = .ok (.getfield 89, 3) := by decide +kernel
theorem dX6_endKey_12 : decode cX6_endKey 12 = .ok (.iconst 1, 1) := by decide +kernel
theorem dX6_endKey_13 : decode cX6_endKey 13 = .ok (.isub, 1) := by decide +kernel
theorem dX6_endKey_14 : decode cX6_endKey 14 = .ok (.invokevirtual 106, 3) := by decide +kernel
theorem dX6_endKey_17 : decode cX6_endKey 17 = .ok (.iconst 4, 1) := by decide +kernel
theorem dX6_endKey_18 : decode cX6_endKey 18 = .ok (.if_icmp .ge 7, 3) := by decide +kernel
theorem dX6_endKey_21 : decode cX6_endKey 21 = .ok (.iconst 1, 1) := by decide +kernel
theorem dX6_endKey_22 : decode cX6_endKey 22 = .ok (.goto 4, 3) := by decide +kernel
theorem dX6_endKey_25 : decode cX6_endKey 25 = .ok (.iconst 0, 1) := by decide +kernel
theorem dX6_endKey_26 : decode cX6_endKey 26 = .ok (.istore_n 2, 1) := by decide +kernel
theorem dX6_endKey_27 : decode cX6_endKey 27 = .ok (.aload_n 0, 1) := by decide +kernel
theorem dX6_endKey_28 : decode cX6_endKey 28 = .ok (.getfield 40, 3) := by decide +kernel
theorem dX6_endKey_31 : decode cX6_endKey 31 = .ok (.bipush 44, 2) := by decide +kernel
theorem dX6_endKey_33 : decode cX6_endKey 33 = .ok (.if_icmp .ne 17, 3) := by decide +kernel
theorem dX6_endKey_36 : decode cX6_endKey 36 = .ok (.iload_n 2, 1) := by decide +kernel
theorem dX6_endKey_37 : decode cX6_endKey 37 = .ok (.ifCond .eq 13, 3) := by decide +kernel
theorem dX6_endKey_40 : decode cX6_endKey 40 = .ok (.aload_n 0, 1) := by decide +kernel
theorem dX6_endKey_41 : decode cX6_endKey 41 = .ok (.bipush 44, 2) := by decide +kernel
theorem dX6_endKey_43 : decode cX6_endKey 43 = .ok (.iconst 4, 1) := by decide +kernel
theorem dX6_endKey_44 : decode cX6_endKey 44 = .ok (.invokevirtual 60, 3) := by decide +kernel
theorem dX6_endKey_47 : decode cX6_endKey 47 = .ok (.goto 11, 3) := by decide +kernel
theorem dX6_endKey_50 : decode cX6_endKey 50 = .ok (.aload_n 0, 1) := by decide +kernel
theorem dX6_endKey_51 : decode cX6_endKey 51 = .ok (.bipush 59, 2) := by decide +kernel
theorem dX6_endKey_53 : decode cX6_endKey 53 = .ok (.bipush 6, 2) := by decide +kernel
theorem dX6_endKey_55 : decode cX6_endKey 55 = .ok (.invokevirtual 60, 3) := by decide +kernel
theorem dX6_endKey_58 : decode cX6_endKey 58 = .ok (.ireturn, 1) := by decide +kernel
theorem dJ9_floorDiv_7cf53_0 : decode cJ9_floorDiv_7cf53 0 = .ok (.iload_n 0, 1) := by decide +kernel
theorem dJ9_floorDiv_7cf53_1 : decode cJ9_floorDiv_7cf53 1 = .ok (.iload_n 1, 1) := by decide +kernel
theorem dJ9_floorDiv_7cf53_2 : decode cJ9_floorDiv_7cf53 2 = .ok (.idiv, 1) := by decide +kernel
theorem dJ9_floorDiv_7cf53_3 : decode cJ9_floorDiv_7cf53 3 = .ok (.istore_n 2, 1) := by decide +kernel
theorem dJ9_floorDiv_7cf53_4 : decode cJ9_floorDiv_7cf53 4 = .ok (.iload_n 0, 1) := by decide +kernel
theorem dJ9_floorDiv_7cf53_5 : decode cJ9_floorDiv_7cf53 5 = .ok (.iload_n 1, 1) := by decide +kernel
theorem dJ9_floorDiv_7cf53_6 : decode cJ9_floorDiv_7cf53 6 = .ok (.ixor, 1) := by decide +kernel
theorem dJ9_floorDiv_7cf53_7 : decode cJ9_floorDiv_7cf53 7 = .ok (.ifCond .ge 14, 3) := by decide +kernel
theorem dJ9_floorDiv_7cf53_10 : decode cJ9_floorDiv_7cf53 10 = .ok (.iload_n 2, 1) := by decide +kernel
theorem dJ9_floorDiv_7cf53_11 : decode cJ9_floorDiv_7cf53 11 = .ok (.iload_n 1, 1) := by decide +kernel
theorem dJ9_floorDiv_7cf53_12 : decode cJ9_floorDiv_7cf53 12 = .ok (.imul, 1) := by decide +kernel
theorem dJ9_floorDiv_7cf53_13 : decode cJ9_floorDiv_7cf53 13 = .ok (.iload_n 0, 1) := by decide +kernel
theorem dJ9_floorDiv_7cf53_14 : decode cJ9_floorDiv_7cf53 14 = .ok (.if_icmp .eq 7, 3) := by decide +kernel
theorem dJ9_floorDiv_7cf53_17 : decode cJ9_floorDiv_7cf53 17 = .ok (.iload_n 2, 1) := by decide +kernel
theorem dJ9_floorDiv_7cf53_18 : decode cJ9_floorDiv_7cf53 18 = .ok (.iconst 1, 1) := by decide +kernel
theorem dJ9_floorDiv_7cf53_19 : decode cJ9_floorDiv_7cf53 19 = .ok (.isub, 1) := by decide +kernel
theorem dJ9_floorDiv_7cf53_20 : decode cJ9_floorDiv_7cf53 20 = .ok (.ireturn, 1) := by decide +kernel
theorem dJ9_floorDiv_7cf53_21 : decode cJ9_floorDiv_7cf53 21 = .ok (.iload_n 2, 1) := by decide +kernel
theorem dJ9_floorDiv_7cf53_22 : decode cJ9_floorDiv_7cf53 22 = .ok (.ireturn, 1) := by decide +kernel
theorem dJ9_floorMod_7cf53_0 : decode cJ9_floorMod_7cf53 0 = .ok (.iload_n 0, 1) := by decide +kernel
theorem dJ9_floorMod_7cf53_1 : decode cJ9_floorMod_7cf53 1 = .ok (.iload_n 1, 1) := by decide +kernel
theorem dJ9_floorMod_7cf53_2 : decode cJ9_floorMod_7cf53 2 = .ok (.irem, 1) := by decide +kernel
theorem dJ9_floorMod_7cf53_3 : decode cJ9_floorMod_7cf53 3 = .ok (.istore_n 2, 1) := by decide +kernel
theorem dJ9_floorMod_7cf53_4 : decode cJ9_floorMod_7cf53 4 = .ok (.iload_n 0, 1) := by decide +kernel
theorem dJ9_floorMod_7cf53_5 : decode cJ9_floorMod_7cf53 5 = .ok (.iload_n 1, 1) := by decide +kernel
theorem dJ9_floorMod_7cf53_6 : decode cJ9_floorMod_7cf53 6 = .ok (.ixor, 1) := by decide +kernel
theorem dJ9_floorMod_7cf53_7 : decode cJ9_floorMod_7cf53 7 = .ok (.ifCond .ge 11, 3) := by decide +kernel
theorem dJ9_floorMod_7cf53_10 : decode cJ9_floorMod_7cf53 10 = .ok (.iload_n 2, 1) := by decide +kernel
theorem dJ9_floorMod_7cf53_11 : decode cJ9_floorMod_7cf53 11 = .ok (.ifCond .eq 7, 3) := by decide +kernel
theorem dJ9_floorMod_7cf53_14 : decode cJ9_floorMod_7cf53 14 = .ok (.iload_n 2, 1) := by decide +kernel
theorem dJ9_floorMod_7cf53_15 : decode cJ9_floorMod_7cf53 15 = .ok (.iload_n 1, 1) := by decide +kernel
theorem dJ9_floorMod_7cf53_16 : decode cJ9_floorMod_7cf53 16 = .ok (.iadd, 1) := by decide +kernel
theorem dJ9_floorMod_7cf53_17 : decode cJ9_floorMod_7cf53 17 = .ok (.ireturn, 1) := by decide +kernel
theorem dJ9_floorMod_7cf53_18 : decode cJ9_floorMod_7cf53 18 = .ok (.iload_n 2, 1) := by decide +kernel
theorem dJ9_floorMod_7cf53_19 : decode cJ9_floorMod_7cf53 19 = .ok (.ireturn, 1) := by decide +kernel
theorem dJ9_abs_0f7a4_0 : decode cJ9_abs_0f7a4 0 = .ok (.iload_n 0, 1) := by decide +kernel
theorem dJ9_abs_0f7a4_1 : decode cJ9_abs_0f7a4 1 = .ok (.ifCond .ge 8, 3) := by decide +kernel
theorem dJ9_abs_0f7a4_4 : decode cJ9_abs_0f7a4 4 = .ok (.iload_n 0, 1) := by decide +kernel
theorem dJ9_abs_0f7a4_5 : decode cJ9_abs_0f7a4 5 = .ok (.ineg, 1) := by decide +kernel
theorem dJ9_abs_0f7a4_6 : decode cJ9_abs_0f7a4 6 = .ok (.goto 4, 3) := by decide +kernel
theorem dJ9_abs_0f7a4_9 : decode cJ9_abs_0f7a4 9 = .ok (.iload_n 0, 1) := by decide +kernel
theorem dJ9_abs_0f7a4_10 : decode cJ9_abs_0f7a4 10 = .ok (.ireturn, 1) := by decide +kernel
theorem dJ9_min_f86c9_0 : decode cJ9_min_f86c9 0 = .ok (.lload_n 0, 1) := by decide +kernel
theorem dJ9_min_f86c9_1 : decode cJ9_min_f86c9 1 = .ok (.lload_n 2, 1) := by decide +kernel
theorem dJ9_min_f86c9_2 : decode cJ9_min_f86c9 2 = .ok (.lcmp, 1) := by decide +kernel
theorem dJ9_min_f86c9_3 : decode cJ9_min_f86c9 3 = .ok (.ifCond .gt 7, 3) := by decide +kernel
theorem dJ9_min_f86c9_6 : decode cJ9_min_f86c9 6 = .ok (.lload_n 0, 1) := by decide +kernel
theorem dJ9_min_f86c9_7 : decode cJ9_min_f86c9 7 = .ok (.goto 4, 3) := by decide +kernel
theorem dJ9_min_f86c9_10 : decode cJ9_min_f86c9 10 = .ok (.lload_n 2, 1) := by decide +kernel
theorem dJ9_min_f86c9_11 : decode cJ9_min_f86c9 11 = .ok (.lreturn, 1) := by decide +kernel
end
section
/-! decode rows, printed by program -/
theorem dX7_init_0 : decode cX7_init 0 = .ok (.aload_n 0, 1) := by decide +kernel
theorem dX7_init_1 : decode cX7_init 1 = .ok (.invokespecial 1, 3) := by decide +kernel
theorem dX7_init_4 : decode cX7_init 4 = .ok (.aload_n 0, 1) := by decide +kernel
theorem dX7_init_5 : decode cX7_init 5 = .ok (.new 7, 3) := by decide +kernel
theorem dX7_init_8 : decode cX7_init 8 = .ok (.dup, 1) := by decide +kernel
theorem dX7_init_9 : decode cX7_init 9 = .ok (.invokespecial 9, 3) := by decide +kernel
theorem dX7_init_12 : decode cX7_init 12 = .ok (.putfield 10, 3) := by decide +kernel
theorem dX7_init_15 : decode cX7_init 15 = .ok (.aload_n 0, 1) := by decide +kernel
theorem dX7_init_16 : decode cX7_init 16 = .ok (.new 16, 3) := by decide +kernel
theorem dX7_init_19 : decode cX7_init 19 = .ok (.dup, 1) := by decide +kernel
theorem dX7_init_20 : decode cX7_init 20 = .ok (.invokespecial 18, 3) := by decide +kernel
theorem dX7_init_23 : decode cX7_init 23 = .ok (.putfield 19, 3) := by decide +kernel
theorem dX7_init_26 : decode cX7_init 26 = .ok (.aload_n 0, 1) := by decide +kernel
theorem dX7_init_27 : decode cX7_init 27 = .ok (.new 23, 3) := by decide +kernel
theorem dX7_init_30 : decode cX7_init 30 = .ok (.dup, 1) := by decide +kernel
theorem dX7_init_31 : decode cX7_init 31 = .ok (.invokespecial 25, 3) := by decide +kernel
theorem dX7_init_34 : decode cX7_init 34 = .ok (.putfield 26, 3) := by decide +kernel
theorem dX7_init_37 : decode cX7_init 37 = .ok (.aload_n 0, 1) := by decide +kernel
theorem dX7_init_38 : decode cX7_init 38 = .ok (.new 30, 3) := by decide +kernel
theorem dX7_init_41 : decode cX7_init 41 = .ok (.dup, 1) := by decide +kernel
theorem dX7_init_42 : decode cX7_init 42 = .ok (.invokespecial 32, 3) := by decide +kernel
theorem dX7_init_45 : decode cX7_init 45 = .ok (.putfield 33, 3) := by decide +kernel
theorem dX7_init_48 : decode cX7_init 48 = .ok (.aload_n 0, 1) := by decide +kernel
theorem dX7_init_49 : decode cX7_init 49 = .ok (.new 23, 3) := by decide +kernel
theorem dX7_init_52 : decode cX7_init 52 = .ok (.dup, 1) := by decide +kernel
theorem dX7_init_53 : decode cX7_init 53 = .ok (.invokespecial 25, 3) := by decide +kernel
theorem dX7_init_56 : decode cX7_init 56 = .ok (.putfield 37, 3) := by decide +kernel
theorem dX7_init_59 : decode cX7_init 59 = .ok (.aload_n 0, 1) := by decide +kernel
theorem dX7_init_60 : decode cX7_init 60 = .ok (.new 30, 3) := by decide +kernel
theorem dX7_init_63 : decode cX7_init 63 = .ok (.dup, 1) := by decide +kernel
theorem dX7_init_64 : decode cX7_init 64 = .ok (.invokespecial 32, 3) := by decide +kernel
theorem dX7_init_67 : decode cX7_init 67 = .ok (.putfield 40, 3) := by decide +kernel
theorem dX7_init_70 : decode cX7_init 70 = .ok (.aload_n 0, 1) := by decide +kernel
theorem dX7_init_71 : decode cX7_init 71 = .ok (.iconst 2, 1) := by decide +kernel
theorem dX7_init_72 : decode cX7_init 72 = .ok (.anewarray 23, 3) := by decide +kernel
theorem dX7_init_75 : decode cX7_init 75 = .ok (.putfield 43, 3) := by decide +kernel
theorem dX7_init_78 : decode cX7_init 78 = .ok (.aload_n 0, 1) := by decide +kernel
theorem dX7_init_79 : decode cX7_init 79 = .ok (.new 47, 3) := by decide +kernel
theorem dX7_init_82 : decode cX7_init 82 = .ok (.dup, 1) := by decide +kernel
theorem dX7_init_83 : decode cX7_init 83 = .ok (.invokespecial 49, 3) := by decide +kernel
theorem dX7_init_86 : decode cX7_init 86 = .ok (.putfield 50, 3) := by decide +kernel
theorem dX7_init_89 : decode cX7_init 89 = .ok (.aload_n 0, 1) := by decide +kernel
theorem dX7_init_90 : decode cX7_init 90 = .ok (.new 54, 3) := by decide +kernel
theorem dX7_init_93 : decode cX7_init 93 = .ok (.dup, 1) := by decide +kernel
theorem dX7_init_94 : decode cX7_init 94 = .ok (.invokespecial 56, 3) := by decide +kernel
theorem dX7_init_97 : decode cX7_init 97 = .ok (.putfield 57, 3) := by decide +kernel
theorem dX7_init_100 : decode cX7_init 100 = .ok (.aload_n 0, 1) := by decide +kernel
theorem dX7_init_101 : decode cX7_init 101 = .ok (.iconst 1, 1) := by decide +kernel
theorem dX7_init_102 : decode cX7_init 102 = .ok (.putfield 61, 3) := by decide +kernel
theorem dX7_init_105 : decode cX7_init 105 = .ok (.aload_n 0, 1) := by decide +kernel
theorem dX7_init_106 : decode cX7_init 106 = .ok (.iconst 1, 1) := by decide +kernel
theorem dX7_init_107 : decode cX7_init 107 = .ok (.putfield 65, 3) := by decide +kernel
theorem dX7_init_110 : decode cX7_init 110 = .ok (.aload_n 0, 1) := by decide +kernel
theorem dX7_init_111 : decode cX7_init 111 = .ok (.iconst 0, 1) := by decide +kernel
theorem dX7_init_112 : decode cX7_init 112 = .ok (.putfield 68, 3) := by decide +kernel
theorem dX7_init_115 : decode cX7_init 115 = .ok (.aload_n 0, 1) := by decide +kernel
theorem dX7_init_116 : decode cX7_init 116 = .ok (.iconst 0, 1) := by decide +kernel
theorem dX7_init_117 : decode cX7_init 117 = .ok (.putfield 72, 3) := by decide +kernel
theorem dX7_init_120 : decode cX7_init 120 = .ok (.aload_n 0, 1) := by decide +kernel
theorem dX7_init_121 : decode cX7_init 121 = .ok (.iconst 0, 1) := by decide +kernel
theorem dX7_init_122 : decode cX7_init 122 = .ok (.putfield 75, 3) := by decide +kernel
theorem dX7_init_125 : decode cX7_init 125 = .ok (.aload_n 0, 1) := by decide +kernel
theorem dX7_init_126 : decode cX7_init 126 = .ok (.iconst 0, 1) := by decide +kernel
theorem dX7_init_127 : decode cX7_init 127 = .ok (.putfield 78, 3) := by decide +kernel
theorem dX7_init_130 : decode cX7_init 130 = .ok (.iconst 0, 1) := by decide +kernel
theorem dX7_init_131 : decode cX7_init 131 = .ok (.istore_n 1, 1) := by decide +kernel
theorem dX7_init_132 : decode cX7_init 132 = .ok (.iload_n 1, 1) := by decide +kernel
theorem dX7_init_133 : decode cX7_init 133 = .ok (.iconst 2, 1) := by decide +kernel
theorem dX7_init_134 : decode cX7_init 134 = .ok (.if_icmp .ge 22, 3) := by decide +kernel
theorem dX7_init_137 : decode cX7_init 137 = .ok (.aload_n 0, 1) := by decide +kernel
theorem dX7_init_138 : decode cX7_init 138 = .ok (.getfield 43, 3) := by decide +kernel
theorem dX7_init_141 : decode cX7_init 141 = .ok (.iload_n 1, 1) := by decide +kernel
theorem dX7_init_142 : decode cX7_init 142 = .ok (.new 23, 3) := by decide +kernel
theorem dX7_init_145 : decode cX7_init 145 = .ok (.dup, 1) := by decide +kernel
theorem dX7_init_146 : decode cX7_init 146 = .ok (.invokespecial 25, 3) := by decide +kernel
theorem dX7_init_149 : decode cX7_init 149 = .ok (.aastore, 1) := by decide +kernel
theorem dX7_init_150 : decode cX7_init 150 = .ok (.iinc 1 1, 3) := by decide +kernel
theorem dX7_init_153 : decode cX7_init 153 = .ok (.goto (-21), 3) := by decide +kernel
theorem dX7_init_156 : decode cX7_init 156 = .ok (.return_, 1) := by decide +kernel
theorem dX7_row_0 : decode cX7_row 0 = .ok (.iload_n 1, 1) := by decide +kernel
theorem dX7_row_1 : decode cX7_row 1 = .ok (.invokestatic 81, 3) := by decide +kernel
theorem dX7_row_4 : decode cX7_row 4 = .ok (.ifCond .eq 18, 3) := by decide +kernel
theorem dX7_row_7 : decode cX7_row 7 = .ok (.iload_n 2, 1) := by decide +kernel
theorem dX7_row_8 : decode cX7_row 8 = .ok (.ifCond .lt 14, 3) := by decide +kernel
theorem dX7_row_11 : decode cX7_row 11 = .ok (.iload_n 2, 1) := by decide +kernel
theorem dX7_row_12 : decode cX7_row 12 = .ok (.iconst 2, 1) := by decide +kernel
theorem dX7_row_13 : decode cX7_row 13 = .ok (.if_icmp .gt 9, 3) := by decide +kernel
theorem dX7_row_16 : decode cX7_row 16 = .ok (.iload_n 3, 1) := by decide +kernel
theorem dX7_row_17 : decode cX7_row 17 = .ok (.bipush 40, 2) := by decide +kernel
theorem dX7_row_19 : decode cX7_row 19 = .ok (.if_icmp .le 6, 3) := by decide +kernel
theorem dX7_row_22 : decode cX7_row 22 = .ok (.ldc 85, 2) := by decide +kernel
theorem dX7_row_24 : decode cX7_row 24 = .ok (.ireturn, 1) := by decide +kernel
theorem dX7_row_25 : decode cX7_row 25 = .ok (.iload_n 3, 1) := by decide +kernel
theorem dX7_row_26 : decode cX7_row 26 = .ok (.ifCond .ge 9, 3) := by decide +kernel
theorem dX7_row_29 : decode cX7_row 29 = .ok (.aload_n 0, 1) := by decide +kernel
theorem dX7_row_30 : decode cX7_row 30 = .ok (.iconst 4, 1) := by decide +kernel
theorem dX7_row_31 : decode cX7_row 31 = .ok (.invokevirtual 86, 3) := by decide +kernel
theorem dX7_row_34 : decode cX7_row 34 = .ok (.ireturn, 1) := by decide +kernel
theorem dX7_row_35 : decode cX7_row 35 = .ok (.aload_n 0, 1) := by decide +kernel
theorem dX7_row_36 : decode cX7_row 36 = .ok (.getfield 10, 3) := by decide +kernel
theorem dX7_row_39 : decode cX7_row 39 = .ok (.iload_n 1, 1) := by decide +kernel
theorem dX7_row_40 : decode cX7_row 40 = .ok (.iload_n 2, 1) := by decide +kernel
theorem dX7_row_41 : decode cX7_row 41 = .ok (.iload_n 3, 1) := by decide +kernel
theorem dX7_row_42 : decode cX7_row 42 = .ok (.invokevirtual 90, 3) := by decide +kernel
theorem dX7_row_45 : decode cX7_row 45 = .ok (.aload_n 0, 1) := by decide +kernel
theorem dX7_row_46 : decode cX7_row 46 = .ok (.iload_n 3, 1) := by decide +kernel
theorem dX7_row_47 : decode cX7_row 47 = .ok (.invokevirtual 94, 3) := by decide +kernel
theorem dX7_row_50 : decode cX7_row 50 = .ok (.ireturn, 1) := by decide +kernel
theorem dX7_set_0 : decode cX7_set 0 = .ok (.iload_n 1, 1) := by decide +kernel
theorem dX7_set_1 : decode cX7_set 1 = .ok (.invokestatic 81, 3) := by decide +kernel
theorem dX7_set_4 : decode cX7_set 4 = .ok (.ifCond .ne 6, 3) := by decide +kernel
theorem dX7_set_7 : decode cX7_set 7 = .ok (.ldc 85, 2) := by decide +kernel
theorem dX7_set_9 : decode cX7_set 9 = .ok (.ireturn, 1) := by decide +kernel
theorem dX7_set_10 : decode cX7_set 10 = .ok (.aload_n 0, 1) := by decide +kernel
theorem dX7_set_11 : decode cX7_set 11 = .ok (.getfield 10, 3) := by decide +kernel
theorem dX7_set_14 : decode cX7_set 14 = .ok (.iload_n 1, 1) := by decide +kernel
theorem dX7_set_15 : decode cX7_set 15 = .ok (.invokevirtual 97, 3) := by decide +kernel
theorem dX7_set_18 : decode cX7_set 18 = .ok (.ifCond .eq 9, 3) := by decide +kernel
theorem dX7_set_21 : decode cX7_set 21 = .ok (.aload_n 0, 1) := by decide +kernel
theorem dX7_set_22 : decode cX7_set 22 = .ok (.iconst 1, 1) := by decide +kernel
theorem dX7_set_23 : decode cX7_set 23 = .ok (.invokevirtual 86, 3) := by decide +kernel
theorem dX7_set_26 : decode cX7_set 26 = .ok (.ireturn, 1) := by decide +kernel
theorem dX7_set_27 : decode cX7_set 27 = .ok (.aload_n 0, 1) := by decide +kernel
theorem dX7_set_28 : decode cX7_set 28 = .ok (.getfield 10, 3) := by decide +kernel
theorem dX7_set_31 : decode cX7_set 31 = .ok (.iload_n 1, 1) := by decide +kernel
theorem dX7_set_32 : decode cX7_set 32 = .ok (.iload_n 2, 1) := by decide +kernel
theorem dX7_set_33 : decode cX7_set 33 = .ok (.iconst 1, 1) := by decide +kernel
theorem dX7_set_34 : decode cX7_set 34 = .ok (.invokevirtual 100, 3) := by decide +kernel
theorem dX7_set_37 : decode cX7_set 37 = .ok (.ifCond .ne 9, 3) := by decide +kernel
theorem dX7_set_40 : decode cX7_set 40 = .ok (.aload_n 0, 1) := by decide +kernel
theorem dX7_set_41 : decode cX7_set 41 = .ok (.iconst 2, 1) := by decide +kernel
theorem dX7_set_42 : decode cX7_set 42 = .ok (.invokevirtual 86, 3) := by decide +kernel
theorem dX7_set_45 : decode cX7_set 45 = .ok (.ireturn, 1) := by decide +kernel
theorem dX7_set_46 : decode cX7_set 46 = .ok (.aload_n 0, 1) := by decide +kernel
theorem dX7_set_47 : decode cX7_set 47 = .ok (.aload_n 0, 1) := by decide +kernel
theorem dX7_set_48 : decode cX7_set 48 = .ok (.getfield 10, 3) := by decide +kernel
theorem dX7_set_51 : decode cX7_set 51 = .ok (.iload_n 1, 1) := by decide +kernel
theorem dX7_set_52 : decode cX7_set 52 = .ok (.iload_n 2, 1) := by decide +kernel
theorem dX7_set_53 : decode cX7_set 53 = .ok (.iload_n 3, 1) := by decide +kernel
theorem dX7_set_54 : decode cX7_set 54 = .ok (.invokevirtual 104, 3) := by decide +kernel
theorem dX7_set_57 : decode cX7_set 57 = .ok (.invokevirtual 94, 3) := by decide +kernel
theorem dX7_set_60 : decode cX7_set 60 = .ok (.ireturn, 1) := by decide +kernel
theorem dX7_copy_0 : decode cX7_copy 0 = .ok (.iload_n 1, 1) := by decide +kernel
theorem dX7_copy_1 : decode cX7_copy 1 = .ok (.invokestatic 81, 3) := by decide +kernel
theorem dX7_copy_4 : decode cX7_copy 4 = .ok (.ifCond .eq 10, 3) := by decide +kernel
theorem dX7_copy_7 : decode cX7_copy 7 = .ok (.iload_n 3, 1) := by decide +kernel
theorem dX7_copy_8 : decode cX7_copy 8 = .ok (.invokestatic 81, 3) := by decide +kernel
theorem dX7_copy_11 : decode cX7_copy 11 = .ok (.ifCond .ne 6, 3) := by decide +kernel
theorem dX7_copy_14 : decode cX7_copy 14 = .ok (.ldc 85, 2) := by decide +kernel
theorem dX7_copy_16 : decode cX7_copy 16 = .ok (.ireturn, 1) := by decide +kernel
theorem dX7_copy_17 : decode cX7_copy 17 = .ok (.aload_n 0, 1) := by decide +kernel
theorem dX7_copy_18 : decode cX7_copy 18 = .ok (.getfield 10, 3) := by decide +kernel
theorem dX7_copy_21 : decode cX7_copy 21 = .ok (.iload_n 1, 1) := by decide +kernel
theorem dX7_copy_22 : decode cX7_copy 22 = .ok (.invokevirtual 97, 3) := by decide +kernel
theorem dX7_copy_25 : decode cX7_copy 25 = .ok (.ifCond .ne 14, 3) := by decide +kernel
theorem dX7_copy_28 : decode cX7_copy 28 = .ok (.aload_n 0, 1) := by decide +kernel
theorem dX7_copy_29 : decode cX7_copy 29 = .ok (.getfield 10, 3) := by decide +kernel
theorem dX7_copy_32 : decode cX7_copy 32 = .ok (.iload_n 3, 1) := by decide +kernel
theorem dX7_copy_33 : decode cX7_copy 33 = .ok (.invokevirtual 97, 3) := by decide +kernel
theorem dX7_copy_36 : decode cX7_copy 36 = .ok (.ifCond .eq 9, 3) := by decide +kernel
theorem dX7_copy_39 : decode cX7_copy 39 = .ok (.aload_n 0, 1) := by decide +kernel
theorem dX7_copy_40 : decode cX7_copy 40 = .ok (.iconst 1, 1) := by decide +kernel
theorem dX7_copy_41 : decode cX7_copy 41 = .ok (.invokevirtual 86, 3) := by decide +kernel
theorem dX7_copy_44 : decode cX7_copy 44 = .ok (.ireturn, 1) := by decide +kernel
theorem dX7_copy_45 : decode cX7_copy 45 = .ok (.aload_n 0, 1) := by decide +kernel
theorem dX7_copy_46 : decode cX7_copy 46 = .ok (.getfield 10, 3) := by decide +kernel
theorem dX7_copy_49 : decode cX7_copy 49 = .ok (.iload_n 1, 1) := by decide +kernel
theorem dX7_copy_50 : decode cX7_copy 50 = .ok (.iload_n 3, 1) := by decide +kernel
theorem dX7_copy_51 : decode cX7_copy 51 = .ok (.invokevirtual 108, 3) := by decide +kernel
theorem dX7_copy_54 : decode cX7_copy 54 = .ok (.ifCond .ne 9, 3) := by decide +kernel
theorem dX7_copy_57 : decode cX7_copy 57 = .ok (.aload_n 0, 1) := by decide +kernel
theorem dX7_copy_58 : decode cX7_copy 58 = .ok (.iconst 5, 1) := by decide +kernel
theorem dX7_copy_59 : decode cX7_copy 59 = .ok (.invokevirtual 86, 3) := by decide +kernel
theorem dX7_copy_62 : decode cX7_copy 62 = .ok (.ireturn, 1) := by decide +kernel
theorem dX7_copy_63 : decode cX7_copy 63 = .ok (.aload_n 0, 1) := by decide +kernel
theorem dX7_copy_64 : decode cX7_copy 64 = .ok (.getfield 10, 3) := by decide +kernel
theorem dX7_copy_67 : decode cX7_copy 67 = .ok (.iload_n 1, 1) := by decide +kernel
theorem dX7_copy_68 : decode cX7_copy 68 = .ok (.iload_n 2, 1) := by decide +kernel
theorem dX7_copy_69 : decode cX7_copy 69 = .ok (.iload 5, 2) := by decide +kernel
theorem dX7_copy_71 : decode cX7_copy 71 = .ok (.invokevirtual 100, 3) := by decide +kernel
theorem dX7_copy_74 : decode cX7_copy 74 = .ok (.ifCond .eq 18, 3) := by decide +kernel
theorem dX7_copy_77 : decode cX7_copy 77 = .ok (.aload_n 0, 1) := by decide +kernel
theorem dX7_copy_78 : decode cX7_copy 78 = .ok (.getfield 10, 3) := by decide +kernel
theorem dX7_copy_81 : decode cX7_copy 81 = .ok (.iload_n 3, 1) := by decide +kernel
theorem dX7_copy_82 : decode cX7_copy 82 = .ok (.iload 4, 2) := by decide +kernel
theorem dX7_copy_84 : decode cX7_copy 84 = .ok (.iload 5, 2) := by decide +kernel
theorem dX7_copy_86 : decode cX7_copy 86 = .ok (.invokevirtual 100, 3) := by decide +kernel
theorem dX7_copy_89 : decode cX7_copy 89 = .ok (.ifCond .ne 9, 3) := by decide +kernel
theorem dX7_copy_92 : decode cX7_copy 92 = .ok (.aload_n 0, 1) := by decide +kernel
theorem dX7_copy_93 : decode cX7_copy 93 = .ok (.iconst 2, 1) := by decide +kernel
theorem dX7_copy_94 : decode cX7_copy 94 = .ok (.invokevirtual 86, 3) := by decide +kernel
theorem dX7_copy_97 : decode cX7_copy 97 = .ok (.ireturn, 1) := by decide +kernel
theorem dX7_copy_98 : decode cX7_copy 98 = .ok (.aload_n 0, 1) := by decide +kernel
theorem dX7_copy_99 : decode cX7_copy 99 = .ok (.getfield 10, 3) := by decide +kernel
theorem dX7_copy_102 : decode cX7_copy 102 = .ok (.iload_n 1, 1) := by decide +kernel
theorem dX7_copy_103 : decode cX7_copy 103 = .ok (.iload_n 2, 1) := by decide +kernel
theorem dX7_copy_104 : decode cX7_copy 104 = .ok (.iload_n 3, 1) := by decide +kernel
theorem dX7_copy_105 : decode cX7_copy 105 = .ok (.iload 4, 2) := by decide +kernel
theorem dX7_copy_107 : decode cX7_copy 107 = .ok (.iload 5, 2) := by decide +kernel
theorem dX7_copy_109 : decode cX7_copy 109 = .ok (.invokevirtual 112, 3) := by decide +kernel
theorem dX7_copy_112 : decode cX7_copy 112 = .ok (.aload_n 0, 1) := by decide +kernel
theorem dX7_copy_113 : decode cX7_copy 113 = .ok (.iload 5, 2) := by decide +kernel
theorem dX7_copy_115 : decode cX7_copy 115 = .ok (.invokevirtual 94, 3) := by decide +kernel
theorem dX7_copy_118 : decode cX7_copy 118 = .ok (.ireturn, 1) := by decide +kernel
theorem dX7_drop_0 : decode cX7_drop 0 = .ok (.iload_n 1, 1) := by decide +kernel
theorem dX7_drop_1 : decode cX7_drop 1 = .ok (.invokestatic 81, 3) := by decide +kernel
theorem dX7_drop_4 : decode cX7_drop 4 = .ok (.ifCond .ne 6, 3) := by decide +kernel
theorem dX7_drop_7 : decode cX7_drop 7 = .ok (.ldc 85, 2) := by decide +kernel
theorem dX7_drop_9 : decode cX7_drop 9 = .ok (.ireturn, 1) := by decide +kernel
theorem dX7_drop_10 : decode cX7_drop 10 = .ok (.aload_n 0, 1) := by decide +kernel
theorem dX7_drop_11 : decode cX7_drop 11 = .ok (.getfield 10, 3) := by decide +kernel
theorem dX7_drop_14 : decode cX7_drop 14 = .ok (.iload_n 1, 1) := by decide +kernel
theorem dX7_drop_15 : decode cX7_drop 15 = .ok (.invokevirtual 97, 3) := by decide +kernel
theorem dX7_drop_18 : decode cX7_drop 18 = .ok (.ifCond .eq 9, 3) := by decide +kernel
theorem dX7_drop_21 : decode cX7_drop 21 = .ok (.aload_n 0, 1) := by decide +kernel
theorem dX7_drop_22 : decode cX7_drop 22 = .ok (.iconst 1, 1) := by decide +kernel
theorem dX7_drop_23 : decode cX7_drop 23 = .ok (.invokevirtual 86, 3) := by decide +kernel
theorem dX7_drop_26 : decode cX7_drop 26 = .ok (.ireturn, 1) := by decide +kernel
theorem dX7_drop_27 : decode cX7_drop 27 = .ok (.aload_n 0, 1) := by decide +kernel
theorem dX7_drop_28 : decode cX7_drop 28 = .ok (.aload_n 0, 1) := by decide +kernel
theorem dX7_drop_29 : decode cX7_drop 29 = .ok (.getfield 10, 3) := by decide +kernel
theorem dX7_drop_32 : decode cX7_drop 32 = .ok (.iload_n 1, 1) := by decide +kernel
theorem dX7_drop_33 : decode cX7_drop 33 = .ok (.invokevirtual 116, 3) := by decide +kernel
theorem dX7_drop_36 : decode cX7_drop 36 = .ok (.invokevirtual 94, 3) := by decide +kernel
theorem dX7_drop_39 : decode cX7_drop 39 = .ok (.ireturn, 1) := by decide +kernel
theorem dX7_feed_0 : decode cX7_feed 0 = .ok (.iload_n 1, 1) := by decide +kernel
theorem dX7_feed_1 : decode cX7_feed 1 = .ok (.ifCond .lt 10, 3) := by decide +kernel
theorem dX7_feed_4 : decode cX7_feed 4 = .ok (.iload_n 1, 1) := by decide +kernel
theorem dX7_feed_5 : decode cX7_feed 5 = .ok (.sipush 255, 3) := by decide +kernel
theorem dX7_feed_8 : decode cX7_feed 8 = .ok (.if_icmp .le 6, 3) := by decide +kernel
theorem dX7_feed_11 : decode cX7_feed 11 = .ok (.ldc 85, 2) := by decide +kernel
theorem dX7_feed_13 : decode cX7_feed 13 = .ok (.ireturn, 1) := by decide +kernel
theorem dX7_feed_14 : decode cX7_feed 14 = .ok (.aload_n 0, 1) := by decide +kernel
theorem dX7_feed_15 : decode cX7_feed 15 = .ok (.getfield 19, 3) := by decide +kernel
theorem dX7_feed_18 : decode cX7_feed 18 = .ok (.getfield 119, 3) := by decide +kernel
theorem dX7_feed_21 : decode cX7_feed 21 = .ok (.sipush 130, 3) := by decide +kernel
theorem dX7_feed_24 : decode cX7_feed 24 = .ok (.if_icmp .ne 6, 3) := by decide +kernel
theorem dX7_feed_27 : decode cX7_feed 27 = .ok (.ldc 122, 2) := by decide +kernel
theorem dX7_feed_29 : decode cX7_feed 29 = .ok (.ireturn, 1) := by decide +kernel
theorem dX7_feed_30 : decode cX7_feed 30 = .ok (.aload_n 0, 1) := by decide +kernel
theorem dX7_feed_31 : decode cX7_feed 31 = .ok (.getfield 19, 3) := by decide +kernel
theorem dX7_feed_34 : decode cX7_feed 34 = .ok (.iload_n 1, 1) := by decide +kernel
theorem dX7_feed_35 : decode cX7_feed 35 = .ok (.invokevirtual 123, 3) := by decide +kernel
theorem dX7_feed_38 : decode cX7_feed 38 = .ok (.aload_n 0, 1) := by decide +kernel
theorem dX7_feed_39 : decode cX7_feed 39 = .ok (.getfield 19, 3) := by decide +kernel
theorem dX7_feed_42 : decode cX7_feed 42 = .ok (.getfield 119, 3) := by decide +kernel
theorem dX7_feed_45 : decode cX7_feed 45 = .ok (.ireturn, 1) := by decide +kernel
theorem dX7_piece_0 : decode cX7_piece 0 = .ok (.aload_n 0, 1) := by decide +kernel
theorem dX7_piece_1 : decode cX7_piece 1 = .ok (.getfield 19, 3) := by decide +kernel
theorem dX7_piece_4 : decode cX7_piece 4 = .ok (.aload_n 0, 1) := by decide +kernel
theorem dX7_piece_5 : decode cX7_piece 5 = .ok (.getfield 37, 3) := by decide +kernel
theorem dX7_piece_8 : decode cX7_piece 8 = .ok (.invokevirtual 126, 3) := by decide +kernel
theorem dX7_piece_11 : decode cX7_piece 11 = .ok (.istore_n 1, 1) := by decide +kernel
theorem dX7_piece_12 : decode cX7_piece 12 = .ok (.aload_n 0, 1) := by decide +kernel
theorem dX7_piece_13 : decode cX7_piece 13 = .ok (.getfield 19, 3) := by decide +kernel
theorem dX7_piece_16 : decode cX7_piece 16 = .ok (.iconst 0, 1) := by decide +kernel
theorem dX7_piece_17 : decode cX7_piece 17 = .ok (.putfield 119, 3) := by decide +kernel
theorem dX7_piece_20 : decode cX7_piece 20 = .ok (.iload_n 1, 1) := by decide +kernel
theorem dX7_piece_21 : decode cX7_piece 21 = .ok (.ifCond .eq 19, 3) := by decide +kernel
theorem dX7_piece_24 : decode cX7_piece 24 = .ok (.aload_n 0, 1) := by decide +kernel
theorem dX7_piece_25 : decode cX7_piece 25 = .ok (.iload_n 1, 1) := by decide +kernel
theorem dX7_piece_26 : decode cX7_piece 26 = .ok (.putfield 75, 3) := by decide +kernel
theorem dX7_piece_29 : decode cX7_piece 29 = .ok (.ldc 130, 2) := by decide +kernel
theorem dX7_piece_31 : decode cX7_piece 31 = .ok (.aload_n 0, 1) := by decide +kernel
theorem dX7_piece_32 : decode cX7_piece 32 = .ok (.getfield 19, 3) := by decide +kernel
theorem dX7_piece_35 : decode cX7_piece 35 = .ok (.getfield 131, 3) := by decide +kernel
theorem dX7_piece_38 : decode cX7_piece 38 = .ok (.isub, 1) := by decide +kernel
theorem dX7_piece_39 : decode cX7_piece 39 = .ok (.ireturn, 1) := by decide +kernel
theorem dX7_piece_40 : decode cX7_piece 40 = .ok (.aload_n 0, 1) := by decide +kernel
theorem dX7_piece_41 : decode cX7_piece 41 = .ok (.getfield 26, 3) := by decide +kernel
theorem dX7_piece_44 : decode cX7_piece 44 = .ok (.aload_n 0, 1) := by decide +kernel
theorem dX7_piece_45 : decode cX7_piece 45 = .ok (.getfield 37, 3) := by decide +kernel
theorem dX7_piece_48 : decode cX7_piece 48 = .ok (.invokevirtual 134, 3) := by decide +kernel
theorem dX7_piece_51 : decode cX7_piece 51 = .ok (.aload_n 0, 1) := by decide +kernel
theorem dX7_piece_52 : decode cX7_piece 52 = .ok (.getfield 50, 3) := by decide +kernel
theorem dX7_piece_55 : decode cX7_piece 55 = .ok (.invokevirtual 138, 3) := by decide +kernel
theorem dX7_piece_58 : decode cX7_piece 58 = .ok (.aload_n 0, 1) := by decide +kernel
theorem dX7_piece_59 : decode cX7_piece 59 = .ok (.invokevirtual 141, 3) := by decide +kernel
theorem dX7_piece_62 : decode cX7_piece 62 = .ok (.aload_n 0, 1) := by decide +kernel
theorem dX7_piece_63 : decode cX7_piece 63 = .ok (.getfield 26, 3) := by decide +kernel
theorem dX7_piece_66 : decode cX7_piece 66 = .ok (.getfield 144, 3) := by decide +kernel
theorem dX7_piece_69 : decode cX7_piece 69 = .ok (.ireturn, 1) := by decide +kernel
theorem dX7_fault_0 : decode cX7_fault 0 = .ok (.aload_n 0, 1) := by decide +kernel
theorem dX7_fault_1 : decode cX7_fault 1 = .ok (.getfield 75, 3) := by decide +kernel
theorem dX7_fault_4 : decode cX7_fault 4 = .ok (.ireturn, 1) := by decide +kernel
theorem dX7_key_0 : decode cX7_key 0 = .ok (.aload_n 0, 1) := by decide +kernel
theorem dX7_key_1 : decode cX7_key 1 = .ok (.iload_n 1, 1) := by decide +kernel
theorem dX7_key_2 : decode cX7_key 2 = .ok (.invokevirtual 147, 3) := by decide +kernel
theorem dX7_key_5 : decode cX7_key 5 = .ok (.ifCond .eq 10, 3) := by decide +kernel
theorem dX7_key_8 : decode cX7_key 8 = .ok (.iload_n 2, 1) := by decide +kernel
theorem dX7_key_9 : decode cX7_key 9 = .ok (.invokestatic 150, 3) := by decide +kernel
theorem dX7_key_12 : decode cX7_key 12 = .ok (.ifCond .ne 6, 3) := by decide +kernel
theorem dX7_key_15 : decode cX7_key 15 = .ok (.ldc 85, 2) := by decide +kernel
theorem dX7_key_17 : decode cX7_key 17 = .ok (.ireturn, 1) := by decide +kernel
theorem dX7_key_18 : decode cX7_key 18 = .ok (.aload_n 0, 1) := by decide +kernel
theorem dX7_key_19 : decode cX7_key 19 = .ok (.getfield 26, 3) := by decide +kernel
theorem dX7_key_22 : decode cX7_key 22 = .ok (.getfield 153, 3) := by decide +kernel
theorem dX7_key_25 : decode cX7_key 25 = .ok (.iload_n 1, 1) := by decide +kernel
theorem dX7_key_26 : decode cX7_key 26 = .ok (.iaload, 1) := by decide +kernel
theorem dX7_key_27 : decode cX7_key 27 = .ok (.istore_n 3, 1) := by decide +kernel
theorem dX7_key_28 : decode cX7_key 28 = .ok (.iload_n 3, 1) := by decide +kernel
theorem dX7_key_29 : decode cX7_key 29 = .ok (.iload_n 2, 1) := by decide +kernel
theorem dX7_key_30 : decode cX7_key 30 = .ok (.if_icmp .ne 6, 3) := by decide +kernel
theorem dX7_key_33 : decode cX7_key 33 = .ok (.ldc 157, 2) := by decide +kernel
theorem dX7_key_35 : decode cX7_key 35 = .ok (.ireturn, 1) := by decide +kernel
theorem dX7_key_36 : decode cX7_key 36 = .ok (.aload_n 0, 1) := by decide +kernel
theorem dX7_key_37 : decode cX7_key 37 = .ok (.getfield 26, 3) := by decide +kernel
theorem dX7_key_40 : decode cX7_key 40 = .ok (.getfield 153, 3) := by decide +kernel
theorem dX7_key_43 : decode cX7_key 43 = .ok (.iload_n 1, 1) := by decide +kernel
theorem dX7_key_44 : decode cX7_key 44 = .ok (.iload_n 2, 1) := by decide +kernel
theorem dX7_key_45 : decode cX7_key 45 = .ok (.iastore, 1) := by decide +kernel
theorem dX7_key_46 : decode cX7_key 46 = .ok (.aload_n 0, 1) := by decide +kernel
theorem dX7_key_47 : decode cX7_key 47 = .ok (.iconst 0, 1) := by decide +kernel
theorem dX7_key_48 : decode cX7_key 48 = .ok (.iload_n 1, 1) := by decide +kernel
theorem dX7_key_49 : decode cX7_key 49 = .ok (.iload_n 3, 1) := by decide +kernel
theorem dX7_key_50 : decode cX7_key 50 = .ok (.invokevirtual 158, 3) := by decide +kernel
theorem dX7_key_53 : decode cX7_key 53 = .ok (.iload_n 3, 1) := by decide +kernel
theorem dX7_key_54 : decode cX7_key 54 = .ok (.ireturn, 1) := by decide +kernel
theorem dX7_become_0 : decode cX7_become 0 = .ok (.aload_n 0, 1) := by decide +kernel
theorem dX7_become_1 : decode cX7_become 1 = .ok (.iload_n 1, 1) := by decide +kernel
theorem dX7_become_2 : decode cX7_become 2 = .ok (.invokevirtual 161, 3) := by decide +kernel
theorem dX7_become_5 : decode cX7_become 5 = .ok (.ifCond .eq 13, 3) := by decide +kernel
theorem dX7_become_8 : decode cX7_become 8 = .ok (.iload_n 2, 1) := by decide +kernel
theorem dX7_become_9 : decode cX7_become 9 = .ok (.iconst 1, 1) := by decide +kernel
theorem dX7_become_10 : decode cX7_become 10 = .ok (.if_icmp .lt 8, 3) := by decide +kernel
theorem dX7_become_13 : decode cX7_become 13 = .ok (.iload_n 2, 1) := by decide +kernel
theorem dX7_become_14 : decode cX7_become 14 = .ok (.iconst 5, 1) := by decide +kernel
theorem dX7_become_15 : decode cX7_become 15 = .ok (.if_icmp .le 6, 3) := by decide +kernel
theorem dX7_become_18 : decode cX7_become 18 = .ok (.ldc 85, 2) := by decide +kernel
theorem dX7_become_20 : decode cX7_become 20 = .ok (.ireturn, 1) := by decide +kernel
theorem dX7_become_21 : decode cX7_become 21 = .ok (.aload_n 0, 1) := by decide +kernel
theorem dX7_become_22 : decode cX7_become 22 = .ok (.getfield 26, 3) := by decide +kernel
theorem dX7_become_25 : decode cX7_become 25 = .ok (.getfield 164, 3) := by decide +kernel
theorem dX7_become_28 : decode cX7_become 28 = .ok (.iload_n 1, 1) := by decide +kernel
theorem dX7_become_29 : decode cX7_become 29 = .ok (.iaload, 1) := by decide +kernel
theorem dX7_become_30 : decode cX7_become 30 = .ok (.istore_n 3, 1) := by decide +kernel
theorem dX7_become_31 : decode cX7_become 31 = .ok (.iload_n 3, 1) := by decide +kernel
theorem dX7_become_32 : decode cX7_become 32 = .ok (.iload_n 2, 1) := by decide +kernel
theorem dX7_become_33 : decode cX7_become 33 = .ok (.if_icmp .ne 6, 3) := by decide +kernel
theorem dX7_become_36 : decode cX7_become 36 = .ok (.ldc 157, 2) := by decide +kernel
theorem dX7_become_38 : decode cX7_become 38 = .ok (.ireturn, 1) := by decide +kernel
theorem dX7_become_39 : decode cX7_become 39 = .ok (.aload_n 0, 1) := by decide +kernel
theorem dX7_become_40 : decode cX7_become 40 = .ok (.getfield 26, 3) := by decide +kernel
theorem dX7_become_43 : decode cX7_become 43 = .ok (.getfield 164, 3) := by decide +kernel
theorem dX7_become_46 : decode cX7_become 46 = .ok (.iload_n 1, 1) := by decide +kernel
theorem dX7_become_47 : decode cX7_become 47 = .ok (.iload_n 2, 1) := by decide +kernel
theorem dX7_become_48 : decode cX7_become 48 = .ok (.iastore, 1) := by decide +kernel
theorem dX7_become_49 : decode cX7_become 49 = .ok (.aload_n 0, 1) := by decide +kernel
theorem dX7_become_50 : decode cX7_become 50 = .ok (.iconst 1, 1) := by decide +kernel
theorem dX7_become_51 : decode cX7_become 51 = .ok (.iload_n 1, 1) := by decide +kernel
theorem dX7_become_52 : decode cX7_become 52 = .ok (.iload_n 3, 1) := by decide +kernel
theorem dX7_become_53 : decode cX7_become 53 = .ok (.invokevirtual 158, 3) := by decide +kernel
theorem dX7_become_56 : decode cX7_become 56 = .ok (.iload_n 3, 1) := by decide +kernel
theorem dX7_become_57 : decode cX7_become 57 = .ok (.ireturn, 1) := by decide +kernel
theorem dX7_sign_0 : decode cX7_sign 0 = .ok (.aload_n 0, 1) := by decide +kernel
theorem dX7_sign_1 : decode cX7_sign 1 = .ok (.invokevirtual 167, 3) := by decide +kernel
theorem dX7_sign_4 : decode cX7_sign 4 = .ok (.ifCond .eq 6, 3) := by decide +kernel
theorem dX7_sign_7 : decode cX7_sign 7 = .ok (.ldc 157, 2) := by decide +kernel
theorem dX7_sign_9 : decode cX7_sign 9 = .ok (.ireturn, 1) := by decide +kernel
theorem dX7_sign_10 : decode cX7_sign 10 = .ok (.iload_n 1, 1) := by decide +kernel
theorem dX7_sign_11 : decode cX7_sign 11 = .ok (.invokestatic 171, 3) := by decide +kernel
theorem dX7_sign_14 : decode cX7_sign 14 = .ok (.ifCond .ne 6, 3) := by decide +kernel
theorem dX7_sign_17 : decode cX7_sign 17 = .ok (.ldc 85, 2) := by decide +kernel
theorem dX7_sign_19 : decode cX7_sign 19 = .ok (.ireturn, 1) := by decide +kernel
theorem dX7_sign_20 : decode cX7_sign 20 = .ok (.aload_n 0, 1) := by decide +kernel
theorem dX7_sign_21 : decode cX7_sign 21 = .ok (.getfield 26, 3) := by decide +kernel
theorem dX7_sign_24 : decode cX7_sign 24 = .ok (.getfield 174, 3) := by decide +kernel
theorem dX7_sign_27 : decode cX7_sign 27 = .ok (.istore_n 2, 1) := by decide +kernel
theorem dX7_sign_28 : decode cX7_sign 28 = .ok (.iload_n 2, 1) := by decide +kernel
theorem dX7_sign_29 : decode cX7_sign 29 = .ok (.iload_n 1, 1) := by decide +kernel
theorem dX7_sign_30 : decode cX7_sign 30 = .ok (.if_icmp .ne 6, 3) := by decide +kernel
theorem dX7_sign_33 : decode cX7_sign 33 = .ok (.ldc 157, 2) := by decide +kernel
theorem dX7_sign_35 : decode cX7_sign 35 = .ok (.ireturn, 1) := by decide +kernel
theorem dX7_sign_36 : decode cX7_sign 36 = .ok (.aload_n 0, 1) := by decide +kernel
theorem dX7_sign_37 : decode cX7_sign 37 = .ok (.getfield 26, 3) := by decide +kernel
theorem dX7_sign_40 : decode cX7_sign 40 = .ok (.iload_n 1, 1) := by decide +kernel
theorem dX7_sign_41 : decode cX7_sign 41 = .ok (.putfield 174, 3) := by decide +kernel
theorem dX7_sign_44 : decode cX7_sign 44 = .ok (.aload_n 0, 1) := by decide +kernel
theorem dX7_sign_45 : decode cX7_sign 45 = .ok (.iconst 2, 1) := by decide +kernel
theorem dX7_sign_46 : decode cX7_sign 46 = .ok (.iconst 0, 1) := by decide +kernel
theorem dX7_sign_47 : decode cX7_sign 47 = .ok (.iload_n 2, 1) := by decide +kernel
theorem dX7_sign_48 : decode cX7_sign 48 = .ok (.invokevirtual 158, 3) := by decide +kernel
theorem dX7_sign_51 : decode cX7_sign 51 = .ok (.iload_n 2, 1) := by decide +kernel
theorem dX7_sign_52 : decode cX7_sign 52 = .ok (.ireturn, 1) := by decide +kernel
theorem dX7_shift_0 : decode cX7_shift 0 = .ok (.aload_n 0, 1) := by decide +kernel
theorem dX7_shift_1 : decode cX7_shift 1 = .ok (.invokevirtual 167, 3) := by decide +kernel
theorem dX7_shift_4 : decode cX7_shift 4 = .ok (.ifCond .eq 6, 3) := by decide +kernel
theorem dX7_shift_7 : decode cX7_shift 7 = .ok (.ldc 157, 2) := by decide +kernel
theorem dX7_shift_9 : decode cX7_shift 9 = .ok (.ireturn, 1) := by decide +kernel
theorem dX7_shift_10 : decode cX7_shift 10 = .ok (.iload_n 1, 1) := by decide +kernel
theorem dX7_shift_11 : decode cX7_shift 11 = .ok (.bipush (-6), 2) := by decide +kernel
theorem dX7_shift_13 : decode cX7_shift 13 = .ok (.if_icmp .lt 9, 3) := by decide +kernel
theorem dX7_shift_16 : decode cX7_shift 16 = .ok (.iload_n 1, 1) := by decide +kernel
theorem dX7_shift_17 : decode cX7_shift 17 = .ok (.bipush 6, 2) := by decide +kernel
theorem dX7_shift_19 : decode cX7_shift 19 = .ok (.if_icmp .le 6, 3) := by decide +kernel
theorem dX7_shift_22 : decode cX7_shift 22 = .ok (.ldc 85, 2) := by decide +kernel
theorem dX7_shift_24 : decode cX7_shift 24 = .ok (.ireturn, 1) := by decide +kernel
theorem dX7_shift_25 : decode cX7_shift 25 = .ok (.iload_n 1, 1) := by decide +kernel
theorem dX7_shift_26 : decode cX7_shift 26 = .ok (.ifCond .eq 18, 3) := by decide +kernel
theorem dX7_shift_29 : decode cX7_shift 29 = .ok (.aload_n 0, 1) := by decide +kernel
theorem dX7_shift_30 : decode cX7_shift 30 = .ok (.getfield 26, 3) := by decide +kernel
theorem dX7_shift_33 : decode cX7_shift 33 = .ok (.getfield 174, 3) := by decide +kernel
theorem dX7_shift_36 : decode cX7_shift 36 = .ok (.iload_n 1, 1) := by decide +kernel
theorem dX7_shift_37 : decode cX7_shift 37 = .ok (.iadd, 1) := by decide +kernel
theorem dX7_shift_38 : decode cX7_shift 38 = .ok (.invokestatic 171, 3) := by decide +kernel
theorem dX7_shift_41 : decode cX7_shift 41 = .ok (.ifCond .ne 6, 3) := by decide +kernel
theorem dX7_shift_44 : decode cX7_shift 44 = .ok (.ldc 157, 2) := by decide +kernel
theorem dX7_shift_46 : decode cX7_shift 46 = .ok (.ireturn, 1) := by decide +kernel
theorem dX7_shift_47 : decode cX7_shift 47 = .ok (.aload_n 0, 1) := by decide +kernel
theorem dX7_shift_48 : decode cX7_shift 48 = .ok (.getfield 26, 3) := by decide +kernel
theorem dX7_shift_51 : decode cX7_shift 51 = .ok (.iload_n 1, 1) := by decide +kernel
theorem dX7_shift_52 : decode cX7_shift 52 = .ok (.invokevirtual 177, 3) := by decide +kernel
theorem dX7_shift_55 : decode cX7_shift 55 = .ok (.aload_n 0, 1) := by decide +kernel
theorem dX7_shift_56 : decode cX7_shift 56 = .ok (.iconst 3, 1) := by decide +kernel
theorem dX7_shift_57 : decode cX7_shift 57 = .ok (.iconst 0, 1) := by decide +kernel
theorem dX7_shift_58 : decode cX7_shift 58 = .ok (.iload_n 1, 1) := by decide +kernel
theorem dX7_shift_59 : decode cX7_shift 59 = .ok (.invokevirtual 158, 3) := by decide +kernel
theorem dX7_shift_62 : decode cX7_shift 62 = .ok (.aload_n 0, 1) := by decide +kernel
theorem dX7_shift_63 : decode cX7_shift 63 = .ok (.getfield 26, 3) := by decide +kernel
theorem dX7_shift_66 : decode cX7_shift 66 = .ok (.getfield 174, 3) := by decide +kernel
theorem dX7_shift_69 : decode cX7_shift 69 = .ok (.ireturn, 1) := by decide +kernel
theorem dX7_undo_0 : decode cX7_undo 0 = .ok (.aload_n 0, 1) := by decide +kernel
theorem dX7_undo_1 : decode cX7_undo 1 = .ok (.getfield 50, 3) := by decide +kernel
theorem dX7_undo_4 : decode cX7_undo 4 = .ok (.getfield 180, 3) := by decide +kernel
theorem dX7_undo_7 : decode cX7_undo 7 = .ok (.ifCond .ne 6, 3) := by decide +kernel
theorem dX7_undo_10 : decode cX7_undo 10 = .ok (.ldc 157, 2) := by decide +kernel
theorem dX7_undo_12 : decode cX7_undo 12 = .ok (.ireturn, 1) := by decide +kernel
theorem dX7_undo_13 : decode cX7_undo 13 = .ok (.aload_n 0, 1) := by decide +kernel
theorem dX7_undo_14 : decode cX7_undo 14 = .ok (.getfield 50, 3) := by decide +kernel
theorem dX7_undo_17 : decode cX7_undo 17 = .ok (.aload_n 0, 1) := by decide +kernel
theorem dX7_undo_18 : decode cX7_undo 18 = .ok (.getfield 26, 3) := by decide +kernel
theorem dX7_undo_21 : decode cX7_undo 21 = .ok (.invokevirtual 183, 3) := by decide +kernel
theorem dX7_undo_24 : decode cX7_undo 24 = .ok (.aload_n 0, 1) := by decide +kernel
theorem dX7_undo_25 : decode cX7_undo 25 = .ok (.invokevirtual 141, 3) := by decide +kernel
theorem dX7_undo_28 : decode cX7_undo 28 = .ok (.aload_n 0, 1) := by decide +kernel
theorem dX7_undo_29 : decode cX7_undo 29 = .ok (.getfield 50, 3) := by decide +kernel
theorem dX7_undo_32 : decode cX7_undo 32 = .ok (.getfield 180, 3) := by decide +kernel
theorem dX7_undo_35 : decode cX7_undo 35 = .ok (.ireturn, 1) := by decide +kernel
theorem dX7_place_0 : decode cX7_place 0 = .ok (.iload_n 1, 1) := by decide +kernel
theorem dX7_place_1 : decode cX7_place 1 = .ok (.bipush (-15), 2) := by decide +kernel
theorem dX7_place_3 : decode cX7_place 3 = .ok (.if_icmp .lt 9, 3) := by decide +kernel
theorem dX7_place_6 : decode cX7_place 6 = .ok (.iload_n 1, 1) := by decide +kernel
theorem dX7_place_7 : decode cX7_place 7 = .ok (.bipush 19, 2) := by decide +kernel
theorem dX7_place_9 : decode cX7_place 9 = .ok (.if_icmp .le 6, 3) := by decide +kernel
theorem dX7_place_12 : decode cX7_place 12 = .ok (.ldc 85, 2) := by decide +kernel
theorem dX7_place_14 : decode cX7_place 14 = .ok (.ireturn, 1) := by decide +kernel
theorem dX7_place_15 : decode cX7_place 15 = .ok (.iload_n 2, 1) := by decide +kernel
theorem dX7_place_16 : decode cX7_place 16 = .ok (.tableswitch 43 0 2 #[28, 33, 38], 28) := by decide +kernel
theorem dX7_place_44 : decode cX7_place 44 = .ok (.iload_n 1, 1) := by decide +kernel
theorem dX7_place_45 : decode cX7_place 45 = .ok (.invokestatic 186, 3) := by decide +kernel
theorem dX7_place_48 : decode cX7_place 48 = .ok (.ireturn, 1) := by decide +kernel
theorem dX7_place_49 : decode cX7_place 49 = .ok (.iload_n 1, 1) := by decide +kernel
theorem dX7_place_50 : decode cX7_place 50 = .ok (.invokestatic 191, 3) := by decide +kernel
theorem dX7_place_53 : decode cX7_place 53 = .ok (.ireturn, 1) := by decide +kernel
theorem dX7_place_54 : decode cX7_place 54 = .ok (.iload_n 1, 1) := by decide +kernel
theorem dX7_place_55 : decode cX7_place 55 = .ok (.invokestatic 194, 3) := by decide +kernel
theorem dX7_place_58 : decode cX7_place 58 = .ok (.ireturn, 1) := by decide +kernel
theorem dX7_place_59 : decode cX7_place 59 = .ok (.ldc 85, 2) := by decide +kernel
theorem dX7_place_61 : decode cX7_place 61 = .ok (.ireturn, 1) := by decide +kernel
theorem dX7_inWindow_0 : decode cX7_inWindow 0 = .ok (.iload_n 1, 1) := by decide +kernel
theorem dX7_inWindow_1 : decode cX7_inWindow 1 = .ok (.invokestatic 197, 3) := by decide +kernel
theorem dX7_inWindow_4 : decode cX7_inWindow 4 = .ok (.ifCond .eq 18, 3) := by decide +kernel
theorem dX7_inWindow_7 : decode cX7_inWindow 7 = .ok (.iload_n 2, 1) := by decide +kernel
theorem dX7_inWindow_8 : decode cX7_inWindow 8 = .ok (.invokestatic 150, 3) := by decide +kernel
theorem dX7_inWindow_11 : decode cX7_inWindow 11 = .ok (.ifCond .eq 11, 3) := by decide +kernel
theorem dX7_inWindow_14 : decode cX7_inWindow 14 = .ok (.iload_n 1, 1) := by decide +kernel
theorem dX7_inWindow_15 : decode cX7_inWindow 15 = .ok (.iload_n 2, 1) := by decide +kernel
theorem dX7_inWindow_16 : decode cX7_inWindow 16 = .ok (.invokestatic 200, 3) := by decide +kernel
theorem dX7_inWindow_19 : decode cX7_inWindow 19 = .ok (.goto 5, 3) := by decide +kernel
theorem dX7_inWindow_22 : decode cX7_inWindow 22 = .ok (.ldc 85, 2) := by decide +kernel
theorem dX7_inWindow_24 : decode cX7_inWindow 24 = .ok (.ireturn, 1) := by decide +kernel
theorem dX7_head_0 : decode cX7_head 0 = .ok (.aload_n 0, 1) := by decide +kernel
theorem dX7_head_1 : decode cX7_head 1 = .ok (.invokevirtual 167, 3) := by decide +kernel
theorem dX7_head_4 : decode cX7_head 4 = .ok (.ifCond .ne 13, 3) := by decide +kernel
theorem dX7_head_7 : decode cX7_head 7 = .ok (.iload_n 1, 1) := by decide +kernel
theorem dX7_head_8 : decode cX7_head 8 = .ok (.ifCond .lt 9, 3) := by decide +kernel
theorem dX7_head_11 : decode cX7_head 11 = .ok (.iload_n 1, 1) := by decide +kernel
theorem dX7_head_12 : decode cX7_head 12 = .ok (.bipush 7, 2) := by decide +kernel
theorem dX7_head_14 : decode cX7_head 14 = .ok (.if_icmp .lt 6, 3) := by decide +kernel
theorem dX7_head_17 : decode cX7_head 17 = .ok (.ldc 85, 2) := by decide +kernel
theorem dX7_head_19 : decode cX7_head 19 = .ok (.ireturn, 1) := by decide +kernel
theorem dX7_head_20 : decode cX7_head 20 = .ok (.aload_n 0, 1) := by decide +kernel
theorem dX7_head_21 : decode cX7_head 21 = .ok (.getfield 26, 3) := by decide +kernel
theorem dX7_head_24 : decode cX7_head 24 = .ok (.getfield 174, 3) := by decide +kernel
theorem dX7_head_27 : decode cX7_head 27 = .ok (.iload_n 1, 1) := by decide +kernel
theorem dX7_head_28 : decode cX7_head 28 = .ok (.invokestatic 204, 3) := by decide +kernel
theorem dX7_head_31 : decode cX7_head 31 = .ok (.ireturn, 1) := by decide +kernel
theorem dX7_note_0 : decode cX7_note 0 = .ok (.aload_n 0, 1) := by decide +kernel
theorem dX7_note_1 : decode cX7_note 1 = .ok (.iload_n 1, 1) := by decide +kernel
theorem dX7_note_2 : decode cX7_note 2 = .ok (.invokevirtual 147, 3) := by decide +kernel
theorem dX7_note_5 : decode cX7_note 5 = .ok (.ifCond .ne 6, 3) := by decide +kernel
theorem dX7_note_8 : decode cX7_note 8 = .ok (.ldc 85, 2) := by decide +kernel
theorem dX7_note_10 : decode cX7_note 10 = .ok (.ireturn, 1) := by decide +kernel
theorem dX7_note_11 : decode cX7_note 11 = .ok (.iload_n 2, 1) := by decide +kernel
theorem dX7_note_12 : decode cX7_note 12 = .ok (.tableswitch 106 0 5 #[40, 50, 60, 70, 83, 96], 40) := by decide +kernel
theorem dX7_note_52 : decode cX7_note 52 = .ok (.aload_n 0, 1) := by decide +kernel
theorem dX7_note_53 : decode cX7_note 53 = .ok (.getfield 26, 3) := by decide +kernel
theorem dX7_note_56 : decode cX7_note 56 = .ok (.getfield 153, 3) := by decide +kernel
theorem dX7_note_59 : decode cX7_note 59 = .ok (.iload_n 1, 1) := by decide +kernel
theorem dX7_note_60 : decode cX7_note 60 = .ok (.iaload, 1) := by decide +kernel
theorem dX7_note_61 : decode cX7_note 61 = .ok (.ireturn, 1) := by decide +kernel
theorem dX7_note_62 : decode cX7_note 62 = .ok (.aload_n 0, 1) := by decide +kernel
theorem dX7_note_63 : decode cX7_note 63 = .ok (.getfield 26, 3) := by decide +kernel
theorem dX7_note_66 : decode cX7_note 66 = .ok (.getfield 207, 3) := by decide +kernel
theorem dX7_note_69 : decode cX7_note 69 = .ok (.iload_n 1, 1) := by decide +kernel
theorem dX7_note_70 : decode cX7_note 70 = .ok (.iaload, 1) := by decide +kernel
theorem dX7_note_71 : decode cX7_note 71 = .ok (.ireturn, 1) := by decide +kernel
theorem dX7_note_72 : decode cX7_note 72 = .ok (.aload_n 0, 1) := by decide +kernel
theorem dX7_note_73 : decode cX7_note 73 = .ok (.invokevirtual 210, 3) := by decide +kernel
theorem dX7_note_76 : decode cX7_note 76 = .ok (.getfield 214, 3) := by decide +kernel
theorem dX7_note_79 : decode cX7_note 79 = .ok (.iload_n 1, 1) := by decide +kernel
theorem dX7_note_80 : decode cX7_note 80 = .ok (.iaload, 1) := by decide +kernel
theorem dX7_note_81 : decode cX7_note 81 = .ok (.ireturn, 1) := by decide +kernel
theorem dX7_note_82 : decode cX7_note 82 = .ok (.aload_n 0, 1) := by decide +kernel
theorem dX7_note_83 : decode cX7_note 83 = .ok (.invokevirtual 210, 3) := by decide +kernel
theorem dX7_note_86 : decode cX7_note 86 = .ok (.getfield 214, 3) := by decide +kernel
theorem dX7_note_89 : decode cX7_note 89 = .ok (.iload_n 1, 1) := by decide +kernel
theorem dX7_note_90 : decode cX7_note 90 = .ok (.iaload, 1) := by decide +kernel
theorem dX7_note_91 : decode cX7_note 91 = .ok (.invokestatic 186, 3) := by decide +kernel
theorem dX7_note_94 : decode cX7_note 94 = .ok (.ireturn, 1) := by decide +kernel
theorem dX7_note_95 : decode cX7_note 95 = .ok (.aload_n 0, 1) := by decide +kernel
theorem dX7_note_96 : decode cX7_note 96 = .ok (.invokevirtual 210, 3) := by decide +kernel
theorem dX7_note_99 : decode cX7_note 99 = .ok (.getfield 214, 3) := by decide +kernel
theorem dX7_note_102 : decode cX7_note 102 = .ok (.iload_n 1, 1) := by decide +kernel
theorem dX7_note_103 : decode cX7_note 103 = .ok (.iaload, 1) := by decide +kernel
theorem dX7_note_104 : decode cX7_note 104 = .ok (.invokestatic 191, 3) := by decide +kernel
theorem dX7_note_107 : decode cX7_note 107 = .ok (.ireturn, 1) := by decide +kernel
theorem dX7_note_108 : decode cX7_note 108 = .ok (.aload_n 0, 1) := by decide +kernel
theorem dX7_note_109 : decode cX7_note 109 = .ok (.invokevirtual 210, 3) := by decide +kernel
theorem dX7_note_112 : decode cX7_note 112 = .ok (.getfield 217, 3) := by decide +kernel
theorem dX7_note_115 : decode cX7_note 115 = .ok (.iload_n 1, 1) := by decide +kernel
theorem dX7_note_116 : decode cX7_note 116 = .ok (.iaload, 1) := by decide +kernel
theorem dX7_note_117 : decode cX7_note 117 = .ok (.ireturn, 1) := by decide +kernel
theorem dX7_note_118 : decode cX7_note 118 = .ok (.ldc 85, 2) := by decide +kernel
theorem dX7_note_120 : decode cX7_note 120 = .ok (.ireturn, 1) := by decide +kernel
theorem dX7_chord_0 : decode cX7_chord 0 = .ok (.aload_n 0, 1) := by decide +kernel
theorem dX7_chord_1 : decode cX7_chord 1 = .ok (.iload_n 1, 1) := by decide +kernel
theorem dX7_chord_2 : decode cX7_chord 2 = .ok (.invokevirtual 161, 3) := by decide +kernel
theorem dX7_chord_5 : decode cX7_chord 5 = .ok (.ifCond .ne 6, 3) := by decide +kernel
theorem dX7_chord_8 : decode cX7_chord 8 = .ok (.ldc 85, 2) := by decide +kernel
theorem dX7_chord_10 : decode cX7_chord 10 = .ok (.ireturn, 1) := by decide +kernel
theorem dX7_chord_11 : decode cX7_chord 11 = .ok (.iload_n 2, 1) := by decide +kernel
theorem dX7_chord_12 : decode cX7_chord 12 = .ok (.tableswitch 107 0 5 #[40, 49, 59, 69, 87, 97], 40) := by decide +kernel
theorem dX7_chord_52 : decode cX7_chord 52 = .ok (.aload_n 0, 1) := by decide +kernel
theorem dX7_chord_53 : decode cX7_chord 53 = .ok (.getfield 26, 3) := by decide +kernel
theorem dX7_chord_56 : decode cX7_chord 56 = .ok (.iload_n 1, 1) := by decide +kernel
theorem dX7_chord_57 : decode cX7_chord 57 = .ok (.invokevirtual 220, 3) := by decide +kernel
theorem dX7_chord_60 : decode cX7_chord 60 = .ok (.ireturn, 1) := by decide +kernel
theorem dX7_chord_61 : decode cX7_chord 61 = .ok (.aload_n 0, 1) := by decide +kernel
theorem dX7_chord_62 : decode cX7_chord 62 = .ok (.getfield 26, 3) := by decide +kernel
theorem dX7_chord_65 : decode cX7_chord 65 = .ok (.getfield 223, 3) := by decide +kernel
theorem dX7_chord_68 : decode cX7_chord 68 = .ok (.iload_n 1, 1) := by decide +kernel
theorem dX7_chord_69 : decode cX7_chord 69 = .ok (.iaload, 1) := by decide +kernel
theorem dX7_chord_70 : decode cX7_chord 70 = .ok (.ireturn, 1) := by decide +kernel
theorem dX7_chord_71 : decode cX7_chord 71 = .ok (.aload_n 0, 1) := by decide +kernel
theorem dX7_chord_72 : decode cX7_chord 72 = .ok (.invokevirtual 210, 3) := by decide +kernel
theorem dX7_chord_75 : decode cX7_chord 75 = .ok (.getfield 226, 3) := by decide +kernel
theorem dX7_chord_78 : decode cX7_chord 78 = .ok (.iload_n 1, 1) := by decide +kernel
theorem dX7_chord_79 : decode cX7_chord 79 = .ok (.iaload, 1) := by decide +kernel
theorem dX7_chord_80 : decode cX7_chord 80 = .ok (.ireturn, 1) := by decide +kernel
theorem dX7_chord_81 : decode cX7_chord 81 = .ok (.aload_n 0, 1) := by decide +kernel
theorem dX7_chord_82 : decode cX7_chord 82 = .ok (.getfield 26, 3) := by decide +kernel
theorem dX7_chord_85 : decode cX7_chord 85 = .ok (.iload_n 1, 1) := by decide +kernel
theorem dX7_chord_86 : decode cX7_chord 86 = .ok (.aload_n 0, 1) := by decide +kernel
theorem dX7_chord_87 : decode cX7_chord 87 = .ok (.invokevirtual 210, 3) := by decide +kernel
theorem dX7_chord_90 : decode cX7_chord 90 = .ok (.getfield 226, 3) := by decide +kernel
theorem dX7_chord_93 : decode cX7_chord 93 = .ok (.iload_n 1, 1) := by decide +kernel
theorem dX7_chord_94 : decode cX7_chord 94 = .ok (.iaload, 1) := by decide +kernel
theorem dX7_chord_95 : decode cX7_chord 95 = .ok (.invokevirtual 229, 3) := by decide +kernel
theorem dX7_chord_98 : decode cX7_chord 98 = .ok (.ireturn, 1) := by decide +kernel
theorem dX7_chord_99 : decode cX7_chord 99 = .ok (.aload_n 0, 1) := by decide +kernel
theorem dX7_chord_100 : decode cX7_chord 100 = .ok (.getfield 26, 3) := by decide +kernel
theorem dX7_chord_103 : decode cX7_chord 103 = .ok (.getfield 232, 3) := by decide +kernel
theorem dX7_chord_106 : decode cX7_chord 106 = .ok (.iload_n 1, 1) := by decide +kernel
theorem dX7_chord_107 : decode cX7_chord 107 = .ok (.iaload, 1) := by decide +kernel
theorem dX7_chord_108 : decode cX7_chord 108 = .ok (.ireturn, 1) := by decide +kernel
theorem dX7_chord_109 : decode cX7_chord 109 = .ok (.aload_n 0, 1) := by decide +kernel
theorem dX7_chord_110 : decode cX7_chord 110 = .ok (.getfield 26, 3) := by decide +kernel
theorem dX7_chord_113 : decode cX7_chord 113 = .ok (.getfield 235, 3) := by decide +kernel
theorem dX7_chord_116 : decode cX7_chord 116 = .ok (.iload_n 1, 1) := by decide +kernel
theorem dX7_chord_117 : decode cX7_chord 117 = .ok (.iaload, 1) := by decide +kernel
theorem dX7_chord_118 : decode cX7_chord 118 = .ok (.ireturn, 1) := by decide +kernel
theorem dX7_chord_119 : decode cX7_chord 119 = .ok (.ldc 85, 2) := by decide +kernel
theorem dX7_chord_121 : decode cX7_chord 121 = .ok (.ireturn, 1) := by decide +kernel
theorem dX7_whole_0 : decode cX7_whole 0 = .ok (.aload_n 0, 1) := by decide +kernel
theorem dX7_whole_1 : decode cX7_whole 1 = .ok (.invokevirtual 167, 3) := by decide +kernel
theorem dX7_whole_4 : decode cX7_whole 4 = .ok (.ifCond .eq 6, 3) := by decide +kernel
theorem dX7_whole_7 : decode cX7_whole 7 = .ok (.ldc 157, 2) := by decide +kernel
theorem dX7_whole_9 : decode cX7_whole 9 = .ok (.ireturn, 1) := by decide +kernel
theorem dX7_whole_10 : decode cX7_whole 10 = .ok (.iload_n 1, 1) := by decide +kernel
theorem dX7_whole_11 : decode cX7_whole 11 = .ok (.tableswitch 89 0 6 #[41, 49, 57, 65, 70, 75, 84], 41) := by decide +kernel
theorem dX7_whole_52 : decode cX7_whole 52 = .ok (.aload_n 0, 1) := by decide +kernel
theorem dX7_whole_53 : decode cX7_whole 53 = .ok (.invokevirtual 210, 3) := by decide +kernel
theorem dX7_whole_56 : decode cX7_whole 56 = .ok (.getfield 238, 3) := by decide +kernel
theorem dX7_whole_59 : decode cX7_whole 59 = .ok (.ireturn, 1) := by decide +kernel
theorem dX7_whole_60 : decode cX7_whole 60 = .ok (.aload_n 0, 1) := by decide +kernel
theorem dX7_whole_61 : decode cX7_whole 61 = .ok (.invokevirtual 210, 3) := by decide +kernel
theorem dX7_whole_64 : decode cX7_whole 64 = .ok (.getfield 241, 3) := by decide +kernel
theorem dX7_whole_67 : decode cX7_whole 67 = .ok (.ireturn, 1) := by decide +kernel
theorem dX7_whole_68 : decode cX7_whole 68 = .ok (.aload_n 0, 1) := by decide +kernel
theorem dX7_whole_69 : decode cX7_whole 69 = .ok (.invokevirtual 210, 3) := by decide +kernel
theorem dX7_whole_72 : decode cX7_whole 72 = .ok (.getfield 244, 3) := by decide +kernel
theorem dX7_whole_75 : decode cX7_whole 75 = .ok (.ireturn, 1) := by decide +kernel
theorem dX7_whole_76 : decode cX7_whole 76 = .ok (.aload_n 0, 1) := by decide +kernel
theorem dX7_whole_77 : decode cX7_whole 77 = .ok (.invokevirtual 247, 3) := by decide +kernel
theorem dX7_whole_80 : decode cX7_whole 80 = .ok (.ireturn, 1) := by decide +kernel
theorem dX7_whole_81 : decode cX7_whole 81 = .ok (.aload_n 0, 1) := by decide +kernel
theorem dX7_whole_82 : decode cX7_whole 82 = .ok (.invokevirtual 251, 3) := by decide +kernel
theorem dX7_whole_85 : decode cX7_whole 85 = .ok (.ireturn, 1) := by decide +kernel
theorem dX7_whole_86 : decode cX7_whole 86 = .ok (.aload_n 0, 1) := by decide +kernel
theorem dX7_whole_87 : decode cX7_whole 87 = .ok (.aload_n 0, 1) := by decide +kernel
theorem dX7_whole_88 : decode cX7_whole 88 = .ok (.invokevirtual 254, 3) := by decide +kernel
theorem dX7_whole_91 : decode cX7_whole 91 = .ok (.invokevirtual 257, 3) := by decide +kernel
theorem dX7_whole_94 : decode cX7_whole 94 = .ok (.ireturn, 1) := by decide +kernel
theorem dX7_whole_95 : decode cX7_whole 95 = .ok (.aload_n 0, 1) := by decide +kernel
theorem dX7_whole_96 : decode cX7_whole 96 = .ok (.invokevirtual 254, 3) := by decide +kernel
theorem dX7_whole_99 : decode cX7_whole 99 = .ok (.ireturn, 1) := by decide +kernel
theorem dX7_whole_100 : decode cX7_whole 100 = .ok (.ldc 85, 2) := by decide +kernel
theorem dX7_whole_102 : decode cX7_whole 102 = .ok (.ireturn, 1) := by decide +kernel
theorem dX7_price_0 : decode cX7_price 0 = .ok (.aload_n 0, 1) := by decide +kernel
theorem dX7_price_1 : decode cX7_price 1 = .ok (.iload_n 1, 1) := by decide +kernel
theorem dX7_price_2 : decode cX7_price 2 = .ok (.invokevirtual 161, 3) := by decide +kernel
theorem dX7_price_5 : decode cX7_price 5 = .ok (.ifCond .eq 22, 3) := by decide +kernel
theorem dX7_price_8 : decode cX7_price 8 = .ok (.iload_n 2, 1) := by decide +kernel
theorem dX7_price_9 : decode cX7_price 9 = .ok (.invokestatic 197, 3) := by decide +kernel
theorem dX7_price_12 : decode cX7_price 12 = .ok (.ifCond .eq 15, 3) := by decide +kernel
theorem dX7_price_15 : decode cX7_price 15 = .ok (.aload_n 0, 1) := by decide +kernel
theorem dX7_price_16 : decode cX7_price 16 = .ok (.getfield 26, 3) := by decide +kernel
theorem dX7_price_19 : decode cX7_price 19 = .ok (.iload_n 1, 1) := by decide +kernel
theorem dX7_price_20 : decode cX7_price 20 = .ok (.iload_n 2, 1) := by decide +kernel
theorem dX7_price_21 : decode cX7_price 21 = .ok (.invokevirtual 229, 3) := by decide +kernel
theorem dX7_price_24 : decode cX7_price 24 = .ok (.goto 5, 3) := by decide +kernel
theorem dX7_price_27 : decode cX7_price 27 = .ok (.ldc 85, 2) := by decide +kernel
theorem dX7_price_29 : decode cX7_price 29 = .ok (.ireturn, 1) := by decide +kernel
theorem dX7_cost_0 : decode cX7_cost 0 = .ok (.aload_n 0, 1) := by decide +kernel
theorem dX7_cost_1 : decode cX7_cost 1 = .ok (.invokevirtual 167, 3) := by decide +kernel
theorem dX7_cost_4 : decode cX7_cost 4 = .ok (.ifCond .eq 6, 3) := by decide +kernel
theorem dX7_cost_7 : decode cX7_cost 7 = .ok (.ldc 157, 2) := by decide +kernel
theorem dX7_cost_9 : decode cX7_cost 9 = .ok (.ireturn, 1) := by decide +kernel
theorem dX7_cost_10 : decode cX7_cost 10 = .ok (.iload_n 1, 1) := by decide +kernel
theorem dX7_cost_11 : decode cX7_cost 11 = .ok (.invokestatic 81, 3) := by decide +kernel
theorem dX7_cost_14 : decode cX7_cost 14 = .ok (.ifCond .ne 6, 3) := by decide +kernel
theorem dX7_cost_17 : decode cX7_cost 17 = .ok (.ldc 85, 2) := by decide +kernel
theorem dX7_cost_19 : decode cX7_cost 19 = .ok (.ireturn, 1) := by decide +kernel
theorem dX7_cost_20 : decode cX7_cost 20 = .ok (.aload_n 0, 1) := by decide +kernel
theorem dX7_cost_21 : decode cX7_cost 21 = .ok (.getfield 10, 3) := by decide +kernel
theorem dX7_cost_24 : decode cX7_cost 24 = .ok (.iload_n 1, 1) := by decide +kernel
theorem dX7_cost_25 : decode cX7_cost 25 = .ok (.invokevirtual 97, 3) := by decide +kernel
theorem dX7_cost_28 : decode cX7_cost 28 = .ok (.ifCond .eq 9, 3) := by decide +kernel
theorem dX7_cost_31 : decode cX7_cost 31 = .ok (.aload_n 0, 1) := by decide +kernel
theorem dX7_cost_32 : decode cX7_cost 32 = .ok (.iconst 1, 1) := by decide +kernel
theorem dX7_cost_33 : decode cX7_cost 33 = .ok (.invokevirtual 86, 3) := by decide +kernel
theorem dX7_cost_36 : decode cX7_cost 36 = .ok (.ireturn, 1) := by decide +kernel
theorem dX7_cost_37 : decode cX7_cost 37 = .ok (.aload_n 0, 1) := by decide +kernel
theorem dX7_cost_38 : decode cX7_cost 38 = .ok (.getfield 10, 3) := by decide +kernel
theorem dX7_cost_41 : decode cX7_cost 41 = .ok (.iload_n 1, 1) := by decide +kernel
theorem dX7_cost_42 : decode cX7_cost 42 = .ok (.iload_n 2, 1) := by decide +kernel
theorem dX7_cost_43 : decode cX7_cost 43 = .ok (.aload_n 0, 1) := by decide +kernel
theorem dX7_cost_44 : decode cX7_cost 44 = .ok (.getfield 26, 3) := by decide +kernel
theorem dX7_cost_47 : decode cX7_cost 47 = .ok (.getfield 144, 3) := by decide +kernel
theorem dX7_cost_50 : decode cX7_cost 50 = .ok (.invokevirtual 100, 3) := by decide +kernel
theorem dX7_cost_53 : decode cX7_cost 53 = .ok (.ifCond .ne 9, 3) := by decide +kernel
theorem dX7_cost_56 : decode cX7_cost 56 = .ok (.aload_n 0, 1) := by decide +kernel
theorem dX7_cost_57 : decode cX7_cost 57 = .ok (.iconst 2, 1) := by decide +kernel
theorem dX7_cost_58 : decode cX7_cost 58 = .ok (.invokevirtual 86, 3) := by decide +kernel
theorem dX7_cost_61 : decode cX7_cost 61 = .ok (.ireturn, 1) := by decide +kernel
theorem dX7_cost_62 : decode cX7_cost 62 = .ok (.aload_n 0, 1) := by decide +kernel
theorem dX7_cost_63 : decode cX7_cost 63 = .ok (.aload_n 0, 1) := by decide +kernel
theorem dX7_cost_64 : decode cX7_cost 64 = .ok (.iload_n 1, 1) := by decide +kernel
theorem dX7_cost_65 : decode cX7_cost 65 = .ok (.iload_n 2, 1) := by decide +kernel
theorem dX7_cost_66 : decode cX7_cost 66 = .ok (.invokevirtual 260, 3) := by decide +kernel
theorem dX7_cost_69 : decode cX7_cost 69 = .ok (.invokevirtual 94, 3) := by decide +kernel
theorem dX7_cost_72 : decode cX7_cost 72 = .ok (.ireturn, 1) := by decide +kernel
theorem dX7_fits_0 : decode cX7_fits 0 = .ok (.aload_n 0, 1) := by decide +kernel
theorem dX7_fits_1 : decode cX7_fits 1 = .ok (.iload_n 1, 1) := by decide +kernel
theorem dX7_fits_2 : decode cX7_fits 2 = .ok (.invokevirtual 161, 3) := by decide +kernel
theorem dX7_fits_5 : decode cX7_fits 5 = .ok (.ifCond .eq 37, 3) := by decide +kernel
theorem dX7_fits_8 : decode cX7_fits 8 = .ok (.iload_n 2, 1) := by decide +kernel
theorem dX7_fits_9 : decode cX7_fits 9 = .ok (.invokestatic 81, 3) := by decide +kernel
theorem dX7_fits_12 : decode cX7_fits 12 = .ok (.ifCond .eq 30, 3) := by decide +kernel
theorem dX7_fits_15 : decode cX7_fits 15 = .ok (.iload_n 3, 1) := by decide +kernel
theorem dX7_fits_16 : decode cX7_fits 16 = .ok (.iconst 1, 1) := by decide +kernel
theorem dX7_fits_17 : decode cX7_fits 17 = .ok (.if_icmp .lt 25, 3) := by decide +kernel
theorem dX7_fits_20 : decode cX7_fits 20 = .ok (.iload_n 3, 1) := by decide +kernel
theorem dX7_fits_21 : decode cX7_fits 21 = .ok (.aload_n 0, 1) := by decide +kernel
theorem dX7_fits_22 : decode cX7_fits 22 = .ok (.getfield 26, 3) := by decide +kernel
theorem dX7_fits_25 : decode cX7_fits 25 = .ok (.getfield 263, 3) := by decide +kernel
theorem dX7_fits_28 : decode cX7_fits 28 = .ok (.if_icmp .gt 14, 3) := by decide +kernel
theorem dX7_fits_31 : decode cX7_fits 31 = .ok (.iload 4, 2) := by decide +kernel
theorem dX7_fits_33 : decode cX7_fits 33 = .ok (.ifCond .lt 9, 3) := by decide +kernel
theorem dX7_fits_36 : decode cX7_fits 36 = .ok (.iload 4, 2) := by decide +kernel
theorem dX7_fits_38 : decode cX7_fits 38 = .ok (.iconst 2, 1) := by decide +kernel
theorem dX7_fits_39 : decode cX7_fits 39 = .ok (.if_icmp .le 6, 3) := by decide +kernel
theorem dX7_fits_42 : decode cX7_fits 42 = .ok (.ldc 85, 2) := by decide +kernel
theorem dX7_fits_44 : decode cX7_fits 44 = .ok (.ireturn, 1) := by decide +kernel
theorem dX7_fits_45 : decode cX7_fits 45 = .ok (.aload_n 0, 1) := by decide +kernel
theorem dX7_fits_46 : decode cX7_fits 46 = .ok (.getfield 10, 3) := by decide +kernel
theorem dX7_fits_49 : decode cX7_fits 49 = .ok (.iload_n 2, 1) := by decide +kernel
theorem dX7_fits_50 : decode cX7_fits 50 = .ok (.invokevirtual 97, 3) := by decide +kernel
theorem dX7_fits_53 : decode cX7_fits 53 = .ok (.ifCond .eq 9, 3) := by decide +kernel
theorem dX7_fits_56 : decode cX7_fits 56 = .ok (.aload_n 0, 1) := by decide +kernel
theorem dX7_fits_57 : decode cX7_fits 57 = .ok (.iconst 1, 1) := by decide +kernel
theorem dX7_fits_58 : decode cX7_fits 58 = .ok (.invokevirtual 86, 3) := by decide +kernel
theorem dX7_fits_61 : decode cX7_fits 61 = .ok (.ireturn, 1) := by decide +kernel
theorem dX7_fits_62 : decode cX7_fits 62 = .ok (.aload_n 0, 1) := by decide +kernel
theorem dX7_fits_63 : decode cX7_fits 63 = .ok (.getfield 10, 3) := by decide +kernel
theorem dX7_fits_66 : decode cX7_fits 66 = .ok (.iload_n 2, 1) := by decide +kernel
theorem dX7_fits_67 : decode cX7_fits 67 = .ok (.iconst 0, 1) := by decide +kernel
theorem dX7_fits_68 : decode cX7_fits 68 = .ok (.iload_n 3, 1) := by decide +kernel
theorem dX7_fits_69 : decode cX7_fits 69 = .ok (.invokevirtual 100, 3) := by decide +kernel
theorem dX7_fits_72 : decode cX7_fits 72 = .ok (.ifCond .ne 9, 3) := by decide +kernel
theorem dX7_fits_75 : decode cX7_fits 75 = .ok (.aload_n 0, 1) := by decide +kernel
theorem dX7_fits_76 : decode cX7_fits 76 = .ok (.iconst 2, 1) := by decide +kernel
theorem dX7_fits_77 : decode cX7_fits 77 = .ok (.invokevirtual 86, 3) := by decide +kernel
theorem dX7_fits_80 : decode cX7_fits 80 = .ok (.ireturn, 1) := by decide +kernel
theorem dX7_fits_81 : decode cX7_fits 81 = .ok (.iload 4, 2) := by decide +kernel
theorem dX7_fits_83 : decode cX7_fits 83 = .ok (.lookupswitch 48 #[(0, 25), (1, 36)], 25) := by decide +kernel
theorem dX7_fits_108 : decode cX7_fits 108 = .ok (.aload_n 0, 1) := by decide +kernel
theorem dX7_fits_109 : decode cX7_fits 109 = .ok (.aload_n 0, 1) := by decide +kernel
theorem dX7_fits_110 : decode cX7_fits 110 = .ok (.iload_n 2, 1) := by decide +kernel
theorem dX7_fits_111 : decode cX7_fits 111 = .ok (.iload_n 3, 1) := by decide +kernel
theorem dX7_fits_112 : decode cX7_fits 112 = .ok (.invokevirtual 266, 3) := by decide +kernel
theorem dX7_fits_115 : decode cX7_fits 115 = .ok (.invokevirtual 94, 3) := by decide +kernel
theorem dX7_fits_118 : decode cX7_fits 118 = .ok (.ireturn, 1) := by decide +kernel
theorem dX7_fits_119 : decode cX7_fits 119 = .ok (.aload_n 0, 1) := by decide +kernel
theorem dX7_fits_120 : decode cX7_fits 120 = .ok (.aload_n 0, 1) := by decide +kernel
theorem dX7_fits_121 : decode cX7_fits 121 = .ok (.iload_n 1, 1) := by decide +kernel
theorem dX7_fits_122 : decode cX7_fits 122 = .ok (.iload_n 2, 1) := by decide +kernel
theorem dX7_fits_123 : decode cX7_fits 123 = .ok (.iload_n 3, 1) := by decide +kernel
theorem dX7_fits_124 : decode cX7_fits 124 = .ok (.invokevirtual 269, 3) := by decide +kernel
theorem dX7_fits_127 : decode cX7_fits 127 = .ok (.invokevirtual 94, 3) := by decide +kernel
theorem dX7_fits_130 : decode cX7_fits 130 = .ok (.ireturn, 1) := by decide +kernel
theorem dX7_fits_131 : decode cX7_fits 131 = .ok (.aload_n 0, 1) := by decide +kernel
theorem dX7_fits_132 : decode cX7_fits 132 = .ok (.aload_n 0, 1) := by decide +kernel
theorem dX7_fits_133 : decode cX7_fits 133 = .ok (.aload_n 0, 1) := by decide +kernel
theorem dX7_fits_134 : decode cX7_fits 134 = .ok (.getfield 26, 3) := by decide +kernel
theorem dX7_fits_137 : decode cX7_fits 137 = .ok (.getfield 223, 3) := by decide +kernel
theorem dX7_fits_140 : decode cX7_fits 140 = .ok (.iload_n 1, 1) := by decide +kernel
theorem dX7_fits_141 : decode cX7_fits 141 = .ok (.iaload, 1) := by decide +kernel
theorem dX7_fits_142 : decode cX7_fits 142 = .ok (.iload_n 2, 1) := by decide +kernel
theorem dX7_fits_143 : decode cX7_fits 143 = .ok (.iload_n 3, 1) := by decide +kernel
theorem dX7_fits_144 : decode cX7_fits 144 = .ok (.invokevirtual 272, 3) := by decide +kernel
theorem dX7_fits_147 : decode cX7_fits 147 = .ok (.invokevirtual 94, 3) := by decide +kernel
theorem dX7_fits_150 : decode cX7_fits 150 = .ok (.ireturn, 1) := by decide +kernel
theorem dX7_drawn_0 : decode cX7_drawn 0 = .ok (.aload_n 0, 1) := by decide +kernel
theorem dX7_drawn_1 : decode cX7_drawn 1 = .ok (.invokevirtual 167, 3) := by decide +kernel
theorem dX7_drawn_4 : decode cX7_drawn 4 = .ok (.ifCond .eq 6, 3) := by decide +kernel
theorem dX7_drawn_7 : decode cX7_drawn 7 = .ok (.ldc 157, 2) := by decide +kernel
theorem dX7_drawn_9 : decode cX7_drawn 9 = .ok (.ireturn, 1) := by decide +kernel
theorem dX7_drawn_10 : decode cX7_drawn 10 = .ok (.iload_n 1, 1) := by decide +kernel
theorem dX7_drawn_11 : decode cX7_drawn 11 = .ok (.ifCond .lt 30, 3) := by decide +kernel
theorem dX7_drawn_14 : decode cX7_drawn 14 = .ok (.iload_n 1, 1) := by decide +kernel
theorem dX7_drawn_15 : decode cX7_drawn 15 = .ok (.bipush 20, 2) := by decide +kernel
theorem dX7_drawn_17 : decode cX7_drawn 17 = .ok (.if_icmp .gt 24, 3) := by decide +kernel
theorem dX7_drawn_20 : decode cX7_drawn 20 = .ok (.iload_n 2, 1) := by decide +kernel
theorem dX7_drawn_21 : decode cX7_drawn 21 = .ok (.iconst 1, 1) := by decide +kernel
theorem dX7_drawn_22 : decode cX7_drawn 22 = .ok (.if_icmp .lt 19, 3) := by decide +kernel
theorem dX7_drawn_25 : decode cX7_drawn 25 = .ok (.iload_n 2, 1) := by decide +kernel
theorem dX7_drawn_26 : decode cX7_drawn 26 = .ok (.ldc_w 275, 3) := by decide +kernel
theorem dX7_drawn_29 : decode cX7_drawn 29 = .ok (.if_icmp .gt 12, 3) := by decide +kernel
theorem dX7_drawn_32 : decode cX7_drawn 32 = .ok (.iload_n 3, 1) := by decide +kernel
theorem dX7_drawn_33 : decode cX7_drawn 33 = .ok (.ifCond .lt 8, 3) := by decide +kernel
theorem dX7_drawn_36 : decode cX7_drawn 36 = .ok (.iload_n 3, 1) := by decide +kernel
theorem dX7_drawn_37 : decode cX7_drawn 37 = .ok (.iconst 1, 1) := by decide +kernel
theorem dX7_drawn_38 : decode cX7_drawn 38 = .ok (.if_icmp .le 6, 3) := by decide +kernel
theorem dX7_drawn_41 : decode cX7_drawn 41 = .ok (.ldc 85, 2) := by decide +kernel
theorem dX7_drawn_43 : decode cX7_drawn 43 = .ok (.ireturn, 1) := by decide +kernel
theorem dX7_drawn_44 : decode cX7_drawn 44 = .ok (.aload_n 0, 1) := by decide +kernel
theorem dX7_drawn_45 : decode cX7_drawn 45 = .ok (.iload_n 1, 1) := by decide +kernel
theorem dX7_drawn_46 : decode cX7_drawn 46 = .ok (.iload_n 2, 1) := by decide +kernel
theorem dX7_drawn_47 : decode cX7_drawn 47 = .ok (.invokevirtual 276, 3) := by decide +kernel
theorem dX7_drawn_50 : decode cX7_drawn 50 = .ok (.istore 4, 2) := by decide +kernel
theorem dX7_drawn_52 : decode cX7_drawn 52 = .ok (.iload_n 3, 1) := by decide +kernel
theorem dX7_drawn_53 : decode cX7_drawn 53 = .ok (.ifCond .ne 6, 3) := by decide +kernel
theorem dX7_drawn_56 : decode cX7_drawn 56 = .ok (.iload 4, 2) := by decide +kernel
theorem dX7_drawn_58 : decode cX7_drawn 58 = .ok (.ireturn, 1) := by decide +kernel
theorem dX7_drawn_59 : decode cX7_drawn 59 = .ok (.aload_n 0, 1) := by decide +kernel
theorem dX7_drawn_60 : decode cX7_drawn 60 = .ok (.getfield 40, 3) := by decide +kernel
theorem dX7_drawn_63 : decode cX7_drawn 63 = .ok (.aload_n 0, 1) := by decide +kernel
theorem dX7_drawn_64 : decode cX7_drawn 64 = .ok (.getfield 37, 3) := by decide +kernel
theorem dX7_drawn_67 : decode cX7_drawn 67 = .ok (.invokevirtual 279, 3) := by decide +kernel
theorem dX7_drawn_70 : decode cX7_drawn 70 = .ok (.aload_n 0, 1) := by decide +kernel
theorem dX7_drawn_71 : decode cX7_drawn 71 = .ok (.getfield 40, 3) := by decide +kernel
theorem dX7_drawn_74 : decode cX7_drawn 74 = .ok (.aload_n 0, 1) := by decide +kernel
theorem dX7_drawn_75 : decode cX7_drawn 75 = .ok (.getfield 37, 3) := by decide +kernel
theorem dX7_drawn_78 : decode cX7_drawn 78 = .ok (.invokevirtual 282, 3) := by decide +kernel
theorem dX7_drawn_81 : decode cX7_drawn 81 = .ok (.aload_n 0, 1) := by decide +kernel
theorem dX7_drawn_82 : decode cX7_drawn 82 = .ok (.getfield 40, 3) := by decide +kernel
theorem dX7_drawn_85 : decode cX7_drawn 85 = .ok (.getfield 244, 3) := by decide +kernel
theorem dX7_drawn_88 : decode cX7_drawn 88 = .ok (.ireturn, 1) := by decide +kernel
theorem dX7_image_0 : decode cX7_image 0 = .ok (.iload_n 1, 1) := by decide +kernel
theorem dX7_image_1 : decode cX7_image 1 = .ok (.ifCond .lt 8, 3) := by decide +kernel
theorem dX7_image_4 : decode cX7_image 4 = .ok (.iload_n 1, 1) := by decide +kernel
theorem dX7_image_5 : decode cX7_image 5 = .ok (.iconst 2, 1) := by decide +kernel
theorem dX7_image_6 : decode cX7_image 6 = .ok (.if_icmp .lt 6, 3) := by decide +kernel
theorem dX7_image_9 : decode cX7_image 9 = .ok (.ldc 85, 2) := by decide +kernel
theorem dX7_image_11 : decode cX7_image 11 = .ok (.ireturn, 1) := by decide +kernel
theorem dX7_image_12 : decode cX7_image 12 = .ok (.aload_n 0, 1) := by decide +kernel
theorem dX7_image_13 : decode cX7_image 13 = .ok (.invokevirtual 167, 3) := by decide +kernel
theorem dX7_image_16 : decode cX7_image 16 = .ok (.ifCond .eq 6, 3) := by decide +kernel
theorem dX7_image_19 : decode cX7_image 19 = .ok (.ldc 157, 2) := by decide +kernel
theorem dX7_image_21 : decode cX7_image 21 = .ok (.ireturn, 1) := by decide +kernel
theorem dX7_image_22 : decode cX7_image 22 = .ok (.aload_n 0, 1) := by decide +kernel
theorem dX7_image_23 : decode cX7_image 23 = .ok (.getfield 43, 3) := by decide +kernel
theorem dX7_image_26 : decode cX7_image 26 = .ok (.iload_n 1, 1) := by decide +kernel
theorem dX7_image_27 : decode cX7_image 27 = .ok (.aaload, 1) := by decide +kernel
theorem dX7_image_28 : decode cX7_image 28 = .ok (.aload_n 0, 1) := by decide +kernel
theorem dX7_image_29 : decode cX7_image 29 = .ok (.getfield 26, 3) := by decide +kernel
theorem dX7_image_32 : decode cX7_image 32 = .ok (.invokevirtual 134, 3) := by decide +kernel
theorem dX7_image_35 : decode cX7_image 35 = .ok (.iconst 1, 1) := by decide +kernel
theorem dX7_image_36 : decode cX7_image 36 = .ok (.ireturn, 1) := by decide +kernel
theorem dX7_restore_0 : decode cX7_restore 0 = .ok (.iload_n 1, 1) := by decide +kernel
theorem dX7_restore_1 : decode cX7_restore 1 = .ok (.ifCond .lt 8, 3) := by decide +kernel
theorem dX7_restore_4 : decode cX7_restore 4 = .ok (.iload_n 1, 1) := by decide +kernel
theorem dX7_restore_5 : decode cX7_restore 5 = .ok (.iconst 2, 1) := by decide +kernel
theorem dX7_restore_6 : decode cX7_restore 6 = .ok (.if_icmp .lt 6, 3) := by decide +kernel
theorem dX7_restore_9 : decode cX7_restore 9 = .ok (.ldc 85, 2) := by decide +kernel
theorem dX7_restore_11 : decode cX7_restore 11 = .ok (.ireturn, 1) := by decide +kernel
theorem dX7_restore_12 : decode cX7_restore 12 = .ok (.aload_n 0, 1) := by decide +kernel
theorem dX7_restore_13 : decode cX7_restore 13 = .ok (.getfield 43, 3) := by decide +kernel
theorem dX7_restore_16 : decode cX7_restore 16 = .ok (.iload_n 1, 1) := by decide +kernel
theorem dX7_restore_17 : decode cX7_restore 17 = .ok (.aaload, 1) := by decide +kernel
theorem dX7_restore_18 : decode cX7_restore 18 = .ok (.getfield 144, 3) := by decide +kernel
theorem dX7_restore_21 : decode cX7_restore 21 = .ok (.ifCond .ne 6, 3) := by decide +kernel
theorem dX7_restore_24 : decode cX7_restore 24 = .ok (.ldc 157, 2) := by decide +kernel
theorem dX7_restore_26 : decode cX7_restore 26 = .ok (.ireturn, 1) := by decide +kernel
theorem dX7_restore_27 : decode cX7_restore 27 = .ok (.aload_n 0, 1) := by decide +kernel
theorem dX7_restore_28 : decode cX7_restore 28 = .ok (.getfield 26, 3) := by decide +kernel
theorem dX7_restore_31 : decode cX7_restore 31 = .ok (.aload_n 0, 1) := by decide +kernel
theorem dX7_restore_32 : decode cX7_restore 32 = .ok (.getfield 43, 3) := by decide +kernel
theorem dX7_restore_35 : decode cX7_restore 35 = .ok (.iload_n 1, 1) := by decide +kernel
theorem dX7_restore_36 : decode cX7_restore 36 = .ok (.aaload, 1) := by decide +kernel
theorem dX7_restore_37 : decode cX7_restore 37 = .ok (.invokevirtual 134, 3) := by decide +kernel
theorem dX7_restore_40 : decode cX7_restore 40 = .ok (.aload_n 0, 1) := by decide +kernel
theorem dX7_restore_41 : decode cX7_restore 41 = .ok (.getfield 50, 3) := by decide +kernel
theorem dX7_restore_44 : decode cX7_restore 44 = .ok (.invokevirtual 138, 3) := by decide +kernel
theorem dX7_restore_47 : decode cX7_restore 47 = .ok (.aload_n 0, 1) := by decide +kernel
theorem dX7_restore_48 : decode cX7_restore 48 = .ok (.invokevirtual 141, 3) := by decide +kernel
theorem dX7_restore_51 : decode cX7_restore 51 = .ok (.iconst 1, 1) := by decide +kernel
theorem dX7_restore_52 : decode cX7_restore 52 = .ok (.ireturn, 1) := by decide +kernel
theorem dX7_kind_0 : decode cX7_kind 0 = .ok (.aload_n 0, 1) := by decide +kernel
theorem dX7_kind_1 : decode cX7_kind 1 = .ok (.iload_n 1, 1) := by decide +kernel
theorem dX7_kind_2 : decode cX7_kind 2 = .ok (.invokevirtual 161, 3) := by decide +kernel
theorem dX7_kind_5 : decode cX7_kind 5 = .ok (.ifCond .eq 15, 3) := by decide +kernel
theorem dX7_kind_8 : decode cX7_kind 8 = .ok (.aload_n 0, 1) := by decide +kernel
theorem dX7_kind_9 : decode cX7_kind 9 = .ok (.getfield 26, 3) := by decide +kernel
theorem dX7_kind_12 : decode cX7_kind 12 = .ok (.getfield 164, 3) := by decide +kernel
theorem dX7_kind_15 : decode cX7_kind 15 = .ok (.iload_n 1, 1) := by decide +kernel
theorem dX7_kind_16 : decode cX7_kind 16 = .ok (.iaload, 1) := by decide +kernel
theorem dX7_kind_17 : decode cX7_kind 17 = .ok (.goto 5, 3) := by decide +kernel
theorem dX7_kind_20 : decode cX7_kind 20 = .ok (.ldc 85, 2) := by decide +kernel
theorem dX7_kind_22 : decode cX7_kind 22 = .ok (.ireturn, 1) := by decide +kernel
theorem dX7_as_0 : decode cX7_as 0 = .ok (.aload_n 0, 1) := by decide +kernel
theorem dX7_as_1 : decode cX7_as 1 = .ok (.iload_n 1, 1) := by decide +kernel
theorem dX7_as_2 : decode cX7_as 2 = .ok (.invokevirtual 161, 3) := by decide +kernel
theorem dX7_as_5 : decode cX7_as 5 = .ok (.ifCond .eq 12, 3) := by decide +kernel
theorem dX7_as_8 : decode cX7_as 8 = .ok (.iload_n 2, 1) := by decide +kernel
theorem dX7_as_9 : decode cX7_as 9 = .ok (.ifCond .lt 8, 3) := by decide +kernel
theorem dX7_as_12 : decode cX7_as 12 = .ok (.iload_n 2, 1) := by decide +kernel
theorem dX7_as_13 : decode cX7_as 13 = .ok (.iconst 5, 1) := by decide +kernel
theorem dX7_as_14 : decode cX7_as 14 = .ok (.if_icmp .le 6, 3) := by decide +kernel
theorem dX7_as_17 : decode cX7_as 17 = .ok (.ldc 85, 2) := by decide +kernel
theorem dX7_as_19 : decode cX7_as 19 = .ok (.ireturn, 1) := by decide +kernel
theorem dX7_as_20 : decode cX7_as 20 = .ok (.aload_n 0, 1) := by decide +kernel
theorem dX7_as_21 : decode cX7_as 21 = .ok (.getfield 26, 3) := by decide +kernel
theorem dX7_as_24 : decode cX7_as 24 = .ok (.getfield 164, 3) := by decide +kernel
theorem dX7_as_27 : decode cX7_as 27 = .ok (.iload_n 1, 1) := by decide +kernel
theorem dX7_as_28 : decode cX7_as 28 = .ok (.iaload, 1) := by decide +kernel
theorem dX7_as_29 : decode cX7_as 29 = .ok (.iload_n 2, 1) := by decide +kernel
theorem dX7_as_30 : decode cX7_as 30 = .ok (.invokestatic 285, 3) := by decide +kernel
theorem dX7_as_33 : decode cX7_as 33 = .ok (.ifCond .eq 11, 3) := by decide +kernel
theorem dX7_as_36 : decode cX7_as 36 = .ok (.aload_n 0, 1) := by decide +kernel
theorem dX7_as_37 : decode cX7_as 37 = .ok (.iload_n 1, 1) := by decide +kernel
theorem dX7_as_38 : decode cX7_as 38 = .ok (.invokevirtual 94, 3) := by decide +kernel
theorem dX7_as_41 : decode cX7_as 41 = .ok (.goto 8, 3) := by decide +kernel
theorem dX7_as_44 : decode cX7_as 44 = .ok (.aload_n 0, 1) := by decide +kernel
theorem dX7_as_45 : decode cX7_as 45 = .ok (.iconst 3, 1) := by decide +kernel
theorem dX7_as_46 : decode cX7_as 46 = .ok (.invokevirtual 86, 3) := by decide +kernel
theorem dX7_as_49 : decode cX7_as 49 = .ok (.ireturn, 1) := by decide +kernel
theorem dX7_ask_0 : decode cX7_ask 0 = .ok (.aload_n 0, 1) := by decide +kernel
theorem dX7_ask_1 : decode cX7_ask 1 = .ok (.iload_n 1, 1) := by decide +kernel
theorem dX7_ask_2 : decode cX7_ask 2 = .ok (.invokevirtual 161, 3) := by decide +kernel
theorem dX7_ask_5 : decode cX7_ask 5 = .ok (.ifCond .eq 12, 3) := by decide +kernel
theorem dX7_ask_8 : decode cX7_ask 8 = .ok (.iload_n 2, 1) := by decide +kernel
theorem dX7_ask_9 : decode cX7_ask 9 = .ok (.ifCond .lt 8, 3) := by decide +kernel
theorem dX7_ask_12 : decode cX7_ask 12 = .ok (.iload_n 2, 1) := by decide +kernel
theorem dX7_ask_13 : decode cX7_ask 13 = .ok (.iconst 1, 1) := by decide +kernel
theorem dX7_ask_14 : decode cX7_ask 14 = .ok (.if_icmp .le 6, 3) := by decide +kernel
theorem dX7_ask_17 : decode cX7_ask 17 = .ok (.ldc 85, 2) := by decide +kernel
theorem dX7_ask_19 : decode cX7_ask 19 = .ok (.ireturn, 1) := by decide +kernel
theorem dX7_ask_20 : decode cX7_ask 20 = .ok (.aload_n 0, 1) := by decide +kernel
theorem dX7_ask_21 : decode cX7_ask 21 = .ok (.getfield 57, 3) := by decide +kernel
theorem dX7_ask_24 : decode cX7_ask 24 = .ok (.iload_n 2, 1) := by decide +kernel
theorem dX7_ask_25 : decode cX7_ask 25 = .ok (.aload_n 0, 1) := by decide +kernel
theorem dX7_ask_26 : decode cX7_ask 26 = .ok (.getfield 26, 3) := by decide +kernel
theorem dX7_ask_29 : decode cX7_ask 29 = .ok (.getfield 164, 3) := by decide +kernel
theorem dX7_ask_32 : decode cX7_ask 32 = .ok (.iload_n 1, 1) := by decide +kernel
theorem dX7_ask_33 : decode cX7_ask 33 = .ok (.iaload, 1) := by decide +kernel
theorem dX7_ask_34 : decode cX7_ask 34 = .ok (.iload_n 1, 1) := by decide +kernel
theorem dX7_ask_35 : decode cX7_ask 35 = .ok (.aload_n 0, 1) := by decide +kernel
theorem dX7_ask_36 : decode cX7_ask 36 = .ok (.getfield 26, 3) := by decide +kernel
theorem dX7_ask_39 : decode cX7_ask 39 = .ok (.iload_n 1, 1) := by decide +kernel
theorem dX7_ask_40 : decode cX7_ask 40 = .ok (.invokevirtual 220, 3) := by decide +kernel
theorem dX7_ask_43 : decode cX7_ask 43 = .ok (.aload_n 0, 1) := by decide +kernel
theorem dX7_ask_44 : decode cX7_ask 44 = .ok (.invokevirtual 210, 3) := by decide +kernel
theorem dX7_ask_47 : decode cX7_ask 47 = .ok (.getfield 226, 3) := by decide +kernel
theorem dX7_ask_50 : decode cX7_ask 50 = .ok (.iload_n 1, 1) := by decide +kernel
theorem dX7_ask_51 : decode cX7_ask 51 = .ok (.iaload, 1) := by decide +kernel
theorem dX7_ask_52 : decode cX7_ask 52 = .ok (.invokevirtual 288, 3) := by decide +kernel
theorem dX7_ask_55 : decode cX7_ask 55 = .ok (.ireturn, 1) := by decide +kernel
theorem dX7_trace_0 : decode cX7_trace 0 = .ok (.iload_n 1, 1) := by decide +kernel
theorem dX7_trace_1 : decode cX7_trace 1 = .ok (.ifCond .lt 26, 3) := by decide +kernel
theorem dX7_trace_4 : decode cX7_trace 4 = .ok (.iload_n 1, 1) := by decide +kernel
theorem dX7_trace_5 : decode cX7_trace 5 = .ok (.aload_n 0, 1) := by decide +kernel
theorem dX7_trace_6 : decode cX7_trace 6 = .ok (.getfield 57, 3) := by decide +kernel
theorem dX7_trace_9 : decode cX7_trace 9 = .ok (.getfield 292, 3) := by decide +kernel
theorem dX7_trace_12 : decode cX7_trace 12 = .ok (.if_icmp .ge 15, 3) := by decide +kernel
theorem dX7_trace_15 : decode cX7_trace 15 = .ok (.aload_n 0, 1) := by decide +kernel
theorem dX7_trace_16 : decode cX7_trace 16 = .ok (.getfield 57, 3) := by decide +kernel
theorem dX7_trace_19 : decode cX7_trace 19 = .ok (.getfield 295, 3) := by decide +kernel
theorem dX7_trace_22 : decode cX7_trace 22 = .ok (.iload_n 1, 1) := by decide +kernel
theorem dX7_trace_23 : decode cX7_trace 23 = .ok (.iaload, 1) := by decide +kernel
theorem dX7_trace_24 : decode cX7_trace 24 = .ok (.goto 6, 3) := by decide +kernel
theorem dX7_trace_27 : decode cX7_trace 27 = .ok (.ldc_w 298, 3) := by decide +kernel
theorem dX7_trace_30 : decode cX7_trace 30 = .ok (.ireturn, 1) := by decide +kernel
theorem dX7_count_0 : decode cX7_count 0 = .ok (.iload_n 1, 1) := by decide +kernel
theorem dX7_count_1 : decode cX7_count 1 = .ok (.tableswitch 87 0 5 #[39, 47, 55, 63, 71, 79], 39) := by decide +kernel
theorem dX7_count_40 : decode cX7_count 40 = .ok (.aload_n 0, 1) := by decide +kernel
theorem dX7_count_41 : decode cX7_count 41 = .ok (.getfield 10, 3) := by decide +kernel
theorem dX7_count_44 : decode cX7_count 44 = .ok (.invokevirtual 299, 3) := by decide +kernel
theorem dX7_count_47 : decode cX7_count 47 = .ok (.ireturn, 1) := by decide +kernel
theorem dX7_count_48 : decode cX7_count 48 = .ok (.aload_n 0, 1) := by decide +kernel
theorem dX7_count_49 : decode cX7_count 49 = .ok (.getfield 26, 3) := by decide +kernel
theorem dX7_count_52 : decode cX7_count 52 = .ok (.getfield 144, 3) := by decide +kernel
theorem dX7_count_55 : decode cX7_count 55 = .ok (.ireturn, 1) := by decide +kernel
theorem dX7_count_56 : decode cX7_count 56 = .ok (.aload_n 0, 1) := by decide +kernel
theorem dX7_count_57 : decode cX7_count 57 = .ok (.getfield 26, 3) := by decide +kernel
theorem dX7_count_60 : decode cX7_count 60 = .ok (.getfield 263, 3) := by decide +kernel
theorem dX7_count_63 : decode cX7_count 63 = .ok (.ireturn, 1) := by decide +kernel
theorem dX7_count_64 : decode cX7_count 64 = .ok (.aload_n 0, 1) := by decide +kernel
theorem dX7_count_65 : decode cX7_count 65 = .ok (.getfield 26, 3) := by decide +kernel
theorem dX7_count_68 : decode cX7_count 68 = .ok (.getfield 174, 3) := by decide +kernel
theorem dX7_count_71 : decode cX7_count 71 = .ok (.ireturn, 1) := by decide +kernel
theorem dX7_count_72 : decode cX7_count 72 = .ok (.aload_n 0, 1) := by decide +kernel
theorem dX7_count_73 : decode cX7_count 73 = .ok (.getfield 50, 3) := by decide +kernel
theorem dX7_count_76 : decode cX7_count 76 = .ok (.getfield 180, 3) := by decide +kernel
theorem dX7_count_79 : decode cX7_count 79 = .ok (.ireturn, 1) := by decide +kernel
theorem dX7_count_80 : decode cX7_count 80 = .ok (.aload_n 0, 1) := by decide +kernel
theorem dX7_count_81 : decode cX7_count 81 = .ok (.getfield 19, 3) := by decide +kernel
theorem dX7_count_84 : decode cX7_count 84 = .ok (.getfield 119, 3) := by decide +kernel
theorem dX7_count_87 : decode cX7_count 87 = .ok (.ireturn, 1) := by decide +kernel
theorem dX7_count_88 : decode cX7_count 88 = .ok (.ldc 85, 2) := by decide +kernel
theorem dX7_count_90 : decode cX7_count 90 = .ok (.ireturn, 1) := by decide +kernel
theorem dX7_status_0 : decode cX7_status 0 = .ok (.aload_n 0, 1) := by decide +kernel
theorem dX7_status_1 : decode cX7_status 1 = .ok (.getfield 78, 3) := by decide +kernel
theorem dX7_status_4 : decode cX7_status 4 = .ok (.ireturn, 1) := by decide +kernel
theorem dX7_found_0 : decode cX7_found 0 = .ok (.aload_n 0, 1) := by decide +kernel
theorem dX7_found_1 : decode cX7_found 1 = .ok (.iload_n 1, 1) := by decide +kernel
theorem dX7_found_2 : decode cX7_found 2 = .ok (.putfield 78, 3) := by decide +kernel
theorem dX7_found_5 : decode cX7_found 5 = .ok (.ldc_w 302, 3) := by decide +kernel
theorem dX7_found_8 : decode cX7_found 8 = .ok (.iload_n 1, 1) := by decide +kernel
theorem dX7_found_9 : decode cX7_found 9 = .ok (.isub, 1) := by decide +kernel
theorem dX7_found_10 : decode cX7_found 10 = .ok (.ireturn, 1) := by decide +kernel
theorem dX7_fine_0 : decode cX7_fine 0 = .ok (.aload_n 0, 1) := by decide +kernel
theorem dX7_fine_1 : decode cX7_fine 1 = .ok (.iconst 0, 1) := by decide +kernel
theorem dX7_fine_2 : decode cX7_fine 2 = .ok (.putfield 78, 3) := by decide +kernel
theorem dX7_fine_5 : decode cX7_fine 5 = .ok (.iload_n 1, 1) := by decide +kernel
theorem dX7_fine_6 : decode cX7_fine 6 = .ok (.ireturn, 1) := by decide +kernel
theorem dX7_acted_0 : decode cX7_acted 0 = .ok (.aload_n 0, 1) := by decide +kernel
theorem dX7_acted_1 : decode cX7_acted 1 = .ok (.getfield 50, 3) := by decide +kernel
theorem dX7_acted_4 : decode cX7_acted 4 = .ok (.iload_n 1, 1) := by decide +kernel
theorem dX7_acted_5 : decode cX7_acted 5 = .ok (.iload_n 2, 1) := by decide +kernel
theorem dX7_acted_6 : decode cX7_acted 6 = .ok (.iload_n 3, 1) := by decide +kernel
theorem dX7_acted_7 : decode cX7_acted 7 = .ok (.invokevirtual 303, 3) := by decide +kernel
theorem dX7_acted_10 : decode cX7_acted 10 = .ok (.aload_n 0, 1) := by decide +kernel
theorem dX7_acted_11 : decode cX7_acted 11 = .ok (.invokevirtual 141, 3) := by decide +kernel
theorem dX7_acted_14 : decode cX7_acted 14 = .ok (.return_, 1) := by decide +kernel
theorem dX7_changed_0 : decode cX7_changed 0 = .ok (.aload_n 0, 1) := by decide +kernel
theorem dX7_changed_1 : decode cX7_changed 1 = .ok (.iconst 1, 1) := by decide +kernel
theorem dX7_changed_2 : decode cX7_changed 2 = .ok (.putfield 61, 3) := by decide +kernel
theorem dX7_changed_5 : decode cX7_changed 5 = .ok (.aload_n 0, 1) := by decide +kernel
theorem dX7_changed_6 : decode cX7_changed 6 = .ok (.iconst 1, 1) := by decide +kernel
theorem dX7_changed_7 : decode cX7_changed 7 = .ok (.putfield 65, 3) := by decide +kernel
theorem dX7_changed_10 : decode cX7_changed 10 = .ok (.return_, 1) := by decide +kernel
theorem dX7_isNoPiece_0 : decode cX7_isNoPiece 0 = .ok (.aload_n 0, 1) := by decide +kernel
theorem dX7_isNoPiece_1 : decode cX7_isNoPiece 1 = .ok (.getfield 26, 3) := by decide +kernel
theorem dX7_isNoPiece_4 : decode cX7_isNoPiece 4 = .ok (.getfield 144, 3) := by decide +kernel
theorem dX7_isNoPiece_7 : decode cX7_isNoPiece 7 = .ok (.ifCond .ne 7, 3) := by decide +kernel
theorem dX7_isNoPiece_10 : decode cX7_isNoPiece 10 = .ok (.iconst 1, 1) := by decide +kernel
theorem dX7_isNoPiece_11 : decode cX7_isNoPiece 11 = .ok (.goto 4, 3) := by decide +kernel
theorem dX7_isNoPiece_14 : decode cX7_isNoPiece 14 = .ok (.iconst 0, 1) := by decide +kernel
theorem dX7_isNoPiece_15 : decode cX7_isNoPiece 15 = .ok (.ireturn, 1) := by decide +kernel
theorem dX7_isChord_0 : decode cX7_isChord 0 = .ok (.iload_n 1, 1) := by decide +kernel
theorem dX7_isChord_1 : decode cX7_isChord 1 = .ok (.ifCond .lt 18, 3) := by decide +kernel
theorem dX7_isChord_4 : decode cX7_isChord 4 = .ok (.iload_n 1, 1) := by decide +kernel
theorem dX7_isChord_5 : decode cX7_isChord 5 = .ok (.aload_n 0, 1) := by decide +kernel
theorem dX7_isChord_6 : decode cX7_isChord 6 = .ok (.getfield 26, 3) := by decide +kernel
theorem dX7_isChord_9 : decode cX7_isChord 9 = .ok (.getfield 144, 3) := by decide +kernel
theorem dX7_isChord_12 : decode cX7_isChord 12 = .ok (.if_icmp .ge 7, 3) := by decide +kernel
theorem dX7_isChord_15 : decode cX7_isChord 15 = .ok (.iconst 1, 1) := by decide +kernel
theorem dX7_isChord_16 : decode cX7_isChord 16 = .ok (.goto 4, 3) := by decide +kernel
theorem dX7_isChord_19 : decode cX7_isChord 19 = .ok (.iconst 0, 1) := by decide +kernel
theorem dX7_isChord_20 : decode cX7_isChord 20 = .ok (.ireturn, 1) := by decide +kernel
theorem dX7_isNote_0 : decode cX7_isNote 0 = .ok (.iload_n 1, 1) := by decide +kernel
theorem dX7_isNote_1 : decode cX7_isNote 1 = .ok (.ifCond .lt 18, 3) := by decide +kernel
theorem dX7_isNote_4 : decode cX7_isNote 4 = .ok (.iload_n 1, 1) := by decide +kernel
theorem dX7_isNote_5 : decode cX7_isNote 5 = .ok (.aload_n 0, 1) := by decide +kernel
theorem dX7_isNote_6 : decode cX7_isNote 6 = .ok (.getfield 26, 3) := by decide +kernel
theorem dX7_isNote_9 : decode cX7_isNote 9 = .ok (.getfield 263, 3) := by decide +kernel
theorem dX7_isNote_12 : decode cX7_isNote 12 = .ok (.if_icmp .ge 7, 3) := by decide +kernel
theorem dX7_isNote_15 : decode cX7_isNote 15 = .ok (.iconst 1, 1) := by decide +kernel
theorem dX7_isNote_16 : decode cX7_isNote 16 = .ok (.goto 4, 3) := by decide +kernel
theorem dX7_isNote_19 : decode cX7_isNote 19 = .ok (.iconst 0, 1) := by decide +kernel
theorem dX7_isNote_20 : decode cX7_isNote 20 = .ok (.ireturn, 1) := by decide +kernel
theorem dX7_isKey_0 : decode cX7_isKey 0 = .ok (.iload_n 0, 1) := by decide +kernel
theorem dX7_isKey_1 : decode cX7_isKey 1 = .ok (.ifCond .lt 13, 3) := by decide +kernel
theorem dX7_isKey_4 : decode cX7_isKey 4 = .ok (.iload_n 0, 1) := by decide +kernel
theorem dX7_isKey_5 : decode cX7_isKey 5 = .ok (.bipush 12, 2) := by decide +kernel
theorem dX7_isKey_7 : decode cX7_isKey 7 = .ok (.if_icmp .ge 7, 3) := by decide +kernel
theorem dX7_isKey_10 : decode cX7_isKey 10 = .ok (.iconst 1, 1) := by decide +kernel
theorem dX7_isKey_11 : decode cX7_isKey 11 = .ok (.goto 4, 3) := by decide +kernel
theorem dX7_isKey_14 : decode cX7_isKey 14 = .ok (.iconst 0, 1) := by decide +kernel
theorem dX7_isKey_15 : decode cX7_isKey 15 = .ok (.ireturn, 1) := by decide +kernel
theorem dX7_isSignature_0 : decode cX7_isSignature 0 = .ok (.iload_n 0, 1) := by decide +kernel
theorem dX7_isSignature_1 : decode cX7_isSignature 1 = .ok (.ifCond .lt 13, 3) := by decide +kernel
theorem dX7_isSignature_4 : decode cX7_isSignature 4 = .ok (.iload_n 0, 1) := by decide +kernel
theorem dX7_isSignature_5 : decode cX7_isSignature 5 = .ok (.bipush 15, 2) := by decide +kernel
theorem dX7_isSignature_7 : decode cX7_isSignature 7 = .ok (.if_icmp .ge 7, 3) := by decide +kernel
theorem dX7_isSignature_10 : decode cX7_isSignature 10 = .ok (.iconst 1, 1) := by decide +kernel
theorem dX7_isSignature_11 : decode cX7_isSignature 11 = .ok (.goto 4, 3) := by decide +kernel
theorem dX7_isSignature_14 : decode cX7_isSignature 14 = .ok (.iconst 0, 1) := by decide +kernel
theorem dX7_isSignature_15 : decode cX7_isSignature 15 = .ok (.ireturn, 1) := by decide +kernel
theorem dX7_isWindow_0 : decode cX7_isWindow 0 = .ok (.iload_n 0, 1) := by decide +kernel
theorem dX7_isWindow_1 : decode cX7_isWindow 1 = .ok (.bipush (-15), 2) := by decide +kernel
theorem dX7_isWindow_3 : decode cX7_isWindow 3 = .ok (.if_icmp .lt 13, 3) := by decide +kernel
theorem dX7_isWindow_6 : decode cX7_isWindow 6 = .ok (.iload_n 0, 1) := by decide +kernel
theorem dX7_isWindow_7 : decode cX7_isWindow 7 = .ok (.bipush 8, 2) := by decide +kernel
theorem dX7_isWindow_9 : decode cX7_isWindow 9 = .ok (.if_icmp .gt 7, 3) := by decide +kernel
theorem dX7_isWindow_12 : decode cX7_isWindow 12 = .ok (.iconst 1, 1) := by decide +kernel
theorem dX7_isWindow_13 : decode cX7_isWindow 13 = .ok (.goto 4, 3) := by decide +kernel
theorem dX7_isWindow_16 : decode cX7_isWindow 16 = .ok (.iconst 0, 1) := by decide +kernel
theorem dX7_isWindow_17 : decode cX7_isWindow 17 = .ok (.ireturn, 1) := by decide +kernel
theorem dX7_settled_0 : decode cX7_settled 0 = .ok (.aload_n 0, 1) := by decide +kernel
theorem dX7_settled_1 : decode cX7_settled 1 = .ok (.getfield 61, 3) := by decide +kernel
theorem dX7_settled_4 : decode cX7_settled 4 = .ok (.ifCond .eq 30, 3) := by decide +kernel
theorem dX7_settled_7 : decode cX7_settled 7 = .ok (.aload_n 0, 1) := by decide +kernel
theorem dX7_settled_8 : decode cX7_settled 8 = .ok (.getfield 33, 3) := by decide +kernel
theorem dX7_settled_11 : decode cX7_settled 11 = .ok (.aload_n 0, 1) := by decide +kernel
theorem dX7_settled_12 : decode cX7_settled 12 = .ok (.getfield 26, 3) := by decide +kernel
theorem dX7_settled_15 : decode cX7_settled 15 = .ok (.invokevirtual 279, 3) := by decide +kernel
theorem dX7_settled_18 : decode cX7_settled 18 = .ok (.aload_n 0, 1) := by decide +kernel
theorem dX7_settled_19 : decode cX7_settled 19 = .ok (.getfield 33, 3) := by decide +kernel
theorem dX7_settled_22 : decode cX7_settled 22 = .ok (.aload_n 0, 1) := by decide +kernel
theorem dX7_settled_23 : decode cX7_settled 23 = .ok (.getfield 26, 3) := by decide +kernel
theorem dX7_settled_26 : decode cX7_settled 26 = .ok (.invokevirtual 282, 3) := by decide +kernel
theorem dX7_settled_29 : decode cX7_settled 29 = .ok (.aload_n 0, 1) := by decide +kernel
theorem dX7_settled_30 : decode cX7_settled 30 = .ok (.iconst 0, 1) := by decide +kernel
theorem dX7_settled_31 : decode cX7_settled 31 = .ok (.putfield 61, 3) := by decide +kernel
theorem dX7_settled_34 : decode cX7_settled 34 = .ok (.aload_n 0, 1) := by decide +kernel
theorem dX7_settled_35 : decode cX7_settled 35 = .ok (.getfield 33, 3) := by decide +kernel
theorem dX7_settled_38 : decode cX7_settled 38 = .ok (.areturn, 1) := by decide +kernel
theorem dX7_findHeads_0 : decode cX7_findHeads 0 = .ok (.aload_n 0, 1) := by decide +kernel
theorem dX7_findHeads_1 : decode cX7_findHeads 1 = .ok (.getfield 65, 3) := by decide +kernel
theorem dX7_findHeads_4 : decode cX7_findHeads 4 = .ok (.ifCond .ne 4, 3) := by decide +kernel
theorem dX7_findHeads_7 : decode cX7_findHeads 7 = .ok (.return_, 1) := by decide +kernel
theorem dX7_findHeads_8 : decode cX7_findHeads 8 = .ok (.aload_n 0, 1) := by decide +kernel
theorem dX7_findHeads_9 : decode cX7_findHeads 9 = .ok (.getfield 37, 3) := by decide +kernel
theorem dX7_findHeads_12 : decode cX7_findHeads 12 = .ok (.aload_n 0, 1) := by decide +kernel
theorem dX7_findHeads_13 : decode cX7_findHeads 13 = .ok (.getfield 26, 3) := by decide +kernel
theorem dX7_findHeads_16 : decode cX7_findHeads 16 = .ok (.invokevirtual 134, 3) := by decide +kernel
theorem dX7_findHeads_19 : decode cX7_findHeads 19 = .ok (.aload_n 0, 1) := by decide +kernel
theorem dX7_findHeads_20 : decode cX7_findHeads 20 = .ok (.ldc_w 308, 3) := by decide +kernel
theorem dX7_findHeads_23 : decode cX7_findHeads 23 = .ok (.putfield 72, 3) := by decide +kernel
theorem dX7_findHeads_26 : decode cX7_findHeads 26 = .ok (.iconst 0, 1) := by decide +kernel
theorem dX7_findHeads_27 : decode cX7_findHeads 27 = .ok (.istore_n 1, 1) := by decide +kernel
theorem dX7_findHeads_28 : decode cX7_findHeads 28 = .ok (.iload_n 1, 1) := by decide +kernel
theorem dX7_findHeads_29 : decode cX7_findHeads 29 = .ok (.bipush 15, 2) := by decide +kernel
theorem dX7_findHeads_31 : decode cX7_findHeads 31 = .ok (.if_icmp .ge 58, 3) := by decide +kernel
theorem dX7_findHeads_34 : decode cX7_findHeads 34 = .ok (.aload_n 0, 1) := by decide +kernel
theorem dX7_findHeads_35 : decode cX7_findHeads 35 = .ok (.getfield 37, 3) := by decide +kernel
theorem dX7_findHeads_38 : decode cX7_findHeads 38 = .ok (.iload_n 1, 1) := by decide +kernel
theorem dX7_findHeads_39 : decode cX7_findHeads 39 = .ok (.putfield 174, 3) := by decide +kernel
theorem dX7_findHeads_42 : decode cX7_findHeads 42 = .ok (.aload_n 0, 1) := by decide +kernel
theorem dX7_findHeads_43 : decode cX7_findHeads 43 = .ok (.getfield 40, 3) := by decide +kernel
theorem dX7_findHeads_46 : decode cX7_findHeads 46 = .ok (.aload_n 0, 1) := by decide +kernel
theorem dX7_findHeads_47 : decode cX7_findHeads 47 = .ok (.getfield 37, 3) := by decide +kernel
theorem dX7_findHeads_50 : decode cX7_findHeads 50 = .ok (.invokevirtual 279, 3) := by decide +kernel
theorem dX7_findHeads_53 : decode cX7_findHeads 53 = .ok (.aload_n 0, 1) := by decide +kernel
theorem dX7_findHeads_54 : decode cX7_findHeads 54 = .ok (.getfield 40, 3) := by decide +kernel
theorem dX7_findHeads_57 : decode cX7_findHeads 57 = .ok (.getfield 238, 3) := by decide +kernel
theorem dX7_findHeads_60 : decode cX7_findHeads 60 = .ok (.aload_n 0, 1) := by decide +kernel
theorem dX7_findHeads_61 : decode cX7_findHeads 61 = .ok (.getfield 72, 3) := by decide +kernel
theorem dX7_findHeads_64 : decode cX7_findHeads 64 = .ok (.if_icmp .ge 19, 3) := by decide +kernel
theorem dX7_findHeads_67 : decode cX7_findHeads 67 = .ok (.aload_n 0, 1) := by decide +kernel
theorem dX7_findHeads_68 : decode cX7_findHeads 68 = .ok (.aload_n 0, 1) := by decide +kernel
theorem dX7_findHeads_69 : decode cX7_findHeads 69 = .ok (.getfield 40, 3) := by decide +kernel
theorem dX7_findHeads_72 : decode cX7_findHeads 72 = .ok (.getfield 238, 3) := by decide +kernel
theorem dX7_findHeads_75 : decode cX7_findHeads 75 = .ok (.putfield 72, 3) := by decide +kernel
theorem dX7_findHeads_78 : decode cX7_findHeads 78 = .ok (.aload_n 0, 1) := by decide +kernel
theorem dX7_findHeads_79 : decode cX7_findHeads 79 = .ok (.iload_n 1, 1) := by decide +kernel
theorem dX7_findHeads_80 : decode cX7_findHeads 80 = .ok (.putfield 68, 3) := by decide +kernel
theorem dX7_findHeads_83 : decode cX7_findHeads 83 = .ok (.iinc 1 1, 3) := by decide +kernel
theorem dX7_findHeads_86 : decode cX7_findHeads 86 = .ok (.goto (-58), 3) := by decide +kernel
theorem dX7_findHeads_89 : decode cX7_findHeads 89 = .ok (.aload_n 0, 1) := by decide +kernel
theorem dX7_findHeads_90 : decode cX7_findHeads 90 = .ok (.iconst 0, 1) := by decide +kernel
theorem dX7_findHeads_91 : decode cX7_findHeads 91 = .ok (.putfield 65, 3) := by decide +kernel
theorem dX7_findHeads_94 : decode cX7_findHeads 94 = .ok (.return_, 1) := by decide +kernel
theorem dX7_signatureOfHeads_0 : decode cX7_signatureOfHeads 0 = .ok (.aload_n 0, 1) := by decide +kernel
theorem dX7_signatureOfHeads_1 : decode cX7_signatureOfHeads 1 = .ok (.invokevirtual 309, 3) := by decide +kernel
theorem dX7_signatureOfHeads_4 : decode cX7_signatureOfHeads 4 = .ok (.aload_n 0, 1) := by decide +kernel
theorem dX7_signatureOfHeads_5 : decode cX7_signatureOfHeads 5 = .ok (.getfield 68, 3) := by decide +kernel
theorem dX7_signatureOfHeads_8 : decode cX7_signatureOfHeads 8 = .ok (.ireturn, 1) := by decide +kernel
theorem dX7_costOfHeads_0 : decode cX7_costOfHeads 0 = .ok (.aload_n 0, 1) := by decide +kernel
theorem dX7_costOfHeads_1 : decode cX7_costOfHeads 1 = .ok (.invokevirtual 309, 3) := by decide +kernel
theorem dX7_costOfHeads_4 : decode cX7_costOfHeads 4 = .ok (.aload_n 0, 1) := by decide +kernel
theorem dX7_costOfHeads_5 : decode cX7_costOfHeads 5 = .ok (.getfield 72, 3) := by decide +kernel
theorem dX7_costOfHeads_8 : decode cX7_costOfHeads 8 = .ok (.ireturn, 1) := by decide +kernel
theorem dX7_costOfOne_0 : decode cX7_costOfOne 0 = .ok (.iconst 0, 1) := by decide +kernel
theorem dX7_costOfOne_1 : decode cX7_costOfOne 1 = .ok (.istore_n 2, 1) := by decide +kernel
theorem dX7_costOfOne_2 : decode cX7_costOfOne 2 = .ok (.iconst 0, 1) := by decide +kernel
theorem dX7_costOfOne_3 : decode cX7_costOfOne 3 = .ok (.istore_n 3, 1) := by decide +kernel
theorem dX7_costOfOne_4 : decode cX7_costOfOne 4 = .ok (.iload_n 3, 1) := by decide +kernel
theorem dX7_costOfOne_5 : decode cX7_costOfOne 5 = .ok (.aload_n 0, 1) := by decide +kernel
theorem dX7_costOfOne_6 : decode cX7_costOfOne 6 = .ok (.getfield 26, 3) := by decide +kernel
theorem dX7_costOfOne_9 : decode cX7_costOfOne 9 = .ok (.getfield 144, 3) := by decide +kernel
theorem dX7_costOfOne_12 : decode cX7_costOfOne 12 = .ok (.if_icmp .ge 21, 3) := by decide +kernel
theorem dX7_costOfOne_15 : decode cX7_costOfOne 15 = .ok (.iload_n 2, 1) := by decide +kernel
theorem dX7_costOfOne_16 : decode cX7_costOfOne 16 = .ok (.aload_n 0, 1) := by decide +kernel
theorem dX7_costOfOne_17 : decode cX7_costOfOne 17 = .ok (.getfield 26, 3) := by decide +kernel
theorem dX7_costOfOne_20 : decode cX7_costOfOne 20 = .ok (.iload_n 3, 1) := by decide +kernel
theorem dX7_costOfOne_21 : decode cX7_costOfOne 21 = .ok (.iload_n 1, 1) := by decide +kernel
theorem dX7_costOfOne_22 : decode cX7_costOfOne 22 = .ok (.invokevirtual 229, 3) := by decide +kernel
theorem dX7_costOfOne_25 : decode cX7_costOfOne 25 = .ok (.iadd, 1) := by decide +kernel
theorem dX7_costOfOne_26 : decode cX7_costOfOne 26 = .ok (.istore_n 2, 1) := by decide +kernel
theorem dX7_costOfOne_27 : decode cX7_costOfOne 27 = .ok (.iinc 3 1, 3) := by decide +kernel
theorem dX7_costOfOne_30 : decode cX7_costOfOne 30 = .ok (.goto (-26), 3) := by decide +kernel
theorem dX7_costOfOne_33 : decode cX7_costOfOne 33 = .ok (.iload_n 2, 1) := by decide +kernel
theorem dX7_costOfOne_34 : decode cX7_costOfOne 34 = .ok (.ireturn, 1) := by decide +kernel
theorem dX7_cheapestOne_0 : decode cX7_cheapestOne 0 = .ok (.bipush (-15), 2) := by decide +kernel
theorem dX7_cheapestOne_2 : decode cX7_cheapestOne 2 = .ok (.istore_n 1, 1) := by decide +kernel
theorem dX7_cheapestOne_3 : decode cX7_cheapestOne 3 = .ok (.aload_n 0, 1) := by decide +kernel
theorem dX7_cheapestOne_4 : decode cX7_cheapestOne 4 = .ok (.bipush (-15), 2) := by decide +kernel
theorem dX7_cheapestOne_6 : decode cX7_cheapestOne 6 = .ok (.invokevirtual 257, 3) := by decide +kernel
theorem dX7_cheapestOne_9 : decode cX7_cheapestOne 9 = .ok (.istore_n 2, 1) := by decide +kernel
theorem dX7_cheapestOne_10 : decode cX7_cheapestOne 10 = .ok (.bipush (-14), 2) := by decide +kernel
theorem dX7_cheapestOne_12 : decode cX7_cheapestOne 12 = .ok (.istore_n 3, 1) := by decide +kernel
theorem dX7_cheapestOne_13 : decode cX7_cheapestOne 13 = .ok (.iload_n 3, 1) := by decide +kernel
theorem dX7_cheapestOne_14 : decode cX7_cheapestOne 14 = .ok (.bipush 8, 2) := by decide +kernel
theorem dX7_cheapestOne_16 : decode cX7_cheapestOne 16 = .ok (.if_icmp .gt 27, 3) := by decide +kernel
theorem dX7_cheapestOne_19 : decode cX7_cheapestOne 19 = .ok (.aload_n 0, 1) := by decide +kernel
theorem dX7_cheapestOne_20 : decode cX7_cheapestOne 20 = .ok (.iload_n 3, 1) := by decide +kernel
theorem dX7_cheapestOne_21 : decode cX7_cheapestOne 21 = .ok (.invokevirtual 257, 3) := by decide +kernel
theorem dX7_cheapestOne_24 : decode cX7_cheapestOne 24 = .ok (.istore 4, 2) := by decide +kernel
theorem dX7_cheapestOne_26 : decode cX7_cheapestOne 26 = .ok (.iload 4, 2) := by decide +kernel
theorem dX7_cheapestOne_28 : decode cX7_cheapestOne 28 = .ok (.iload_n 2, 1) := by decide +kernel
theorem dX7_cheapestOne_29 : decode cX7_cheapestOne 29 = .ok (.if_icmp .ge 8, 3) := by decide +kernel
theorem dX7_cheapestOne_32 : decode cX7_cheapestOne 32 = .ok (.iload 4, 2) := by decide +kernel
theorem dX7_cheapestOne_34 : decode cX7_cheapestOne 34 = .ok (.istore_n 2, 1) := by decide +kernel
theorem dX7_cheapestOne_35 : decode cX7_cheapestOne 35 = .ok (.iload_n 3, 1) := by decide +kernel
theorem dX7_cheapestOne_36 : decode cX7_cheapestOne 36 = .ok (.istore_n 1, 1) := by decide +kernel
theorem dX7_cheapestOne_37 : decode cX7_cheapestOne 37 = .ok (.iinc 3 1, 3) := by decide +kernel
theorem dX7_cheapestOne_40 : decode cX7_cheapestOne 40 = .ok (.goto (-27), 3) := by decide +kernel
theorem dX7_cheapestOne_43 : decode cX7_cheapestOne 43 = .ok (.iload_n 1, 1) := by decide +kernel
theorem dX7_cheapestOne_44 : decode cX7_cheapestOne 44 = .ok (.ireturn, 1) := by decide +kernel
theorem dX7_costOfItems_0 : decode cX7_costOfItems 0 = .ok (.iconst 0, 1) := by decide +kernel
theorem dX7_costOfItems_1 : decode cX7_costOfItems 1 = .ok (.istore_n 3, 1) := by decide +kernel
theorem dX7_costOfItems_2 : decode cX7_costOfItems 2 = .ok (.iconst 0, 1) := by decide +kernel
theorem dX7_costOfItems_3 : decode cX7_costOfItems 3 = .ok (.istore 4, 2) := by decide +kernel
theorem dX7_costOfItems_5 : decode cX7_costOfItems 5 = .ok (.iload 4, 2) := by decide +kernel
theorem dX7_costOfItems_7 : decode cX7_costOfItems 7 = .ok (.aload_n 0, 1) := by decide +kernel
theorem dX7_costOfItems_8 : decode cX7_costOfItems 8 = .ok (.getfield 26, 3) := by decide +kernel
theorem dX7_costOfItems_11 : decode cX7_costOfItems 11 = .ok (.getfield 144, 3) := by decide +kernel
theorem dX7_costOfItems_14 : decode cX7_costOfItems 14 = .ok (.if_icmp .ge 109, 3) := by decide +kernel
theorem dX7_costOfItems_17 : decode cX7_costOfItems 17 = .ok (.aload_n 0, 1) := by decide +kernel
theorem dX7_costOfItems_18 : decode cX7_costOfItems 18 = .ok (.getfield 10, 3) := by decide +kernel
theorem dX7_costOfItems_21 : decode cX7_costOfItems 21 = .ok (.iload_n 1, 1) := by decide +kernel
theorem dX7_costOfItems_22 : decode cX7_costOfItems 22 = .ok (.iload_n 2, 1) := by decide +kernel
theorem dX7_costOfItems_23 : decode cX7_costOfItems 23 = .ok (.iload 4, 2) := by decide +kernel
theorem dX7_costOfItems_25 : decode cX7_costOfItems 25 = .ok (.iadd, 1) := by decide +kernel
theorem dX7_costOfItems_26 : decode cX7_costOfItems 26 = .ok (.invokevirtual 312, 3) := by decide +kernel
theorem dX7_costOfItems_29 : decode cX7_costOfItems 29 = .ok (.istore 5, 2) := by decide +kernel
theorem dX7_costOfItems_31 : decode cX7_costOfItems 31 = .ok (.iload 5, 2) := by decide +kernel
theorem dX7_costOfItems_33 : decode cX7_costOfItems 33 = .ok (.invokestatic 197, 3) := by decide +kernel
theorem dX7_costOfItems_36 : decode cX7_costOfItems 36 = .ok (.ifCond .ne 7, 3) := by decide +kernel
theorem dX7_costOfItems_39 : decode cX7_costOfItems 39 = .ok (.ldc_w 298, 3) := by decide +kernel
theorem dX7_costOfItems_42 : decode cX7_costOfItems 42 = .ok (.ireturn, 1) := by decide +kernel
theorem dX7_costOfItems_43 : decode cX7_costOfItems 43 = .ok (.iload 4, 2) := by decide +kernel
theorem dX7_costOfItems_45 : decode cX7_costOfItems 45 = .ok (.ifCond .le 58, 3) := by decide +kernel
theorem dX7_costOfItems_48 : decode cX7_costOfItems 48 = .ok (.aload_n 0, 1) := by decide +kernel
theorem dX7_costOfItems_49 : decode cX7_costOfItems 49 = .ok (.getfield 10, 3) := by decide +kernel
theorem dX7_costOfItems_52 : decode cX7_costOfItems 52 = .ok (.iload_n 1, 1) := by decide +kernel
theorem dX7_costOfItems_53 : decode cX7_costOfItems 53 = .ok (.iload_n 2, 1) := by decide +kernel
theorem dX7_costOfItems_54 : decode cX7_costOfItems 54 = .ok (.iload 4, 2) := by decide +kernel
theorem dX7_costOfItems_56 : decode cX7_costOfItems 56 = .ok (.iadd, 1) := by decide +kernel
theorem dX7_costOfItems_57 : decode cX7_costOfItems 57 = .ok (.iconst 1, 1) := by decide +kernel
theorem dX7_costOfItems_58 : decode cX7_costOfItems 58 = .ok (.isub, 1) := by decide +kernel
theorem dX7_costOfItems_59 : decode cX7_costOfItems 59 = .ok (.invokevirtual 312, 3) := by decide +kernel
theorem dX7_costOfItems_62 : decode cX7_costOfItems 62 = .ok (.istore 6, 2) := by decide +kernel
theorem dX7_costOfItems_64 : decode cX7_costOfItems 64 = .ok (.aload_n 0, 1) := by decide +kernel
theorem dX7_costOfItems_65 : decode cX7_costOfItems 65 = .ok (.getfield 26, 3) := by decide +kernel
theorem dX7_costOfItems_68 : decode cX7_costOfItems 68 = .ok (.iload 4, 2) := by decide +kernel
theorem dX7_costOfItems_70 : decode cX7_costOfItems 70 = .ok (.invokevirtual 315, 3) := by decide +kernel
theorem dX7_costOfItems_73 : decode cX7_costOfItems 73 = .ok (.ifCond .eq 14, 3) := by decide +kernel
theorem dX7_costOfItems_76 : decode cX7_costOfItems 76 = .ok (.iload 5, 2) := by decide +kernel
theorem dX7_costOfItems_78 : decode cX7_costOfItems 78 = .ok (.iload 6, 2) := by decide +kernel
theorem dX7_costOfItems_80 : decode cX7_costOfItems 80 = .ok (.if_icmp .eq 7, 3) := by decide +kernel
theorem dX7_costOfItems_83 : decode cX7_costOfItems 83 = .ok (.ldc_w 298, 3) := by decide +kernel
theorem dX7_costOfItems_86 : decode cX7_costOfItems 86 = .ok (.ireturn, 1) := by decide +kernel
theorem dX7_costOfItems_87 : decode cX7_costOfItems 87 = .ok (.iload_n 3, 1) := by decide +kernel
theorem dX7_costOfItems_88 : decode cX7_costOfItems 88 = .ok (.aload_n 0, 1) := by decide +kernel
theorem dX7_costOfItems_89 : decode cX7_costOfItems 89 = .ok (.getfield 26, 3) := by decide +kernel
theorem dX7_costOfItems_92 : decode cX7_costOfItems 92 = .ok (.iload 4, 2) := by decide +kernel
theorem dX7_costOfItems_94 : decode cX7_costOfItems 94 = .ok (.iload 6, 2) := by decide +kernel
theorem dX7_costOfItems_96 : decode cX7_costOfItems 96 = .ok (.iload 5, 2) := by decide +kernel
theorem dX7_costOfItems_98 : decode cX7_costOfItems 98 = .ok (.invokevirtual 318, 3) := by decide +kernel
theorem dX7_costOfItems_101 : decode cX7_costOfItems 101 = .ok (.iadd, 1) := by decide +kernel
theorem dX7_costOfItems_102 : decode cX7_costOfItems 102 = .ok (.istore_n 3, 1) := by decide +kernel
theorem dX7_costOfItems_103 : decode cX7_costOfItems 103 = .ok (.iload_n 3, 1) := by decide +kernel
theorem dX7_costOfItems_104 : decode cX7_costOfItems 104 = .ok (.aload_n 0, 1) := by decide +kernel
theorem dX7_costOfItems_105 : decode cX7_costOfItems 105 = .ok (.getfield 26, 3) := by decide +kernel
theorem dX7_costOfItems_108 : decode cX7_costOfItems 108 = .ok (.iload 4, 2) := by decide +kernel
theorem dX7_costOfItems_110 : decode cX7_costOfItems 110 = .ok (.iload 5, 2) := by decide +kernel
theorem dX7_costOfItems_112 : decode cX7_costOfItems 112 = .ok (.invokevirtual 229, 3) := by decide +kernel
theorem dX7_costOfItems_115 : decode cX7_costOfItems 115 = .ok (.iadd, 1) := by decide +kernel
theorem dX7_costOfItems_116 : decode cX7_costOfItems 116 = .ok (.istore_n 3, 1) := by decide +kernel
theorem dX7_costOfItems_117 : decode cX7_costOfItems 117 = .ok (.iinc 4 1, 3) := by decide +kernel
theorem dX7_costOfItems_120 : decode cX7_costOfItems 120 = .ok (.goto (-115), 3) := by decide +kernel
theorem dX7_costOfItems_123 : decode cX7_costOfItems 123 = .ok (.iload_n 3, 1) := by decide +kernel
theorem dX7_costOfItems_124 : decode cX7_costOfItems 124 = .ok (.ireturn, 1) := by decide +kernel
theorem dX7_fittingSignatures_0 : decode cX7_fittingSignatures 0 = .ok (.iconst 0, 1) := by decide +kernel
theorem dX7_fittingSignatures_1 : decode cX7_fittingSignatures 1 = .ok (.istore_n 3, 1) := by decide +kernel
theorem dX7_fittingSignatures_2 : decode cX7_fittingSignatures 2 = .ok (.aload_n 0, 1) := by decide +kernel
theorem dX7_fittingSignatures_3 : decode cX7_fittingSignatures 3 = .ok (.getfield 37, 3) := by decide +kernel
theorem dX7_fittingSignatures_6 : decode cX7_fittingSignatures 6 = .ok (.aload_n 0, 1) := by decide +kernel
theorem dX7_fittingSignatures_7 : decode cX7_fittingSignatures 7 = .ok (.getfield 26, 3) := by decide +kernel
theorem dX7_fittingSignatures_10 : decode cX7_fittingSignatures 10 = .ok (.invokevirtual 134, 3) := by decide +kernel
theorem dX7_fittingSignatures_13 : decode cX7_fittingSignatures 13 = .ok (.iconst 0, 1) := by decide +kernel
theorem dX7_fittingSignatures_14 : decode cX7_fittingSignatures 14 = .ok (.istore 4, 2) := by decide +kernel
theorem dX7_fittingSignatures_16 : decode cX7_fittingSignatures 16 = .ok (.iload 4, 2) := by decide +kernel
theorem dX7_fittingSignatures_18 : decode cX7_fittingSignatures 18 = .ok (.bipush 15, 2) := by decide +kernel
theorem dX7_fittingSignatures_20 : decode cX7_fittingSignatures 20 = .ok (.if_icmp .ge 29, 3) := by decide +kernel
theorem dX7_fittingSignatures_23 : decode cX7_fittingSignatures 23 = .ok (.aload_n 0, 1) := by decide +kernel
theorem dX7_fittingSignatures_24 : decode cX7_fittingSignatures 24 = .ok (.getfield 37, 3) := by decide +kernel
theorem dX7_fittingSignatures_27 : decode cX7_fittingSignatures 27 = .ok (.iload 4, 2) := by decide +kernel
theorem dX7_fittingSignatures_29 : decode cX7_fittingSignatures 29 = .ok (.putfield 174, 3) := by decide +kernel
theorem dX7_fittingSignatures_32 : decode cX7_fittingSignatures 32 = .ok (.iload_n 3, 1) := by decide +kernel
theorem dX7_fittingSignatures_33 : decode cX7_fittingSignatures 33 = .ok (.aload_n 0, 1) := by decide +kernel
theorem dX7_fittingSignatures_34 : decode cX7_fittingSignatures 34 = .ok (.iload 4, 2) := by decide +kernel
theorem dX7_fittingSignatures_36 : decode cX7_fittingSignatures 36 = .ok (.iload_n 1, 1) := by decide +kernel
theorem dX7_fittingSignatures_37 : decode cX7_fittingSignatures 37 = .ok (.iload_n 2, 1) := by decide +kernel
theorem dX7_fittingSignatures_38 : decode cX7_fittingSignatures 38 = .ok (.invokevirtual 321, 3) := by decide +kernel
theorem dX7_fittingSignatures_41 : decode cX7_fittingSignatures 41 = .ok (.ior, 1) := by decide +kernel
theorem dX7_fittingSignatures_42 : decode cX7_fittingSignatures 42 = .ok (.istore_n 3, 1) := by decide +kernel
theorem dX7_fittingSignatures_43 : decode cX7_fittingSignatures 43 = .ok (.iinc 4 1, 3) := by decide +kernel
theorem dX7_fittingSignatures_46 : decode cX7_fittingSignatures 46 = .ok (.goto (-30), 3) := by decide +kernel
theorem dX7_fittingSignatures_49 : decode cX7_fittingSignatures 49 = .ok (.iload_n 3, 1) := by decide +kernel
theorem dX7_fittingSignatures_50 : decode cX7_fittingSignatures 50 = .ok (.ireturn, 1) := by decide +kernel
theorem dX7_fittingKinds_0 : decode cX7_fittingKinds 0 = .ok (.iconst 0, 1) := by decide +kernel
theorem dX7_fittingKinds_1 : decode cX7_fittingKinds 1 = .ok (.istore 4, 2) := by decide +kernel
theorem dX7_fittingKinds_3 : decode cX7_fittingKinds 3 = .ok (.aload_n 0, 1) := by decide +kernel
theorem dX7_fittingKinds_4 : decode cX7_fittingKinds 4 = .ok (.getfield 37, 3) := by decide +kernel
theorem dX7_fittingKinds_7 : decode cX7_fittingKinds 7 = .ok (.aload_n 0, 1) := by decide +kernel
theorem dX7_fittingKinds_8 : decode cX7_fittingKinds 8 = .ok (.getfield 26, 3) := by decide +kernel
theorem dX7_fittingKinds_11 : decode cX7_fittingKinds 11 = .ok (.invokevirtual 134, 3) := by decide +kernel
theorem dX7_fittingKinds_14 : decode cX7_fittingKinds 14 = .ok (.iconst 1, 1) := by decide +kernel
theorem dX7_fittingKinds_15 : decode cX7_fittingKinds 15 = .ok (.istore 5, 2) := by decide +kernel
theorem dX7_fittingKinds_17 : decode cX7_fittingKinds 17 = .ok (.iload 5, 2) := by decide +kernel
theorem dX7_fittingKinds_19 : decode cX7_fittingKinds 19 = .ok (.iconst 5, 1) := by decide +kernel
theorem dX7_fittingKinds_20 : decode cX7_fittingKinds 20 = .ok (.if_icmp .gt 33, 3) := by decide +kernel
theorem dX7_fittingKinds_23 : decode cX7_fittingKinds 23 = .ok (.aload_n 0, 1) := by decide +kernel
theorem dX7_fittingKinds_24 : decode cX7_fittingKinds 24 = .ok (.getfield 37, 3) := by decide +kernel
theorem dX7_fittingKinds_27 : decode cX7_fittingKinds 27 = .ok (.getfield 164, 3) := by decide +kernel
theorem dX7_fittingKinds_30 : decode cX7_fittingKinds 30 = .ok (.iload_n 1, 1) := by decide +kernel
theorem dX7_fittingKinds_31 : decode cX7_fittingKinds 31 = .ok (.iload 5, 2) := by decide +kernel
theorem dX7_fittingKinds_33 : decode cX7_fittingKinds 33 = .ok (.iastore, 1) := by decide +kernel
theorem dX7_fittingKinds_34 : decode cX7_fittingKinds 34 = .ok (.iload 4, 2) := by decide +kernel
theorem dX7_fittingKinds_36 : decode cX7_fittingKinds 36 = .ok (.aload_n 0, 1) := by decide +kernel
theorem dX7_fittingKinds_37 : decode cX7_fittingKinds 37 = .ok (.iload 5, 2) := by decide +kernel
theorem dX7_fittingKinds_39 : decode cX7_fittingKinds 39 = .ok (.iload_n 2, 1) := by decide +kernel
theorem dX7_fittingKinds_40 : decode cX7_fittingKinds 40 = .ok (.iload_n 3, 1) := by decide +kernel
theorem dX7_fittingKinds_41 : decode cX7_fittingKinds 41 = .ok (.invokevirtual 321, 3) := by decide +kernel
theorem dX7_fittingKinds_44 : decode cX7_fittingKinds 44 = .ok (.ior, 1) := by decide +kernel
theorem dX7_fittingKinds_45 : decode cX7_fittingKinds 45 = .ok (.istore 4, 2) := by decide +kernel
theorem dX7_fittingKinds_47 : decode cX7_fittingKinds 47 = .ok (.iinc 5 1, 3) := by decide +kernel
theorem dX7_fittingKinds_50 : decode cX7_fittingKinds 50 = .ok (.goto (-33), 3) := by decide +kernel
theorem dX7_fittingKinds_53 : decode cX7_fittingKinds 53 = .ok (.iload 4, 2) := by decide +kernel
theorem dX7_fittingKinds_55 : decode cX7_fittingKinds 55 = .ok (.ireturn, 1) := by decide +kernel
theorem dX7_fittingKeys_0 : decode cX7_fittingKeys 0 = .ok (.iconst 0, 1) := by decide +kernel
theorem dX7_fittingKeys_1 : decode cX7_fittingKeys 1 = .ok (.istore 4, 2) := by decide +kernel
theorem dX7_fittingKeys_3 : decode cX7_fittingKeys 3 = .ok (.aload_n 0, 1) := by decide +kernel
theorem dX7_fittingKeys_4 : decode cX7_fittingKeys 4 = .ok (.getfield 37, 3) := by decide +kernel
theorem dX7_fittingKeys_7 : decode cX7_fittingKeys 7 = .ok (.aload_n 0, 1) := by decide +kernel
theorem dX7_fittingKeys_8 : decode cX7_fittingKeys 8 = .ok (.getfield 26, 3) := by decide +kernel
theorem dX7_fittingKeys_11 : decode cX7_fittingKeys 11 = .ok (.invokevirtual 134, 3) := by decide +kernel
theorem dX7_fittingKeys_14 : decode cX7_fittingKeys 14 = .ok (.iconst 0, 1) := by decide +kernel
theorem dX7_fittingKeys_15 : decode cX7_fittingKeys 15 = .ok (.istore 5, 2) := by decide +kernel
theorem dX7_fittingKeys_17 : decode cX7_fittingKeys 17 = .ok (.iload 5, 2) := by decide +kernel
theorem dX7_fittingKeys_19 : decode cX7_fittingKeys 19 = .ok (.bipush 12, 2) := by decide +kernel
theorem dX7_fittingKeys_21 : decode cX7_fittingKeys 21 = .ok (.if_icmp .ge 33, 3) := by decide +kernel
theorem dX7_fittingKeys_24 : decode cX7_fittingKeys 24 = .ok (.aload_n 0, 1) := by decide +kernel
theorem dX7_fittingKeys_25 : decode cX7_fittingKeys 25 = .ok (.getfield 37, 3) := by decide +kernel
theorem dX7_fittingKeys_28 : decode cX7_fittingKeys 28 = .ok (.getfield 153, 3) := by decide +kernel
theorem dX7_fittingKeys_31 : decode cX7_fittingKeys 31 = .ok (.iload_n 1, 1) := by decide +kernel
theorem dX7_fittingKeys_32 : decode cX7_fittingKeys 32 = .ok (.iload 5, 2) := by decide +kernel
theorem dX7_fittingKeys_34 : decode cX7_fittingKeys 34 = .ok (.iastore, 1) := by decide +kernel
theorem dX7_fittingKeys_35 : decode cX7_fittingKeys 35 = .ok (.iload 4, 2) := by decide +kernel
theorem dX7_fittingKeys_37 : decode cX7_fittingKeys 37 = .ok (.aload_n 0, 1) := by decide +kernel
theorem dX7_fittingKeys_38 : decode cX7_fittingKeys 38 = .ok (.iload 5, 2) := by decide +kernel
theorem dX7_fittingKeys_40 : decode cX7_fittingKeys 40 = .ok (.iload_n 2, 1) := by decide +kernel
theorem dX7_fittingKeys_41 : decode cX7_fittingKeys 41 = .ok (.iload_n 3, 1) := by decide +kernel
theorem dX7_fittingKeys_42 : decode cX7_fittingKeys 42 = .ok (.invokevirtual 321, 3) := by decide +kernel
theorem dX7_fittingKeys_45 : decode cX7_fittingKeys 45 = .ok (.ior, 1) := by decide +kernel
theorem dX7_fittingKeys_46 : decode cX7_fittingKeys 46 = .ok (.istore 4, 2) := by decide +kernel
theorem dX7_fittingKeys_48 : decode cX7_fittingKeys 48 = .ok (.iinc 5 1, 3) := by decide +kernel
theorem dX7_fittingKeys_51 : decode cX7_fittingKeys 51 = .ok (.goto (-34), 3) := by decide +kernel
theorem dX7_fittingKeys_54 : decode cX7_fittingKeys 54 = .ok (.iload 4, 2) := by decide +kernel
theorem dX7_fittingKeys_56 : decode cX7_fittingKeys 56 = .ok (.ireturn, 1) := by decide +kernel
theorem dX7_bitIfLettersFit_0 : decode cX7_bitIfLettersFit 0 = .ok (.aload_n 0, 1) := by decide +kernel
theorem dX7_bitIfLettersFit_1 : decode cX7_bitIfLettersFit 1 = .ok (.getfield 40, 3) := by decide +kernel
theorem dX7_bitIfLettersFit_4 : decode cX7_bitIfLettersFit 4 = .ok (.aload_n 0, 1) := by decide +kernel
theorem dX7_bitIfLettersFit_5 : decode cX7_bitIfLettersFit 5 = .ok (.getfield 37, 3) := by decide +kernel
theorem dX7_bitIfLettersFit_8 : decode cX7_bitIfLettersFit 8 = .ok (.invokevirtual 279, 3) := by decide +kernel
theorem dX7_bitIfLettersFit_11 : decode cX7_bitIfLettersFit 11 = .ok (.aload_n 0, 1) := by decide +kernel
theorem dX7_bitIfLettersFit_12 : decode cX7_bitIfLettersFit 12 = .ok (.getfield 40, 3) := by decide +kernel
theorem dX7_bitIfLettersFit_15 : decode cX7_bitIfLettersFit 15 = .ok (.aload_n 0, 1) := by decide +kernel
theorem dX7_bitIfLettersFit_16 : decode cX7_bitIfLettersFit 16 = .ok (.getfield 37, 3) := by decide +kernel
theorem dX7_bitIfLettersFit_19 : decode cX7_bitIfLettersFit 19 = .ok (.invokevirtual 282, 3) := by decide +kernel
theorem dX7_bitIfLettersFit_22 : decode cX7_bitIfLettersFit 22 = .ok (.iconst 0, 1) := by decide +kernel
theorem dX7_bitIfLettersFit_23 : decode cX7_bitIfLettersFit 23 = .ok (.istore 4, 2) := by decide +kernel
theorem dX7_bitIfLettersFit_25 : decode cX7_bitIfLettersFit 25 = .ok (.iload 4, 2) := by decide +kernel
theorem dX7_bitIfLettersFit_27 : decode cX7_bitIfLettersFit 27 = .ok (.iload_n 3, 1) := by decide +kernel
theorem dX7_bitIfLettersFit_28 : decode cX7_bitIfLettersFit 28 = .ok (.if_icmp .ge 37, 3) := by decide +kernel
theorem dX7_bitIfLettersFit_31 : decode cX7_bitIfLettersFit 31 = .ok (.aload_n 0, 1) := by decide +kernel
theorem dX7_bitIfLettersFit_32 : decode cX7_bitIfLettersFit 32 = .ok (.getfield 10, 3) := by decide +kernel
theorem dX7_bitIfLettersFit_35 : decode cX7_bitIfLettersFit 35 = .ok (.iload_n 2, 1) := by decide +kernel
theorem dX7_bitIfLettersFit_36 : decode cX7_bitIfLettersFit 36 = .ok (.iload 4, 2) := by decide +kernel
theorem dX7_bitIfLettersFit_38 : decode cX7_bitIfLettersFit 38 = .ok (.invokevirtual 312, 3) := by decide +kernel
theorem dX7_bitIfLettersFit_41 : decode cX7_bitIfLettersFit 41 = .ok (.aload_n 0, 1) := by decide +kernel
theorem dX7_bitIfLettersFit_42 : decode cX7_bitIfLettersFit 42 = .ok (.getfield 40, 3) := by decide +kernel
theorem dX7_bitIfLettersFit_45 : decode cX7_bitIfLettersFit 45 = .ok (.getfield 214, 3) := by decide +kernel
theorem dX7_bitIfLettersFit_48 : decode cX7_bitIfLettersFit 48 = .ok (.iload 4, 2) := by decide +kernel
theorem dX7_bitIfLettersFit_50 : decode cX7_bitIfLettersFit 50 = .ok (.iaload, 1) := by decide +kernel
theorem dX7_bitIfLettersFit_51 : decode cX7_bitIfLettersFit 51 = .ok (.invokestatic 186, 3) := by decide +kernel
theorem dX7_bitIfLettersFit_54 : decode cX7_bitIfLettersFit 54 = .ok (.if_icmp .eq 5, 3) := by decide +kernel
theorem dX7_bitIfLettersFit_57 : decode cX7_bitIfLettersFit 57 = .ok (.iconst 0, 1) := by decide +kernel
theorem dX7_bitIfLettersFit_58 : decode cX7_bitIfLettersFit 58 = .ok (.ireturn, 1) := by decide +kernel
theorem dX7_bitIfLettersFit_59 : decode cX7_bitIfLettersFit 59 = .ok (.iinc 4 1, 3) := by decide +kernel
theorem dX7_bitIfLettersFit_62 : decode cX7_bitIfLettersFit 62 = .ok (.goto (-37), 3) := by decide +kernel
theorem dX7_bitIfLettersFit_65 : decode cX7_bitIfLettersFit 65 = .ok (.iconst 1, 1) := by decide +kernel
theorem dX7_bitIfLettersFit_66 : decode cX7_bitIfLettersFit 66 = .ok (.iload_n 1, 1) := by decide +kernel
theorem dX7_bitIfLettersFit_67 : decode cX7_bitIfLettersFit 67 = .ok (.ishl, 1) := by decide +kernel
theorem dX7_bitIfLettersFit_68 : decode cX7_bitIfLettersFit 68 = .ok (.ireturn, 1) := by decide +kernel
theorem dX7_drawOnTrial_0 : decode cX7_drawOnTrial 0 = .ok (.aload_n 0, 1) := by decide +kernel
theorem dX7_drawOnTrial_1 : decode cX7_drawOnTrial 1 = .ok (.getfield 37, 3) := by decide +kernel
theorem dX7_drawOnTrial_4 : decode cX7_drawOnTrial 4 = .ok (.aload_n 0, 1) := by decide +kernel
theorem dX7_drawOnTrial_5 : decode cX7_drawOnTrial 5 = .ok (.getfield 26, 3) := by decide +kernel
theorem dX7_drawOnTrial_8 : decode cX7_drawOnTrial 8 = .ok (.invokevirtual 134, 3) := by decide +kernel
theorem dX7_drawOnTrial_11 : decode cX7_drawOnTrial 11 = .ok (.iload_n 2, 1) := by decide +kernel
theorem dX7_drawOnTrial_12 : decode cX7_drawOnTrial 12 = .ok (.i2l, 1) := by decide +kernel
theorem dX7_drawOnTrial_13 : decode cX7_drawOnTrial 13 = .ok (.lstore_n 3, 1) := by decide +kernel
theorem dX7_drawOnTrial_14 : decode cX7_drawOnTrial 14 = .ok (.iconst 0, 1) := by decide +kernel
theorem dX7_drawOnTrial_15 : decode cX7_drawOnTrial 15 = .ok (.istore 5, 2) := by decide +kernel
theorem dX7_drawOnTrial_17 : decode cX7_drawOnTrial 17 = .ok (.iconst 0, 1) := by decide +kernel
theorem dX7_drawOnTrial_18 : decode cX7_drawOnTrial 18 = .ok (.istore 6, 2) := by decide +kernel
theorem dX7_drawOnTrial_20 : decode cX7_drawOnTrial 20 = .ok (.iload 6, 2) := by decide +kernel
theorem dX7_drawOnTrial_22 : decode cX7_drawOnTrial 22 = .ok (.iload_n 1, 1) := by decide +kernel
theorem dX7_drawOnTrial_23 : decode cX7_drawOnTrial 23 = .ok (.if_icmp .ge 81, 3) := by decide +kernel
theorem dX7_drawOnTrial_26 : decode cX7_drawOnTrial 26 = .ok (.aload_n 0, 1) := by decide +kernel
theorem dX7_drawOnTrial_27 : decode cX7_drawOnTrial 27 = .ok (.getfield 37, 3) := by decide +kernel
theorem dX7_drawOnTrial_30 : decode cX7_drawOnTrial 30 = .ok (.getfield 263, 3) := by decide +kernel
theorem dX7_drawOnTrial_33 : decode cX7_drawOnTrial 33 = .ok (.ifCond .le 71, 3) := by decide +kernel
theorem dX7_drawOnTrial_36 : decode cX7_drawOnTrial 36 = .ok (.lload_n 3, 1) := by decide +kernel
theorem dX7_drawOnTrial_37 : decode cX7_drawOnTrial 37 = .ok (.ldc2_w 324, 3) := by decide +kernel
theorem dX7_drawOnTrial_40 : decode cX7_drawOnTrial 40 = .ok (.lmul, 1) := by decide +kernel
theorem dX7_drawOnTrial_41 : decode cX7_drawOnTrial 41 = .ok (.ldc2_w 326, 3) := by decide +kernel
theorem dX7_drawOnTrial_44 : decode cX7_drawOnTrial 44 = .ok (.lrem, 1) := by decide +kernel
theorem dX7_drawOnTrial_45 : decode cX7_drawOnTrial 45 = .ok (.lstore_n 3, 1) := by decide +kernel
theorem dX7_drawOnTrial_46 : decode cX7_drawOnTrial 46 = .ok (.aload_n 0, 1) := by decide +kernel
theorem dX7_drawOnTrial_47 : decode cX7_drawOnTrial 47 = .ok (.getfield 37, 3) := by decide +kernel
theorem dX7_drawOnTrial_50 : decode cX7_drawOnTrial 50 = .ok (.getfield 153, 3) := by decide +kernel
theorem dX7_drawOnTrial_53 : decode cX7_drawOnTrial 53 = .ok (.lload_n 3, 1) := by decide +kernel
theorem dX7_drawOnTrial_54 : decode cX7_drawOnTrial 54 = .ok (.aload_n 0, 1) := by decide +kernel
theorem dX7_drawOnTrial_55 : decode cX7_drawOnTrial 55 = .ok (.getfield 37, 3) := by decide +kernel
theorem dX7_drawOnTrial_58 : decode cX7_drawOnTrial 58 = .ok (.getfield 263, 3) := by decide +kernel
theorem dX7_drawOnTrial_61 : decode cX7_drawOnTrial 61 = .ok (.i2l, 1) := by decide +kernel
theorem dX7_drawOnTrial_62 : decode cX7_drawOnTrial 62 = .ok (.lrem, 1) := by decide +kernel
theorem dX7_drawOnTrial_63 : decode cX7_drawOnTrial 63 = .ok (.l2i, 1) := by decide +kernel
theorem dX7_drawOnTrial_64 : decode cX7_drawOnTrial 64 = .ok (.lload_n 3, 1) := by decide +kernel
theorem dX7_drawOnTrial_65 : decode cX7_drawOnTrial 65 = .ok (.ldc2_w 328, 3) := by decide +kernel
theorem dX7_drawOnTrial_68 : decode cX7_drawOnTrial 68 = .ok (.ldiv, 1) := by decide +kernel
theorem dX7_drawOnTrial_69 : decode cX7_drawOnTrial 69 = .ok (.ldc2_w 330, 3) := by decide +kernel
theorem dX7_drawOnTrial_72 : decode cX7_drawOnTrial 72 = .ok (.lrem, 1) := by decide +kernel
theorem dX7_drawOnTrial_73 : decode cX7_drawOnTrial 73 = .ok (.l2i, 1) := by decide +kernel
theorem dX7_drawOnTrial_74 : decode cX7_drawOnTrial 74 = .ok (.iastore, 1) := by decide +kernel
theorem dX7_drawOnTrial_75 : decode cX7_drawOnTrial 75 = .ok (.aload_n 0, 1) := by decide +kernel
theorem dX7_drawOnTrial_76 : decode cX7_drawOnTrial 76 = .ok (.getfield 40, 3) := by decide +kernel
theorem dX7_drawOnTrial_79 : decode cX7_drawOnTrial 79 = .ok (.aload_n 0, 1) := by decide +kernel
theorem dX7_drawOnTrial_80 : decode cX7_drawOnTrial 80 = .ok (.getfield 37, 3) := by decide +kernel
theorem dX7_drawOnTrial_83 : decode cX7_drawOnTrial 83 = .ok (.invokevirtual 279, 3) := by decide +kernel
theorem dX7_drawOnTrial_86 : decode cX7_drawOnTrial 86 = .ok (.iload 5, 2) := by decide +kernel
theorem dX7_drawOnTrial_88 : decode cX7_drawOnTrial 88 = .ok (.aload_n 0, 1) := by decide +kernel
theorem dX7_drawOnTrial_89 : decode cX7_drawOnTrial 89 = .ok (.getfield 40, 3) := by decide +kernel
theorem dX7_drawOnTrial_92 : decode cX7_drawOnTrial 92 = .ok (.getfield 238, 3) := by decide +kernel
theorem dX7_drawOnTrial_95 : decode cX7_drawOnTrial 95 = .ok (.iadd, 1) := by decide +kernel
theorem dX7_drawOnTrial_96 : decode cX7_drawOnTrial 96 = .ok (.istore 5, 2) := by decide +kernel
theorem dX7_drawOnTrial_98 : decode cX7_drawOnTrial 98 = .ok (.iinc 6 1, 3) := by decide +kernel
theorem dX7_drawOnTrial_101 : decode cX7_drawOnTrial 101 = .ok (.goto (-81), 3) := by decide +kernel
theorem dX7_drawOnTrial_104 : decode cX7_drawOnTrial 104 = .ok (.iload 5, 2) := by decide +kernel
theorem dX7_drawOnTrial_106 : decode cX7_drawOnTrial 106 = .ok (.ireturn, 1) := by decide +kernel
end
section
/-! decode rows, printed by program -/
theorem dX8_init_0 : decode cX8_init 0 = .ok (.aload_n 0, 1) := by decide +kernel
theorem dX8_init_1 : decode cX8_init 1 = .ok (.invokespecial 1, 3) := by decide +kernel
theorem dX8_init_4 : decode cX8_init 4 = .ok (.aload_n 0, 1) := by decide +kernel
theorem dX8_init_5 : decode cX8_init 5 = .ok (.bipush 8, 2) := by decide +kernel
theorem dX8_init_7 : decode cX8_init 7 = .ok (.newarray .int, 2) := by decide +kernel
theorem dX8_init_9 : decode cX8_init 9 = .ok (.putfield 7, 3) := by decide +kernel
theorem dX8_init_12 : decode cX8_init 12 = .ok (.aload_n 0, 1) := by decide +kernel
theorem dX8_init_13 : decode cX8_init 13 = .ok (.bipush 8, 2) := by decide +kernel
theorem dX8_init_15 : decode cX8_init 15 = .ok (.newarray .int, 2) := by decide +kernel
theorem dX8_init_17 : decode cX8_init 17 = .ok (.putfield 13, 3) := by decide +kernel
theorem dX8_init_20 : decode cX8_init 20 = .ok (.aload_n 0, 1) := by decide +kernel
theorem dX8_init_21 : decode cX8_init 21 = .ok (.sipush 320, 3) := by decide +kernel
theorem dX8_init_24 : decode cX8_init 24 = .ok (.newarray .int, 2) := by decide +kernel
theorem dX8_init_26 : decode cX8_init 26 = .ok (.putfield 16, 3) := by decide +kernel
theorem dX8_init_29 : decode cX8_init 29 = .ok (.aload_n 0, 1) := by decide +kernel
theorem dX8_init_30 : decode cX8_init 30 = .ok (.bipush 40, 2) := by decide +kernel
theorem dX8_init_32 : decode cX8_init 32 = .ok (.newarray .int, 2) := by decide +kernel
theorem dX8_init_34 : decode cX8_init 34 = .ok (.putfield 19, 3) := by decide +kernel
theorem dX8_init_37 : decode cX8_init 37 = .ok (.aload_n 0, 1) := by decide +kernel
theorem dX8_init_38 : decode cX8_init 38 = .ok (.sipush 130, 3) := by decide +kernel
theorem dX8_init_41 : decode cX8_init 41 = .ok (.newarray .int, 2) := by decide +kernel
theorem dX8_init_43 : decode cX8_init 43 = .ok (.putfield 22, 3) := by decide +kernel
theorem dX8_init_46 : decode cX8_init 46 = .ok (.aload_n 0, 1) := by decide +kernel
theorem dX8_init_47 : decode cX8_init 47 = .ok (.bipush 93, 2) := by decide +kernel
theorem dX8_init_49 : decode cX8_init 49 = .ok (.newarray .int, 2) := by decide +kernel
theorem dX8_init_51 : decode cX8_init 51 = .ok (.putfield 25, 3) := by decide +kernel
theorem dX8_init_54 : decode cX8_init 54 = .ok (.aload_n 0, 1) := by decide +kernel
theorem dX8_init_55 : decode cX8_init 55 = .ok (.bipush 93, 2) := by decide +kernel
theorem dX8_init_57 : decode cX8_init 57 = .ok (.newarray .int, 2) := by decide +kernel
theorem dX8_init_59 : decode cX8_init 59 = .ok (.putfield 28, 3) := by decide +kernel
theorem dX8_init_62 : decode cX8_init 62 = .ok (.aload_n 0, 1) := by decide +kernel
theorem dX8_init_63 : decode cX8_init 63 = .ok (.bipush 93, 2) := by decide +kernel
theorem dX8_init_65 : decode cX8_init 65 = .ok (.newarray .int, 2) := by decide +kernel
theorem dX8_init_67 : decode cX8_init 67 = .ok (.putfield 31, 3) := by decide +kernel
theorem dX8_init_70 : decode cX8_init 70 = .ok (.aload_n 0, 1) := by decide +kernel
theorem dX8_init_71 : decode cX8_init 71 = .ok (.sipush 1488, 3) := by decide +kernel
theorem dX8_init_74 : decode cX8_init 74 = .ok (.newarray .int, 2) := by decide +kernel
theorem dX8_init_76 : decode cX8_init 76 = .ok (.putfield 34, 3) := by decide +kernel
theorem dX8_init_79 : decode cX8_init 79 = .ok (.aload_n 0, 1) := by decide +kernel
theorem dX8_init_80 : decode cX8_init 80 = .ok (.sipush 186, 3) := by decide +kernel
theorem dX8_init_83 : decode cX8_init 83 = .ok (.newarray .int, 2) := by decide +kernel
theorem dX8_init_85 : decode cX8_init 85 = .ok (.putfield 37, 3) := by decide +kernel
theorem dX8_init_88 : decode cX8_init 88 = .ok (.aload_n 0, 1) := by decide +kernel
theorem dX8_init_89 : decode cX8_init 89 = .ok (.iconst 2, 1) := by decide +kernel
theorem dX8_init_90 : decode cX8_init 90 = .ok (.newarray .boolean, 2) := by decide +kernel
theorem dX8_init_92 : decode cX8_init 92 = .ok (.putfield 40, 3) := by decide +kernel
theorem dX8_init_95 : decode cX8_init 95 = .ok (.aload_n 0, 1) := by decide +kernel
theorem dX8_init_96 : decode cX8_init 96 = .ok (.sipush 240, 3) := by decide +kernel
theorem dX8_init_99 : decode cX8_init 99 = .ok (.newarray .int, 2) := by decide +kernel
theorem dX8_init_101 : decode cX8_init 101 = .ok (.putfield 44, 3) := by decide +kernel
theorem dX8_init_104 : decode cX8_init 104 = .ok (.aload_n 0, 1) := by decide +kernel
theorem dX8_init_105 : decode cX8_init 105 = .ok (.sipush 240, 3) := by decide +kernel
theorem dX8_init_108 : decode cX8_init 108 = .ok (.newarray .int, 2) := by decide +kernel
theorem dX8_init_110 : decode cX8_init 110 = .ok (.putfield 47, 3) := by decide +kernel
theorem dX8_init_113 : decode cX8_init 113 = .ok (.aload_n 0, 1) := by decide +kernel
theorem dX8_init_114 : decode cX8_init 114 = .ok (.bipush 10, 2) := by decide +kernel
theorem dX8_init_116 : decode cX8_init 116 = .ok (.newarray .int, 2) := by decide +kernel
theorem dX8_init_118 : decode cX8_init 118 = .ok (.putfield 50, 3) := by decide +kernel
theorem dX8_init_121 : decode cX8_init 121 = .ok (.aload_n 0, 1) := by decide +kernel
theorem dX8_init_122 : decode cX8_init 122 = .ok (.bipush 7, 2) := by decide +kernel
theorem dX8_init_124 : decode cX8_init 124 = .ok (.newarray .int, 2) := by decide +kernel
theorem dX8_init_126 : decode cX8_init 126 = .ok (.putfield 53, 3) := by decide +kernel
theorem dX8_init_129 : decode cX8_init 129 = .ok (.aload_n 0, 1) := by decide +kernel
theorem dX8_init_130 : decode cX8_init 130 = .ok (.bipush 40, 2) := by decide +kernel
theorem dX8_init_132 : decode cX8_init 132 = .ok (.newarray .int, 2) := by decide +kernel
theorem dX8_init_134 : decode cX8_init 134 = .ok (.putfield 56, 3) := by decide +kernel
theorem dX8_init_137 : decode cX8_init 137 = .ok (.aload_n 0, 1) := by decide +kernel
theorem dX8_init_138 : decode cX8_init 138 = .ok (.bipush 16, 2) := by decide +kernel
theorem dX8_init_140 : decode cX8_init 140 = .ok (.newarray .int, 2) := by decide +kernel
theorem dX8_init_142 : decode cX8_init 142 = .ok (.putfield 59, 3) := by decide +kernel
theorem dX8_init_145 : decode cX8_init 145 = .ok (.iconst 0, 1) := by decide +kernel
theorem dX8_init_146 : decode cX8_init 146 = .ok (.istore_n 1, 1) := by decide +kernel
theorem dX8_init_147 : decode cX8_init 147 = .ok (.iload_n 1, 1) := by decide +kernel
theorem dX8_init_148 : decode cX8_init 148 = .ok (.bipush 8, 2) := by decide +kernel
theorem dX8_init_150 : decode cX8_init 150 = .ok (.if_icmp .ge 17, 3) := by decide +kernel
theorem dX8_init_153 : decode cX8_init 153 = .ok (.aload_n 0, 1) := by decide +kernel
theorem dX8_init_154 : decode cX8_init 154 = .ok (.getfield 7, 3) := by decide +kernel
theorem dX8_init_157 : decode cX8_init 157 = .ok (.iload_n 1, 1) := by decide +kernel
theorem dX8_init_158 : decode cX8_init 158 = .ok (.ldc 62, 2) := by decide +kernel
theorem dX8_init_160 : decode cX8_init 160 = .ok (.iastore, 1) := by decide +kernel
theorem dX8_init_161 : decode cX8_init 161 = .ok (.iinc 1 1, 3) := by decide +kernel
theorem dX8_init_164 : decode cX8_init 164 = .ok (.goto (-17), 3) := by decide +kernel
theorem dX8_init_167 : decode cX8_init 167 = .ok (.return_, 1) := by decide +kernel
theorem dX8_in_0 : decode cX8_in 0 = .ok (.iload_n 0, 1) := by decide +kernel
theorem dX8_in_1 : decode cX8_in 1 = .ok (.iload_n 1, 1) := by decide +kernel
theorem dX8_in_2 : decode cX8_in 2 = .ok (.if_icmp .lt 12, 3) := by decide +kernel
theorem dX8_in_5 : decode cX8_in 5 = .ok (.iload_n 0, 1) := by decide +kernel
theorem dX8_in_6 : decode cX8_in 6 = .ok (.iload_n 2, 1) := by decide +kernel
theorem dX8_in_7 : decode cX8_in 7 = .ok (.if_icmp .gt 7, 3) := by decide +kernel
theorem dX8_in_10 : decode cX8_in 10 = .ok (.iconst 1, 1) := by decide +kernel
theorem dX8_in_11 : decode cX8_in 11 = .ok (.goto 4, 3) := by decide +kernel
theorem dX8_in_14 : decode cX8_in 14 = .ok (.iconst 0, 1) := by decide +kernel
theorem dX8_in_15 : decode cX8_in 15 = .ok (.ireturn, 1) := by decide +kernel
theorem dX8_size_0 : decode cX8_size 0 = .ok (.iload_n 0, 1) := by decide +kernel
theorem dX8_size_1 : decode cX8_size 1 = .ok (.ifCond .ge 8, 3) := by decide +kernel
theorem dX8_size_4 : decode cX8_size 4 = .ok (.iload_n 0, 1) := by decide +kernel
theorem dX8_size_5 : decode cX8_size 5 = .ok (.ineg, 1) := by decide +kernel
theorem dX8_size_6 : decode cX8_size 6 = .ok (.goto 4, 3) := by decide +kernel
theorem dX8_size_9 : decode cX8_size 9 = .ok (.iload_n 0, 1) := by decide +kernel
theorem dX8_size_10 : decode cX8_size 10 = .ok (.ireturn, 1) := by decide +kernel
theorem dX8_found_0 : decode cX8_found 0 = .ok (.aload_n 0, 1) := by decide +kernel
theorem dX8_found_1 : decode cX8_found 1 = .ok (.iload_n 1, 1) := by decide +kernel
theorem dX8_found_2 : decode cX8_found 2 = .ok (.putfield 63, 3) := by decide +kernel
theorem dX8_found_5 : decode cX8_found 5 = .ok (.ldc 67, 2) := by decide +kernel
theorem dX8_found_7 : decode cX8_found 7 = .ok (.iload_n 1, 1) := by decide +kernel
theorem dX8_found_8 : decode cX8_found 8 = .ok (.isub, 1) := by decide +kernel
theorem dX8_found_9 : decode cX8_found 9 = .ok (.ireturn, 1) := by decide +kernel
theorem dX8_well_0 : decode cX8_well 0 = .ok (.aload_n 0, 1) := by decide +kernel
theorem dX8_well_1 : decode cX8_well 1 = .ok (.iconst 0, 1) := by decide +kernel
theorem dX8_well_2 : decode cX8_well 2 = .ok (.putfield 63, 3) := by decide +kernel
theorem dX8_well_5 : decode cX8_well 5 = .ok (.iload_n 1, 1) := by decide +kernel
theorem dX8_well_6 : decode cX8_well 6 = .ok (.ireturn, 1) := by decide +kernel
theorem dX8_copies_0 : decode cX8_copies 0 = .ok (.iconst 0, 1) := by decide +kernel
theorem dX8_copies_1 : decode cX8_copies 1 = .ok (.istore 4, 2) := by decide +kernel
theorem dX8_copies_3 : decode cX8_copies 3 = .ok (.iload 4, 2) := by decide +kernel
theorem dX8_copies_5 : decode cX8_copies 5 = .ok (.bipush 93, 2) := by decide +kernel
theorem dX8_copies_7 : decode cX8_copies 7 = .ok (.if_icmp .ge 21, 3) := by decide +kernel
theorem dX8_copies_10 : decode cX8_copies 10 = .ok (.aload_n 2, 1) := by decide +kernel
theorem dX8_copies_11 : decode cX8_copies 11 = .ok (.iload_n 3, 1) := by decide +kernel
theorem dX8_copies_12 : decode cX8_copies 12 = .ok (.iload 4, 2) := by decide +kernel
theorem dX8_copies_14 : decode cX8_copies 14 = .ok (.iadd, 1) := by decide +kernel
theorem dX8_copies_15 : decode cX8_copies 15 = .ok (.aload_n 0, 1) := by decide +kernel
theorem dX8_copies_16 : decode cX8_copies 16 = .ok (.iload_n 1, 1) := by decide +kernel
theorem dX8_copies_17 : decode cX8_copies 17 = .ok (.iload 4, 2) := by decide +kernel
theorem dX8_copies_19 : decode cX8_copies 19 = .ok (.iadd, 1) := by decide +kernel
theorem dX8_copies_20 : decode cX8_copies 20 = .ok (.iaload, 1) := by decide +kernel
theorem dX8_copies_21 : decode cX8_copies 21 = .ok (.iastore, 1) := by decide +kernel
theorem dX8_copies_22 : decode cX8_copies 22 = .ok (.iinc 4 1, 3) := by decide +kernel
theorem dX8_copies_25 : decode cX8_copies 25 = .ok (.goto (-22), 3) := by decide +kernel
theorem dX8_copies_28 : decode cX8_copies 28 = .ok (.return_, 1) := by decide +kernel
theorem dX8_isRow_0 : decode cX8_isRow 0 = .ok (.iload_n 0, 1) := by decide +kernel
theorem dX8_isRow_1 : decode cX8_isRow 1 = .ok (.iconst 0, 1) := by decide +kernel
theorem dX8_isRow_2 : decode cX8_isRow 2 = .ok (.bipush 7, 2) := by decide +kernel
theorem dX8_isRow_4 : decode cX8_isRow 4 = .ok (.invokestatic 68, 3) := by decide +kernel
theorem dX8_isRow_7 : decode cX8_isRow 7 = .ok (.ireturn, 1) := by decide +kernel
theorem dX8_isMissing_0 : decode cX8_isMissing 0 = .ok (.aload_n 0, 1) := by decide +kernel
theorem dX8_isMissing_1 : decode cX8_isMissing 1 = .ok (.getfield 7, 3) := by decide +kernel
theorem dX8_isMissing_4 : decode cX8_isMissing 4 = .ok (.iload_n 1, 1) := by decide +kernel
theorem dX8_isMissing_5 : decode cX8_isMissing 5 = .ok (.iaload, 1) := by decide +kernel
theorem dX8_isMissing_6 : decode cX8_isMissing 6 = .ok (.ldc 62, 2) := by decide +kernel
theorem dX8_isMissing_8 : decode cX8_isMissing 8 = .ok (.if_icmp .ne 7, 3) := by decide +kernel
theorem dX8_isMissing_11 : decode cX8_isMissing 11 = .ok (.iconst 1, 1) := by decide +kernel
theorem dX8_isMissing_12 : decode cX8_isMissing 12 = .ok (.goto 4, 3) := by decide +kernel
theorem dX8_isMissing_15 : decode cX8_isMissing 15 = .ok (.iconst 0, 1) := by decide +kernel
theorem dX8_isMissing_16 : decode cX8_isMissing 16 = .ok (.ireturn, 1) := by decide +kernel
theorem dX8_lowest_0 : decode cX8_lowest 0 = .ok (.iload_n 0, 1) := by decide +kernel
theorem dX8_lowest_1 : decode cX8_lowest 1 = .ok (.ifCond .ne 13, 3) := by decide +kernel
theorem dX8_lowest_4 : decode cX8_lowest 4 = .ok (.iload_n 1, 1) := by decide +kernel
theorem dX8_lowest_5 : decode cX8_lowest 5 = .ok (.bipush 24, 2) := by decide +kernel
theorem dX8_lowest_7 : decode cX8_lowest 7 = .ok (.ishl, 1) := by decide +kernel
theorem dX8_lowest_8 : decode cX8_lowest 8 = .ok (.bipush 24, 2) := by decide +kernel
theorem dX8_lowest_10 : decode cX8_lowest 10 = .ok (.ishr, 1) := by decide +kernel
theorem dX8_lowest_11 : decode cX8_lowest 11 = .ok (.goto 19, 3) := by decide +kernel
theorem dX8_lowest_14 : decode cX8_lowest 14 = .ok (.iload_n 0, 1) := by decide +kernel
theorem dX8_lowest_15 : decode cX8_lowest 15 = .ok (.iconst 1, 1) := by decide +kernel
theorem dX8_lowest_16 : decode cX8_lowest 16 = .ok (.if_icmp .ne 13, 3) := by decide +kernel
theorem dX8_lowest_19 : decode cX8_lowest 19 = .ok (.iload_n 1, 1) := by decide +kernel
theorem dX8_lowest_20 : decode cX8_lowest 20 = .ok (.bipush 16, 2) := by decide +kernel
theorem dX8_lowest_22 : decode cX8_lowest 22 = .ok (.ishl, 1) := by decide +kernel
theorem dX8_lowest_23 : decode cX8_lowest 23 = .ok (.bipush 16, 2) := by decide +kernel
theorem dX8_lowest_25 : decode cX8_lowest 25 = .ok (.ishr, 1) := by decide +kernel
theorem dX8_lowest_26 : decode cX8_lowest 26 = .ok (.goto 4, 3) := by decide +kernel
theorem dX8_lowest_29 : decode cX8_lowest 29 = .ok (.iload_n 1, 1) := by decide +kernel
theorem dX8_lowest_30 : decode cX8_lowest 30 = .ok (.ireturn, 1) := by decide +kernel
theorem dX8_row_0 : decode cX8_row 0 = .ok (.iload_n 1, 1) := by decide +kernel
theorem dX8_row_1 : decode cX8_row 1 = .ok (.invokestatic 72, 3) := by decide +kernel
theorem dX8_row_4 : decode cX8_row 4 = .ok (.ifCond .eq 18, 3) := by decide +kernel
theorem dX8_row_7 : decode cX8_row 7 = .ok (.iload_n 2, 1) := by decide +kernel
theorem dX8_row_8 : decode cX8_row 8 = .ok (.iconst 0, 1) := by decide +kernel
theorem dX8_row_9 : decode cX8_row 9 = .ok (.iconst 2, 1) := by decide +kernel
theorem dX8_row_10 : decode cX8_row 10 = .ok (.invokestatic 68, 3) := by decide +kernel
theorem dX8_row_13 : decode cX8_row 13 = .ok (.ifCond .eq 9, 3) := by decide +kernel
theorem dX8_row_16 : decode cX8_row 16 = .ok (.iload_n 3, 1) := by decide +kernel
theorem dX8_row_17 : decode cX8_row 17 = .ok (.bipush 40, 2) := by decide +kernel
theorem dX8_row_19 : decode cX8_row 19 = .ok (.if_icmp .le 6, 3) := by decide +kernel
theorem dX8_row_22 : decode cX8_row 22 = .ok (.ldc 76, 2) := by decide +kernel
theorem dX8_row_24 : decode cX8_row 24 = .ok (.ireturn, 1) := by decide +kernel
theorem dX8_row_25 : decode cX8_row 25 = .ok (.iload_n 3, 1) := by decide +kernel
theorem dX8_row_26 : decode cX8_row 26 = .ok (.ifCond .ge 9, 3) := by decide +kernel
theorem dX8_row_29 : decode cX8_row 29 = .ok (.aload_n 0, 1) := by decide +kernel
theorem dX8_row_30 : decode cX8_row 30 = .ok (.iconst 4, 1) := by decide +kernel
theorem dX8_row_31 : decode cX8_row 31 = .ok (.invokevirtual 77, 3) := by decide +kernel
theorem dX8_row_34 : decode cX8_row 34 = .ok (.ireturn, 1) := by decide +kernel
theorem dX8_row_35 : decode cX8_row 35 = .ok (.aload_n 0, 1) := by decide +kernel
theorem dX8_row_36 : decode cX8_row 36 = .ok (.getfield 7, 3) := by decide +kernel
theorem dX8_row_39 : decode cX8_row 39 = .ok (.iload_n 1, 1) := by decide +kernel
theorem dX8_row_40 : decode cX8_row 40 = .ok (.iload_n 2, 1) := by decide +kernel
theorem dX8_row_41 : decode cX8_row 41 = .ok (.iastore, 1) := by decide +kernel
theorem dX8_row_42 : decode cX8_row 42 = .ok (.aload_n 0, 1) := by decide +kernel
theorem dX8_row_43 : decode cX8_row 43 = .ok (.getfield 13, 3) := by decide +kernel
theorem dX8_row_46 : decode cX8_row 46 = .ok (.iload_n 1, 1) := by decide +kernel
theorem dX8_row_47 : decode cX8_row 47 = .ok (.iload_n 3, 1) := by decide +kernel
theorem dX8_row_48 : decode cX8_row 48 = .ok (.iastore, 1) := by decide +kernel
theorem dX8_row_49 : decode cX8_row 49 = .ok (.iconst 0, 1) := by decide +kernel
theorem dX8_row_50 : decode cX8_row 50 = .ok (.istore 4, 2) := by decide +kernel
theorem dX8_row_52 : decode cX8_row 52 = .ok (.iload 4, 2) := by decide +kernel
theorem dX8_row_54 : decode cX8_row 54 = .ok (.bipush 40, 2) := by decide +kernel
theorem dX8_row_56 : decode cX8_row 56 = .ok (.if_icmp .ge 22, 3) := by decide +kernel
theorem dX8_row_59 : decode cX8_row 59 = .ok (.aload_n 0, 1) := by decide +kernel
theorem dX8_row_60 : decode cX8_row 60 = .ok (.getfield 16, 3) := by decide +kernel
theorem dX8_row_63 : decode cX8_row 63 = .ok (.bipush 40, 2) := by decide +kernel
theorem dX8_row_65 : decode cX8_row 65 = .ok (.iload_n 1, 1) := by decide +kernel
theorem dX8_row_66 : decode cX8_row 66 = .ok (.imul, 1) := by decide +kernel
theorem dX8_row_67 : decode cX8_row 67 = .ok (.iload 4, 2) := by decide +kernel
theorem dX8_row_69 : decode cX8_row 69 = .ok (.iadd, 1) := by decide +kernel
theorem dX8_row_70 : decode cX8_row 70 = .ok (.iconst 0, 1) := by decide +kernel
theorem dX8_row_71 : decode cX8_row 71 = .ok (.iastore, 1) := by decide +kernel
theorem dX8_row_72 : decode cX8_row 72 = .ok (.iinc 4 1, 3) := by decide +kernel
theorem dX8_row_75 : decode cX8_row 75 = .ok (.goto (-23), 3) := by decide +kernel
theorem dX8_row_78 : decode cX8_row 78 = .ok (.aload_n 0, 1) := by decide +kernel
theorem dX8_row_79 : decode cX8_row 79 = .ok (.iload_n 3, 1) := by decide +kernel
theorem dX8_row_80 : decode cX8_row 80 = .ok (.invokevirtual 81, 3) := by decide +kernel
theorem dX8_row_83 : decode cX8_row 83 = .ok (.ireturn, 1) := by decide +kernel
theorem dX8_set_0 : decode cX8_set 0 = .ok (.iload_n 1, 1) := by decide +kernel
theorem dX8_set_1 : decode cX8_set 1 = .ok (.invokestatic 72, 3) := by decide +kernel
theorem dX8_set_4 : decode cX8_set 4 = .ok (.ifCond .ne 6, 3) := by decide +kernel
theorem dX8_set_7 : decode cX8_set 7 = .ok (.ldc 76, 2) := by decide +kernel
theorem dX8_set_9 : decode cX8_set 9 = .ok (.ireturn, 1) := by decide +kernel
theorem dX8_set_10 : decode cX8_set 10 = .ok (.aload_n 0, 1) := by decide +kernel
theorem dX8_set_11 : decode cX8_set 11 = .ok (.iload_n 1, 1) := by decide +kernel
theorem dX8_set_12 : decode cX8_set 12 = .ok (.invokevirtual 84, 3) := by decide +kernel
theorem dX8_set_15 : decode cX8_set 15 = .ok (.ifCond .eq 9, 3) := by decide +kernel
theorem dX8_set_18 : decode cX8_set 18 = .ok (.aload_n 0, 1) := by decide +kernel
theorem dX8_set_19 : decode cX8_set 19 = .ok (.iconst 1, 1) := by decide +kernel
theorem dX8_set_20 : decode cX8_set 20 = .ok (.invokevirtual 77, 3) := by decide +kernel
theorem dX8_set_23 : decode cX8_set 23 = .ok (.ireturn, 1) := by decide +kernel
theorem dX8_set_24 : decode cX8_set 24 = .ok (.iload_n 2, 1) := by decide +kernel
theorem dX8_set_25 : decode cX8_set 25 = .ok (.iconst 0, 1) := by decide +kernel
theorem dX8_set_26 : decode cX8_set 26 = .ok (.aload_n 0, 1) := by decide +kernel
theorem dX8_set_27 : decode cX8_set 27 = .ok (.getfield 13, 3) := by decide +kernel
theorem dX8_set_30 : decode cX8_set 30 = .ok (.iload_n 1, 1) := by decide +kernel
theorem dX8_set_31 : decode cX8_set 31 = .ok (.iaload, 1) := by decide +kernel
theorem dX8_set_32 : decode cX8_set 32 = .ok (.iconst 1, 1) := by decide +kernel
theorem dX8_set_33 : decode cX8_set 33 = .ok (.isub, 1) := by decide +kernel
theorem dX8_set_34 : decode cX8_set 34 = .ok (.invokestatic 68, 3) := by decide +kernel
theorem dX8_set_37 : decode cX8_set 37 = .ok (.ifCond .ne 9, 3) := by decide +kernel
theorem dX8_set_40 : decode cX8_set 40 = .ok (.aload_n 0, 1) := by decide +kernel
theorem dX8_set_41 : decode cX8_set 41 = .ok (.iconst 2, 1) := by decide +kernel
theorem dX8_set_42 : decode cX8_set 42 = .ok (.invokevirtual 77, 3) := by decide +kernel
theorem dX8_set_45 : decode cX8_set 45 = .ok (.ireturn, 1) := by decide +kernel
theorem dX8_set_46 : decode cX8_set 46 = .ok (.aload_n 0, 1) := by decide +kernel
theorem dX8_set_47 : decode cX8_set 47 = .ok (.getfield 16, 3) := by decide +kernel
theorem dX8_set_50 : decode cX8_set 50 = .ok (.bipush 40, 2) := by decide +kernel
theorem dX8_set_52 : decode cX8_set 52 = .ok (.iload_n 1, 1) := by decide +kernel
theorem dX8_set_53 : decode cX8_set 53 = .ok (.imul, 1) := by decide +kernel
theorem dX8_set_54 : decode cX8_set 54 = .ok (.iload_n 2, 1) := by decide +kernel
theorem dX8_set_55 : decode cX8_set 55 = .ok (.iadd, 1) := by decide +kernel
theorem dX8_set_56 : decode cX8_set 56 = .ok (.aload_n 0, 1) := by decide +kernel
theorem dX8_set_57 : decode cX8_set 57 = .ok (.getfield 7, 3) := by decide +kernel
theorem dX8_set_60 : decode cX8_set 60 = .ok (.iload_n 1, 1) := by decide +kernel
theorem dX8_set_61 : decode cX8_set 61 = .ok (.iaload, 1) := by decide +kernel
theorem dX8_set_62 : decode cX8_set 62 = .ok (.iload_n 3, 1) := by decide +kernel
theorem dX8_set_63 : decode cX8_set 63 = .ok (.invokestatic 87, 3) := by decide +kernel
theorem dX8_set_66 : decode cX8_set 66 = .ok (.iastore, 1) := by decide +kernel
theorem dX8_set_67 : decode cX8_set 67 = .ok (.aload_n 0, 1) := by decide +kernel
theorem dX8_set_68 : decode cX8_set 68 = .ok (.aload_n 0, 1) := by decide +kernel
theorem dX8_set_69 : decode cX8_set 69 = .ok (.getfield 16, 3) := by decide +kernel
theorem dX8_set_72 : decode cX8_set 72 = .ok (.bipush 40, 2) := by decide +kernel
theorem dX8_set_74 : decode cX8_set 74 = .ok (.iload_n 1, 1) := by decide +kernel
theorem dX8_set_75 : decode cX8_set 75 = .ok (.imul, 1) := by decide +kernel
theorem dX8_set_76 : decode cX8_set 76 = .ok (.iload_n 2, 1) := by decide +kernel
theorem dX8_set_77 : decode cX8_set 77 = .ok (.iadd, 1) := by decide +kernel
theorem dX8_set_78 : decode cX8_set 78 = .ok (.iaload, 1) := by decide +kernel
theorem dX8_set_79 : decode cX8_set 79 = .ok (.invokevirtual 81, 3) := by decide +kernel
theorem dX8_set_82 : decode cX8_set 82 = .ok (.ireturn, 1) := by decide +kernel
theorem dX8_isPart_0 : decode cX8_isPart 0 = .ok (.iload_n 2, 1) := by decide +kernel
theorem dX8_isPart_1 : decode cX8_isPart 1 = .ok (.ifCond .lt 33, 3) := by decide +kernel
theorem dX8_isPart_4 : decode cX8_isPart 4 = .ok (.iload_n 3, 1) := by decide +kernel
theorem dX8_isPart_5 : decode cX8_isPart 5 = .ok (.ifCond .lt 29, 3) := by decide +kernel
theorem dX8_isPart_8 : decode cX8_isPart 8 = .ok (.iload_n 2, 1) := by decide +kernel
theorem dX8_isPart_9 : decode cX8_isPart 9 = .ok (.aload_n 0, 1) := by decide +kernel
theorem dX8_isPart_10 : decode cX8_isPart 10 = .ok (.getfield 13, 3) := by decide +kernel
theorem dX8_isPart_13 : decode cX8_isPart 13 = .ok (.iload_n 1, 1) := by decide +kernel
theorem dX8_isPart_14 : decode cX8_isPart 14 = .ok (.iaload, 1) := by decide +kernel
theorem dX8_isPart_15 : decode cX8_isPart 15 = .ok (.if_icmp .gt 19, 3) := by decide +kernel
theorem dX8_isPart_18 : decode cX8_isPart 18 = .ok (.iload_n 3, 1) := by decide +kernel
theorem dX8_isPart_19 : decode cX8_isPart 19 = .ok (.aload_n 0, 1) := by decide +kernel
theorem dX8_isPart_20 : decode cX8_isPart 20 = .ok (.getfield 13, 3) := by decide +kernel
theorem dX8_isPart_23 : decode cX8_isPart 23 = .ok (.iload_n 1, 1) := by decide +kernel
theorem dX8_isPart_24 : decode cX8_isPart 24 = .ok (.iaload, 1) := by decide +kernel
theorem dX8_isPart_25 : decode cX8_isPart 25 = .ok (.iload_n 2, 1) := by decide +kernel
theorem dX8_isPart_26 : decode cX8_isPart 26 = .ok (.isub, 1) := by decide +kernel
theorem dX8_isPart_27 : decode cX8_isPart 27 = .ok (.if_icmp .gt 7, 3) := by decide +kernel
theorem dX8_isPart_30 : decode cX8_isPart 30 = .ok (.iconst 1, 1) := by decide +kernel
theorem dX8_isPart_31 : decode cX8_isPart 31 = .ok (.goto 4, 3) := by decide +kernel
theorem dX8_isPart_34 : decode cX8_isPart 34 = .ok (.iconst 0, 1) := by decide +kernel
theorem dX8_isPart_35 : decode cX8_isPart 35 = .ok (.ireturn, 1) := by decide +kernel
theorem dX8_copy_0 : decode cX8_copy 0 = .ok (.iload_n 1, 1) := by decide +kernel
theorem dX8_copy_1 : decode cX8_copy 1 = .ok (.invokestatic 72, 3) := by decide +kernel
theorem dX8_copy_4 : decode cX8_copy 4 = .ok (.ifCond .eq 10, 3) := by decide +kernel
theorem dX8_copy_7 : decode cX8_copy 7 = .ok (.iload_n 3, 1) := by decide +kernel
theorem dX8_copy_8 : decode cX8_copy 8 = .ok (.invokestatic 72, 3) := by decide +kernel
theorem dX8_copy_11 : decode cX8_copy 11 = .ok (.ifCond .ne 6, 3) := by decide +kernel
theorem dX8_copy_14 : decode cX8_copy 14 = .ok (.ldc 76, 2) := by decide +kernel
theorem dX8_copy_16 : decode cX8_copy 16 = .ok (.ireturn, 1) := by decide +kernel
theorem dX8_copy_17 : decode cX8_copy 17 = .ok (.aload_n 0, 1) := by decide +kernel
theorem dX8_copy_18 : decode cX8_copy 18 = .ok (.iload_n 1, 1) := by decide +kernel
theorem dX8_copy_19 : decode cX8_copy 19 = .ok (.invokevirtual 84, 3) := by decide +kernel
theorem dX8_copy_22 : decode cX8_copy 22 = .ok (.ifCond .ne 11, 3) := by decide +kernel
theorem dX8_copy_25 : decode cX8_copy 25 = .ok (.aload_n 0, 1) := by decide +kernel
theorem dX8_copy_26 : decode cX8_copy 26 = .ok (.iload_n 3, 1) := by decide +kernel
theorem dX8_copy_27 : decode cX8_copy 27 = .ok (.invokevirtual 84, 3) := by decide +kernel
theorem dX8_copy_30 : decode cX8_copy 30 = .ok (.ifCond .eq 9, 3) := by decide +kernel
theorem dX8_copy_33 : decode cX8_copy 33 = .ok (.aload_n 0, 1) := by decide +kernel
theorem dX8_copy_34 : decode cX8_copy 34 = .ok (.iconst 1, 1) := by decide +kernel
theorem dX8_copy_35 : decode cX8_copy 35 = .ok (.invokevirtual 77, 3) := by decide +kernel
theorem dX8_copy_38 : decode cX8_copy 38 = .ok (.ireturn, 1) := by decide +kernel
theorem dX8_copy_39 : decode cX8_copy 39 = .ok (.aload_n 0, 1) := by decide +kernel
theorem dX8_copy_40 : decode cX8_copy 40 = .ok (.getfield 7, 3) := by decide +kernel
theorem dX8_copy_43 : decode cX8_copy 43 = .ok (.iload_n 1, 1) := by decide +kernel
theorem dX8_copy_44 : decode cX8_copy 44 = .ok (.iaload, 1) := by decide +kernel
theorem dX8_copy_45 : decode cX8_copy 45 = .ok (.aload_n 0, 1) := by decide +kernel
theorem dX8_copy_46 : decode cX8_copy 46 = .ok (.getfield 7, 3) := by decide +kernel
theorem dX8_copy_49 : decode cX8_copy 49 = .ok (.iload_n 3, 1) := by decide +kernel
theorem dX8_copy_50 : decode cX8_copy 50 = .ok (.iaload, 1) := by decide +kernel
theorem dX8_copy_51 : decode cX8_copy 51 = .ok (.if_icmp .eq 9, 3) := by decide +kernel
theorem dX8_copy_54 : decode cX8_copy 54 = .ok (.aload_n 0, 1) := by decide +kernel
theorem dX8_copy_55 : decode cX8_copy 55 = .ok (.iconst 5, 1) := by decide +kernel
theorem dX8_copy_56 : decode cX8_copy 56 = .ok (.invokevirtual 77, 3) := by decide +kernel
theorem dX8_copy_59 : decode cX8_copy 59 = .ok (.ireturn, 1) := by decide +kernel
theorem dX8_copy_60 : decode cX8_copy 60 = .ok (.aload_n 0, 1) := by decide +kernel
theorem dX8_copy_61 : decode cX8_copy 61 = .ok (.iload_n 1, 1) := by decide +kernel
theorem dX8_copy_62 : decode cX8_copy 62 = .ok (.iload_n 2, 1) := by decide +kernel
theorem dX8_copy_63 : decode cX8_copy 63 = .ok (.iload 5, 2) := by decide +kernel
theorem dX8_copy_65 : decode cX8_copy 65 = .ok (.invokevirtual 91, 3) := by decide +kernel
theorem dX8_copy_68 : decode cX8_copy 68 = .ok (.ifCond .eq 15, 3) := by decide +kernel
theorem dX8_copy_71 : decode cX8_copy 71 = .ok (.aload_n 0, 1) := by decide +kernel
theorem dX8_copy_72 : decode cX8_copy 72 = .ok (.iload_n 3, 1) := by decide +kernel
theorem dX8_copy_73 : decode cX8_copy 73 = .ok (.iload 4, 2) := by decide +kernel
theorem dX8_copy_75 : decode cX8_copy 75 = .ok (.iload 5, 2) := by decide +kernel
theorem dX8_copy_77 : decode cX8_copy 77 = .ok (.invokevirtual 91, 3) := by decide +kernel
theorem dX8_copy_80 : decode cX8_copy 80 = .ok (.ifCond .ne 9, 3) := by decide +kernel
theorem dX8_copy_83 : decode cX8_copy 83 = .ok (.aload_n 0, 1) := by decide +kernel
theorem dX8_copy_84 : decode cX8_copy 84 = .ok (.iconst 2, 1) := by decide +kernel
theorem dX8_copy_85 : decode cX8_copy 85 = .ok (.invokevirtual 77, 3) := by decide +kernel
theorem dX8_copy_88 : decode cX8_copy 88 = .ok (.ireturn, 1) := by decide +kernel
theorem dX8_copy_89 : decode cX8_copy 89 = .ok (.iconst 0, 1) := by decide +kernel
theorem dX8_copy_90 : decode cX8_copy 90 = .ok (.istore 6, 2) := by decide +kernel
theorem dX8_copy_92 : decode cX8_copy 92 = .ok (.iload 6, 2) := by decide +kernel
theorem dX8_copy_94 : decode cX8_copy 94 = .ok (.iload 5, 2) := by decide +kernel
theorem dX8_copy_96 : decode cX8_copy 96 = .ok (.if_icmp .ge 30, 3) := by decide +kernel
theorem dX8_copy_99 : decode cX8_copy 99 = .ok (.aload_n 0, 1) := by decide +kernel
theorem dX8_copy_100 : decode cX8_copy 100 = .ok (.getfield 19, 3) := by decide +kernel
theorem dX8_copy_103 : decode cX8_copy 103 = .ok (.iload 6, 2) := by decide +kernel
theorem dX8_copy_105 : decode cX8_copy 105 = .ok (.aload_n 0, 1) := by decide +kernel
theorem dX8_copy_106 : decode cX8_copy 106 = .ok (.getfield 16, 3) := by decide +kernel
theorem dX8_copy_109 : decode cX8_copy 109 = .ok (.bipush 40, 2) := by decide +kernel
theorem dX8_copy_111 : decode cX8_copy 111 = .ok (.iload_n 1, 1) := by decide +kernel
theorem dX8_copy_112 : decode cX8_copy 112 = .ok (.imul, 1) := by decide +kernel
theorem dX8_copy_113 : decode cX8_copy 113 = .ok (.iload_n 2, 1) := by decide +kernel
theorem dX8_copy_114 : decode cX8_copy 114 = .ok (.iadd, 1) := by decide +kernel
theorem dX8_copy_115 : decode cX8_copy 115 = .ok (.iload 6, 2) := by decide +kernel
theorem dX8_copy_117 : decode cX8_copy 117 = .ok (.iadd, 1) := by decide +kernel
theorem dX8_copy_118 : decode cX8_copy 118 = .ok (.iaload, 1) := by decide +kernel
theorem dX8_copy_119 : decode cX8_copy 119 = .ok (.iastore, 1) := by decide +kernel
theorem dX8_copy_120 : decode cX8_copy 120 = .ok (.iinc 6 1, 3) := by decide +kernel
theorem dX8_copy_123 : decode cX8_copy 123 = .ok (.goto (-31), 3) := by decide +kernel
theorem dX8_copy_126 : decode cX8_copy 126 = .ok (.iconst 0, 1) := by decide +kernel
theorem dX8_copy_127 : decode cX8_copy 127 = .ok (.istore 6, 2) := by decide +kernel
theorem dX8_copy_129 : decode cX8_copy 129 = .ok (.iload 6, 2) := by decide +kernel
theorem dX8_copy_131 : decode cX8_copy 131 = .ok (.iload 5, 2) := by decide +kernel
theorem dX8_copy_133 : decode cX8_copy 133 = .ok (.if_icmp .ge 31, 3) := by decide +kernel
theorem dX8_copy_136 : decode cX8_copy 136 = .ok (.aload_n 0, 1) := by decide +kernel
theorem dX8_copy_137 : decode cX8_copy 137 = .ok (.getfield 16, 3) := by decide +kernel
theorem dX8_copy_140 : decode cX8_copy 140 = .ok (.bipush 40, 2) := by decide +kernel
theorem dX8_copy_142 : decode cX8_copy 142 = .ok (.iload_n 3, 1) := by decide +kernel
theorem dX8_copy_143 : decode cX8_copy 143 = .ok (.imul, 1) := by decide +kernel
theorem dX8_copy_144 : decode cX8_copy 144 = .ok (.iload 4, 2) := by decide +kernel
theorem dX8_copy_146 : decode cX8_copy 146 = .ok (.iadd, 1) := by decide +kernel
theorem dX8_copy_147 : decode cX8_copy 147 = .ok (.iload 6, 2) := by decide +kernel
theorem dX8_copy_149 : decode cX8_copy 149 = .ok (.iadd, 1) := by decide +kernel
theorem dX8_copy_150 : decode cX8_copy 150 = .ok (.aload_n 0, 1) := by decide +kernel
theorem dX8_copy_151 : decode cX8_copy 151 = .ok (.getfield 19, 3) := by decide +kernel
theorem dX8_copy_154 : decode cX8_copy 154 = .ok (.iload 6, 2) := by decide +kernel
theorem dX8_copy_156 : decode cX8_copy 156 = .ok (.iaload, 1) := by decide +kernel
theorem dX8_copy_157 : decode cX8_copy 157 = .ok (.iastore, 1) := by decide +kernel
theorem dX8_copy_158 : decode cX8_copy 158 = .ok (.iinc 6 1, 3) := by decide +kernel
theorem dX8_copy_161 : decode cX8_copy 161 = .ok (.goto (-32), 3) := by decide +kernel
theorem dX8_copy_164 : decode cX8_copy 164 = .ok (.aload_n 0, 1) := by decide +kernel
theorem dX8_copy_165 : decode cX8_copy 165 = .ok (.iload 5, 2) := by decide +kernel
theorem dX8_copy_167 : decode cX8_copy 167 = .ok (.invokevirtual 81, 3) := by decide +kernel
theorem dX8_copy_170 : decode cX8_copy 170 = .ok (.ireturn, 1) := by decide +kernel
theorem dX8_drop_0 : decode cX8_drop 0 = .ok (.iload_n 1, 1) := by decide +kernel
theorem dX8_drop_1 : decode cX8_drop 1 = .ok (.invokestatic 72, 3) := by decide +kernel
theorem dX8_drop_4 : decode cX8_drop 4 = .ok (.ifCond .ne 6, 3) := by decide +kernel
theorem dX8_drop_7 : decode cX8_drop 7 = .ok (.ldc 76, 2) := by decide +kernel
theorem dX8_drop_9 : decode cX8_drop 9 = .ok (.ireturn, 1) := by decide +kernel
theorem dX8_drop_10 : decode cX8_drop 10 = .ok (.aload_n 0, 1) := by decide +kernel
theorem dX8_drop_11 : decode cX8_drop 11 = .ok (.iload_n 1, 1) := by decide +kernel
theorem dX8_drop_12 : decode cX8_drop 12 = .ok (.invokevirtual 84, 3) := by decide +kernel
theorem dX8_drop_15 : decode cX8_drop 15 = .ok (.ifCond .eq 9, 3) := by decide +kernel
theorem dX8_drop_18 : decode cX8_drop 18 = .ok (.aload_n 0, 1) := by decide +kernel
theorem dX8_drop_19 : decode cX8_drop 19 = .ok (.iconst 1, 1) := by decide +kernel
theorem dX8_drop_20 : decode cX8_drop 20 = .ok (.invokevirtual 77, 3) := by decide +kernel
theorem dX8_drop_23 : decode cX8_drop 23 = .ok (.ireturn, 1) := by decide +kernel
theorem dX8_drop_24 : decode cX8_drop 24 = .ok (.aload_n 0, 1) := by decide +kernel
theorem dX8_drop_25 : decode cX8_drop 25 = .ok (.getfield 7, 3) := by decide +kernel
theorem dX8_drop_28 : decode cX8_drop 28 = .ok (.iload_n 1, 1) := by decide +kernel
theorem dX8_drop_29 : decode cX8_drop 29 = .ok (.ldc 62, 2) := by decide +kernel
theorem dX8_drop_31 : decode cX8_drop 31 = .ok (.iastore, 1) := by decide +kernel
theorem dX8_drop_32 : decode cX8_drop 32 = .ok (.aload_n 0, 1) := by decide +kernel
theorem dX8_drop_33 : decode cX8_drop 33 = .ok (.aload_n 0, 1) := by decide +kernel
theorem dX8_drop_34 : decode cX8_drop 34 = .ok (.getfield 13, 3) := by decide +kernel
theorem dX8_drop_37 : decode cX8_drop 37 = .ok (.iload_n 1, 1) := by decide +kernel
theorem dX8_drop_38 : decode cX8_drop 38 = .ok (.iaload, 1) := by decide +kernel
theorem dX8_drop_39 : decode cX8_drop 39 = .ok (.invokevirtual 81, 3) := by decide +kernel
theorem dX8_drop_42 : decode cX8_drop 42 = .ok (.ireturn, 1) := by decide +kernel
theorem dX8_feed_0 : decode cX8_feed 0 = .ok (.iload_n 1, 1) := by decide +kernel
theorem dX8_feed_1 : decode cX8_feed 1 = .ok (.iconst 0, 1) := by decide +kernel
theorem dX8_feed_2 : decode cX8_feed 2 = .ok (.sipush 255, 3) := by decide +kernel
theorem dX8_feed_5 : decode cX8_feed 5 = .ok (.invokestatic 68, 3) := by decide +kernel
theorem dX8_feed_8 : decode cX8_feed 8 = .ok (.ifCond .ne 6, 3) := by decide +kernel
theorem dX8_feed_11 : decode cX8_feed 11 = .ok (.ldc 76, 2) := by decide +kernel
theorem dX8_feed_13 : decode cX8_feed 13 = .ok (.ireturn, 1) := by decide +kernel
theorem dX8_feed_14 : decode cX8_feed 14 = .ok (.aload_n 0, 1) := by decide +kernel
theorem dX8_feed_15 : decode cX8_feed 15 = .ok (.getfield 94, 3) := by decide +kernel
theorem dX8_feed_18 : decode cX8_feed 18 = .ok (.sipush 130, 3) := by decide +kernel
theorem dX8_feed_21 : decode cX8_feed 21 = .ok (.if_icmp .ne 6, 3) := by decide +kernel
theorem dX8_feed_24 : decode cX8_feed 24 = .ok (.ldc 97, 2) := by decide +kernel
theorem dX8_feed_26 : decode cX8_feed 26 = .ok (.ireturn, 1) := by decide +kernel
theorem dX8_feed_27 : decode cX8_feed 27 = .ok (.aload_n 0, 1) := by decide +kernel
theorem dX8_feed_28 : decode cX8_feed 28 = .ok (.getfield 22, 3) := by decide +kernel
theorem dX8_feed_31 : decode cX8_feed 31 = .ok (.aload_n 0, 1) := by decide +kernel
theorem dX8_feed_32 : decode cX8_feed 32 = .ok (.getfield 94, 3) := by decide +kernel
theorem dX8_feed_35 : decode cX8_feed 35 = .ok (.iload_n 1, 1) := by decide +kernel
theorem dX8_feed_36 : decode cX8_feed 36 = .ok (.iastore, 1) := by decide +kernel
theorem dX8_feed_37 : decode cX8_feed 37 = .ok (.aload_n 0, 1) := by decide +kernel
theorem dX8_feed_38 : decode cX8_feed 38 = .ok (.dup, 1) := by decide +kernel
theorem dX8_feed_39 : decode cX8_feed 39 = .ok (.getfield 94, 3) := by decide +kernel
theorem dX8_feed_42 : decode cX8_feed 42 = .ok (.iconst 1, 1) := by decide +kernel
theorem dX8_feed_43 : decode cX8_feed 43 = .ok (.iadd, 1) := by decide +kernel
theorem dX8_feed_44 : decode cX8_feed 44 = .ok (.putfield 94, 3) := by decide +kernel
theorem dX8_feed_47 : decode cX8_feed 47 = .ok (.aload_n 0, 1) := by decide +kernel
theorem dX8_feed_48 : decode cX8_feed 48 = .ok (.getfield 94, 3) := by decide +kernel
theorem dX8_feed_51 : decode cX8_feed 51 = .ok (.ireturn, 1) := by decide +kernel
theorem dX8_byteAt_0 : decode cX8_byteAt 0 = .ok (.iload_n 1, 1) := by decide +kernel
theorem dX8_byteAt_1 : decode cX8_byteAt 1 = .ok (.aload_n 0, 1) := by decide +kernel
theorem dX8_byteAt_2 : decode cX8_byteAt 2 = .ok (.getfield 94, 3) := by decide +kernel
theorem dX8_byteAt_5 : decode cX8_byteAt 5 = .ok (.if_icmp .ge 12, 3) := by decide +kernel
theorem dX8_byteAt_8 : decode cX8_byteAt 8 = .ok (.aload_n 0, 1) := by decide +kernel
theorem dX8_byteAt_9 : decode cX8_byteAt 9 = .ok (.getfield 22, 3) := by decide +kernel
theorem dX8_byteAt_12 : decode cX8_byteAt 12 = .ok (.iload_n 1, 1) := by decide +kernel
theorem dX8_byteAt_13 : decode cX8_byteAt 13 = .ok (.iaload, 1) := by decide +kernel
theorem dX8_byteAt_14 : decode cX8_byteAt 14 = .ok (.goto 4, 3) := by decide +kernel
theorem dX8_byteAt_17 : decode cX8_byteAt 17 = .ok (.iconst (-1), 1) := by decide +kernel
theorem dX8_byteAt_18 : decode cX8_byteAt 18 = .ok (.ireturn, 1) := by decide +kernel
theorem dX8_advances_0 : decode cX8_advances 0 = .ok (.aload_n 0, 1) := by decide +kernel
theorem dX8_advances_1 : decode cX8_advances 1 = .ok (.aload_n 0, 1) := by decide +kernel
theorem dX8_advances_2 : decode cX8_advances 2 = .ok (.getfield 98, 3) := by decide +kernel
theorem dX8_advances_5 : decode cX8_advances 5 = .ok (.putfield 101, 3) := by decide +kernel
theorem dX8_advances_8 : decode cX8_advances 8 = .ok (.aload_n 0, 1) := by decide +kernel
theorem dX8_advances_9 : decode cX8_advances 9 = .ok (.aload_n 0, 1) := by decide +kernel
theorem dX8_advances_10 : decode cX8_advances 10 = .ok (.getfield 98, 3) := by decide +kernel
theorem dX8_advances_13 : decode cX8_advances 13 = .ok (.invokevirtual 104, 3) := by decide +kernel
theorem dX8_advances_16 : decode cX8_advances 16 = .ok (.istore_n 1, 1) := by decide +kernel
theorem dX8_advances_17 : decode cX8_advances 17 = .ok (.aload_n 0, 1) := by decide +kernel
theorem dX8_advances_18 : decode cX8_advances 18 = .ok (.iload_n 1, 1) := by decide +kernel
theorem dX8_advances_19 : decode cX8_advances 19 = .ok (.putfield 107, 3) := by decide +kernel
theorem dX8_advances_22 : decode cX8_advances 22 = .ok (.iload_n 1, 1) := by decide +kernel
theorem dX8_advances_23 : decode cX8_advances 23 = .ok (.bipush 48, 2) := by decide +kernel
theorem dX8_advances_25 : decode cX8_advances 25 = .ok (.bipush 57, 2) := by decide +kernel
theorem dX8_advances_27 : decode cX8_advances 27 = .ok (.invokestatic 68, 3) := by decide +kernel
theorem dX8_advances_30 : decode cX8_advances 30 = .ok (.ifCond .eq 105, 3) := by decide +kernel
theorem dX8_advances_33 : decode cX8_advances 33 = .ok (.aload_n 0, 1) := by decide +kernel
theorem dX8_advances_34 : decode cX8_advances 34 = .ok (.iconst 0, 1) := by decide +kernel
theorem dX8_advances_35 : decode cX8_advances 35 = .ok (.putfield 107, 3) := by decide +kernel
theorem dX8_advances_38 : decode cX8_advances 38 = .ok (.aload_n 0, 1) := by decide +kernel
theorem dX8_advances_39 : decode cX8_advances 39 = .ok (.aload_n 0, 1) := by decide +kernel
theorem dX8_advances_40 : decode cX8_advances 40 = .ok (.getfield 98, 3) := by decide +kernel
theorem dX8_advances_43 : decode cX8_advances 43 = .ok (.invokevirtual 104, 3) := by decide +kernel
theorem dX8_advances_46 : decode cX8_advances 46 = .ok (.bipush 48, 2) := by decide +kernel
theorem dX8_advances_48 : decode cX8_advances 48 = .ok (.bipush 57, 2) := by decide +kernel
theorem dX8_advances_50 : decode cX8_advances 50 = .ok (.invokestatic 68, 3) := by decide +kernel
theorem dX8_advances_53 : decode cX8_advances 53 = .ok (.ifCond .eq 59, 3) := by decide +kernel
theorem dX8_advances_56 : decode cX8_advances 56 = .ok (.aload_n 0, 1) := by decide +kernel
theorem dX8_advances_57 : decode cX8_advances 57 = .ok (.aload_n 0, 1) := by decide +kernel
theorem dX8_advances_58 : decode cX8_advances 58 = .ok (.getfield 98, 3) := by decide +kernel
theorem dX8_advances_61 : decode cX8_advances 61 = .ok (.aload_n 0, 1) := by decide +kernel
theorem dX8_advances_62 : decode cX8_advances 62 = .ok (.getfield 101, 3) := by decide +kernel
theorem dX8_advances_65 : decode cX8_advances 65 = .ok (.isub, 1) := by decide +kernel
theorem dX8_advances_66 : decode cX8_advances 66 = .ok (.iconst 2, 1) := by decide +kernel
theorem dX8_advances_67 : decode cX8_advances 67 = .ok (.if_icmp .ge 25, 3) := by decide +kernel
theorem dX8_advances_70 : decode cX8_advances 70 = .ok (.bipush 10, 2) := by decide +kernel
theorem dX8_advances_72 : decode cX8_advances 72 = .ok (.aload_n 0, 1) := by decide +kernel
theorem dX8_advances_73 : decode cX8_advances 73 = .ok (.getfield 107, 3) := by decide +kernel
theorem dX8_advances_76 : decode cX8_advances 76 = .ok (.imul, 1) := by decide +kernel
theorem dX8_advances_77 : decode cX8_advances 77 = .ok (.aload_n 0, 1) := by decide +kernel
theorem dX8_advances_78 : decode cX8_advances 78 = .ok (.aload_n 0, 1) := by decide +kernel
theorem dX8_advances_79 : decode cX8_advances 79 = .ok (.getfield 98, 3) := by decide +kernel
theorem dX8_advances_82 : decode cX8_advances 82 = .ok (.invokevirtual 104, 3) := by decide +kernel
theorem dX8_advances_85 : decode cX8_advances 85 = .ok (.iadd, 1) := by decide +kernel
theorem dX8_advances_86 : decode cX8_advances 86 = .ok (.bipush 48, 2) := by decide +kernel
theorem dX8_advances_88 : decode cX8_advances 88 = .ok (.isub, 1) := by decide +kernel
theorem dX8_advances_89 : decode cX8_advances 89 = .ok (.goto 7, 3) := by decide +kernel
theorem dX8_advances_92 : decode cX8_advances 92 = .ok (.aload_n 0, 1) := by decide +kernel
theorem dX8_advances_93 : decode cX8_advances 93 = .ok (.getfield 107, 3) := by decide +kernel
theorem dX8_advances_96 : decode cX8_advances 96 = .ok (.putfield 107, 3) := by decide +kernel
theorem dX8_advances_99 : decode cX8_advances 99 = .ok (.aload_n 0, 1) := by decide +kernel
theorem dX8_advances_100 : decode cX8_advances 100 = .ok (.dup, 1) := by decide +kernel
theorem dX8_advances_101 : decode cX8_advances 101 = .ok (.getfield 98, 3) := by decide +kernel
theorem dX8_advances_104 : decode cX8_advances 104 = .ok (.iconst 1, 1) := by decide +kernel
theorem dX8_advances_105 : decode cX8_advances 105 = .ok (.iadd, 1) := by decide +kernel
theorem dX8_advances_106 : decode cX8_advances 106 = .ok (.putfield 98, 3) := by decide +kernel
theorem dX8_advances_109 : decode cX8_advances 109 = .ok (.goto (-71), 3) := by decide +kernel
theorem dX8_advances_112 : decode cX8_advances 112 = .ok (.aload_n 0, 1) := by decide +kernel
theorem dX8_advances_113 : decode cX8_advances 113 = .ok (.aload_n 0, 1) := by decide +kernel
theorem dX8_advances_114 : decode cX8_advances 114 = .ok (.getfield 98, 3) := by decide +kernel
theorem dX8_advances_117 : decode cX8_advances 117 = .ok (.aload_n 0, 1) := by decide +kernel
theorem dX8_advances_118 : decode cX8_advances 118 = .ok (.getfield 101, 3) := by decide +kernel
theorem dX8_advances_121 : decode cX8_advances 121 = .ok (.isub, 1) := by decide +kernel
theorem dX8_advances_122 : decode cX8_advances 122 = .ok (.iconst 3, 1) := by decide +kernel
theorem dX8_advances_123 : decode cX8_advances 123 = .ok (.if_icmp .ge 7, 3) := by decide +kernel
theorem dX8_advances_126 : decode cX8_advances 126 = .ok (.iconst 2, 1) := by decide +kernel
theorem dX8_advances_127 : decode cX8_advances 127 = .ok (.goto 4, 3) := by decide +kernel
theorem dX8_advances_130 : decode cX8_advances 130 = .ok (.iconst 5, 1) := by decide +kernel
theorem dX8_advances_131 : decode cX8_advances 131 = .ok (.putfield 110, 3) := by decide +kernel
theorem dX8_advances_134 : decode cX8_advances 134 = .ok (.return_, 1) := by decide +kernel
theorem dX8_advances_135 : decode cX8_advances 135 = .ok (.aload_n 0, 1) := by decide +kernel
theorem dX8_advances_136 : decode cX8_advances 136 = .ok (.iload_n 1, 1) := by decide +kernel
theorem dX8_advances_137 : decode cX8_advances 137 = .ok (.ifCond .ge 7, 3) := by decide +kernel
theorem dX8_advances_140 : decode cX8_advances 140 = .ok (.iconst 0, 1) := by decide +kernel
theorem dX8_advances_141 : decode cX8_advances 141 = .ok (.goto 39, 3) := by decide +kernel
theorem dX8_advances_144 : decode cX8_advances 144 = .ok (.iload_n 1, 1) := by decide +kernel
theorem dX8_advances_145 : decode cX8_advances 145 = .ok (.bipush 97, 2) := by decide +kernel
theorem dX8_advances_147 : decode cX8_advances 147 = .ok (.bipush 122, 2) := by decide +kernel
theorem dX8_advances_149 : decode cX8_advances 149 = .ok (.invokestatic 68, 3) := by decide +kernel
theorem dX8_advances_152 : decode cX8_advances 152 = .ok (.ifCond .eq 7, 3) := by decide +kernel
theorem dX8_advances_155 : decode cX8_advances 155 = .ok (.iconst 1, 1) := by decide +kernel
theorem dX8_advances_156 : decode cX8_advances 156 = .ok (.goto 24, 3) := by decide +kernel
theorem dX8_advances_159 : decode cX8_advances 159 = .ok (.iload_n 1, 1) := by decide +kernel
theorem dX8_advances_160 : decode cX8_advances 160 = .ok (.bipush 44, 2) := by decide +kernel
theorem dX8_advances_162 : decode cX8_advances 162 = .ok (.if_icmp .ne 7, 3) := by decide +kernel
theorem dX8_advances_165 : decode cX8_advances 165 = .ok (.iconst 3, 1) := by decide +kernel
theorem dX8_advances_166 : decode cX8_advances 166 = .ok (.goto 14, 3) := by decide +kernel
theorem dX8_advances_169 : decode cX8_advances 169 = .ok (.iload_n 1, 1) := by decide +kernel
theorem dX8_advances_170 : decode cX8_advances 170 = .ok (.bipush 59, 2) := by decide +kernel
theorem dX8_advances_172 : decode cX8_advances 172 = .ok (.if_icmp .ne 7, 3) := by decide +kernel
theorem dX8_advances_175 : decode cX8_advances 175 = .ok (.iconst 4, 1) := by decide +kernel
theorem dX8_advances_176 : decode cX8_advances 176 = .ok (.goto 4, 3) := by decide +kernel
theorem dX8_advances_179 : decode cX8_advances 179 = .ok (.iconst 5, 1) := by decide +kernel
theorem dX8_advances_180 : decode cX8_advances 180 = .ok (.putfield 110, 3) := by decide +kernel
theorem dX8_advances_183 : decode cX8_advances 183 = .ok (.aload_n 0, 1) := by decide +kernel
theorem dX8_advances_184 : decode cX8_advances 184 = .ok (.dup, 1) := by decide +kernel
theorem dX8_advances_185 : decode cX8_advances 185 = .ok (.getfield 98, 3) := by decide +kernel
theorem dX8_advances_188 : decode cX8_advances 188 = .ok (.aload_n 0, 1) := by decide +kernel
theorem dX8_advances_189 : decode cX8_advances 189 = .ok (.getfield 110, 3) := by decide +kernel
theorem dX8_advances_192 : decode cX8_advances 192 = .ok (.ifCond .ne 7, 3) := by decide +kernel
theorem dX8_advances_195 : decode cX8_advances 195 = .ok (.iconst 0, 1) := by decide +kernel
theorem dX8_advances_196 : decode cX8_advances 196 = .ok (.goto 4, 3) := by decide +kernel
theorem dX8_advances_199 : decode cX8_advances 199 = .ok (.iconst 1, 1) := by decide +kernel
theorem dX8_advances_200 : decode cX8_advances 200 = .ok (.iadd, 1) := by decide +kernel
theorem dX8_advances_201 : decode cX8_advances 201 = .ok (.putfield 98, 3) := by decide +kernel
theorem dX8_advances_204 : decode cX8_advances 204 = .ok (.return_, 1) := by decide +kernel
theorem dX8_isWell_0 : decode cX8_isWell 0 = .ok (.aload_n 0, 1) := by decide +kernel
theorem dX8_isWell_1 : decode cX8_isWell 1 = .ok (.getfield 113, 3) := by decide +kernel
theorem dX8_isWell_4 : decode cX8_isWell 4 = .ok (.ifCond .ge 7, 3) := by decide +kernel
theorem dX8_isWell_7 : decode cX8_isWell 7 = .ok (.iconst 1, 1) := by decide +kernel
theorem dX8_isWell_8 : decode cX8_isWell 8 = .ok (.goto 4, 3) := by decide +kernel
theorem dX8_isWell_11 : decode cX8_isWell 11 = .ok (.iconst 0, 1) := by decide +kernel
theorem dX8_isWell_12 : decode cX8_isWell 12 = .ok (.ireturn, 1) := by decide +kernel
theorem dX8_takes_0 : decode cX8_takes 0 = .ok (.aload_n 0, 1) := by decide +kernel
theorem dX8_takes_1 : decode cX8_takes 1 = .ok (.invokevirtual 116, 3) := by decide +kernel
theorem dX8_takes_4 : decode cX8_takes 4 = .ok (.ifCond .ne 5, 3) := by decide +kernel
theorem dX8_takes_7 : decode cX8_takes 7 = .ok (.iconst 0, 1) := by decide +kernel
theorem dX8_takes_8 : decode cX8_takes 8 = .ok (.ireturn, 1) := by decide +kernel
theorem dX8_takes_9 : decode cX8_takes 9 = .ok (.iload_n 1, 1) := by decide +kernel
theorem dX8_takes_10 : decode cX8_takes 10 = .ok (.ifCond .ne 18, 3) := by decide +kernel
theorem dX8_takes_13 : decode cX8_takes 13 = .ok (.aload_n 0, 1) := by decide +kernel
theorem dX8_takes_14 : decode cX8_takes 14 = .ok (.aload_n 0, 1) := by decide +kernel
theorem dX8_takes_15 : decode cX8_takes 15 = .ok (.getfield 101, 3) := by decide +kernel
theorem dX8_takes_18 : decode cX8_takes 18 = .ok (.putfield 113, 3) := by decide +kernel
theorem dX8_takes_21 : decode cX8_takes 21 = .ok (.aload_n 0, 1) := by decide +kernel
theorem dX8_takes_22 : decode cX8_takes 22 = .ok (.iload_n 2, 1) := by decide +kernel
theorem dX8_takes_23 : decode cX8_takes 23 = .ok (.putfield 120, 3) := by decide +kernel
theorem dX8_takes_26 : decode cX8_takes 26 = .ok (.iconst 0, 1) := by decide +kernel
theorem dX8_takes_27 : decode cX8_takes 27 = .ok (.ireturn, 1) := by decide +kernel
theorem dX8_takes_28 : decode cX8_takes 28 = .ok (.aload_n 0, 1) := by decide +kernel
theorem dX8_takes_29 : decode cX8_takes 29 = .ok (.getfield 107, 3) := by decide +kernel
theorem dX8_takes_32 : decode cX8_takes 32 = .ok (.istore_n 3, 1) := by decide +kernel
theorem dX8_takes_33 : decode cX8_takes 33 = .ok (.aload_n 0, 1) := by decide +kernel
theorem dX8_takes_34 : decode cX8_takes 34 = .ok (.invokevirtual 123, 3) := by decide +kernel
theorem dX8_takes_37 : decode cX8_takes 37 = .ok (.iload_n 3, 1) := by decide +kernel
theorem dX8_takes_38 : decode cX8_takes 38 = .ok (.ireturn, 1) := by decide +kernel
theorem dX8_figure_0 : decode cX8_figure 0 = .ok (.aload_n 0, 1) := by decide +kernel
theorem dX8_figure_1 : decode cX8_figure 1 = .ok (.invokevirtual 116, 3) := by decide +kernel
theorem dX8_figure_4 : decode cX8_figure 4 = .ok (.ifCond .eq 18, 3) := by decide +kernel
theorem dX8_figure_7 : decode cX8_figure 7 = .ok (.aload_n 0, 1) := by decide +kernel
theorem dX8_figure_8 : decode cX8_figure 8 = .ok (.getfield 110, 3) := by decide +kernel
theorem dX8_figure_11 : decode cX8_figure 11 = .ok (.iconst 2, 1) := by decide +kernel
theorem dX8_figure_12 : decode cX8_figure 12 = .ok (.if_icmp .eq 10, 3) := by decide +kernel
theorem dX8_figure_15 : decode cX8_figure 15 = .ok (.aload_n 0, 1) := by decide +kernel
theorem dX8_figure_16 : decode cX8_figure 16 = .ok (.iconst 0, 1) := by decide +kernel
theorem dX8_figure_17 : decode cX8_figure 17 = .ok (.iconst 1, 1) := by decide +kernel
theorem dX8_figure_18 : decode cX8_figure 18 = .ok (.invokevirtual 126, 3) := by decide +kernel
theorem dX8_figure_21 : decode cX8_figure 21 = .ok (.ireturn, 1) := by decide +kernel
theorem dX8_figure_22 : decode cX8_figure 22 = .ok (.aload_n 0, 1) := by decide +kernel
theorem dX8_figure_23 : decode cX8_figure 23 = .ok (.aload_n 0, 1) := by decide +kernel
theorem dX8_figure_24 : decode cX8_figure 24 = .ok (.getfield 107, 3) := by decide +kernel
theorem dX8_figure_27 : decode cX8_figure 27 = .ok (.iload_n 1, 1) := by decide +kernel
theorem dX8_figure_28 : decode cX8_figure 28 = .ok (.iload_n 2, 1) := by decide +kernel
theorem dX8_figure_29 : decode cX8_figure 29 = .ok (.invokestatic 68, 3) := by decide +kernel
theorem dX8_figure_32 : decode cX8_figure 32 = .ok (.iconst 2, 1) := by decide +kernel
theorem dX8_figure_33 : decode cX8_figure 33 = .ok (.invokevirtual 126, 3) := by decide +kernel
theorem dX8_figure_36 : decode cX8_figure 36 = .ok (.ireturn, 1) := by decide +kernel
theorem dX8_kindOf_0 : decode cX8_kindOf 0 = .ok (.iload_n 0, 1) := by decide +kernel
theorem dX8_kindOf_1 : decode cX8_kindOf 1 = .ok (.bipush 99, 2) := by decide +kernel
theorem dX8_kindOf_3 : decode cX8_kindOf 3 = .ok (.if_icmp .ne 7, 3) := by decide +kernel
theorem dX8_kindOf_6 : decode cX8_kindOf 6 = .ok (.iconst 1, 1) := by decide +kernel
theorem dX8_kindOf_7 : decode cX8_kindOf 7 = .ok (.goto 44, 3) := by decide +kernel
theorem dX8_kindOf_10 : decode cX8_kindOf 10 = .ok (.iload_n 0, 1) := by decide +kernel
theorem dX8_kindOf_11 : decode cX8_kindOf 11 = .ok (.bipush 114, 2) := by decide +kernel
theorem dX8_kindOf_13 : decode cX8_kindOf 13 = .ok (.if_icmp .ne 7, 3) := by decide +kernel
theorem dX8_kindOf_16 : decode cX8_kindOf 16 = .ok (.iconst 2, 1) := by decide +kernel
theorem dX8_kindOf_17 : decode cX8_kindOf 17 = .ok (.goto 34, 3) := by decide +kernel
theorem dX8_kindOf_20 : decode cX8_kindOf 20 = .ok (.iload_n 0, 1) := by decide +kernel
theorem dX8_kindOf_21 : decode cX8_kindOf 21 = .ok (.bipush 108, 2) := by decide +kernel
theorem dX8_kindOf_23 : decode cX8_kindOf 23 = .ok (.if_icmp .ne 7, 3) := by decide +kernel
theorem dX8_kindOf_26 : decode cX8_kindOf 26 = .ok (.iconst 3, 1) := by decide +kernel
theorem dX8_kindOf_27 : decode cX8_kindOf 27 = .ok (.goto 24, 3) := by decide +kernel
theorem dX8_kindOf_30 : decode cX8_kindOf 30 = .ok (.iload_n 0, 1) := by decide +kernel
theorem dX8_kindOf_31 : decode cX8_kindOf 31 = .ok (.bipush 104, 2) := by decide +kernel
theorem dX8_kindOf_33 : decode cX8_kindOf 33 = .ok (.if_icmp .ne 7, 3) := by decide +kernel
theorem dX8_kindOf_36 : decode cX8_kindOf 36 = .ok (.iconst 4, 1) := by decide +kernel
theorem dX8_kindOf_37 : decode cX8_kindOf 37 = .ok (.goto 14, 3) := by decide +kernel
theorem dX8_kindOf_40 : decode cX8_kindOf 40 = .ok (.iload_n 0, 1) := by decide +kernel
theorem dX8_kindOf_41 : decode cX8_kindOf 41 = .ok (.bipush 111, 2) := by decide +kernel
theorem dX8_kindOf_43 : decode cX8_kindOf 43 = .ok (.if_icmp .ne 7, 3) := by decide +kernel
theorem dX8_kindOf_46 : decode cX8_kindOf 46 = .ok (.iconst 5, 1) := by decide +kernel
theorem dX8_kindOf_47 : decode cX8_kindOf 47 = .ok (.goto 4, 3) := by decide +kernel
theorem dX8_kindOf_50 : decode cX8_kindOf 50 = .ok (.iconst 0, 1) := by decide +kernel
theorem dX8_kindOf_51 : decode cX8_kindOf 51 = .ok (.ireturn, 1) := by decide +kernel
theorem dX8_isLetter_0 : decode cX8_isLetter 0 = .ok (.aload_n 0, 1) := by decide +kernel
theorem dX8_isLetter_1 : decode cX8_isLetter 1 = .ok (.invokevirtual 116, 3) := by decide +kernel
theorem dX8_isLetter_4 : decode cX8_isLetter 4 = .ok (.ifCond .eq 23, 3) := by decide +kernel
theorem dX8_isLetter_7 : decode cX8_isLetter 7 = .ok (.aload_n 0, 1) := by decide +kernel
theorem dX8_isLetter_8 : decode cX8_isLetter 8 = .ok (.getfield 110, 3) := by decide +kernel
theorem dX8_isLetter_11 : decode cX8_isLetter 11 = .ok (.iconst 1, 1) := by decide +kernel
theorem dX8_isLetter_12 : decode cX8_isLetter 12 = .ok (.if_icmp .ne 15, 3) := by decide +kernel
theorem dX8_isLetter_15 : decode cX8_isLetter 15 = .ok (.aload_n 0, 1) := by decide +kernel
theorem dX8_isLetter_16 : decode cX8_isLetter 16 = .ok (.getfield 107, 3) := by decide +kernel
theorem dX8_isLetter_19 : decode cX8_isLetter 19 = .ok (.iload_n 1, 1) := by decide +kernel
theorem dX8_isLetter_20 : decode cX8_isLetter 20 = .ok (.if_icmp .ne 7, 3) := by decide +kernel
theorem dX8_isLetter_23 : decode cX8_isLetter 23 = .ok (.iconst 1, 1) := by decide +kernel
theorem dX8_isLetter_24 : decode cX8_isLetter 24 = .ok (.goto 4, 3) := by decide +kernel
theorem dX8_isLetter_27 : decode cX8_isLetter 27 = .ok (.iconst 0, 1) := by decide +kernel
theorem dX8_isLetter_28 : decode cX8_isLetter 28 = .ok (.ireturn, 1) := by decide +kernel
theorem dX8_readsChord_0 : decode cX8_readsChord 0 = .ok (.aload_n 0, 1) := by decide +kernel
theorem dX8_readsChord_1 : decode cX8_readsChord 1 = .ok (.getfield 107, 3) := by decide +kernel
theorem dX8_readsChord_4 : decode cX8_readsChord 4 = .ok (.invokestatic 130, 3) := by decide +kernel
theorem dX8_readsChord_7 : decode cX8_readsChord 7 = .ok (.istore_n 3, 1) := by decide +kernel
theorem dX8_readsChord_8 : decode cX8_readsChord 8 = .ok (.aload_n 0, 1) := by decide +kernel
theorem dX8_readsChord_9 : decode cX8_readsChord 9 = .ok (.aload_n 0, 1) := by decide +kernel
theorem dX8_readsChord_10 : decode cX8_readsChord 10 = .ok (.getfield 110, 3) := by decide +kernel
theorem dX8_readsChord_13 : decode cX8_readsChord 13 = .ok (.iconst 1, 1) := by decide +kernel
theorem dX8_readsChord_14 : decode cX8_readsChord 14 = .ok (.if_icmp .ne 11, 3) := by decide +kernel
theorem dX8_readsChord_17 : decode cX8_readsChord 17 = .ok (.iload_n 3, 1) := by decide +kernel
theorem dX8_readsChord_18 : decode cX8_readsChord 18 = .ok (.ifCond .le 7, 3) := by decide +kernel
theorem dX8_readsChord_21 : decode cX8_readsChord 21 = .ok (.iconst 1, 1) := by decide +kernel
theorem dX8_readsChord_22 : decode cX8_readsChord 22 = .ok (.goto 4, 3) := by decide +kernel
theorem dX8_readsChord_25 : decode cX8_readsChord 25 = .ok (.iconst 0, 1) := by decide +kernel
theorem dX8_readsChord_26 : decode cX8_readsChord 26 = .ok (.iconst 1, 1) := by decide +kernel
theorem dX8_readsChord_27 : decode cX8_readsChord 27 = .ok (.invokevirtual 126, 3) := by decide +kernel
theorem dX8_readsChord_30 : decode cX8_readsChord 30 = .ok (.pop, 1) := by decide +kernel
theorem dX8_readsChord_31 : decode cX8_readsChord 31 = .ok (.aload_n 0, 1) := by decide +kernel
theorem dX8_readsChord_32 : decode cX8_readsChord 32 = .ok (.invokevirtual 116, 3) := by decide +kernel
theorem dX8_readsChord_35 : decode cX8_readsChord 35 = .ok (.ifCond .eq 29, 3) := by decide +kernel
theorem dX8_readsChord_38 : decode cX8_readsChord 38 = .ok (.aload_n 0, 1) := by decide +kernel
theorem dX8_readsChord_39 : decode cX8_readsChord 39 = .ok (.getfield 28, 3) := by decide +kernel
theorem dX8_readsChord_42 : decode cX8_readsChord 42 = .ok (.iconst 1, 1) := by decide +kernel
theorem dX8_readsChord_43 : decode cX8_readsChord 43 = .ok (.iaload, 1) := by decide +kernel
theorem dX8_readsChord_44 : decode cX8_readsChord 44 = .ok (.bipush 10, 2) := by decide +kernel
theorem dX8_readsChord_46 : decode cX8_readsChord 46 = .ok (.if_icmp .ne 18, 3) := by decide +kernel
theorem dX8_readsChord_49 : decode cX8_readsChord 49 = .ok (.aload_n 0, 1) := by decide +kernel
theorem dX8_readsChord_50 : decode cX8_readsChord 50 = .ok (.aload_n 0, 1) := by decide +kernel
theorem dX8_readsChord_51 : decode cX8_readsChord 51 = .ok (.getfield 101, 3) := by decide +kernel
theorem dX8_readsChord_54 : decode cX8_readsChord 54 = .ok (.iconst 1, 1) := by decide +kernel
theorem dX8_readsChord_55 : decode cX8_readsChord 55 = .ok (.isub, 1) := by decide +kernel
theorem dX8_readsChord_56 : decode cX8_readsChord 56 = .ok (.putfield 113, 3) := by decide +kernel
theorem dX8_readsChord_59 : decode cX8_readsChord 59 = .ok (.aload_n 0, 1) := by decide +kernel
theorem dX8_readsChord_60 : decode cX8_readsChord 60 = .ok (.iconst 3, 1) := by decide +kernel
theorem dX8_readsChord_61 : decode cX8_readsChord 61 = .ok (.putfield 120, 3) := by decide +kernel
theorem dX8_readsChord_64 : decode cX8_readsChord 64 = .ok (.iconst 0, 1) := by decide +kernel
theorem dX8_readsChord_65 : decode cX8_readsChord 65 = .ok (.istore 4, 2) := by decide +kernel
theorem dX8_readsChord_67 : decode cX8_readsChord 67 = .ok (.iconst (-1), 1) := by decide +kernel
theorem dX8_readsChord_68 : decode cX8_readsChord 68 = .ok (.istore 5, 2) := by decide +kernel
theorem dX8_readsChord_70 : decode cX8_readsChord 70 = .ok (.aload_n 0, 1) := by decide +kernel
theorem dX8_readsChord_71 : decode cX8_readsChord 71 = .ok (.invokevirtual 116, 3) := by decide +kernel
theorem dX8_readsChord_74 : decode cX8_readsChord 74 = .ok (.istore 6, 2) := by decide +kernel
theorem dX8_readsChord_76 : decode cX8_readsChord 76 = .ok (.iload 6, 2) := by decide +kernel
theorem dX8_readsChord_78 : decode cX8_readsChord 78 = .ok (.ifCond .eq 87, 3) := by decide +kernel
theorem dX8_readsChord_81 : decode cX8_readsChord 81 = .ok (.aload_n 0, 1) := by decide +kernel
theorem dX8_readsChord_82 : decode cX8_readsChord 82 = .ok (.iload 5, 2) := by decide +kernel
theorem dX8_readsChord_84 : decode cX8_readsChord 84 = .ok (.iconst 1, 1) := by decide +kernel
theorem dX8_readsChord_85 : decode cX8_readsChord 85 = .ok (.iadd, 1) := by decide +kernel
theorem dX8_readsChord_86 : decode cX8_readsChord 86 = .ok (.bipush 11, 2) := by decide +kernel
theorem dX8_readsChord_88 : decode cX8_readsChord 88 = .ok (.invokevirtual 133, 3) := by decide +kernel
theorem dX8_readsChord_91 : decode cX8_readsChord 91 = .ok (.istore 5, 2) := by decide +kernel
theorem dX8_readsChord_93 : decode cX8_readsChord 93 = .ok (.aload_n 0, 1) := by decide +kernel
theorem dX8_readsChord_94 : decode cX8_readsChord 94 = .ok (.invokevirtual 116, 3) := by decide +kernel
theorem dX8_readsChord_97 : decode cX8_readsChord 97 = .ok (.ifCond .eq 25, 3) := by decide +kernel
theorem dX8_readsChord_100 : decode cX8_readsChord 100 = .ok (.aload_n 0, 1) := by decide +kernel
theorem dX8_readsChord_101 : decode cX8_readsChord 101 = .ok (.getfield 28, 3) := by decide +kernel
theorem dX8_readsChord_104 : decode cX8_readsChord 104 = .ok (.bipush 53, 2) := by decide +kernel
theorem dX8_readsChord_106 : decode cX8_readsChord 106 = .ok (.aload_n 0, 1) := by decide +kernel
theorem dX8_readsChord_107 : decode cX8_readsChord 107 = .ok (.getfield 28, 3) := by decide +kernel
theorem dX8_readsChord_110 : decode cX8_readsChord 110 = .ok (.iconst 2, 1) := by decide +kernel
theorem dX8_readsChord_111 : decode cX8_readsChord 111 = .ok (.iaload, 1) := by decide +kernel
theorem dX8_readsChord_112 : decode cX8_readsChord 112 = .ok (.iadd, 1) := by decide +kernel
theorem dX8_readsChord_113 : decode cX8_readsChord 113 = .ok (.iload 4, 2) := by decide +kernel
theorem dX8_readsChord_115 : decode cX8_readsChord 115 = .ok (.iadd, 1) := by decide +kernel
theorem dX8_readsChord_116 : decode cX8_readsChord 116 = .ok (.iload 5, 2) := by decide +kernel
theorem dX8_readsChord_118 : decode cX8_readsChord 118 = .ok (.iastore, 1) := by decide +kernel
theorem dX8_readsChord_119 : decode cX8_readsChord 119 = .ok (.iinc 4 1, 3) := by decide +kernel
theorem dX8_readsChord_122 : decode cX8_readsChord 122 = .ok (.aload_n 0, 1) := by decide +kernel
theorem dX8_readsChord_123 : decode cX8_readsChord 123 = .ok (.invokevirtual 116, 3) := by decide +kernel
theorem dX8_readsChord_126 : decode cX8_readsChord 126 = .ok (.ifCond .eq 21, 3) := by decide +kernel
theorem dX8_readsChord_129 : decode cX8_readsChord 129 = .ok (.aload_n 0, 1) := by decide +kernel
theorem dX8_readsChord_130 : decode cX8_readsChord 130 = .ok (.getfield 110, 3) := by decide +kernel
theorem dX8_readsChord_133 : decode cX8_readsChord 133 = .ok (.iconst 3, 1) := by decide +kernel
theorem dX8_readsChord_134 : decode cX8_readsChord 134 = .ok (.if_icmp .ne 13, 3) := by decide +kernel
theorem dX8_readsChord_137 : decode cX8_readsChord 137 = .ok (.iload 4, 2) := by decide +kernel
theorem dX8_readsChord_139 : decode cX8_readsChord 139 = .ok (.iconst 4, 1) := by decide +kernel
theorem dX8_readsChord_140 : decode cX8_readsChord 140 = .ok (.if_icmp .ge 7, 3) := by decide +kernel
theorem dX8_readsChord_143 : decode cX8_readsChord 143 = .ok (.iconst 1, 1) := by decide +kernel
theorem dX8_readsChord_144 : decode cX8_readsChord 144 = .ok (.goto 4, 3) := by decide +kernel
theorem dX8_readsChord_147 : decode cX8_readsChord 147 = .ok (.iconst 0, 1) := by decide +kernel
theorem dX8_readsChord_148 : decode cX8_readsChord 148 = .ok (.istore 6, 2) := by decide +kernel
theorem dX8_readsChord_150 : decode cX8_readsChord 150 = .ok (.iload 6, 2) := by decide +kernel
theorem dX8_readsChord_152 : decode cX8_readsChord 152 = .ok (.ifCond .eq (-76), 3) := by decide +kernel
theorem dX8_readsChord_155 : decode cX8_readsChord 155 = .ok (.aload_n 0, 1) := by decide +kernel
theorem dX8_readsChord_156 : decode cX8_readsChord 156 = .ok (.iconst 1, 1) := by decide +kernel
theorem dX8_readsChord_157 : decode cX8_readsChord 157 = .ok (.iconst 1, 1) := by decide +kernel
theorem dX8_readsChord_158 : decode cX8_readsChord 158 = .ok (.invokevirtual 126, 3) := by decide +kernel
theorem dX8_readsChord_161 : decode cX8_readsChord 161 = .ok (.pop, 1) := by decide +kernel
theorem dX8_readsChord_162 : decode cX8_readsChord 162 = .ok (.goto (-86), 3) := by decide +kernel
theorem dX8_readsChord_165 : decode cX8_readsChord 165 = .ok (.aload_n 0, 1) := by decide +kernel
theorem dX8_readsChord_166 : decode cX8_readsChord 166 = .ok (.aload_n 0, 1) := by decide +kernel
theorem dX8_readsChord_167 : decode cX8_readsChord 167 = .ok (.getfield 110, 3) := by decide +kernel
theorem dX8_readsChord_170 : decode cX8_readsChord 170 = .ok (.iconst 4, 1) := by decide +kernel
theorem dX8_readsChord_171 : decode cX8_readsChord 171 = .ok (.if_icmp .ne 7, 3) := by decide +kernel
theorem dX8_readsChord_174 : decode cX8_readsChord 174 = .ok (.iconst 1, 1) := by decide +kernel
theorem dX8_readsChord_175 : decode cX8_readsChord 175 = .ok (.goto 4, 3) := by decide +kernel
theorem dX8_readsChord_178 : decode cX8_readsChord 178 = .ok (.iconst 0, 1) := by decide +kernel
theorem dX8_readsChord_179 : decode cX8_readsChord 179 = .ok (.iconst 1, 1) := by decide +kernel
theorem dX8_readsChord_180 : decode cX8_readsChord 180 = .ok (.invokevirtual 126, 3) := by decide +kernel
theorem dX8_readsChord_183 : decode cX8_readsChord 183 = .ok (.pop, 1) := by decide +kernel
theorem dX8_readsChord_184 : decode cX8_readsChord 184 = .ok (.aload_n 0, 1) := by decide +kernel
theorem dX8_readsChord_185 : decode cX8_readsChord 185 = .ok (.invokevirtual 116, 3) := by decide +kernel
theorem dX8_readsChord_188 : decode cX8_readsChord 188 = .ok (.ifCond .eq 106, 3) := by decide +kernel
theorem dX8_readsChord_191 : decode cX8_readsChord 191 = .ok (.iconst 3, 1) := by decide +kernel
theorem dX8_readsChord_192 : decode cX8_readsChord 192 = .ok (.iconst 5, 1) := by decide +kernel
theorem dX8_readsChord_193 : decode cX8_readsChord 193 = .ok (.aload_n 0, 1) := by decide +kernel
theorem dX8_readsChord_194 : decode cX8_readsChord 194 = .ok (.getfield 28, 3) := by decide +kernel
theorem dX8_readsChord_197 : decode cX8_readsChord 197 = .ok (.iconst 1, 1) := by decide +kernel
theorem dX8_readsChord_198 : decode cX8_readsChord 198 = .ok (.iaload, 1) := by decide +kernel
theorem dX8_readsChord_199 : decode cX8_readsChord 199 = .ok (.imul, 1) := by decide +kernel
theorem dX8_readsChord_200 : decode cX8_readsChord 200 = .ok (.iadd, 1) := by decide +kernel
theorem dX8_readsChord_201 : decode cX8_readsChord 201 = .ok (.istore 7, 2) := by decide +kernel
theorem dX8_readsChord_203 : decode cX8_readsChord 203 = .ok (.aload_n 0, 1) := by decide +kernel
theorem dX8_readsChord_204 : decode cX8_readsChord 204 = .ok (.getfield 28, 3) := by decide +kernel
theorem dX8_readsChord_207 : decode cX8_readsChord 207 = .ok (.iload 7, 2) := by decide +kernel
theorem dX8_readsChord_209 : decode cX8_readsChord 209 = .ok (.iload_n 3, 1) := by decide +kernel
theorem dX8_readsChord_210 : decode cX8_readsChord 210 = .ok (.iastore, 1) := by decide +kernel
theorem dX8_readsChord_211 : decode cX8_readsChord 211 = .ok (.aload_n 0, 1) := by decide +kernel
theorem dX8_readsChord_212 : decode cX8_readsChord 212 = .ok (.getfield 28, 3) := by decide +kernel
theorem dX8_readsChord_215 : decode cX8_readsChord 215 = .ok (.iload 7, 2) := by decide +kernel
theorem dX8_readsChord_217 : decode cX8_readsChord 217 = .ok (.iconst 1, 1) := by decide +kernel
theorem dX8_readsChord_218 : decode cX8_readsChord 218 = .ok (.iadd, 1) := by decide +kernel
theorem dX8_readsChord_219 : decode cX8_readsChord 219 = .ok (.aload_n 0, 1) := by decide +kernel
theorem dX8_readsChord_220 : decode cX8_readsChord 220 = .ok (.getfield 28, 3) := by decide +kernel
theorem dX8_readsChord_223 : decode cX8_readsChord 223 = .ok (.iconst 2, 1) := by decide +kernel
theorem dX8_readsChord_224 : decode cX8_readsChord 224 = .ok (.iaload, 1) := by decide +kernel
theorem dX8_readsChord_225 : decode cX8_readsChord 225 = .ok (.iastore, 1) := by decide +kernel
theorem dX8_readsChord_226 : decode cX8_readsChord 226 = .ok (.aload_n 0, 1) := by decide +kernel
theorem dX8_readsChord_227 : decode cX8_readsChord 227 = .ok (.getfield 28, 3) := by decide +kernel
theorem dX8_readsChord_230 : decode cX8_readsChord 230 = .ok (.iload 7, 2) := by decide +kernel
theorem dX8_readsChord_232 : decode cX8_readsChord 232 = .ok (.iconst 2, 1) := by decide +kernel
theorem dX8_readsChord_233 : decode cX8_readsChord 233 = .ok (.iadd, 1) := by decide +kernel
theorem dX8_readsChord_234 : decode cX8_readsChord 234 = .ok (.iload 4, 2) := by decide +kernel
theorem dX8_readsChord_236 : decode cX8_readsChord 236 = .ok (.iastore, 1) := by decide +kernel
theorem dX8_readsChord_237 : decode cX8_readsChord 237 = .ok (.aload_n 0, 1) := by decide +kernel
theorem dX8_readsChord_238 : decode cX8_readsChord 238 = .ok (.getfield 28, 3) := by decide +kernel
theorem dX8_readsChord_241 : decode cX8_readsChord 241 = .ok (.iload 7, 2) := by decide +kernel
theorem dX8_readsChord_243 : decode cX8_readsChord 243 = .ok (.iconst 3, 1) := by decide +kernel
theorem dX8_readsChord_244 : decode cX8_readsChord 244 = .ok (.iadd, 1) := by decide +kernel
theorem dX8_readsChord_245 : decode cX8_readsChord 245 = .ok (.iload_n 1, 1) := by decide +kernel
theorem dX8_readsChord_246 : decode cX8_readsChord 246 = .ok (.ifCond .eq 7, 3) := by decide +kernel
theorem dX8_readsChord_249 : decode cX8_readsChord 249 = .ok (.iconst 1, 1) := by decide +kernel
theorem dX8_readsChord_250 : decode cX8_readsChord 250 = .ok (.goto 4, 3) := by decide +kernel
theorem dX8_readsChord_253 : decode cX8_readsChord 253 = .ok (.iconst 0, 1) := by decide +kernel
theorem dX8_readsChord_254 : decode cX8_readsChord 254 = .ok (.iastore, 1) := by decide +kernel
theorem dX8_readsChord_255 : decode cX8_readsChord 255 = .ok (.aload_n 0, 1) := by decide +kernel
theorem dX8_readsChord_256 : decode cX8_readsChord 256 = .ok (.getfield 28, 3) := by decide +kernel
theorem dX8_readsChord_259 : decode cX8_readsChord 259 = .ok (.iload 7, 2) := by decide +kernel
theorem dX8_readsChord_261 : decode cX8_readsChord 261 = .ok (.iconst 4, 1) := by decide +kernel
theorem dX8_readsChord_262 : decode cX8_readsChord 262 = .ok (.iadd, 1) := by decide +kernel
theorem dX8_readsChord_263 : decode cX8_readsChord 263 = .ok (.iload_n 2, 1) := by decide +kernel
theorem dX8_readsChord_264 : decode cX8_readsChord 264 = .ok (.ifCond .eq 7, 3) := by decide +kernel
theorem dX8_readsChord_267 : decode cX8_readsChord 267 = .ok (.iconst 1, 1) := by decide +kernel
theorem dX8_readsChord_268 : decode cX8_readsChord 268 = .ok (.goto 4, 3) := by decide +kernel
theorem dX8_readsChord_271 : decode cX8_readsChord 271 = .ok (.iconst 0, 1) := by decide +kernel
theorem dX8_readsChord_272 : decode cX8_readsChord 272 = .ok (.iastore, 1) := by decide +kernel
theorem dX8_readsChord_273 : decode cX8_readsChord 273 = .ok (.aload_n 0, 1) := by decide +kernel
theorem dX8_readsChord_274 : decode cX8_readsChord 274 = .ok (.getfield 28, 3) := by decide +kernel
theorem dX8_readsChord_277 : decode cX8_readsChord 277 = .ok (.iconst 1, 1) := by decide +kernel
theorem dX8_readsChord_278 : decode cX8_readsChord 278 = .ok (.dup2, 1) := by decide +kernel
theorem dX8_readsChord_279 : decode cX8_readsChord 279 = .ok (.iaload, 1) := by decide +kernel
theorem dX8_readsChord_280 : decode cX8_readsChord 280 = .ok (.iconst 1, 1) := by decide +kernel
theorem dX8_readsChord_281 : decode cX8_readsChord 281 = .ok (.iadd, 1) := by decide +kernel
theorem dX8_readsChord_282 : decode cX8_readsChord 282 = .ok (.iastore, 1) := by decide +kernel
theorem dX8_readsChord_283 : decode cX8_readsChord 283 = .ok (.aload_n 0, 1) := by decide +kernel
theorem dX8_readsChord_284 : decode cX8_readsChord 284 = .ok (.getfield 28, 3) := by decide +kernel
theorem dX8_readsChord_287 : decode cX8_readsChord 287 = .ok (.iconst 2, 1) := by decide +kernel
theorem dX8_readsChord_288 : decode cX8_readsChord 288 = .ok (.dup2, 1) := by decide +kernel
theorem dX8_readsChord_289 : decode cX8_readsChord 289 = .ok (.iaload, 1) := by decide +kernel
theorem dX8_readsChord_290 : decode cX8_readsChord 290 = .ok (.iload 4, 2) := by decide +kernel
theorem dX8_readsChord_292 : decode cX8_readsChord 292 = .ok (.iadd, 1) := by decide +kernel
theorem dX8_readsChord_293 : decode cX8_readsChord 293 = .ok (.iastore, 1) := by decide +kernel
theorem dX8_readsChord_294 : decode cX8_readsChord 294 = .ok (.return_, 1) := by decide +kernel
theorem dX8_marks_0 : decode cX8_marks 0 = .ok (.aload_n 0, 1) := by decide +kernel
theorem dX8_marks_1 : decode cX8_marks 1 = .ok (.iload_n 1, 1) := by decide +kernel
theorem dX8_marks_2 : decode cX8_marks 2 = .ok (.invokevirtual 136, 3) := by decide +kernel
theorem dX8_marks_5 : decode cX8_marks 5 = .ok (.istore_n 2, 1) := by decide +kernel
theorem dX8_marks_6 : decode cX8_marks 6 = .ok (.iload_n 2, 1) := by decide +kernel
theorem dX8_marks_7 : decode cX8_marks 7 = .ok (.ifCond .eq 29, 3) := by decide +kernel
theorem dX8_marks_10 : decode cX8_marks 10 = .ok (.aload_n 0, 1) := by decide +kernel
theorem dX8_marks_11 : decode cX8_marks 11 = .ok (.iconst 1, 1) := by decide +kernel
theorem dX8_marks_12 : decode cX8_marks 12 = .ok (.iconst 1, 1) := by decide +kernel
theorem dX8_marks_13 : decode cX8_marks 13 = .ok (.invokevirtual 126, 3) := by decide +kernel
theorem dX8_marks_16 : decode cX8_marks 16 = .ok (.pop, 1) := by decide +kernel
theorem dX8_marks_17 : decode cX8_marks 17 = .ok (.aload_n 0, 1) := by decide +kernel
theorem dX8_marks_18 : decode cX8_marks 18 = .ok (.aload_n 0, 1) := by decide +kernel
theorem dX8_marks_19 : decode cX8_marks 19 = .ok (.getfield 110, 3) := by decide +kernel
theorem dX8_marks_22 : decode cX8_marks 22 = .ok (.iconst 4, 1) := by decide +kernel
theorem dX8_marks_23 : decode cX8_marks 23 = .ok (.if_icmp .ne 7, 3) := by decide +kernel
theorem dX8_marks_26 : decode cX8_marks 26 = .ok (.iconst 1, 1) := by decide +kernel
theorem dX8_marks_27 : decode cX8_marks 27 = .ok (.goto 4, 3) := by decide +kernel
theorem dX8_marks_30 : decode cX8_marks 30 = .ok (.iconst 0, 1) := by decide +kernel
theorem dX8_marks_31 : decode cX8_marks 31 = .ok (.iconst 1, 1) := by decide +kernel
theorem dX8_marks_32 : decode cX8_marks 32 = .ok (.invokevirtual 126, 3) := by decide +kernel
theorem dX8_marks_35 : decode cX8_marks 35 = .ok (.pop, 1) := by decide +kernel
theorem dX8_marks_36 : decode cX8_marks 36 = .ok (.iload_n 2, 1) := by decide +kernel
theorem dX8_marks_37 : decode cX8_marks 37 = .ok (.ireturn, 1) := by decide +kernel
theorem dX8_piece_0 : decode cX8_piece 0 = .ok (.iconst 0, 1) := by decide +kernel
theorem dX8_piece_1 : decode cX8_piece 1 = .ok (.istore_n 1, 1) := by decide +kernel
theorem dX8_piece_2 : decode cX8_piece 2 = .ok (.iload_n 1, 1) := by decide +kernel
theorem dX8_piece_3 : decode cX8_piece 3 = .ok (.bipush 93, 2) := by decide +kernel
theorem dX8_piece_5 : decode cX8_piece 5 = .ok (.if_icmp .ge 16, 3) := by decide +kernel
theorem dX8_piece_8 : decode cX8_piece 8 = .ok (.aload_n 0, 1) := by decide +kernel
theorem dX8_piece_9 : decode cX8_piece 9 = .ok (.getfield 28, 3) := by decide +kernel
theorem dX8_piece_12 : decode cX8_piece 12 = .ok (.iload_n 1, 1) := by decide +kernel
theorem dX8_piece_13 : decode cX8_piece 13 = .ok (.iconst 0, 1) := by decide +kernel
theorem dX8_piece_14 : decode cX8_piece 14 = .ok (.iastore, 1) := by decide +kernel
theorem dX8_piece_15 : decode cX8_piece 15 = .ok (.iinc 1 1, 3) := by decide +kernel
theorem dX8_piece_18 : decode cX8_piece 18 = .ok (.goto (-16), 3) := by decide +kernel
theorem dX8_piece_21 : decode cX8_piece 21 = .ok (.aload_n 0, 1) := by decide +kernel
theorem dX8_piece_22 : decode cX8_piece 22 = .ok (.iconst 0, 1) := by decide +kernel
theorem dX8_piece_23 : decode cX8_piece 23 = .ok (.putfield 98, 3) := by decide +kernel
theorem dX8_piece_26 : decode cX8_piece 26 = .ok (.aload_n 0, 1) := by decide +kernel
theorem dX8_piece_27 : decode cX8_piece 27 = .ok (.iconst (-1), 1) := by decide +kernel
theorem dX8_piece_28 : decode cX8_piece 28 = .ok (.putfield 113, 3) := by decide +kernel
theorem dX8_piece_31 : decode cX8_piece 31 = .ok (.aload_n 0, 1) := by decide +kernel
theorem dX8_piece_32 : decode cX8_piece 32 = .ok (.invokevirtual 123, 3) := by decide +kernel
theorem dX8_piece_35 : decode cX8_piece 35 = .ok (.aload_n 0, 1) := by decide +kernel
theorem dX8_piece_36 : decode cX8_piece 36 = .ok (.aload_n 0, 1) := by decide +kernel
theorem dX8_piece_37 : decode cX8_piece 37 = .ok (.getfield 110, 3) := by decide +kernel
theorem dX8_piece_40 : decode cX8_piece 40 = .ok (.iconst 1, 1) := by decide +kernel
theorem dX8_piece_41 : decode cX8_piece 41 = .ok (.if_icmp .ne 16, 3) := by decide +kernel
theorem dX8_piece_44 : decode cX8_piece 44 = .ok (.aload_n 0, 1) := by decide +kernel
theorem dX8_piece_45 : decode cX8_piece 45 = .ok (.getfield 107, 3) := by decide +kernel
theorem dX8_piece_48 : decode cX8_piece 48 = .ok (.bipush 107, 2) := by decide +kernel
theorem dX8_piece_50 : decode cX8_piece 50 = .ok (.if_icmp .ne 7, 3) := by decide +kernel
theorem dX8_piece_53 : decode cX8_piece 53 = .ok (.iconst 1, 1) := by decide +kernel
theorem dX8_piece_54 : decode cX8_piece 54 = .ok (.goto 4, 3) := by decide +kernel
theorem dX8_piece_57 : decode cX8_piece 57 = .ok (.iconst 0, 1) := by decide +kernel
theorem dX8_piece_58 : decode cX8_piece 58 = .ok (.iconst 1, 1) := by decide +kernel
theorem dX8_piece_59 : decode cX8_piece 59 = .ok (.invokevirtual 126, 3) := by decide +kernel
theorem dX8_piece_62 : decode cX8_piece 62 = .ok (.pop, 1) := by decide +kernel
theorem dX8_piece_63 : decode cX8_piece 63 = .ok (.aload_n 0, 1) := by decide +kernel
theorem dX8_piece_64 : decode cX8_piece 64 = .ok (.getfield 28, 3) := by decide +kernel
theorem dX8_piece_67 : decode cX8_piece 67 = .ok (.iconst 0, 1) := by decide +kernel
theorem dX8_piece_68 : decode cX8_piece 68 = .ok (.aload_n 0, 1) := by decide +kernel
theorem dX8_piece_69 : decode cX8_piece 69 = .ok (.iconst 0, 1) := by decide +kernel
theorem dX8_piece_70 : decode cX8_piece 70 = .ok (.bipush 14, 2) := by decide +kernel
theorem dX8_piece_72 : decode cX8_piece 72 = .ok (.invokevirtual 133, 3) := by decide +kernel
theorem dX8_piece_75 : decode cX8_piece 75 = .ok (.iastore, 1) := by decide +kernel
theorem dX8_piece_76 : decode cX8_piece 76 = .ok (.aload_n 0, 1) := by decide +kernel
theorem dX8_piece_77 : decode cX8_piece 77 = .ok (.aload_n 0, 1) := by decide +kernel
theorem dX8_piece_78 : decode cX8_piece 78 = .ok (.getfield 110, 3) := by decide +kernel
theorem dX8_piece_81 : decode cX8_piece 81 = .ok (.iconst 4, 1) := by decide +kernel
theorem dX8_piece_82 : decode cX8_piece 82 = .ok (.if_icmp .ne 7, 3) := by decide +kernel
theorem dX8_piece_85 : decode cX8_piece 85 = .ok (.iconst 1, 1) := by decide +kernel
theorem dX8_piece_86 : decode cX8_piece 86 = .ok (.goto 4, 3) := by decide +kernel
theorem dX8_piece_89 : decode cX8_piece 89 = .ok (.iconst 0, 1) := by decide +kernel
theorem dX8_piece_90 : decode cX8_piece 90 = .ok (.iconst 1, 1) := by decide +kernel
theorem dX8_piece_91 : decode cX8_piece 91 = .ok (.invokevirtual 126, 3) := by decide +kernel
theorem dX8_piece_94 : decode cX8_piece 94 = .ok (.pop, 1) := by decide +kernel
theorem dX8_piece_95 : decode cX8_piece 95 = .ok (.iconst 1, 1) := by decide +kernel
theorem dX8_piece_96 : decode cX8_piece 96 = .ok (.istore_n 1, 1) := by decide +kernel
theorem dX8_piece_97 : decode cX8_piece 97 = .ok (.iconst 1, 1) := by decide +kernel
theorem dX8_piece_98 : decode cX8_piece 98 = .ok (.istore_n 2, 1) := by decide +kernel
theorem dX8_piece_99 : decode cX8_piece 99 = .ok (.aload_n 0, 1) := by decide +kernel
theorem dX8_piece_100 : decode cX8_piece 100 = .ok (.iload_n 1, 1) := by decide +kernel
theorem dX8_piece_101 : decode cX8_piece 101 = .ok (.iload_n 2, 1) := by decide +kernel
theorem dX8_piece_102 : decode cX8_piece 102 = .ok (.invokevirtual 139, 3) := by decide +kernel
theorem dX8_piece_105 : decode cX8_piece 105 = .ok (.aload_n 0, 1) := by decide +kernel
theorem dX8_piece_106 : decode cX8_piece 106 = .ok (.invokevirtual 116, 3) := by decide +kernel
theorem dX8_piece_109 : decode cX8_piece 109 = .ok (.ifCond .eq 14, 3) := by decide +kernel
theorem dX8_piece_112 : decode cX8_piece 112 = .ok (.aload_n 0, 1) := by decide +kernel
theorem dX8_piece_113 : decode cX8_piece 113 = .ok (.getfield 110, 3) := by decide +kernel
theorem dX8_piece_116 : decode cX8_piece 116 = .ok (.ifCond .eq 7, 3) := by decide +kernel
theorem dX8_piece_119 : decode cX8_piece 119 = .ok (.iconst 1, 1) := by decide +kernel
theorem dX8_piece_120 : decode cX8_piece 120 = .ok (.goto 4, 3) := by decide +kernel
theorem dX8_piece_123 : decode cX8_piece 123 = .ok (.iconst 0, 1) := by decide +kernel
theorem dX8_piece_124 : decode cX8_piece 124 = .ok (.istore_n 3, 1) := by decide +kernel
theorem dX8_piece_125 : decode cX8_piece 125 = .ok (.iload_n 3, 1) := by decide +kernel
theorem dX8_piece_126 : decode cX8_piece 126 = .ok (.ifCond .eq 16, 3) := by decide +kernel
theorem dX8_piece_129 : decode cX8_piece 129 = .ok (.aload_n 0, 1) := by decide +kernel
theorem dX8_piece_130 : decode cX8_piece 130 = .ok (.bipush 98, 2) := by decide +kernel
theorem dX8_piece_132 : decode cX8_piece 132 = .ok (.invokevirtual 143, 3) := by decide +kernel
theorem dX8_piece_135 : decode cX8_piece 135 = .ok (.ifCond .eq 7, 3) := by decide +kernel
theorem dX8_piece_138 : decode cX8_piece 138 = .ok (.iconst 1, 1) := by decide +kernel
theorem dX8_piece_139 : decode cX8_piece 139 = .ok (.goto 4, 3) := by decide +kernel
theorem dX8_piece_142 : decode cX8_piece 142 = .ok (.iconst 0, 1) := by decide +kernel
theorem dX8_piece_143 : decode cX8_piece 143 = .ok (.istore_n 1, 1) := by decide +kernel
theorem dX8_piece_144 : decode cX8_piece 144 = .ok (.iload_n 3, 1) := by decide +kernel
theorem dX8_piece_145 : decode cX8_piece 145 = .ok (.ifCond .eq 16, 3) := by decide +kernel
theorem dX8_piece_148 : decode cX8_piece 148 = .ok (.aload_n 0, 1) := by decide +kernel
theorem dX8_piece_149 : decode cX8_piece 149 = .ok (.bipush 102, 2) := by decide +kernel
theorem dX8_piece_151 : decode cX8_piece 151 = .ok (.invokevirtual 143, 3) := by decide +kernel
theorem dX8_piece_154 : decode cX8_piece 154 = .ok (.ifCond .eq 7, 3) := by decide +kernel
theorem dX8_piece_157 : decode cX8_piece 157 = .ok (.iconst 1, 1) := by decide +kernel
theorem dX8_piece_158 : decode cX8_piece 158 = .ok (.goto 4, 3) := by decide +kernel
theorem dX8_piece_161 : decode cX8_piece 161 = .ok (.iconst 0, 1) := by decide +kernel
theorem dX8_piece_162 : decode cX8_piece 162 = .ok (.istore_n 2, 1) := by decide +kernel
theorem dX8_piece_163 : decode cX8_piece 163 = .ok (.aload_n 0, 1) := by decide +kernel
theorem dX8_piece_164 : decode cX8_piece 164 = .ok (.invokevirtual 116, 3) := by decide +kernel
theorem dX8_piece_167 : decode cX8_piece 167 = .ok (.ifCond .eq 18, 3) := by decide +kernel
theorem dX8_piece_170 : decode cX8_piece 170 = .ok (.iload_n 1, 1) := by decide +kernel
theorem dX8_piece_171 : decode cX8_piece 171 = .ok (.ifCond .ne (-72), 3) := by decide +kernel
theorem dX8_piece_174 : decode cX8_piece 174 = .ok (.iload_n 2, 1) := by decide +kernel
theorem dX8_piece_175 : decode cX8_piece 175 = .ok (.ifCond .ne (-76), 3) := by decide +kernel
theorem dX8_piece_178 : decode cX8_piece 178 = .ok (.aload_n 0, 1) := by decide +kernel
theorem dX8_piece_179 : decode cX8_piece 179 = .ok (.getfield 110, 3) := by decide +kernel
theorem dX8_piece_182 : decode cX8_piece 182 = .ok (.ifCond .ne (-83), 3) := by decide +kernel
theorem dX8_piece_185 : decode cX8_piece 185 = .ok (.aload_n 0, 1) := by decide +kernel
theorem dX8_piece_186 : decode cX8_piece 186 = .ok (.iconst 0, 1) := by decide +kernel
theorem dX8_piece_187 : decode cX8_piece 187 = .ok (.putfield 94, 3) := by decide +kernel
theorem dX8_piece_190 : decode cX8_piece 190 = .ok (.aload_n 0, 1) := by decide +kernel
theorem dX8_piece_191 : decode cX8_piece 191 = .ok (.invokevirtual 116, 3) := by decide +kernel
theorem dX8_piece_194 : decode cX8_piece 194 = .ok (.ifCond .ne 11, 3) := by decide +kernel
theorem dX8_piece_197 : decode cX8_piece 197 = .ok (.ldc 146, 2) := by decide +kernel
theorem dX8_piece_199 : decode cX8_piece 199 = .ok (.aload_n 0, 1) := by decide +kernel
theorem dX8_piece_200 : decode cX8_piece 200 = .ok (.getfield 113, 3) := by decide +kernel
theorem dX8_piece_203 : decode cX8_piece 203 = .ok (.isub, 1) := by decide +kernel
theorem dX8_piece_204 : decode cX8_piece 204 = .ok (.ireturn, 1) := by decide +kernel
theorem dX8_piece_205 : decode cX8_piece 205 = .ok (.aload_n 0, 1) := by decide +kernel
theorem dX8_piece_206 : decode cX8_piece 206 = .ok (.getfield 28, 3) := by decide +kernel
theorem dX8_piece_209 : decode cX8_piece 209 = .ok (.iconst 0, 1) := by decide +kernel
theorem dX8_piece_210 : decode cX8_piece 210 = .ok (.aload_n 0, 1) := by decide +kernel
theorem dX8_piece_211 : decode cX8_piece 211 = .ok (.getfield 25, 3) := by decide +kernel
theorem dX8_piece_214 : decode cX8_piece 214 = .ok (.iconst 0, 1) := by decide +kernel
theorem dX8_piece_215 : decode cX8_piece 215 = .ok (.invokestatic 147, 3) := by decide +kernel
theorem dX8_piece_218 : decode cX8_piece 218 = .ok (.aload_n 0, 1) := by decide +kernel
theorem dX8_piece_219 : decode cX8_piece 219 = .ok (.iconst 0, 1) := by decide +kernel
theorem dX8_piece_220 : decode cX8_piece 220 = .ok (.putfield 151, 3) := by decide +kernel
theorem dX8_piece_223 : decode cX8_piece 223 = .ok (.aload_n 0, 1) := by decide +kernel
theorem dX8_piece_224 : decode cX8_piece 224 = .ok (.getfield 25, 3) := by decide +kernel
theorem dX8_piece_227 : decode cX8_piece 227 = .ok (.iconst 1, 1) := by decide +kernel
theorem dX8_piece_228 : decode cX8_piece 228 = .ok (.iaload, 1) := by decide +kernel
theorem dX8_piece_229 : decode cX8_piece 229 = .ok (.ireturn, 1) := by decide +kernel
theorem dX8_fault_0 : decode cX8_fault 0 = .ok (.aload_n 0, 1) := by decide +kernel
theorem dX8_fault_1 : decode cX8_fault 1 = .ok (.getfield 120, 3) := by decide +kernel
theorem dX8_fault_4 : decode cX8_fault 4 = .ok (.ireturn, 1) := by decide +kernel
theorem dX8_isPiece_0 : decode cX8_isPiece 0 = .ok (.aload_n 0, 1) := by decide +kernel
theorem dX8_isPiece_1 : decode cX8_isPiece 1 = .ok (.getfield 25, 3) := by decide +kernel
theorem dX8_isPiece_4 : decode cX8_isPiece 4 = .ok (.iconst 1, 1) := by decide +kernel
theorem dX8_isPiece_5 : decode cX8_isPiece 5 = .ok (.iaload, 1) := by decide +kernel
theorem dX8_isPiece_6 : decode cX8_isPiece 6 = .ok (.ifCond .le 7, 3) := by decide +kernel
theorem dX8_isPiece_9 : decode cX8_isPiece 9 = .ok (.iconst 1, 1) := by decide +kernel
theorem dX8_isPiece_10 : decode cX8_isPiece 10 = .ok (.goto 4, 3) := by decide +kernel
theorem dX8_isPiece_13 : decode cX8_isPiece 13 = .ok (.iconst 0, 1) := by decide +kernel
theorem dX8_isPiece_14 : decode cX8_isPiece 14 = .ok (.ireturn, 1) := by decide +kernel
theorem dX8_isChord_0 : decode cX8_isChord 0 = .ok (.iload_n 1, 1) := by decide +kernel
theorem dX8_isChord_1 : decode cX8_isChord 1 = .ok (.iconst 0, 1) := by decide +kernel
theorem dX8_isChord_2 : decode cX8_isChord 2 = .ok (.aload_n 0, 1) := by decide +kernel
theorem dX8_isChord_3 : decode cX8_isChord 3 = .ok (.getfield 25, 3) := by decide +kernel
theorem dX8_isChord_6 : decode cX8_isChord 6 = .ok (.iconst 1, 1) := by decide +kernel
theorem dX8_isChord_7 : decode cX8_isChord 7 = .ok (.iaload, 1) := by decide +kernel
theorem dX8_isChord_8 : decode cX8_isChord 8 = .ok (.iconst 1, 1) := by decide +kernel
theorem dX8_isChord_9 : decode cX8_isChord 9 = .ok (.isub, 1) := by decide +kernel
theorem dX8_isChord_10 : decode cX8_isChord 10 = .ok (.invokestatic 68, 3) := by decide +kernel
theorem dX8_isChord_13 : decode cX8_isChord 13 = .ok (.ireturn, 1) := by decide +kernel
theorem dX8_isNote_0 : decode cX8_isNote 0 = .ok (.iload_n 1, 1) := by decide +kernel
theorem dX8_isNote_1 : decode cX8_isNote 1 = .ok (.iconst 0, 1) := by decide +kernel
theorem dX8_isNote_2 : decode cX8_isNote 2 = .ok (.aload_n 0, 1) := by decide +kernel
theorem dX8_isNote_3 : decode cX8_isNote 3 = .ok (.getfield 25, 3) := by decide +kernel
theorem dX8_isNote_6 : decode cX8_isNote 6 = .ok (.iconst 2, 1) := by decide +kernel
theorem dX8_isNote_7 : decode cX8_isNote 7 = .ok (.iaload, 1) := by decide +kernel
theorem dX8_isNote_8 : decode cX8_isNote 8 = .ok (.iconst 1, 1) := by decide +kernel
theorem dX8_isNote_9 : decode cX8_isNote 9 = .ok (.isub, 1) := by decide +kernel
theorem dX8_isNote_10 : decode cX8_isNote 10 = .ok (.invokestatic 68, 3) := by decide +kernel
theorem dX8_isNote_13 : decode cX8_isNote 13 = .ok (.ireturn, 1) := by decide +kernel
theorem dX8_over_0 : decode cX8_over 0 = .ok (.iload_n 0, 1) := by decide +kernel
theorem dX8_over_1 : decode cX8_over 1 = .ok (.iload_n 1, 1) := by decide +kernel
theorem dX8_over_2 : decode cX8_over 2 = .ok (.irem, 1) := by decide +kernel
theorem dX8_over_3 : decode cX8_over 3 = .ok (.istore_n 2, 1) := by decide +kernel
theorem dX8_over_4 : decode cX8_over 4 = .ok (.iload_n 2, 1) := by decide +kernel
theorem dX8_over_5 : decode cX8_over 5 = .ok (.ifCond .ge 9, 3) := by decide +kernel
theorem dX8_over_8 : decode cX8_over 8 = .ok (.iload_n 2, 1) := by decide +kernel
theorem dX8_over_9 : decode cX8_over 9 = .ok (.iload_n 1, 1) := by decide +kernel
theorem dX8_over_10 : decode cX8_over 10 = .ok (.iadd, 1) := by decide +kernel
theorem dX8_over_11 : decode cX8_over 11 = .ok (.goto 4, 3) := by decide +kernel
theorem dX8_over_14 : decode cX8_over 14 = .ok (.iload_n 2, 1) := by decide +kernel
theorem dX8_over_15 : decode cX8_over 15 = .ok (.ireturn, 1) := by decide +kernel
theorem dX8_letterOf_0 : decode cX8_letterOf 0 = .ok (.iload_n 0, 1) := by decide +kernel
theorem dX8_letterOf_1 : decode cX8_letterOf 1 = .ok (.iconst 1, 1) := by decide +kernel
theorem dX8_letterOf_2 : decode cX8_letterOf 2 = .ok (.iadd, 1) := by decide +kernel
theorem dX8_letterOf_3 : decode cX8_letterOf 3 = .ok (.bipush 7, 2) := by decide +kernel
theorem dX8_letterOf_5 : decode cX8_letterOf 5 = .ok (.invokestatic 154, 3) := by decide +kernel
theorem dX8_letterOf_8 : decode cX8_letterOf 8 = .ok (.ireturn, 1) := by decide +kernel
theorem dX8_alterOf_0 : decode cX8_alterOf 0 = .ok (.iload_n 0, 1) := by decide +kernel
theorem dX8_alterOf_1 : decode cX8_alterOf 1 = .ok (.iconst 1, 1) := by decide +kernel
theorem dX8_alterOf_2 : decode cX8_alterOf 2 = .ok (.iadd, 1) := by decide +kernel
theorem dX8_alterOf_3 : decode cX8_alterOf 3 = .ok (.iload_n 0, 1) := by decide +kernel
theorem dX8_alterOf_4 : decode cX8_alterOf 4 = .ok (.invokestatic 157, 3) := by decide +kernel
theorem dX8_alterOf_7 : decode cX8_alterOf 7 = .ok (.isub, 1) := by decide +kernel
theorem dX8_alterOf_8 : decode cX8_alterOf 8 = .ok (.bipush 7, 2) := by decide +kernel
theorem dX8_alterOf_10 : decode cX8_alterOf 10 = .ok (.idiv, 1) := by decide +kernel
theorem dX8_alterOf_11 : decode cX8_alterOf 11 = .ok (.ireturn, 1) := by decide +kernel
theorem dX8_keyOf_0 : decode cX8_keyOf 0 = .ok (.bipush 7, 2) := by decide +kernel
theorem dX8_keyOf_2 : decode cX8_keyOf 2 = .ok (.iload_n 0, 1) := by decide +kernel
theorem dX8_keyOf_3 : decode cX8_keyOf 3 = .ok (.imul, 1) := by decide +kernel
theorem dX8_keyOf_4 : decode cX8_keyOf 4 = .ok (.bipush 12, 2) := by decide +kernel
theorem dX8_keyOf_6 : decode cX8_keyOf 6 = .ok (.invokestatic 154, 3) := by decide +kernel
theorem dX8_keyOf_9 : decode cX8_keyOf 9 = .ok (.ireturn, 1) := by decide +kernel
theorem dX8_nameOf_0 : decode cX8_nameOf 0 = .ok (.iload_n 0, 1) := by decide +kernel
theorem dX8_nameOf_1 : decode cX8_nameOf 1 = .ok (.istore_n 2, 1) := by decide +kernel
theorem dX8_nameOf_2 : decode cX8_nameOf 2 = .ok (.iload_n 2, 1) := by decide +kernel
theorem dX8_nameOf_3 : decode cX8_nameOf 3 = .ok (.invokestatic 160, 3) := by decide +kernel
theorem dX8_nameOf_6 : decode cX8_nameOf 6 = .ok (.iload_n 1, 1) := by decide +kernel
theorem dX8_nameOf_7 : decode cX8_nameOf 7 = .ok (.if_icmp .eq 9, 3) := by decide +kernel
theorem dX8_nameOf_10 : decode cX8_nameOf 10 = .ok (.iinc 2 1, 3) := by decide +kernel
theorem dX8_nameOf_13 : decode cX8_nameOf 13 = .ok (.goto (-11), 3) := by decide +kernel
theorem dX8_nameOf_16 : decode cX8_nameOf 16 = .ok (.iload_n 2, 1) := by decide +kernel
theorem dX8_nameOf_17 : decode cX8_nameOf 17 = .ok (.ireturn, 1) := by decide +kernel
theorem dX8_headOf_0 : decode cX8_headOf 0 = .ok (.aload_n 0, 1) := by decide +kernel
theorem dX8_headOf_1 : decode cX8_headOf 1 = .ok (.iconst 0, 1) := by decide +kernel
theorem dX8_headOf_2 : decode cX8_headOf 2 = .ok (.iaload, 1) := by decide +kernel
theorem dX8_headOf_3 : decode cX8_headOf 3 = .ok (.bipush 7, 2) := by decide +kernel
theorem dX8_headOf_5 : decode cX8_headOf 5 = .ok (.isub, 1) := by decide +kernel
theorem dX8_headOf_6 : decode cX8_headOf 6 = .ok (.istore_n 2, 1) := by decide +kernel
theorem dX8_headOf_7 : decode cX8_headOf 7 = .ok (.iload_n 1, 1) := by decide +kernel
theorem dX8_headOf_8 : decode cX8_headOf 8 = .ok (.iload_n 2, 1) := by decide +kernel
theorem dX8_headOf_9 : decode cX8_headOf 9 = .ok (.if_icmp .ge 7, 3) := by decide +kernel
theorem dX8_headOf_12 : decode cX8_headOf 12 = .ok (.iconst 1, 1) := by decide +kernel
theorem dX8_headOf_13 : decode cX8_headOf 13 = .ok (.goto 16, 3) := by decide +kernel
theorem dX8_headOf_16 : decode cX8_headOf 16 = .ok (.iload_n 1, 1) := by decide +kernel
theorem dX8_headOf_17 : decode cX8_headOf 17 = .ok (.bipush 7, 2) := by decide +kernel
theorem dX8_headOf_19 : decode cX8_headOf 19 = .ok (.iload_n 2, 1) := by decide +kernel
theorem dX8_headOf_20 : decode cX8_headOf 20 = .ok (.iadd, 1) := by decide +kernel
theorem dX8_headOf_21 : decode cX8_headOf 21 = .ok (.if_icmp .lt 7, 3) := by decide +kernel
theorem dX8_headOf_24 : decode cX8_headOf 24 = .ok (.iconst (-1), 1) := by decide +kernel
theorem dX8_headOf_25 : decode cX8_headOf 25 = .ok (.goto 4, 3) := by decide +kernel
theorem dX8_headOf_28 : decode cX8_headOf 28 = .ok (.iconst 0, 1) := by decide +kernel
theorem dX8_headOf_29 : decode cX8_headOf 29 = .ok (.ireturn, 1) := by decide +kernel
theorem dX8_isHeld_0 : decode cX8_isHeld 0 = .ok (.aload_n 0, 1) := by decide +kernel
theorem dX8_isHeld_1 : decode cX8_isHeld 1 = .ok (.iconst 3, 1) := by decide +kernel
theorem dX8_isHeld_2 : decode cX8_isHeld 2 = .ok (.iconst 5, 1) := by decide +kernel
theorem dX8_isHeld_3 : decode cX8_isHeld 3 = .ok (.iload_n 1, 1) := by decide +kernel
theorem dX8_isHeld_4 : decode cX8_isHeld 4 = .ok (.imul, 1) := by decide +kernel
theorem dX8_isHeld_5 : decode cX8_isHeld 5 = .ok (.iadd, 1) := by decide +kernel
theorem dX8_isHeld_6 : decode cX8_isHeld 6 = .ok (.iaload, 1) := by decide +kernel
theorem dX8_isHeld_7 : decode cX8_isHeld 7 = .ok (.iconst 4, 1) := by decide +kernel
theorem dX8_isHeld_8 : decode cX8_isHeld 8 = .ok (.if_icmp .lt 7, 3) := by decide +kernel
theorem dX8_isHeld_11 : decode cX8_isHeld 11 = .ok (.iconst 1, 1) := by decide +kernel
theorem dX8_isHeld_12 : decode cX8_isHeld 12 = .ok (.goto 4, 3) := by decide +kernel
theorem dX8_isHeld_15 : decode cX8_isHeld 15 = .ok (.iconst 0, 1) := by decide +kernel
theorem dX8_isHeld_16 : decode cX8_isHeld 16 = .ok (.ireturn, 1) := by decide +kernel
theorem dX8_nameIn_0 : decode cX8_nameIn 0 = .ok (.iload_n 3, 1) := by decide +kernel
theorem dX8_nameIn_1 : decode cX8_nameIn 1 = .ok (.aload_n 0, 1) := by decide +kernel
theorem dX8_nameIn_2 : decode cX8_nameIn 2 = .ok (.bipush 53, 2) := by decide +kernel
theorem dX8_nameIn_4 : decode cX8_nameIn 4 = .ok (.aload_n 0, 1) := by decide +kernel
theorem dX8_nameIn_5 : decode cX8_nameIn 5 = .ok (.iconst 3, 1) := by decide +kernel
theorem dX8_nameIn_6 : decode cX8_nameIn 6 = .ok (.iconst 5, 1) := by decide +kernel
theorem dX8_nameIn_7 : decode cX8_nameIn 7 = .ok (.iload_n 1, 1) := by decide +kernel
theorem dX8_nameIn_8 : decode cX8_nameIn 8 = .ok (.imul, 1) := by decide +kernel
theorem dX8_nameIn_9 : decode cX8_nameIn 9 = .ok (.iadd, 1) := by decide +kernel
theorem dX8_nameIn_10 : decode cX8_nameIn 10 = .ok (.iconst 1, 1) := by decide +kernel
theorem dX8_nameIn_11 : decode cX8_nameIn 11 = .ok (.iadd, 1) := by decide +kernel
theorem dX8_nameIn_12 : decode cX8_nameIn 12 = .ok (.iaload, 1) := by decide +kernel
theorem dX8_nameIn_13 : decode cX8_nameIn 13 = .ok (.iadd, 1) := by decide +kernel
theorem dX8_nameIn_14 : decode cX8_nameIn 14 = .ok (.iload_n 2, 1) := by decide +kernel
theorem dX8_nameIn_15 : decode cX8_nameIn 15 = .ok (.iadd, 1) := by decide +kernel
theorem dX8_nameIn_16 : decode cX8_nameIn 16 = .ok (.iaload, 1) := by decide +kernel
theorem dX8_nameIn_17 : decode cX8_nameIn 17 = .ok (.invokestatic 163, 3) := by decide +kernel
theorem dX8_nameIn_20 : decode cX8_nameIn 20 = .ok (.ireturn, 1) := by decide +kernel
theorem dX8_priceOfName_0 : decode cX8_priceOfName 0 = .ok (.iload_n 2, 1) := by decide +kernel
theorem dX8_priceOfName_1 : decode cX8_priceOfName 1 = .ok (.invokestatic 166, 3) := by decide +kernel
theorem dX8_priceOfName_4 : decode cX8_priceOfName 4 = .ok (.istore_n 3, 1) := by decide +kernel
theorem dX8_priceOfName_5 : decode cX8_priceOfName 5 = .ok (.iload_n 3, 1) := by decide +kernel
theorem dX8_priceOfName_6 : decode cX8_priceOfName 6 = .ok (.aload_n 0, 1) := by decide +kernel
theorem dX8_priceOfName_7 : decode cX8_priceOfName 7 = .ok (.iload_n 2, 1) := by decide +kernel
theorem dX8_priceOfName_8 : decode cX8_priceOfName 8 = .ok (.invokestatic 157, 3) := by decide +kernel
theorem dX8_priceOfName_11 : decode cX8_priceOfName 11 = .ok (.invokestatic 169, 3) := by decide +kernel
theorem dX8_priceOfName_14 : decode cX8_priceOfName 14 = .ok (.isub, 1) := by decide +kernel
theorem dX8_priceOfName_15 : decode cX8_priceOfName 15 = .ok (.invokestatic 173, 3) := by decide +kernel
theorem dX8_priceOfName_18 : decode cX8_priceOfName 18 = .ok (.istore 4, 2) := by decide +kernel
theorem dX8_priceOfName_20 : decode cX8_priceOfName 20 = .ok (.aload_n 0, 1) := by decide +kernel
theorem dX8_priceOfName_21 : decode cX8_priceOfName 21 = .ok (.iconst 3, 1) := by decide +kernel
theorem dX8_priceOfName_22 : decode cX8_priceOfName 22 = .ok (.iconst 5, 1) := by decide +kernel
theorem dX8_priceOfName_23 : decode cX8_priceOfName 23 = .ok (.iload_n 1, 1) := by decide +kernel
theorem dX8_priceOfName_24 : decode cX8_priceOfName 24 = .ok (.imul, 1) := by decide +kernel
theorem dX8_priceOfName_25 : decode cX8_priceOfName 25 = .ok (.iadd, 1) := by decide +kernel
theorem dX8_priceOfName_26 : decode cX8_priceOfName 26 = .ok (.iaload, 1) := by decide +kernel
theorem dX8_priceOfName_27 : decode cX8_priceOfName 27 = .ok (.istore 5, 2) := by decide +kernel
theorem dX8_priceOfName_29 : decode cX8_priceOfName 29 = .ok (.iload 5, 2) := by decide +kernel
theorem dX8_priceOfName_31 : decode cX8_priceOfName 31 = .ok (.iconst 2, 1) := by decide +kernel
theorem dX8_priceOfName_32 : decode cX8_priceOfName 32 = .ok (.if_icmp .ne 7, 3) := by decide +kernel
theorem dX8_priceOfName_35 : decode cX8_priceOfName 35 = .ok (.iload_n 3, 1) := by decide +kernel
theorem dX8_priceOfName_36 : decode cX8_priceOfName 36 = .ok (.ifCond .gt 13, 3) := by decide +kernel
theorem dX8_priceOfName_39 : decode cX8_priceOfName 39 = .ok (.iload 5, 2) := by decide +kernel
theorem dX8_priceOfName_41 : decode cX8_priceOfName 41 = .ok (.iconst 3, 1) := by decide +kernel
theorem dX8_priceOfName_42 : decode cX8_priceOfName 42 = .ok (.if_icmp .ne 11, 3) := by decide +kernel
theorem dX8_priceOfName_45 : decode cX8_priceOfName 45 = .ok (.iload_n 3, 1) := by decide +kernel
theorem dX8_priceOfName_46 : decode cX8_priceOfName 46 = .ok (.ifCond .ge 7, 3) := by decide +kernel
theorem dX8_priceOfName_49 : decode cX8_priceOfName 49 = .ok (.iconst 1, 1) := by decide +kernel
theorem dX8_priceOfName_50 : decode cX8_priceOfName 50 = .ok (.goto 4, 3) := by decide +kernel
theorem dX8_priceOfName_53 : decode cX8_priceOfName 53 = .ok (.iconst 0, 1) := by decide +kernel
theorem dX8_priceOfName_54 : decode cX8_priceOfName 54 = .ok (.istore 6, 2) := by decide +kernel
theorem dX8_priceOfName_56 : decode cX8_priceOfName 56 = .ok (.iload 6, 2) := by decide +kernel
theorem dX8_priceOfName_58 : decode cX8_priceOfName 58 = .ok (.ifCond .eq 8, 3) := by decide +kernel
theorem dX8_priceOfName_61 : decode cX8_priceOfName 61 = .ok (.iload 4, 2) := by decide +kernel
theorem dX8_priceOfName_63 : decode cX8_priceOfName 63 = .ok (.goto 7, 3) := by decide +kernel
theorem dX8_priceOfName_66 : decode cX8_priceOfName 66 = .ok (.iconst 2, 1) := by decide +kernel
theorem dX8_priceOfName_67 : decode cX8_priceOfName 67 = .ok (.iload 4, 2) := by decide +kernel
theorem dX8_priceOfName_69 : decode cX8_priceOfName 69 = .ok (.imul, 1) := by decide +kernel
theorem dX8_priceOfName_70 : decode cX8_priceOfName 70 = .ok (.ireturn, 1) := by decide +kernel
theorem dX8_priceOf_0 : decode cX8_priceOf 0 = .ok (.iconst 0, 1) := by decide +kernel
theorem dX8_priceOf_1 : decode cX8_priceOf 1 = .ok (.istore_n 3, 1) := by decide +kernel
theorem dX8_priceOf_2 : decode cX8_priceOf 2 = .ok (.aload_n 0, 1) := by decide +kernel
theorem dX8_priceOf_3 : decode cX8_priceOf 3 = .ok (.iconst 3, 1) := by decide +kernel
theorem dX8_priceOf_4 : decode cX8_priceOf 4 = .ok (.iconst 5, 1) := by decide +kernel
theorem dX8_priceOf_5 : decode cX8_priceOf 5 = .ok (.iload_n 1, 1) := by decide +kernel
theorem dX8_priceOf_6 : decode cX8_priceOf 6 = .ok (.imul, 1) := by decide +kernel
theorem dX8_priceOf_7 : decode cX8_priceOf 7 = .ok (.iadd, 1) := by decide +kernel
theorem dX8_priceOf_8 : decode cX8_priceOf 8 = .ok (.iconst 2, 1) := by decide +kernel
theorem dX8_priceOf_9 : decode cX8_priceOf 9 = .ok (.iadd, 1) := by decide +kernel
theorem dX8_priceOf_10 : decode cX8_priceOf 10 = .ok (.iaload, 1) := by decide +kernel
theorem dX8_priceOf_11 : decode cX8_priceOf 11 = .ok (.istore 4, 2) := by decide +kernel
theorem dX8_priceOf_13 : decode cX8_priceOf 13 = .ok (.iconst 0, 1) := by decide +kernel
theorem dX8_priceOf_14 : decode cX8_priceOf 14 = .ok (.istore 5, 2) := by decide +kernel
theorem dX8_priceOf_16 : decode cX8_priceOf 16 = .ok (.iload 5, 2) := by decide +kernel
theorem dX8_priceOf_18 : decode cX8_priceOf 18 = .ok (.iload 4, 2) := by decide +kernel
theorem dX8_priceOf_20 : decode cX8_priceOf 20 = .ok (.if_icmp .ge 83, 3) := by decide +kernel
theorem dX8_priceOf_23 : decode cX8_priceOf 23 = .ok (.aload_n 0, 1) := by decide +kernel
theorem dX8_priceOf_24 : decode cX8_priceOf 24 = .ok (.iconst 3, 1) := by decide +kernel
theorem dX8_priceOf_25 : decode cX8_priceOf 25 = .ok (.iconst 5, 1) := by decide +kernel
theorem dX8_priceOf_26 : decode cX8_priceOf 26 = .ok (.iload_n 1, 1) := by decide +kernel
theorem dX8_priceOf_27 : decode cX8_priceOf 27 = .ok (.imul, 1) := by decide +kernel
theorem dX8_priceOf_28 : decode cX8_priceOf 28 = .ok (.iadd, 1) := by decide +kernel
theorem dX8_priceOf_29 : decode cX8_priceOf 29 = .ok (.iaload, 1) := by decide +kernel
theorem dX8_priceOf_30 : decode cX8_priceOf 30 = .ok (.iconst 5, 1) := by decide +kernel
theorem dX8_priceOf_31 : decode cX8_priceOf 31 = .ok (.if_icmp .eq 72, 3) := by decide +kernel
theorem dX8_priceOf_34 : decode cX8_priceOf 34 = .ok (.aload_n 0, 1) := by decide +kernel
theorem dX8_priceOf_35 : decode cX8_priceOf 35 = .ok (.iload_n 1, 1) := by decide +kernel
theorem dX8_priceOf_36 : decode cX8_priceOf 36 = .ok (.iload 5, 2) := by decide +kernel
theorem dX8_priceOf_38 : decode cX8_priceOf 38 = .ok (.iload_n 2, 1) := by decide +kernel
theorem dX8_priceOf_39 : decode cX8_priceOf 39 = .ok (.invokestatic 176, 3) := by decide +kernel
theorem dX8_priceOf_42 : decode cX8_priceOf 42 = .ok (.istore 6, 2) := by decide +kernel
theorem dX8_priceOf_44 : decode cX8_priceOf 44 = .ok (.iload_n 3, 1) := by decide +kernel
theorem dX8_priceOf_45 : decode cX8_priceOf 45 = .ok (.aload_n 0, 1) := by decide +kernel
theorem dX8_priceOf_46 : decode cX8_priceOf 46 = .ok (.iload_n 1, 1) := by decide +kernel
theorem dX8_priceOf_47 : decode cX8_priceOf 47 = .ok (.iload 6, 2) := by decide +kernel
theorem dX8_priceOf_49 : decode cX8_priceOf 49 = .ok (.invokestatic 180, 3) := by decide +kernel
theorem dX8_priceOf_52 : decode cX8_priceOf 52 = .ok (.iadd, 1) := by decide +kernel
theorem dX8_priceOf_53 : decode cX8_priceOf 53 = .ok (.istore_n 3, 1) := by decide +kernel
theorem dX8_priceOf_54 : decode cX8_priceOf 54 = .ok (.iconst 0, 1) := by decide +kernel
theorem dX8_priceOf_55 : decode cX8_priceOf 55 = .ok (.istore 7, 2) := by decide +kernel
theorem dX8_priceOf_57 : decode cX8_priceOf 57 = .ok (.iload 7, 2) := by decide +kernel
theorem dX8_priceOf_59 : decode cX8_priceOf 59 = .ok (.iload 5, 2) := by decide +kernel
theorem dX8_priceOf_61 : decode cX8_priceOf 61 = .ok (.if_icmp .ge 36, 3) := by decide +kernel
theorem dX8_priceOf_64 : decode cX8_priceOf 64 = .ok (.iload_n 3, 1) := by decide +kernel
theorem dX8_priceOf_65 : decode cX8_priceOf 65 = .ok (.aload_n 0, 1) := by decide +kernel
theorem dX8_priceOf_66 : decode cX8_priceOf 66 = .ok (.iload_n 1, 1) := by decide +kernel
theorem dX8_priceOf_67 : decode cX8_priceOf 67 = .ok (.iload 7, 2) := by decide +kernel
theorem dX8_priceOf_69 : decode cX8_priceOf 69 = .ok (.iload_n 2, 1) := by decide +kernel
theorem dX8_priceOf_70 : decode cX8_priceOf 70 = .ok (.invokestatic 176, 3) := by decide +kernel
theorem dX8_priceOf_73 : decode cX8_priceOf 73 = .ok (.invokestatic 157, 3) := by decide +kernel
theorem dX8_priceOf_76 : decode cX8_priceOf 76 = .ok (.iload 6, 2) := by decide +kernel
theorem dX8_priceOf_78 : decode cX8_priceOf 78 = .ok (.invokestatic 157, 3) := by decide +kernel
theorem dX8_priceOf_81 : decode cX8_priceOf 81 = .ok (.if_icmp .ne 7, 3) := by decide +kernel
theorem dX8_priceOf_84 : decode cX8_priceOf 84 = .ok (.iconst 5, 1) := by decide +kernel
theorem dX8_priceOf_85 : decode cX8_priceOf 85 = .ok (.goto 4, 3) := by decide +kernel
theorem dX8_priceOf_88 : decode cX8_priceOf 88 = .ok (.iconst 0, 1) := by decide +kernel
theorem dX8_priceOf_89 : decode cX8_priceOf 89 = .ok (.iadd, 1) := by decide +kernel
theorem dX8_priceOf_90 : decode cX8_priceOf 90 = .ok (.istore_n 3, 1) := by decide +kernel
theorem dX8_priceOf_91 : decode cX8_priceOf 91 = .ok (.iinc 7 1, 3) := by decide +kernel
theorem dX8_priceOf_94 : decode cX8_priceOf 94 = .ok (.goto (-37), 3) := by decide +kernel
theorem dX8_priceOf_97 : decode cX8_priceOf 97 = .ok (.iinc 5 1, 3) := by decide +kernel
theorem dX8_priceOf_100 : decode cX8_priceOf 100 = .ok (.goto (-84), 3) := by decide +kernel
theorem dX8_priceOf_103 : decode cX8_priceOf 103 = .ok (.iload_n 3, 1) := by decide +kernel
theorem dX8_priceOf_104 : decode cX8_priceOf 104 = .ok (.ireturn, 1) := by decide +kernel
theorem dX8_moveTo_0 : decode cX8_moveTo 0 = .ok (.iload_n 2, 1) := by decide +kernel
theorem dX8_moveTo_1 : decode cX8_moveTo 1 = .ok (.iload_n 3, 1) := by decide +kernel
theorem dX8_moveTo_2 : decode cX8_moveTo 2 = .ok (.isub, 1) := by decide +kernel
theorem dX8_moveTo_3 : decode cX8_moveTo 3 = .ok (.invokestatic 173, 3) := by decide +kernel
theorem dX8_moveTo_6 : decode cX8_moveTo 6 = .ok (.istore 4, 2) := by decide +kernel
theorem dX8_moveTo_8 : decode cX8_moveTo 8 = .ok (.aload_n 0, 1) := by decide +kernel
theorem dX8_moveTo_9 : decode cX8_moveTo 9 = .ok (.iload_n 1, 1) := by decide +kernel
theorem dX8_moveTo_10 : decode cX8_moveTo 10 = .ok (.invokestatic 184, 3) := by decide +kernel
theorem dX8_moveTo_13 : decode cX8_moveTo 13 = .ok (.ifCond .eq 13, 3) := by decide +kernel
theorem dX8_moveTo_16 : decode cX8_moveTo 16 = .ok (.iload 4, 2) := by decide +kernel
theorem dX8_moveTo_18 : decode cX8_moveTo 18 = .ok (.ifCond .le 8, 3) := by decide +kernel
theorem dX8_moveTo_21 : decode cX8_moveTo 21 = .ok (.ldc 62, 2) := by decide +kernel
theorem dX8_moveTo_23 : decode cX8_moveTo 23 = .ok (.goto 25, 3) := by decide +kernel
theorem dX8_moveTo_26 : decode cX8_moveTo 26 = .ok (.aload_n 0, 1) := by decide +kernel
theorem dX8_moveTo_27 : decode cX8_moveTo 27 = .ok (.iconst 3, 1) := by decide +kernel
theorem dX8_moveTo_28 : decode cX8_moveTo 28 = .ok (.iconst 5, 1) := by decide +kernel
theorem dX8_moveTo_29 : decode cX8_moveTo 29 = .ok (.iload_n 1, 1) := by decide +kernel
theorem dX8_moveTo_30 : decode cX8_moveTo 30 = .ok (.imul, 1) := by decide +kernel
theorem dX8_moveTo_31 : decode cX8_moveTo 31 = .ok (.iadd, 1) := by decide +kernel
theorem dX8_moveTo_32 : decode cX8_moveTo 32 = .ok (.iconst 4, 1) := by decide +kernel
theorem dX8_moveTo_33 : decode cX8_moveTo 33 = .ok (.iadd, 1) := by decide +kernel
theorem dX8_moveTo_34 : decode cX8_moveTo 34 = .ok (.iaload, 1) := by decide +kernel
theorem dX8_moveTo_35 : decode cX8_moveTo 35 = .ok (.iconst 1, 1) := by decide +kernel
theorem dX8_moveTo_36 : decode cX8_moveTo 36 = .ok (.if_icmp .ne 10, 3) := by decide +kernel
theorem dX8_moveTo_39 : decode cX8_moveTo 39 = .ok (.iload 4, 2) := by decide +kernel
theorem dX8_moveTo_41 : decode cX8_moveTo 41 = .ok (.iconst 2, 1) := by decide +kernel
theorem dX8_moveTo_42 : decode cX8_moveTo 42 = .ok (.idiv, 1) := by decide +kernel
theorem dX8_moveTo_43 : decode cX8_moveTo 43 = .ok (.goto 5, 3) := by decide +kernel
theorem dX8_moveTo_46 : decode cX8_moveTo 46 = .ok (.iload 4, 2) := by decide +kernel
theorem dX8_moveTo_48 : decode cX8_moveTo 48 = .ok (.ireturn, 1) := by decide +kernel
theorem dX8_reckons_0 : decode cX8_reckons 0 = .ok (.aload_n 1, 1) := by decide +kernel
theorem dX8_reckons_1 : decode cX8_reckons 1 = .ok (.iconst 1, 1) := by decide +kernel
theorem dX8_reckons_2 : decode cX8_reckons 2 = .ok (.iaload, 1) := by decide +kernel
theorem dX8_reckons_3 : decode cX8_reckons 3 = .ok (.iconst 1, 1) := by decide +kernel
theorem dX8_reckons_4 : decode cX8_reckons 4 = .ok (.isub, 1) := by decide +kernel
theorem dX8_reckons_5 : decode cX8_reckons 5 = .ok (.istore_n 2, 1) := by decide +kernel
theorem dX8_reckons_6 : decode cX8_reckons 6 = .ok (.iload_n 2, 1) := by decide +kernel
theorem dX8_reckons_7 : decode cX8_reckons 7 = .ok (.ifCond .lt 241, 3) := by decide +kernel
theorem dX8_reckons_10 : decode cX8_reckons 10 = .ok (.iconst 0, 1) := by decide +kernel
theorem dX8_reckons_11 : decode cX8_reckons 11 = .ok (.istore_n 3, 1) := by decide +kernel
theorem dX8_reckons_12 : decode cX8_reckons 12 = .ok (.iload_n 3, 1) := by decide +kernel
theorem dX8_reckons_13 : decode cX8_reckons 13 = .ok (.bipush 24, 2) := by decide +kernel
theorem dX8_reckons_15 : decode cX8_reckons 15 = .ok (.if_icmp .ge 227, 3) := by decide +kernel
theorem dX8_reckons_18 : decode cX8_reckons 18 = .ok (.iload_n 2, 1) := by decide +kernel
theorem dX8_reckons_19 : decode cX8_reckons 19 = .ok (.iconst 1, 1) := by decide +kernel
theorem dX8_reckons_20 : decode cX8_reckons 20 = .ok (.iadd, 1) := by decide +kernel
theorem dX8_reckons_21 : decode cX8_reckons 21 = .ok (.aload_n 1, 1) := by decide +kernel
theorem dX8_reckons_22 : decode cX8_reckons 22 = .ok (.iconst 1, 1) := by decide +kernel
theorem dX8_reckons_23 : decode cX8_reckons 23 = .ok (.iaload, 1) := by decide +kernel
theorem dX8_reckons_24 : decode cX8_reckons 24 = .ok (.if_icmp .ne 7, 3) := by decide +kernel
theorem dX8_reckons_27 : decode cX8_reckons 27 = .ok (.iconst 0, 1) := by decide +kernel
theorem dX8_reckons_28 : decode cX8_reckons 28 = .ok (.goto 5, 3) := by decide +kernel
theorem dX8_reckons_31 : decode cX8_reckons 31 = .ok (.ldc 62, 2) := by decide +kernel
theorem dX8_reckons_33 : decode cX8_reckons 33 = .ok (.istore 4, 2) := by decide +kernel
theorem dX8_reckons_35 : decode cX8_reckons 35 = .ok (.iload_n 2, 1) := by decide +kernel
theorem dX8_reckons_36 : decode cX8_reckons 36 = .ok (.iconst 1, 1) := by decide +kernel
theorem dX8_reckons_37 : decode cX8_reckons 37 = .ok (.iadd, 1) := by decide +kernel
theorem dX8_reckons_38 : decode cX8_reckons 38 = .ok (.aload_n 1, 1) := by decide +kernel
theorem dX8_reckons_39 : decode cX8_reckons 39 = .ok (.iconst 1, 1) := by decide +kernel
theorem dX8_reckons_40 : decode cX8_reckons 40 = .ok (.iaload, 1) := by decide +kernel
theorem dX8_reckons_41 : decode cX8_reckons 41 = .ok (.if_icmp .ne 7, 3) := by decide +kernel
theorem dX8_reckons_44 : decode cX8_reckons 44 = .ok (.iconst 1, 1) := by decide +kernel
theorem dX8_reckons_45 : decode cX8_reckons 45 = .ok (.goto 4, 3) := by decide +kernel
theorem dX8_reckons_48 : decode cX8_reckons 48 = .ok (.iconst 0, 1) := by decide +kernel
theorem dX8_reckons_49 : decode cX8_reckons 49 = .ok (.istore 5, 2) := by decide +kernel
theorem dX8_reckons_51 : decode cX8_reckons 51 = .ok (.iconst 0, 1) := by decide +kernel
theorem dX8_reckons_52 : decode cX8_reckons 52 = .ok (.istore 6, 2) := by decide +kernel
theorem dX8_reckons_54 : decode cX8_reckons 54 = .ok (.iload 6, 2) := by decide +kernel
theorem dX8_reckons_56 : decode cX8_reckons 56 = .ok (.bipush 24, 2) := by decide +kernel
theorem dX8_reckons_58 : decode cX8_reckons 58 = .ok (.if_icmp .ge 142, 3) := by decide +kernel
theorem dX8_reckons_61 : decode cX8_reckons 61 = .ok (.iload_n 2, 1) := by decide +kernel
theorem dX8_reckons_62 : decode cX8_reckons 62 = .ok (.iconst 1, 1) := by decide +kernel
theorem dX8_reckons_63 : decode cX8_reckons 63 = .ok (.iadd, 1) := by decide +kernel
theorem dX8_reckons_64 : decode cX8_reckons 64 = .ok (.aload_n 1, 1) := by decide +kernel
theorem dX8_reckons_65 : decode cX8_reckons 65 = .ok (.iconst 1, 1) := by decide +kernel
theorem dX8_reckons_66 : decode cX8_reckons 66 = .ok (.iaload, 1) := by decide +kernel
theorem dX8_reckons_67 : decode cX8_reckons 67 = .ok (.if_icmp .ge 133, 3) := by decide +kernel
theorem dX8_reckons_70 : decode cX8_reckons 70 = .ok (.aload_n 1, 1) := by decide +kernel
theorem dX8_reckons_71 : decode cX8_reckons 71 = .ok (.iload_n 2, 1) := by decide +kernel
theorem dX8_reckons_72 : decode cX8_reckons 72 = .ok (.iconst 1, 1) := by decide +kernel
theorem dX8_reckons_73 : decode cX8_reckons 73 = .ok (.iadd, 1) := by decide +kernel
theorem dX8_reckons_74 : decode cX8_reckons 74 = .ok (.iload_n 3, 1) := by decide +kernel
theorem dX8_reckons_75 : decode cX8_reckons 75 = .ok (.iload 6, 2) := by decide +kernel
theorem dX8_reckons_77 : decode cX8_reckons 77 = .ok (.invokestatic 188, 3) := by decide +kernel
theorem dX8_reckons_80 : decode cX8_reckons 80 = .ok (.istore 7, 2) := by decide +kernel
theorem dX8_reckons_82 : decode cX8_reckons 82 = .ok (.iload 7, 2) := by decide +kernel
theorem dX8_reckons_84 : decode cX8_reckons 84 = .ok (.ldc 62, 2) := by decide +kernel
theorem dX8_reckons_86 : decode cX8_reckons 86 = .ok (.if_icmp .ne 8, 3) := by decide +kernel
theorem dX8_reckons_89 : decode cX8_reckons 89 = .ok (.ldc 62, 2) := by decide +kernel
theorem dX8_reckons_91 : decode cX8_reckons 91 = .ok (.goto 20, 3) := by decide +kernel
theorem dX8_reckons_94 : decode cX8_reckons 94 = .ok (.iload 7, 2) := by decide +kernel
theorem dX8_reckons_96 : decode cX8_reckons 96 = .ok (.aload_n 0, 1) := by decide +kernel
theorem dX8_reckons_97 : decode cX8_reckons 97 = .ok (.getfield 44, 3) := by decide +kernel
theorem dX8_reckons_100 : decode cX8_reckons 100 = .ok (.bipush 24, 2) := by decide +kernel
theorem dX8_reckons_102 : decode cX8_reckons 102 = .ok (.iload_n 2, 1) := by decide +kernel
theorem dX8_reckons_103 : decode cX8_reckons 103 = .ok (.iconst 1, 1) := by decide +kernel
theorem dX8_reckons_104 : decode cX8_reckons 104 = .ok (.iadd, 1) := by decide +kernel
theorem dX8_reckons_105 : decode cX8_reckons 105 = .ok (.imul, 1) := by decide +kernel
theorem dX8_reckons_106 : decode cX8_reckons 106 = .ok (.iload 6, 2) := by decide +kernel
theorem dX8_reckons_108 : decode cX8_reckons 108 = .ok (.iadd, 1) := by decide +kernel
theorem dX8_reckons_109 : decode cX8_reckons 109 = .ok (.iaload, 1) := by decide +kernel
theorem dX8_reckons_110 : decode cX8_reckons 110 = .ok (.iadd, 1) := by decide +kernel
theorem dX8_reckons_111 : decode cX8_reckons 111 = .ok (.istore 8, 2) := by decide +kernel
theorem dX8_reckons_113 : decode cX8_reckons 113 = .ok (.iload 8, 2) := by decide +kernel
theorem dX8_reckons_115 : decode cX8_reckons 115 = .ok (.ldc 62, 2) := by decide +kernel
theorem dX8_reckons_117 : decode cX8_reckons 117 = .ok (.if_icmp .eq 24, 3) := by decide +kernel
theorem dX8_reckons_120 : decode cX8_reckons 120 = .ok (.iload 4, 2) := by decide +kernel
theorem dX8_reckons_122 : decode cX8_reckons 122 = .ok (.ldc 62, 2) := by decide +kernel
theorem dX8_reckons_124 : decode cX8_reckons 124 = .ok (.if_icmp .eq 10, 3) := by decide +kernel
theorem dX8_reckons_127 : decode cX8_reckons 127 = .ok (.iload 8, 2) := by decide +kernel
theorem dX8_reckons_129 : decode cX8_reckons 129 = .ok (.iload 4, 2) := by decide +kernel
theorem dX8_reckons_131 : decode cX8_reckons 131 = .ok (.if_icmp .ge 10, 3) := by decide +kernel
theorem dX8_reckons_134 : decode cX8_reckons 134 = .ok (.iload 8, 2) := by decide +kernel
theorem dX8_reckons_136 : decode cX8_reckons 136 = .ok (.istore 4, 2) := by decide +kernel
theorem dX8_reckons_138 : decode cX8_reckons 138 = .ok (.iconst 0, 1) := by decide +kernel
theorem dX8_reckons_139 : decode cX8_reckons 139 = .ok (.istore 5, 2) := by decide +kernel
theorem dX8_reckons_141 : decode cX8_reckons 141 = .ok (.iload 5, 2) := by decide +kernel
theorem dX8_reckons_143 : decode cX8_reckons 143 = .ok (.iload 8, 2) := by decide +kernel
theorem dX8_reckons_145 : decode cX8_reckons 145 = .ok (.ldc 62, 2) := by decide +kernel
theorem dX8_reckons_147 : decode cX8_reckons 147 = .ok (.if_icmp .eq 27, 3) := by decide +kernel
theorem dX8_reckons_150 : decode cX8_reckons 150 = .ok (.iload 8, 2) := by decide +kernel
theorem dX8_reckons_152 : decode cX8_reckons 152 = .ok (.iload 4, 2) := by decide +kernel
theorem dX8_reckons_154 : decode cX8_reckons 154 = .ok (.if_icmp .ne 20, 3) := by decide +kernel
theorem dX8_reckons_157 : decode cX8_reckons 157 = .ok (.aload_n 0, 1) := by decide +kernel
theorem dX8_reckons_158 : decode cX8_reckons 158 = .ok (.getfield 47, 3) := by decide +kernel
theorem dX8_reckons_161 : decode cX8_reckons 161 = .ok (.bipush 24, 2) := by decide +kernel
theorem dX8_reckons_163 : decode cX8_reckons 163 = .ok (.iload_n 2, 1) := by decide +kernel
theorem dX8_reckons_164 : decode cX8_reckons 164 = .ok (.iconst 1, 1) := by decide +kernel
theorem dX8_reckons_165 : decode cX8_reckons 165 = .ok (.iadd, 1) := by decide +kernel
theorem dX8_reckons_166 : decode cX8_reckons 166 = .ok (.imul, 1) := by decide +kernel
theorem dX8_reckons_167 : decode cX8_reckons 167 = .ok (.iload 6, 2) := by decide +kernel
theorem dX8_reckons_169 : decode cX8_reckons 169 = .ok (.iadd, 1) := by decide +kernel
theorem dX8_reckons_170 : decode cX8_reckons 170 = .ok (.iaload, 1) := by decide +kernel
theorem dX8_reckons_171 : decode cX8_reckons 171 = .ok (.goto 4, 3) := by decide +kernel
theorem dX8_reckons_174 : decode cX8_reckons 174 = .ok (.iconst 0, 1) := by decide +kernel
theorem dX8_reckons_175 : decode cX8_reckons 175 = .ok (.iadd, 1) := by decide +kernel
theorem dX8_reckons_176 : decode cX8_reckons 176 = .ok (.istore 5, 2) := by decide +kernel
theorem dX8_reckons_178 : decode cX8_reckons 178 = .ok (.iload 5, 2) := by decide +kernel
theorem dX8_reckons_180 : decode cX8_reckons 180 = .ok (.ldc 191, 2) := by decide +kernel
theorem dX8_reckons_182 : decode cX8_reckons 182 = .ok (.if_icmp .le 8, 3) := by decide +kernel
theorem dX8_reckons_185 : decode cX8_reckons 185 = .ok (.ldc 191, 2) := by decide +kernel
theorem dX8_reckons_187 : decode cX8_reckons 187 = .ok (.goto 5, 3) := by decide +kernel
theorem dX8_reckons_190 : decode cX8_reckons 190 = .ok (.iload 5, 2) := by decide +kernel
theorem dX8_reckons_192 : decode cX8_reckons 192 = .ok (.istore 5, 2) := by decide +kernel
theorem dX8_reckons_194 : decode cX8_reckons 194 = .ok (.iinc 6 1, 3) := by decide +kernel
theorem dX8_reckons_197 : decode cX8_reckons 197 = .ok (.goto (-143), 3) := by decide +kernel
theorem dX8_reckons_200 : decode cX8_reckons 200 = .ok (.aload_n 0, 1) := by decide +kernel
theorem dX8_reckons_201 : decode cX8_reckons 201 = .ok (.getfield 44, 3) := by decide +kernel
theorem dX8_reckons_204 : decode cX8_reckons 204 = .ok (.bipush 24, 2) := by decide +kernel
theorem dX8_reckons_206 : decode cX8_reckons 206 = .ok (.iload_n 2, 1) := by decide +kernel
theorem dX8_reckons_207 : decode cX8_reckons 207 = .ok (.imul, 1) := by decide +kernel
theorem dX8_reckons_208 : decode cX8_reckons 208 = .ok (.iload_n 3, 1) := by decide +kernel
theorem dX8_reckons_209 : decode cX8_reckons 209 = .ok (.iadd, 1) := by decide +kernel
theorem dX8_reckons_210 : decode cX8_reckons 210 = .ok (.iload 4, 2) := by decide +kernel
theorem dX8_reckons_212 : decode cX8_reckons 212 = .ok (.aload_n 1, 1) := by decide +kernel
theorem dX8_reckons_213 : decode cX8_reckons 213 = .ok (.iload_n 2, 1) := by decide +kernel
theorem dX8_reckons_214 : decode cX8_reckons 214 = .ok (.bipush (-15), 2) := by decide +kernel
theorem dX8_reckons_216 : decode cX8_reckons 216 = .ok (.iload_n 3, 1) := by decide +kernel
theorem dX8_reckons_217 : decode cX8_reckons 217 = .ok (.iadd, 1) := by decide +kernel
theorem dX8_reckons_218 : decode cX8_reckons 218 = .ok (.invokestatic 192, 3) := by decide +kernel
theorem dX8_reckons_221 : decode cX8_reckons 221 = .ok (.iadd, 1) := by decide +kernel
theorem dX8_reckons_222 : decode cX8_reckons 222 = .ok (.iastore, 1) := by decide +kernel
theorem dX8_reckons_223 : decode cX8_reckons 223 = .ok (.aload_n 0, 1) := by decide +kernel
theorem dX8_reckons_224 : decode cX8_reckons 224 = .ok (.getfield 47, 3) := by decide +kernel
theorem dX8_reckons_227 : decode cX8_reckons 227 = .ok (.bipush 24, 2) := by decide +kernel
theorem dX8_reckons_229 : decode cX8_reckons 229 = .ok (.iload_n 2, 1) := by decide +kernel
theorem dX8_reckons_230 : decode cX8_reckons 230 = .ok (.imul, 1) := by decide +kernel
theorem dX8_reckons_231 : decode cX8_reckons 231 = .ok (.iload_n 3, 1) := by decide +kernel
theorem dX8_reckons_232 : decode cX8_reckons 232 = .ok (.iadd, 1) := by decide +kernel
theorem dX8_reckons_233 : decode cX8_reckons 233 = .ok (.iload 5, 2) := by decide +kernel
theorem dX8_reckons_235 : decode cX8_reckons 235 = .ok (.iastore, 1) := by decide +kernel
theorem dX8_reckons_236 : decode cX8_reckons 236 = .ok (.iinc 3 1, 3) := by decide +kernel
theorem dX8_reckons_239 : decode cX8_reckons 239 = .ok (.goto (-227), 3) := by decide +kernel
theorem dX8_reckons_242 : decode cX8_reckons 242 = .ok (.iinc 2 (-1), 3) := by decide +kernel
theorem dX8_reckons_245 : decode cX8_reckons 245 = .ok (.goto (-239), 3) := by decide +kernel
theorem dX8_reckons_248 : decode cX8_reckons 248 = .ok (.return_, 1) := by decide +kernel
theorem dX8_finds_0 : decode cX8_finds 0 = .ok (.aload_n 0, 1) := by decide +kernel
theorem dX8_finds_1 : decode cX8_finds 1 = .ok (.aload_n 1, 1) := by decide +kernel
theorem dX8_finds_2 : decode cX8_finds 2 = .ok (.invokevirtual 195, 3) := by decide +kernel
theorem dX8_finds_5 : decode cX8_finds 5 = .ok (.aload_n 0, 1) := by decide +kernel
theorem dX8_finds_6 : decode cX8_finds 6 = .ok (.ldc 62, 2) := by decide +kernel
theorem dX8_finds_8 : decode cX8_finds 8 = .ok (.putfield 199, 3) := by decide +kernel
theorem dX8_finds_11 : decode cX8_finds 11 = .ok (.iconst 0, 1) := by decide +kernel
theorem dX8_finds_12 : decode cX8_finds 12 = .ok (.istore_n 2, 1) := by decide +kernel
theorem dX8_finds_13 : decode cX8_finds 13 = .ok (.iload_n 2, 1) := by decide +kernel
theorem dX8_finds_14 : decode cX8_finds 14 = .ok (.bipush 24, 2) := by decide +kernel
theorem dX8_finds_16 : decode cX8_finds 16 = .ok (.if_icmp .ge 48, 3) := by decide +kernel
theorem dX8_finds_19 : decode cX8_finds 19 = .ok (.aload_n 0, 1) := by decide +kernel
theorem dX8_finds_20 : decode cX8_finds 20 = .ok (.getfield 199, 3) := by decide +kernel
theorem dX8_finds_23 : decode cX8_finds 23 = .ok (.ldc 62, 2) := by decide +kernel
theorem dX8_finds_25 : decode cX8_finds 25 = .ok (.if_icmp .eq 16, 3) := by decide +kernel
theorem dX8_finds_28 : decode cX8_finds 28 = .ok (.aload_n 0, 1) := by decide +kernel
theorem dX8_finds_29 : decode cX8_finds 29 = .ok (.getfield 44, 3) := by decide +kernel
theorem dX8_finds_32 : decode cX8_finds 32 = .ok (.iload_n 2, 1) := by decide +kernel
theorem dX8_finds_33 : decode cX8_finds 33 = .ok (.iaload, 1) := by decide +kernel
theorem dX8_finds_34 : decode cX8_finds 34 = .ok (.aload_n 0, 1) := by decide +kernel
theorem dX8_finds_35 : decode cX8_finds 35 = .ok (.getfield 199, 3) := by decide +kernel
theorem dX8_finds_38 : decode cX8_finds 38 = .ok (.if_icmp .ge 20, 3) := by decide +kernel
theorem dX8_finds_41 : decode cX8_finds 41 = .ok (.aload_n 0, 1) := by decide +kernel
theorem dX8_finds_42 : decode cX8_finds 42 = .ok (.aload_n 0, 1) := by decide +kernel
theorem dX8_finds_43 : decode cX8_finds 43 = .ok (.getfield 44, 3) := by decide +kernel
theorem dX8_finds_46 : decode cX8_finds 46 = .ok (.iload_n 2, 1) := by decide +kernel
theorem dX8_finds_47 : decode cX8_finds 47 = .ok (.iaload, 1) := by decide +kernel
theorem dX8_finds_48 : decode cX8_finds 48 = .ok (.putfield 199, 3) := by decide +kernel
theorem dX8_finds_51 : decode cX8_finds 51 = .ok (.aload_n 0, 1) := by decide +kernel
theorem dX8_finds_52 : decode cX8_finds 52 = .ok (.getfield 50, 3) := by decide +kernel
theorem dX8_finds_55 : decode cX8_finds 55 = .ok (.iconst 0, 1) := by decide +kernel
theorem dX8_finds_56 : decode cX8_finds 56 = .ok (.iload_n 2, 1) := by decide +kernel
theorem dX8_finds_57 : decode cX8_finds 57 = .ok (.iastore, 1) := by decide +kernel
theorem dX8_finds_58 : decode cX8_finds 58 = .ok (.iinc 2 1, 3) := by decide +kernel
theorem dX8_finds_61 : decode cX8_finds 61 = .ok (.goto (-48), 3) := by decide +kernel
theorem dX8_finds_64 : decode cX8_finds 64 = .ok (.iconst 1, 1) := by decide +kernel
theorem dX8_finds_65 : decode cX8_finds 65 = .ok (.istore_n 2, 1) := by decide +kernel
theorem dX8_finds_66 : decode cX8_finds 66 = .ok (.iload_n 2, 1) := by decide +kernel
theorem dX8_finds_67 : decode cX8_finds 67 = .ok (.aload_n 1, 1) := by decide +kernel
theorem dX8_finds_68 : decode cX8_finds 68 = .ok (.iconst 1, 1) := by decide +kernel
theorem dX8_finds_69 : decode cX8_finds 69 = .ok (.iaload, 1) := by decide +kernel
theorem dX8_finds_70 : decode cX8_finds 70 = .ok (.if_icmp .ge 101, 3) := by decide +kernel
theorem dX8_finds_73 : decode cX8_finds 73 = .ok (.aload_n 0, 1) := by decide +kernel
theorem dX8_finds_74 : decode cX8_finds 74 = .ok (.getfield 50, 3) := by decide +kernel
theorem dX8_finds_77 : decode cX8_finds 77 = .ok (.iload_n 2, 1) := by decide +kernel
theorem dX8_finds_78 : decode cX8_finds 78 = .ok (.iconst 1, 1) := by decide +kernel
theorem dX8_finds_79 : decode cX8_finds 79 = .ok (.isub, 1) := by decide +kernel
theorem dX8_finds_80 : decode cX8_finds 80 = .ok (.iaload, 1) := by decide +kernel
theorem dX8_finds_81 : decode cX8_finds 81 = .ok (.istore_n 3, 1) := by decide +kernel
theorem dX8_finds_82 : decode cX8_finds 82 = .ok (.aload_n 0, 1) := by decide +kernel
theorem dX8_finds_83 : decode cX8_finds 83 = .ok (.getfield 44, 3) := by decide +kernel
theorem dX8_finds_86 : decode cX8_finds 86 = .ok (.bipush 24, 2) := by decide +kernel
theorem dX8_finds_88 : decode cX8_finds 88 = .ok (.iload_n 2, 1) := by decide +kernel
theorem dX8_finds_89 : decode cX8_finds 89 = .ok (.iconst 1, 1) := by decide +kernel
theorem dX8_finds_90 : decode cX8_finds 90 = .ok (.isub, 1) := by decide +kernel
theorem dX8_finds_91 : decode cX8_finds 91 = .ok (.imul, 1) := by decide +kernel
theorem dX8_finds_92 : decode cX8_finds 92 = .ok (.iload_n 3, 1) := by decide +kernel
theorem dX8_finds_93 : decode cX8_finds 93 = .ok (.iadd, 1) := by decide +kernel
theorem dX8_finds_94 : decode cX8_finds 94 = .ok (.iaload, 1) := by decide +kernel
theorem dX8_finds_95 : decode cX8_finds 95 = .ok (.aload_n 1, 1) := by decide +kernel
theorem dX8_finds_96 : decode cX8_finds 96 = .ok (.iload_n 2, 1) := by decide +kernel
theorem dX8_finds_97 : decode cX8_finds 97 = .ok (.iconst 1, 1) := by decide +kernel
theorem dX8_finds_98 : decode cX8_finds 98 = .ok (.isub, 1) := by decide +kernel
theorem dX8_finds_99 : decode cX8_finds 99 = .ok (.bipush (-15), 2) := by decide +kernel
theorem dX8_finds_101 : decode cX8_finds 101 = .ok (.iload_n 3, 1) := by decide +kernel
theorem dX8_finds_102 : decode cX8_finds 102 = .ok (.iadd, 1) := by decide +kernel
theorem dX8_finds_103 : decode cX8_finds 103 = .ok (.invokestatic 192, 3) := by decide +kernel
theorem dX8_finds_106 : decode cX8_finds 106 = .ok (.isub, 1) := by decide +kernel
theorem dX8_finds_107 : decode cX8_finds 107 = .ok (.istore 4, 2) := by decide +kernel
theorem dX8_finds_109 : decode cX8_finds 109 = .ok (.iconst 0, 1) := by decide +kernel
theorem dX8_finds_110 : decode cX8_finds 110 = .ok (.istore 5, 2) := by decide +kernel
theorem dX8_finds_112 : decode cX8_finds 112 = .ok (.aload_n 1, 1) := by decide +kernel
theorem dX8_finds_113 : decode cX8_finds 113 = .ok (.iload_n 2, 1) := by decide +kernel
theorem dX8_finds_114 : decode cX8_finds 114 = .ok (.iload_n 3, 1) := by decide +kernel
theorem dX8_finds_115 : decode cX8_finds 115 = .ok (.iload 5, 2) := by decide +kernel
theorem dX8_finds_117 : decode cX8_finds 117 = .ok (.invokestatic 188, 3) := by decide +kernel
theorem dX8_finds_120 : decode cX8_finds 120 = .ok (.ldc 62, 2) := by decide +kernel
theorem dX8_finds_122 : decode cX8_finds 122 = .ok (.if_icmp .eq 29, 3) := by decide +kernel
theorem dX8_finds_125 : decode cX8_finds 125 = .ok (.aload_n 1, 1) := by decide +kernel
theorem dX8_finds_126 : decode cX8_finds 126 = .ok (.iload_n 2, 1) := by decide +kernel
theorem dX8_finds_127 : decode cX8_finds 127 = .ok (.iload_n 3, 1) := by decide +kernel
theorem dX8_finds_128 : decode cX8_finds 128 = .ok (.iload 5, 2) := by decide +kernel
theorem dX8_finds_130 : decode cX8_finds 130 = .ok (.invokestatic 188, 3) := by decide +kernel
theorem dX8_finds_133 : decode cX8_finds 133 = .ok (.aload_n 0, 1) := by decide +kernel
theorem dX8_finds_134 : decode cX8_finds 134 = .ok (.getfield 44, 3) := by decide +kernel
theorem dX8_finds_137 : decode cX8_finds 137 = .ok (.bipush 24, 2) := by decide +kernel
theorem dX8_finds_139 : decode cX8_finds 139 = .ok (.iload_n 2, 1) := by decide +kernel
theorem dX8_finds_140 : decode cX8_finds 140 = .ok (.imul, 1) := by decide +kernel
theorem dX8_finds_141 : decode cX8_finds 141 = .ok (.iload 5, 2) := by decide +kernel
theorem dX8_finds_143 : decode cX8_finds 143 = .ok (.iadd, 1) := by decide +kernel
theorem dX8_finds_144 : decode cX8_finds 144 = .ok (.iaload, 1) := by decide +kernel
theorem dX8_finds_145 : decode cX8_finds 145 = .ok (.iadd, 1) := by decide +kernel
theorem dX8_finds_146 : decode cX8_finds 146 = .ok (.iload 4, 2) := by decide +kernel
theorem dX8_finds_148 : decode cX8_finds 148 = .ok (.if_icmp .eq 9, 3) := by decide +kernel
theorem dX8_finds_151 : decode cX8_finds 151 = .ok (.iinc 5 1, 3) := by decide +kernel
theorem dX8_finds_154 : decode cX8_finds 154 = .ok (.goto (-42), 3) := by decide +kernel
theorem dX8_finds_157 : decode cX8_finds 157 = .ok (.aload_n 0, 1) := by decide +kernel
theorem dX8_finds_158 : decode cX8_finds 158 = .ok (.getfield 50, 3) := by decide +kernel
theorem dX8_finds_161 : decode cX8_finds 161 = .ok (.iload_n 2, 1) := by decide +kernel
theorem dX8_finds_162 : decode cX8_finds 162 = .ok (.iload 5, 2) := by decide +kernel
theorem dX8_finds_164 : decode cX8_finds 164 = .ok (.iastore, 1) := by decide +kernel
theorem dX8_finds_165 : decode cX8_finds 165 = .ok (.iinc 2 1, 3) := by decide +kernel
theorem dX8_finds_168 : decode cX8_finds 168 = .ok (.goto (-102), 3) := by decide +kernel
theorem dX8_finds_171 : decode cX8_finds 171 = .ok (.return_, 1) := by decide +kernel
theorem dX8_allWays_0 : decode cX8_allWays 0 = .ok (.aload_n 0, 1) := by decide +kernel
theorem dX8_allWays_1 : decode cX8_allWays 1 = .ok (.aload_n 0, 1) := by decide +kernel
theorem dX8_allWays_2 : decode cX8_allWays 2 = .ok (.getfield 25, 3) := by decide +kernel
theorem dX8_allWays_5 : decode cX8_allWays 5 = .ok (.invokevirtual 202, 3) := by decide +kernel
theorem dX8_allWays_8 : decode cX8_allWays 8 = .ok (.iconst 0, 1) := by decide +kernel
theorem dX8_allWays_9 : decode cX8_allWays 9 = .ok (.istore_n 1, 1) := by decide +kernel
theorem dX8_allWays_10 : decode cX8_allWays 10 = .ok (.iconst 0, 1) := by decide +kernel
theorem dX8_allWays_11 : decode cX8_allWays 11 = .ok (.istore_n 2, 1) := by decide +kernel
theorem dX8_allWays_12 : decode cX8_allWays 12 = .ok (.iload_n 2, 1) := by decide +kernel
theorem dX8_allWays_13 : decode cX8_allWays 13 = .ok (.bipush 24, 2) := by decide +kernel
theorem dX8_allWays_15 : decode cX8_allWays 15 = .ok (.if_icmp .ge 48, 3) := by decide +kernel
theorem dX8_allWays_18 : decode cX8_allWays 18 = .ok (.iload_n 1, 1) := by decide +kernel
theorem dX8_allWays_19 : decode cX8_allWays 19 = .ok (.aload_n 0, 1) := by decide +kernel
theorem dX8_allWays_20 : decode cX8_allWays 20 = .ok (.getfield 44, 3) := by decide +kernel
theorem dX8_allWays_23 : decode cX8_allWays 23 = .ok (.iload_n 2, 1) := by decide +kernel
theorem dX8_allWays_24 : decode cX8_allWays 24 = .ok (.iaload, 1) := by decide +kernel
theorem dX8_allWays_25 : decode cX8_allWays 25 = .ok (.aload_n 0, 1) := by decide +kernel
theorem dX8_allWays_26 : decode cX8_allWays 26 = .ok (.getfield 199, 3) := by decide +kernel
theorem dX8_allWays_29 : decode cX8_allWays 29 = .ok (.if_icmp .ne 12, 3) := by decide +kernel
theorem dX8_allWays_32 : decode cX8_allWays 32 = .ok (.aload_n 0, 1) := by decide +kernel
theorem dX8_allWays_33 : decode cX8_allWays 33 = .ok (.getfield 47, 3) := by decide +kernel
theorem dX8_allWays_36 : decode cX8_allWays 36 = .ok (.iload_n 2, 1) := by decide +kernel
theorem dX8_allWays_37 : decode cX8_allWays 37 = .ok (.iaload, 1) := by decide +kernel
theorem dX8_allWays_38 : decode cX8_allWays 38 = .ok (.goto 4, 3) := by decide +kernel
theorem dX8_allWays_41 : decode cX8_allWays 41 = .ok (.iconst 0, 1) := by decide +kernel
theorem dX8_allWays_42 : decode cX8_allWays 42 = .ok (.iadd, 1) := by decide +kernel
theorem dX8_allWays_43 : decode cX8_allWays 43 = .ok (.istore_n 1, 1) := by decide +kernel
theorem dX8_allWays_44 : decode cX8_allWays 44 = .ok (.iload_n 1, 1) := by decide +kernel
theorem dX8_allWays_45 : decode cX8_allWays 45 = .ok (.ldc 191, 2) := by decide +kernel
theorem dX8_allWays_47 : decode cX8_allWays 47 = .ok (.if_icmp .le 8, 3) := by decide +kernel
theorem dX8_allWays_50 : decode cX8_allWays 50 = .ok (.ldc 191, 2) := by decide +kernel
theorem dX8_allWays_52 : decode cX8_allWays 52 = .ok (.goto 4, 3) := by decide +kernel
theorem dX8_allWays_55 : decode cX8_allWays 55 = .ok (.iload_n 1, 1) := by decide +kernel
theorem dX8_allWays_56 : decode cX8_allWays 56 = .ok (.istore_n 1, 1) := by decide +kernel
theorem dX8_allWays_57 : decode cX8_allWays 57 = .ok (.iinc 2 1, 3) := by decide +kernel
theorem dX8_allWays_60 : decode cX8_allWays 60 = .ok (.goto (-48), 3) := by decide +kernel
theorem dX8_allWays_63 : decode cX8_allWays 63 = .ok (.iload_n 1, 1) := by decide +kernel
theorem dX8_allWays_64 : decode cX8_allWays 64 = .ok (.ireturn, 1) := by decide +kernel
theorem dX8_windowOf_0 : decode cX8_windowOf 0 = .ok (.aload_n 0, 1) := by decide +kernel
theorem dX8_windowOf_1 : decode cX8_windowOf 1 = .ok (.aload_n 0, 1) := by decide +kernel
theorem dX8_windowOf_2 : decode cX8_windowOf 2 = .ok (.getfield 25, 3) := by decide +kernel
theorem dX8_windowOf_5 : decode cX8_windowOf 5 = .ok (.invokevirtual 202, 3) := by decide +kernel
theorem dX8_windowOf_8 : decode cX8_windowOf 8 = .ok (.bipush (-15), 2) := by decide +kernel
theorem dX8_windowOf_10 : decode cX8_windowOf 10 = .ok (.aload_n 0, 1) := by decide +kernel
theorem dX8_windowOf_11 : decode cX8_windowOf 11 = .ok (.getfield 50, 3) := by decide +kernel
theorem dX8_windowOf_14 : decode cX8_windowOf 14 = .ok (.iload_n 1, 1) := by decide +kernel
theorem dX8_windowOf_15 : decode cX8_windowOf 15 = .ok (.iaload, 1) := by decide +kernel
theorem dX8_windowOf_16 : decode cX8_windowOf 16 = .ok (.iadd, 1) := by decide +kernel
theorem dX8_windowOf_17 : decode cX8_windowOf 17 = .ok (.ireturn, 1) := by decide +kernel
theorem dX8_prints_0 : decode cX8_prints 0 = .ok (.aload_n 0, 1) := by decide +kernel
theorem dX8_prints_1 : decode cX8_prints 1 = .ok (.aload_n 1, 1) := by decide +kernel
theorem dX8_prints_2 : decode cX8_prints 2 = .ok (.invokevirtual 202, 3) := by decide +kernel
theorem dX8_prints_5 : decode cX8_prints 5 = .ok (.iconst 0, 1) := by decide +kernel
theorem dX8_prints_6 : decode cX8_prints 6 = .ok (.istore_n 2, 1) := by decide +kernel
theorem dX8_prints_7 : decode cX8_prints 7 = .ok (.iconst 0, 1) := by decide +kernel
theorem dX8_prints_8 : decode cX8_prints 8 = .ok (.istore_n 3, 1) := by decide +kernel
theorem dX8_prints_9 : decode cX8_prints 9 = .ok (.iload_n 3, 1) := by decide +kernel
theorem dX8_prints_10 : decode cX8_prints 10 = .ok (.aload_n 1, 1) := by decide +kernel
theorem dX8_prints_11 : decode cX8_prints 11 = .ok (.iconst 1, 1) := by decide +kernel
theorem dX8_prints_12 : decode cX8_prints 12 = .ok (.iaload, 1) := by decide +kernel
theorem dX8_prints_13 : decode cX8_prints 13 = .ok (.if_icmp .ge 175, 3) := by decide +kernel
theorem dX8_prints_16 : decode cX8_prints 16 = .ok (.iconst 3, 1) := by decide +kernel
theorem dX8_prints_17 : decode cX8_prints 17 = .ok (.iconst 5, 1) := by decide +kernel
theorem dX8_prints_18 : decode cX8_prints 18 = .ok (.iload_n 3, 1) := by decide +kernel
theorem dX8_prints_19 : decode cX8_prints 19 = .ok (.imul, 1) := by decide +kernel
theorem dX8_prints_20 : decode cX8_prints 20 = .ok (.iadd, 1) := by decide +kernel
theorem dX8_prints_21 : decode cX8_prints 21 = .ok (.istore 4, 2) := by decide +kernel
theorem dX8_prints_23 : decode cX8_prints 23 = .ok (.iconst 0, 1) := by decide +kernel
theorem dX8_prints_24 : decode cX8_prints 24 = .ok (.istore 5, 2) := by decide +kernel
theorem dX8_prints_26 : decode cX8_prints 26 = .ok (.iload 5, 2) := by decide +kernel
theorem dX8_prints_28 : decode cX8_prints 28 = .ok (.bipush 7, 2) := by decide +kernel
theorem dX8_prints_30 : decode cX8_prints 30 = .ok (.if_icmp .ge 32, 3) := by decide +kernel
theorem dX8_prints_33 : decode cX8_prints 33 = .ok (.aload_n 1, 1) := by decide +kernel
theorem dX8_prints_34 : decode cX8_prints 34 = .ok (.iload 4, 2) := by decide +kernel
theorem dX8_prints_36 : decode cX8_prints 36 = .ok (.iconst 3, 1) := by decide +kernel
theorem dX8_prints_37 : decode cX8_prints 37 = .ok (.iadd, 1) := by decide +kernel
theorem dX8_prints_38 : decode cX8_prints 38 = .ok (.iaload, 1) := by decide +kernel
theorem dX8_prints_39 : decode cX8_prints 39 = .ok (.iconst 1, 1) := by decide +kernel
theorem dX8_prints_40 : decode cX8_prints 40 = .ok (.if_icmp .ne 22, 3) := by decide +kernel
theorem dX8_prints_43 : decode cX8_prints 43 = .ok (.aload_n 0, 1) := by decide +kernel
theorem dX8_prints_44 : decode cX8_prints 44 = .ok (.getfield 53, 3) := by decide +kernel
theorem dX8_prints_47 : decode cX8_prints 47 = .ok (.iload 5, 2) := by decide +kernel
theorem dX8_prints_49 : decode cX8_prints 49 = .ok (.aload_n 1, 1) := by decide +kernel
theorem dX8_prints_50 : decode cX8_prints 50 = .ok (.iload 5, 2) := by decide +kernel
theorem dX8_prints_52 : decode cX8_prints 52 = .ok (.invokestatic 169, 3) := by decide +kernel
theorem dX8_prints_55 : decode cX8_prints 55 = .ok (.iastore, 1) := by decide +kernel
theorem dX8_prints_56 : decode cX8_prints 56 = .ok (.iinc 5 1, 3) := by decide +kernel
theorem dX8_prints_59 : decode cX8_prints 59 = .ok (.goto (-33), 3) := by decide +kernel
theorem dX8_prints_62 : decode cX8_prints 62 = .ok (.iconst 0, 1) := by decide +kernel
theorem dX8_prints_63 : decode cX8_prints 63 = .ok (.istore 5, 2) := by decide +kernel
theorem dX8_prints_65 : decode cX8_prints 65 = .ok (.iload 5, 2) := by decide +kernel
theorem dX8_prints_67 : decode cX8_prints 67 = .ok (.aload_n 1, 1) := by decide +kernel
theorem dX8_prints_68 : decode cX8_prints 68 = .ok (.iload 4, 2) := by decide +kernel
theorem dX8_prints_70 : decode cX8_prints 70 = .ok (.iconst 2, 1) := by decide +kernel
theorem dX8_prints_71 : decode cX8_prints 71 = .ok (.iadd, 1) := by decide +kernel
theorem dX8_prints_72 : decode cX8_prints 72 = .ok (.iaload, 1) := by decide +kernel
theorem dX8_prints_73 : decode cX8_prints 73 = .ok (.if_icmp .ge 109, 3) := by decide +kernel
theorem dX8_prints_76 : decode cX8_prints 76 = .ok (.aload_n 1, 1) := by decide +kernel
theorem dX8_prints_77 : decode cX8_prints 77 = .ok (.iload_n 3, 1) := by decide +kernel
theorem dX8_prints_78 : decode cX8_prints 78 = .ok (.iload 5, 2) := by decide +kernel
theorem dX8_prints_80 : decode cX8_prints 80 = .ok (.bipush (-15), 2) := by decide +kernel
theorem dX8_prints_82 : decode cX8_prints 82 = .ok (.aload_n 0, 1) := by decide +kernel
theorem dX8_prints_83 : decode cX8_prints 83 = .ok (.getfield 50, 3) := by decide +kernel
theorem dX8_prints_86 : decode cX8_prints 86 = .ok (.iload_n 3, 1) := by decide +kernel
theorem dX8_prints_87 : decode cX8_prints 87 = .ok (.iaload, 1) := by decide +kernel
theorem dX8_prints_88 : decode cX8_prints 88 = .ok (.iadd, 1) := by decide +kernel
theorem dX8_prints_89 : decode cX8_prints 89 = .ok (.invokestatic 176, 3) := by decide +kernel
theorem dX8_prints_92 : decode cX8_prints 92 = .ok (.istore 6, 2) := by decide +kernel
theorem dX8_prints_94 : decode cX8_prints 94 = .ok (.iload 6, 2) := by decide +kernel
theorem dX8_prints_96 : decode cX8_prints 96 = .ok (.invokestatic 166, 3) := by decide +kernel
theorem dX8_prints_99 : decode cX8_prints 99 = .ok (.aload_n 0, 1) := by decide +kernel
theorem dX8_prints_100 : decode cX8_prints 100 = .ok (.getfield 53, 3) := by decide +kernel
theorem dX8_prints_103 : decode cX8_prints 103 = .ok (.iload 6, 2) := by decide +kernel
theorem dX8_prints_105 : decode cX8_prints 105 = .ok (.invokestatic 157, 3) := by decide +kernel
theorem dX8_prints_108 : decode cX8_prints 108 = .ok (.iaload, 1) := by decide +kernel
theorem dX8_prints_109 : decode cX8_prints 109 = .ok (.if_icmp .eq 7, 3) := by decide +kernel
theorem dX8_prints_112 : decode cX8_prints 112 = .ok (.iconst 1, 1) := by decide +kernel
theorem dX8_prints_113 : decode cX8_prints 113 = .ok (.goto 4, 3) := by decide +kernel
theorem dX8_prints_116 : decode cX8_prints 116 = .ok (.iconst 0, 1) := by decide +kernel
theorem dX8_prints_117 : decode cX8_prints 117 = .ok (.istore 7, 2) := by decide +kernel
theorem dX8_prints_119 : decode cX8_prints 119 = .ok (.aload_n 0, 1) := by decide +kernel
theorem dX8_prints_120 : decode cX8_prints 120 = .ok (.getfield 56, 3) := by decide +kernel
theorem dX8_prints_123 : decode cX8_prints 123 = .ok (.aload_n 1, 1) := by decide +kernel
theorem dX8_prints_124 : decode cX8_prints 124 = .ok (.iload 4, 2) := by decide +kernel
theorem dX8_prints_126 : decode cX8_prints 126 = .ok (.iconst 1, 1) := by decide +kernel
theorem dX8_prints_127 : decode cX8_prints 127 = .ok (.iadd, 1) := by decide +kernel
theorem dX8_prints_128 : decode cX8_prints 128 = .ok (.iaload, 1) := by decide +kernel
theorem dX8_prints_129 : decode cX8_prints 129 = .ok (.iload 5, 2) := by decide +kernel
theorem dX8_prints_131 : decode cX8_prints 131 = .ok (.iadd, 1) := by decide +kernel
theorem dX8_prints_132 : decode cX8_prints 132 = .ok (.iload 7, 2) := by decide +kernel
theorem dX8_prints_134 : decode cX8_prints 134 = .ok (.ifCond .eq 11, 3) := by decide +kernel
theorem dX8_prints_137 : decode cX8_prints 137 = .ok (.iload 6, 2) := by decide +kernel
theorem dX8_prints_139 : decode cX8_prints 139 = .ok (.invokestatic 166, 3) := by decide +kernel
theorem dX8_prints_142 : decode cX8_prints 142 = .ok (.goto 5, 3) := by decide +kernel
theorem dX8_prints_145 : decode cX8_prints 145 = .ok (.ldc 62, 2) := by decide +kernel
theorem dX8_prints_147 : decode cX8_prints 147 = .ok (.iastore, 1) := by decide +kernel
theorem dX8_prints_148 : decode cX8_prints 148 = .ok (.aload_n 0, 1) := by decide +kernel
theorem dX8_prints_149 : decode cX8_prints 149 = .ok (.getfield 53, 3) := by decide +kernel
theorem dX8_prints_152 : decode cX8_prints 152 = .ok (.iload 6, 2) := by decide +kernel
theorem dX8_prints_154 : decode cX8_prints 154 = .ok (.invokestatic 157, 3) := by decide +kernel
theorem dX8_prints_157 : decode cX8_prints 157 = .ok (.iload 6, 2) := by decide +kernel
theorem dX8_prints_159 : decode cX8_prints 159 = .ok (.invokestatic 166, 3) := by decide +kernel
theorem dX8_prints_162 : decode cX8_prints 162 = .ok (.iastore, 1) := by decide +kernel
theorem dX8_prints_163 : decode cX8_prints 163 = .ok (.iload_n 2, 1) := by decide +kernel
theorem dX8_prints_164 : decode cX8_prints 164 = .ok (.iload 7, 2) := by decide +kernel
theorem dX8_prints_166 : decode cX8_prints 166 = .ok (.ifCond .eq 7, 3) := by decide +kernel
theorem dX8_prints_169 : decode cX8_prints 169 = .ok (.iconst 1, 1) := by decide +kernel
theorem dX8_prints_170 : decode cX8_prints 170 = .ok (.goto 4, 3) := by decide +kernel
theorem dX8_prints_173 : decode cX8_prints 173 = .ok (.iconst 0, 1) := by decide +kernel
theorem dX8_prints_174 : decode cX8_prints 174 = .ok (.iadd, 1) := by decide +kernel
theorem dX8_prints_175 : decode cX8_prints 175 = .ok (.istore_n 2, 1) := by decide +kernel
theorem dX8_prints_176 : decode cX8_prints 176 = .ok (.iinc 5 1, 3) := by decide +kernel
theorem dX8_prints_179 : decode cX8_prints 179 = .ok (.goto (-114), 3) := by decide +kernel
theorem dX8_prints_182 : decode cX8_prints 182 = .ok (.iinc 3 1, 3) := by decide +kernel
theorem dX8_prints_185 : decode cX8_prints 185 = .ok (.goto (-176), 3) := by decide +kernel
theorem dX8_prints_188 : decode cX8_prints 188 = .ok (.iload_n 2, 1) := by decide +kernel
theorem dX8_prints_189 : decode cX8_prints 189 = .ok (.ireturn, 1) := by decide +kernel
theorem dX8_notes_0 : decode cX8_notes 0 = .ok (.aload_n 0, 1) := by decide +kernel
theorem dX8_notes_1 : decode cX8_notes 1 = .ok (.getfield 151, 3) := by decide +kernel
theorem dX8_notes_4 : decode cX8_notes 4 = .ok (.bipush 16, 2) := by decide +kernel
theorem dX8_notes_6 : decode cX8_notes 6 = .ok (.if_icmp .ne 43, 3) := by decide +kernel
theorem dX8_notes_9 : decode cX8_notes 9 = .ok (.iconst 0, 1) := by decide +kernel
theorem dX8_notes_10 : decode cX8_notes 10 = .ok (.istore_n 1, 1) := by decide +kernel
theorem dX8_notes_11 : decode cX8_notes 11 = .ok (.iload_n 1, 1) := by decide +kernel
theorem dX8_notes_12 : decode cX8_notes 12 = .ok (.sipush 1395, 3) := by decide +kernel
theorem dX8_notes_15 : decode cX8_notes 15 = .ok (.if_icmp .ge 24, 3) := by decide +kernel
theorem dX8_notes_18 : decode cX8_notes 18 = .ok (.aload_n 0, 1) := by decide +kernel
theorem dX8_notes_19 : decode cX8_notes 19 = .ok (.getfield 34, 3) := by decide +kernel
theorem dX8_notes_22 : decode cX8_notes 22 = .ok (.iload_n 1, 1) := by decide +kernel
theorem dX8_notes_23 : decode cX8_notes 23 = .ok (.aload_n 0, 1) := by decide +kernel
theorem dX8_notes_24 : decode cX8_notes 24 = .ok (.getfield 34, 3) := by decide +kernel
theorem dX8_notes_27 : decode cX8_notes 27 = .ok (.iload_n 1, 1) := by decide +kernel
theorem dX8_notes_28 : decode cX8_notes 28 = .ok (.bipush 93, 2) := by decide +kernel
theorem dX8_notes_30 : decode cX8_notes 30 = .ok (.iadd, 1) := by decide +kernel
theorem dX8_notes_31 : decode cX8_notes 31 = .ok (.iaload, 1) := by decide +kernel
theorem dX8_notes_32 : decode cX8_notes 32 = .ok (.iastore, 1) := by decide +kernel
theorem dX8_notes_33 : decode cX8_notes 33 = .ok (.iinc 1 1, 3) := by decide +kernel
theorem dX8_notes_36 : decode cX8_notes 36 = .ok (.goto (-25), 3) := by decide +kernel
theorem dX8_notes_39 : decode cX8_notes 39 = .ok (.aload_n 0, 1) := by decide +kernel
theorem dX8_notes_40 : decode cX8_notes 40 = .ok (.dup, 1) := by decide +kernel
theorem dX8_notes_41 : decode cX8_notes 41 = .ok (.getfield 151, 3) := by decide +kernel
theorem dX8_notes_44 : decode cX8_notes 44 = .ok (.iconst 1, 1) := by decide +kernel
theorem dX8_notes_45 : decode cX8_notes 45 = .ok (.isub, 1) := by decide +kernel
theorem dX8_notes_46 : decode cX8_notes 46 = .ok (.putfield 151, 3) := by decide +kernel
theorem dX8_notes_49 : decode cX8_notes 49 = .ok (.aload_n 0, 1) := by decide +kernel
theorem dX8_notes_50 : decode cX8_notes 50 = .ok (.getfield 25, 3) := by decide +kernel
theorem dX8_notes_53 : decode cX8_notes 53 = .ok (.iconst 0, 1) := by decide +kernel
theorem dX8_notes_54 : decode cX8_notes 54 = .ok (.aload_n 0, 1) := by decide +kernel
theorem dX8_notes_55 : decode cX8_notes 55 = .ok (.getfield 34, 3) := by decide +kernel
theorem dX8_notes_58 : decode cX8_notes 58 = .ok (.bipush 93, 2) := by decide +kernel
theorem dX8_notes_60 : decode cX8_notes 60 = .ok (.aload_n 0, 1) := by decide +kernel
theorem dX8_notes_61 : decode cX8_notes 61 = .ok (.getfield 151, 3) := by decide +kernel
theorem dX8_notes_64 : decode cX8_notes 64 = .ok (.imul, 1) := by decide +kernel
theorem dX8_notes_65 : decode cX8_notes 65 = .ok (.invokestatic 147, 3) := by decide +kernel
theorem dX8_notes_68 : decode cX8_notes 68 = .ok (.aload_n 0, 1) := by decide +kernel
theorem dX8_notes_69 : decode cX8_notes 69 = .ok (.dup, 1) := by decide +kernel
theorem dX8_notes_70 : decode cX8_notes 70 = .ok (.getfield 151, 3) := by decide +kernel
theorem dX8_notes_73 : decode cX8_notes 73 = .ok (.iconst 1, 1) := by decide +kernel
theorem dX8_notes_74 : decode cX8_notes 74 = .ok (.iadd, 1) := by decide +kernel
theorem dX8_notes_75 : decode cX8_notes 75 = .ok (.putfield 151, 3) := by decide +kernel
theorem dX8_notes_78 : decode cX8_notes 78 = .ok (.return_, 1) := by decide +kernel
theorem dX8_key_0 : decode cX8_key 0 = .ok (.aload_n 0, 1) := by decide +kernel
theorem dX8_key_1 : decode cX8_key 1 = .ok (.iload_n 1, 1) := by decide +kernel
theorem dX8_key_2 : decode cX8_key 2 = .ok (.invokevirtual 205, 3) := by decide +kernel
theorem dX8_key_5 : decode cX8_key 5 = .ok (.ifCond .eq 13, 3) := by decide +kernel
theorem dX8_key_8 : decode cX8_key 8 = .ok (.iload_n 2, 1) := by decide +kernel
theorem dX8_key_9 : decode cX8_key 9 = .ok (.iconst 0, 1) := by decide +kernel
theorem dX8_key_10 : decode cX8_key 10 = .ok (.bipush 11, 2) := by decide +kernel
theorem dX8_key_12 : decode cX8_key 12 = .ok (.invokestatic 68, 3) := by decide +kernel
theorem dX8_key_15 : decode cX8_key 15 = .ok (.ifCond .ne 6, 3) := by decide +kernel
theorem dX8_key_18 : decode cX8_key 18 = .ok (.ldc 76, 2) := by decide +kernel
theorem dX8_key_20 : decode cX8_key 20 = .ok (.ireturn, 1) := by decide +kernel
theorem dX8_key_21 : decode cX8_key 21 = .ok (.aload_n 0, 1) := by decide +kernel
theorem dX8_key_22 : decode cX8_key 22 = .ok (.getfield 25, 3) := by decide +kernel
theorem dX8_key_25 : decode cX8_key 25 = .ok (.bipush 53, 2) := by decide +kernel
theorem dX8_key_27 : decode cX8_key 27 = .ok (.iload_n 1, 1) := by decide +kernel
theorem dX8_key_28 : decode cX8_key 28 = .ok (.iadd, 1) := by decide +kernel
theorem dX8_key_29 : decode cX8_key 29 = .ok (.iaload, 1) := by decide +kernel
theorem dX8_key_30 : decode cX8_key 30 = .ok (.istore_n 3, 1) := by decide +kernel
theorem dX8_key_31 : decode cX8_key 31 = .ok (.iload_n 3, 1) := by decide +kernel
theorem dX8_key_32 : decode cX8_key 32 = .ok (.iload_n 2, 1) := by decide +kernel
theorem dX8_key_33 : decode cX8_key 33 = .ok (.if_icmp .ne 6, 3) := by decide +kernel
theorem dX8_key_36 : decode cX8_key 36 = .ok (.ldc 208, 2) := by decide +kernel
theorem dX8_key_38 : decode cX8_key 38 = .ok (.ireturn, 1) := by decide +kernel
theorem dX8_key_39 : decode cX8_key 39 = .ok (.aload_n 0, 1) := by decide +kernel
theorem dX8_key_40 : decode cX8_key 40 = .ok (.invokevirtual 209, 3) := by decide +kernel
theorem dX8_key_43 : decode cX8_key 43 = .ok (.aload_n 0, 1) := by decide +kernel
theorem dX8_key_44 : decode cX8_key 44 = .ok (.getfield 25, 3) := by decide +kernel
theorem dX8_key_47 : decode cX8_key 47 = .ok (.bipush 53, 2) := by decide +kernel
theorem dX8_key_49 : decode cX8_key 49 = .ok (.iload_n 1, 1) := by decide +kernel
theorem dX8_key_50 : decode cX8_key 50 = .ok (.iadd, 1) := by decide +kernel
theorem dX8_key_51 : decode cX8_key 51 = .ok (.iload_n 2, 1) := by decide +kernel
theorem dX8_key_52 : decode cX8_key 52 = .ok (.iastore, 1) := by decide +kernel
theorem dX8_key_53 : decode cX8_key 53 = .ok (.iload_n 3, 1) := by decide +kernel
theorem dX8_key_54 : decode cX8_key 54 = .ok (.ireturn, 1) := by decide +kernel
theorem dX8_become_0 : decode cX8_become 0 = .ok (.aload_n 0, 1) := by decide +kernel
theorem dX8_become_1 : decode cX8_become 1 = .ok (.iload_n 1, 1) := by decide +kernel
theorem dX8_become_2 : decode cX8_become 2 = .ok (.invokevirtual 212, 3) := by decide +kernel
theorem dX8_become_5 : decode cX8_become 5 = .ok (.ifCond .eq 12, 3) := by decide +kernel
theorem dX8_become_8 : decode cX8_become 8 = .ok (.iload_n 2, 1) := by decide +kernel
theorem dX8_become_9 : decode cX8_become 9 = .ok (.iconst 1, 1) := by decide +kernel
theorem dX8_become_10 : decode cX8_become 10 = .ok (.iconst 5, 1) := by decide +kernel
theorem dX8_become_11 : decode cX8_become 11 = .ok (.invokestatic 68, 3) := by decide +kernel
theorem dX8_become_14 : decode cX8_become 14 = .ok (.ifCond .ne 6, 3) := by decide +kernel
theorem dX8_become_17 : decode cX8_become 17 = .ok (.ldc 76, 2) := by decide +kernel
theorem dX8_become_19 : decode cX8_become 19 = .ok (.ireturn, 1) := by decide +kernel
theorem dX8_become_20 : decode cX8_become 20 = .ok (.aload_n 0, 1) := by decide +kernel
theorem dX8_become_21 : decode cX8_become 21 = .ok (.getfield 25, 3) := by decide +kernel
theorem dX8_become_24 : decode cX8_become 24 = .ok (.iconst 3, 1) := by decide +kernel
theorem dX8_become_25 : decode cX8_become 25 = .ok (.iconst 5, 1) := by decide +kernel
theorem dX8_become_26 : decode cX8_become 26 = .ok (.iload_n 1, 1) := by decide +kernel
theorem dX8_become_27 : decode cX8_become 27 = .ok (.imul, 1) := by decide +kernel
theorem dX8_become_28 : decode cX8_become 28 = .ok (.iadd, 1) := by decide +kernel
theorem dX8_become_29 : decode cX8_become 29 = .ok (.iaload, 1) := by decide +kernel
theorem dX8_become_30 : decode cX8_become 30 = .ok (.istore_n 3, 1) := by decide +kernel
theorem dX8_become_31 : decode cX8_become 31 = .ok (.iload_n 3, 1) := by decide +kernel
theorem dX8_become_32 : decode cX8_become 32 = .ok (.iload_n 2, 1) := by decide +kernel
theorem dX8_become_33 : decode cX8_become 33 = .ok (.if_icmp .ne 6, 3) := by decide +kernel
theorem dX8_become_36 : decode cX8_become 36 = .ok (.ldc 208, 2) := by decide +kernel
theorem dX8_become_38 : decode cX8_become 38 = .ok (.ireturn, 1) := by decide +kernel
theorem dX8_become_39 : decode cX8_become 39 = .ok (.aload_n 0, 1) := by decide +kernel
theorem dX8_become_40 : decode cX8_become 40 = .ok (.invokevirtual 209, 3) := by decide +kernel
theorem dX8_become_43 : decode cX8_become 43 = .ok (.aload_n 0, 1) := by decide +kernel
theorem dX8_become_44 : decode cX8_become 44 = .ok (.getfield 25, 3) := by decide +kernel
theorem dX8_become_47 : decode cX8_become 47 = .ok (.iconst 3, 1) := by decide +kernel
theorem dX8_become_48 : decode cX8_become 48 = .ok (.iconst 5, 1) := by decide +kernel
theorem dX8_become_49 : decode cX8_become 49 = .ok (.iload_n 1, 1) := by decide +kernel
theorem dX8_become_50 : decode cX8_become 50 = .ok (.imul, 1) := by decide +kernel
theorem dX8_become_51 : decode cX8_become 51 = .ok (.iadd, 1) := by decide +kernel
theorem dX8_become_52 : decode cX8_become 52 = .ok (.iload_n 2, 1) := by decide +kernel
theorem dX8_become_53 : decode cX8_become 53 = .ok (.iastore, 1) := by decide +kernel
theorem dX8_become_54 : decode cX8_become 54 = .ok (.iload_n 3, 1) := by decide +kernel
theorem dX8_become_55 : decode cX8_become 55 = .ok (.ireturn, 1) := by decide +kernel
theorem dX8_sign_0 : decode cX8_sign 0 = .ok (.aload_n 0, 1) := by decide +kernel
theorem dX8_sign_1 : decode cX8_sign 1 = .ok (.invokevirtual 215, 3) := by decide +kernel
theorem dX8_sign_4 : decode cX8_sign 4 = .ok (.ifCond .ne 6, 3) := by decide +kernel
theorem dX8_sign_7 : decode cX8_sign 7 = .ok (.ldc 208, 2) := by decide +kernel
theorem dX8_sign_9 : decode cX8_sign 9 = .ok (.ireturn, 1) := by decide +kernel
theorem dX8_sign_10 : decode cX8_sign 10 = .ok (.iload_n 1, 1) := by decide +kernel
theorem dX8_sign_11 : decode cX8_sign 11 = .ok (.iconst 0, 1) := by decide +kernel
theorem dX8_sign_12 : decode cX8_sign 12 = .ok (.bipush 14, 2) := by decide +kernel
theorem dX8_sign_14 : decode cX8_sign 14 = .ok (.invokestatic 68, 3) := by decide +kernel
theorem dX8_sign_17 : decode cX8_sign 17 = .ok (.ifCond .ne 6, 3) := by decide +kernel
theorem dX8_sign_20 : decode cX8_sign 20 = .ok (.ldc 76, 2) := by decide +kernel
theorem dX8_sign_22 : decode cX8_sign 22 = .ok (.ireturn, 1) := by decide +kernel
theorem dX8_sign_23 : decode cX8_sign 23 = .ok (.aload_n 0, 1) := by decide +kernel
theorem dX8_sign_24 : decode cX8_sign 24 = .ok (.getfield 25, 3) := by decide +kernel
theorem dX8_sign_27 : decode cX8_sign 27 = .ok (.iconst 0, 1) := by decide +kernel
theorem dX8_sign_28 : decode cX8_sign 28 = .ok (.iaload, 1) := by decide +kernel
theorem dX8_sign_29 : decode cX8_sign 29 = .ok (.istore_n 2, 1) := by decide +kernel
theorem dX8_sign_30 : decode cX8_sign 30 = .ok (.iload_n 2, 1) := by decide +kernel
theorem dX8_sign_31 : decode cX8_sign 31 = .ok (.iload_n 1, 1) := by decide +kernel
theorem dX8_sign_32 : decode cX8_sign 32 = .ok (.if_icmp .ne 6, 3) := by decide +kernel
theorem dX8_sign_35 : decode cX8_sign 35 = .ok (.ldc 208, 2) := by decide +kernel
theorem dX8_sign_37 : decode cX8_sign 37 = .ok (.ireturn, 1) := by decide +kernel
theorem dX8_sign_38 : decode cX8_sign 38 = .ok (.aload_n 0, 1) := by decide +kernel
theorem dX8_sign_39 : decode cX8_sign 39 = .ok (.invokevirtual 209, 3) := by decide +kernel
theorem dX8_sign_42 : decode cX8_sign 42 = .ok (.aload_n 0, 1) := by decide +kernel
theorem dX8_sign_43 : decode cX8_sign 43 = .ok (.getfield 25, 3) := by decide +kernel
theorem dX8_sign_46 : decode cX8_sign 46 = .ok (.iconst 0, 1) := by decide +kernel
theorem dX8_sign_47 : decode cX8_sign 47 = .ok (.iload_n 1, 1) := by decide +kernel
theorem dX8_sign_48 : decode cX8_sign 48 = .ok (.iastore, 1) := by decide +kernel
theorem dX8_sign_49 : decode cX8_sign 49 = .ok (.iload_n 2, 1) := by decide +kernel
theorem dX8_sign_50 : decode cX8_sign 50 = .ok (.ireturn, 1) := by decide +kernel
theorem dX8_shift_0 : decode cX8_shift 0 = .ok (.aload_n 0, 1) := by decide +kernel
theorem dX8_shift_1 : decode cX8_shift 1 = .ok (.invokevirtual 215, 3) := by decide +kernel
theorem dX8_shift_4 : decode cX8_shift 4 = .ok (.ifCond .ne 6, 3) := by decide +kernel
theorem dX8_shift_7 : decode cX8_shift 7 = .ok (.ldc 208, 2) := by decide +kernel
theorem dX8_shift_9 : decode cX8_shift 9 = .ok (.ireturn, 1) := by decide +kernel
theorem dX8_shift_10 : decode cX8_shift 10 = .ok (.iload_n 1, 1) := by decide +kernel
theorem dX8_shift_11 : decode cX8_shift 11 = .ok (.bipush (-6), 2) := by decide +kernel
theorem dX8_shift_13 : decode cX8_shift 13 = .ok (.bipush 6, 2) := by decide +kernel
theorem dX8_shift_15 : decode cX8_shift 15 = .ok (.invokestatic 68, 3) := by decide +kernel
theorem dX8_shift_18 : decode cX8_shift 18 = .ok (.ifCond .ne 6, 3) := by decide +kernel
theorem dX8_shift_21 : decode cX8_shift 21 = .ok (.ldc 76, 2) := by decide +kernel
theorem dX8_shift_23 : decode cX8_shift 23 = .ok (.ireturn, 1) := by decide +kernel
theorem dX8_shift_24 : decode cX8_shift 24 = .ok (.iload_n 1, 1) := by decide +kernel
theorem dX8_shift_25 : decode cX8_shift 25 = .ok (.ifCond .eq 20, 3) := by decide +kernel
theorem dX8_shift_28 : decode cX8_shift 28 = .ok (.aload_n 0, 1) := by decide +kernel
theorem dX8_shift_29 : decode cX8_shift 29 = .ok (.getfield 25, 3) := by decide +kernel
theorem dX8_shift_32 : decode cX8_shift 32 = .ok (.iconst 0, 1) := by decide +kernel
theorem dX8_shift_33 : decode cX8_shift 33 = .ok (.iaload, 1) := by decide +kernel
theorem dX8_shift_34 : decode cX8_shift 34 = .ok (.iload_n 1, 1) := by decide +kernel
theorem dX8_shift_35 : decode cX8_shift 35 = .ok (.iadd, 1) := by decide +kernel
theorem dX8_shift_36 : decode cX8_shift 36 = .ok (.iconst 0, 1) := by decide +kernel
theorem dX8_shift_37 : decode cX8_shift 37 = .ok (.bipush 14, 2) := by decide +kernel
theorem dX8_shift_39 : decode cX8_shift 39 = .ok (.invokestatic 68, 3) := by decide +kernel
theorem dX8_shift_42 : decode cX8_shift 42 = .ok (.ifCond .ne 6, 3) := by decide +kernel
theorem dX8_shift_45 : decode cX8_shift 45 = .ok (.ldc 208, 2) := by decide +kernel
theorem dX8_shift_47 : decode cX8_shift 47 = .ok (.ireturn, 1) := by decide +kernel
theorem dX8_shift_48 : decode cX8_shift 48 = .ok (.aload_n 0, 1) := by decide +kernel
theorem dX8_shift_49 : decode cX8_shift 49 = .ok (.invokevirtual 209, 3) := by decide +kernel
theorem dX8_shift_52 : decode cX8_shift 52 = .ok (.aload_n 0, 1) := by decide +kernel
theorem dX8_shift_53 : decode cX8_shift 53 = .ok (.getfield 25, 3) := by decide +kernel
theorem dX8_shift_56 : decode cX8_shift 56 = .ok (.iconst 0, 1) := by decide +kernel
theorem dX8_shift_57 : decode cX8_shift 57 = .ok (.dup2, 1) := by decide +kernel
theorem dX8_shift_58 : decode cX8_shift 58 = .ok (.iaload, 1) := by decide +kernel
theorem dX8_shift_59 : decode cX8_shift 59 = .ok (.iload_n 1, 1) := by decide +kernel
theorem dX8_shift_60 : decode cX8_shift 60 = .ok (.iadd, 1) := by decide +kernel
theorem dX8_shift_61 : decode cX8_shift 61 = .ok (.iastore, 1) := by decide +kernel
theorem dX8_shift_62 : decode cX8_shift 62 = .ok (.iconst 0, 1) := by decide +kernel
theorem dX8_shift_63 : decode cX8_shift 63 = .ok (.istore_n 2, 1) := by decide +kernel
theorem dX8_shift_64 : decode cX8_shift 64 = .ok (.iload_n 2, 1) := by decide +kernel
theorem dX8_shift_65 : decode cX8_shift 65 = .ok (.aload_n 0, 1) := by decide +kernel
theorem dX8_shift_66 : decode cX8_shift 66 = .ok (.getfield 25, 3) := by decide +kernel
theorem dX8_shift_69 : decode cX8_shift 69 = .ok (.iconst 2, 1) := by decide +kernel
theorem dX8_shift_70 : decode cX8_shift 70 = .ok (.iaload, 1) := by decide +kernel
theorem dX8_shift_71 : decode cX8_shift 71 = .ok (.if_icmp .ge 37, 3) := by decide +kernel
theorem dX8_shift_74 : decode cX8_shift 74 = .ok (.aload_n 0, 1) := by decide +kernel
theorem dX8_shift_75 : decode cX8_shift 75 = .ok (.getfield 25, 3) := by decide +kernel
theorem dX8_shift_78 : decode cX8_shift 78 = .ok (.bipush 53, 2) := by decide +kernel
theorem dX8_shift_80 : decode cX8_shift 80 = .ok (.iload_n 2, 1) := by decide +kernel
theorem dX8_shift_81 : decode cX8_shift 81 = .ok (.iadd, 1) := by decide +kernel
theorem dX8_shift_82 : decode cX8_shift 82 = .ok (.aload_n 0, 1) := by decide +kernel
theorem dX8_shift_83 : decode cX8_shift 83 = .ok (.getfield 25, 3) := by decide +kernel
theorem dX8_shift_86 : decode cX8_shift 86 = .ok (.bipush 53, 2) := by decide +kernel
theorem dX8_shift_88 : decode cX8_shift 88 = .ok (.iload_n 2, 1) := by decide +kernel
theorem dX8_shift_89 : decode cX8_shift 89 = .ok (.iadd, 1) := by decide +kernel
theorem dX8_shift_90 : decode cX8_shift 90 = .ok (.iaload, 1) := by decide +kernel
theorem dX8_shift_91 : decode cX8_shift 91 = .ok (.bipush 7, 2) := by decide +kernel
theorem dX8_shift_93 : decode cX8_shift 93 = .ok (.iload_n 1, 1) := by decide +kernel
theorem dX8_shift_94 : decode cX8_shift 94 = .ok (.imul, 1) := by decide +kernel
theorem dX8_shift_95 : decode cX8_shift 95 = .ok (.iadd, 1) := by decide +kernel
theorem dX8_shift_96 : decode cX8_shift 96 = .ok (.bipush 12, 2) := by decide +kernel
theorem dX8_shift_98 : decode cX8_shift 98 = .ok (.invokestatic 154, 3) := by decide +kernel
theorem dX8_shift_101 : decode cX8_shift 101 = .ok (.iastore, 1) := by decide +kernel
theorem dX8_shift_102 : decode cX8_shift 102 = .ok (.iinc 2 1, 3) := by decide +kernel
theorem dX8_shift_105 : decode cX8_shift 105 = .ok (.goto (-41), 3) := by decide +kernel
theorem dX8_shift_108 : decode cX8_shift 108 = .ok (.aload_n 0, 1) := by decide +kernel
theorem dX8_shift_109 : decode cX8_shift 109 = .ok (.getfield 25, 3) := by decide +kernel
theorem dX8_shift_112 : decode cX8_shift 112 = .ok (.iconst 0, 1) := by decide +kernel
theorem dX8_shift_113 : decode cX8_shift 113 = .ok (.iaload, 1) := by decide +kernel
theorem dX8_shift_114 : decode cX8_shift 114 = .ok (.ireturn, 1) := by decide +kernel
theorem dX8_undo_0 : decode cX8_undo 0 = .ok (.aload_n 0, 1) := by decide +kernel
theorem dX8_undo_1 : decode cX8_undo 1 = .ok (.getfield 151, 3) := by decide +kernel
theorem dX8_undo_4 : decode cX8_undo 4 = .ok (.ifCond .ne 6, 3) := by decide +kernel
theorem dX8_undo_7 : decode cX8_undo 7 = .ok (.ldc 208, 2) := by decide +kernel
theorem dX8_undo_9 : decode cX8_undo 9 = .ok (.ireturn, 1) := by decide +kernel
theorem dX8_undo_10 : decode cX8_undo 10 = .ok (.aload_n 0, 1) := by decide +kernel
theorem dX8_undo_11 : decode cX8_undo 11 = .ok (.dup, 1) := by decide +kernel
theorem dX8_undo_12 : decode cX8_undo 12 = .ok (.getfield 151, 3) := by decide +kernel
theorem dX8_undo_15 : decode cX8_undo 15 = .ok (.iconst 1, 1) := by decide +kernel
theorem dX8_undo_16 : decode cX8_undo 16 = .ok (.isub, 1) := by decide +kernel
theorem dX8_undo_17 : decode cX8_undo 17 = .ok (.putfield 151, 3) := by decide +kernel
theorem dX8_undo_20 : decode cX8_undo 20 = .ok (.aload_n 0, 1) := by decide +kernel
theorem dX8_undo_21 : decode cX8_undo 21 = .ok (.getfield 34, 3) := by decide +kernel
theorem dX8_undo_24 : decode cX8_undo 24 = .ok (.bipush 93, 2) := by decide +kernel
theorem dX8_undo_26 : decode cX8_undo 26 = .ok (.aload_n 0, 1) := by decide +kernel
theorem dX8_undo_27 : decode cX8_undo 27 = .ok (.getfield 151, 3) := by decide +kernel
theorem dX8_undo_30 : decode cX8_undo 30 = .ok (.imul, 1) := by decide +kernel
theorem dX8_undo_31 : decode cX8_undo 31 = .ok (.aload_n 0, 1) := by decide +kernel
theorem dX8_undo_32 : decode cX8_undo 32 = .ok (.getfield 25, 3) := by decide +kernel
theorem dX8_undo_35 : decode cX8_undo 35 = .ok (.iconst 0, 1) := by decide +kernel
theorem dX8_undo_36 : decode cX8_undo 36 = .ok (.invokestatic 147, 3) := by decide +kernel
theorem dX8_undo_39 : decode cX8_undo 39 = .ok (.aload_n 0, 1) := by decide +kernel
theorem dX8_undo_40 : decode cX8_undo 40 = .ok (.getfield 151, 3) := by decide +kernel
theorem dX8_undo_43 : decode cX8_undo 43 = .ok (.ireturn, 1) := by decide +kernel
theorem dX8_place_0 : decode cX8_place 0 = .ok (.iload_n 1, 1) := by decide +kernel
theorem dX8_place_1 : decode cX8_place 1 = .ok (.bipush (-15), 2) := by decide +kernel
theorem dX8_place_3 : decode cX8_place 3 = .ok (.bipush 19, 2) := by decide +kernel
theorem dX8_place_5 : decode cX8_place 5 = .ok (.invokestatic 68, 3) := by decide +kernel
theorem dX8_place_8 : decode cX8_place 8 = .ok (.ifCond .ne 6, 3) := by decide +kernel
theorem dX8_place_11 : decode cX8_place 11 = .ok (.ldc 76, 2) := by decide +kernel
theorem dX8_place_13 : decode cX8_place 13 = .ok (.ireturn, 1) := by decide +kernel
theorem dX8_place_14 : decode cX8_place 14 = .ok (.iload_n 2, 1) := by decide +kernel
theorem dX8_place_15 : decode cX8_place 15 = .ok (.ifCond .ne 10, 3) := by decide +kernel
theorem dX8_place_18 : decode cX8_place 18 = .ok (.iload_n 1, 1) := by decide +kernel
theorem dX8_place_19 : decode cX8_place 19 = .ok (.invokestatic 157, 3) := by decide +kernel
theorem dX8_place_22 : decode cX8_place 22 = .ok (.goto 29, 3) := by decide +kernel
theorem dX8_place_25 : decode cX8_place 25 = .ok (.iload_n 2, 1) := by decide +kernel
theorem dX8_place_26 : decode cX8_place 26 = .ok (.iconst 1, 1) := by decide +kernel
theorem dX8_place_27 : decode cX8_place 27 = .ok (.if_icmp .ne 10, 3) := by decide +kernel
theorem dX8_place_30 : decode cX8_place 30 = .ok (.iload_n 1, 1) := by decide +kernel
theorem dX8_place_31 : decode cX8_place 31 = .ok (.invokestatic 166, 3) := by decide +kernel
theorem dX8_place_34 : decode cX8_place 34 = .ok (.goto 17, 3) := by decide +kernel
theorem dX8_place_37 : decode cX8_place 37 = .ok (.iload_n 2, 1) := by decide +kernel
theorem dX8_place_38 : decode cX8_place 38 = .ok (.iconst 2, 1) := by decide +kernel
theorem dX8_place_39 : decode cX8_place 39 = .ok (.if_icmp .ne 10, 3) := by decide +kernel
theorem dX8_place_42 : decode cX8_place 42 = .ok (.iload_n 1, 1) := by decide +kernel
theorem dX8_place_43 : decode cX8_place 43 = .ok (.invokestatic 160, 3) := by decide +kernel
theorem dX8_place_46 : decode cX8_place 46 = .ok (.goto 5, 3) := by decide +kernel
theorem dX8_place_49 : decode cX8_place 49 = .ok (.ldc 76, 2) := by decide +kernel
theorem dX8_place_51 : decode cX8_place 51 = .ok (.ireturn, 1) := by decide +kernel
theorem dX8_isWindow_0 : decode cX8_isWindow 0 = .ok (.iload_n 0, 1) := by decide +kernel
theorem dX8_isWindow_1 : decode cX8_isWindow 1 = .ok (.bipush (-15), 2) := by decide +kernel
theorem dX8_isWindow_3 : decode cX8_isWindow 3 = .ok (.bipush 8, 2) := by decide +kernel
theorem dX8_isWindow_5 : decode cX8_isWindow 5 = .ok (.invokestatic 68, 3) := by decide +kernel
theorem dX8_isWindow_8 : decode cX8_isWindow 8 = .ok (.ireturn, 1) := by decide +kernel
theorem dX8_inWindow_0 : decode cX8_inWindow 0 = .ok (.iload_n 1, 1) := by decide +kernel
theorem dX8_inWindow_1 : decode cX8_inWindow 1 = .ok (.invokestatic 218, 3) := by decide +kernel
theorem dX8_inWindow_4 : decode cX8_inWindow 4 = .ok (.ifCond .eq 21, 3) := by decide +kernel
theorem dX8_inWindow_7 : decode cX8_inWindow 7 = .ok (.iload_n 2, 1) := by decide +kernel
theorem dX8_inWindow_8 : decode cX8_inWindow 8 = .ok (.iconst 0, 1) := by decide +kernel
theorem dX8_inWindow_9 : decode cX8_inWindow 9 = .ok (.bipush 11, 2) := by decide +kernel
theorem dX8_inWindow_11 : decode cX8_inWindow 11 = .ok (.invokestatic 68, 3) := by decide +kernel
theorem dX8_inWindow_14 : decode cX8_inWindow 14 = .ok (.ifCond .eq 11, 3) := by decide +kernel
theorem dX8_inWindow_17 : decode cX8_inWindow 17 = .ok (.iload_n 1, 1) := by decide +kernel
theorem dX8_inWindow_18 : decode cX8_inWindow 18 = .ok (.iload_n 2, 1) := by decide +kernel
theorem dX8_inWindow_19 : decode cX8_inWindow 19 = .ok (.invokestatic 163, 3) := by decide +kernel
theorem dX8_inWindow_22 : decode cX8_inWindow 22 = .ok (.goto 5, 3) := by decide +kernel
theorem dX8_inWindow_25 : decode cX8_inWindow 25 = .ok (.ldc 76, 2) := by decide +kernel
theorem dX8_inWindow_27 : decode cX8_inWindow 27 = .ok (.ireturn, 1) := by decide +kernel
theorem dX8_head_0 : decode cX8_head 0 = .ok (.aload_n 0, 1) := by decide +kernel
theorem dX8_head_1 : decode cX8_head 1 = .ok (.invokevirtual 215, 3) := by decide +kernel
theorem dX8_head_4 : decode cX8_head 4 = .ok (.ifCond .eq 24, 3) := by decide +kernel
theorem dX8_head_7 : decode cX8_head 7 = .ok (.iload_n 1, 1) := by decide +kernel
theorem dX8_head_8 : decode cX8_head 8 = .ok (.iconst 0, 1) := by decide +kernel
theorem dX8_head_9 : decode cX8_head 9 = .ok (.bipush 6, 2) := by decide +kernel
theorem dX8_head_11 : decode cX8_head 11 = .ok (.invokestatic 68, 3) := by decide +kernel
theorem dX8_head_14 : decode cX8_head 14 = .ok (.ifCond .eq 14, 3) := by decide +kernel
theorem dX8_head_17 : decode cX8_head 17 = .ok (.aload_n 0, 1) := by decide +kernel
theorem dX8_head_18 : decode cX8_head 18 = .ok (.getfield 25, 3) := by decide +kernel
theorem dX8_head_21 : decode cX8_head 21 = .ok (.iload_n 1, 1) := by decide +kernel
theorem dX8_head_22 : decode cX8_head 22 = .ok (.invokestatic 169, 3) := by decide +kernel
theorem dX8_head_25 : decode cX8_head 25 = .ok (.goto 5, 3) := by decide +kernel
theorem dX8_head_28 : decode cX8_head 28 = .ok (.ldc 76, 2) := by decide +kernel
theorem dX8_head_30 : decode cX8_head 30 = .ok (.ireturn, 1) := by decide +kernel
theorem dX8_chordOf_0 : decode cX8_chordOf 0 = .ok (.iconst 0, 1) := by decide +kernel
theorem dX8_chordOf_1 : decode cX8_chordOf 1 = .ok (.istore_n 2, 1) := by decide +kernel
theorem dX8_chordOf_2 : decode cX8_chordOf 2 = .ok (.iload_n 1, 1) := by decide +kernel
theorem dX8_chordOf_3 : decode cX8_chordOf 3 = .ok (.aload_n 0, 1) := by decide +kernel
theorem dX8_chordOf_4 : decode cX8_chordOf 4 = .ok (.getfield 25, 3) := by decide +kernel
theorem dX8_chordOf_7 : decode cX8_chordOf 7 = .ok (.iconst 3, 1) := by decide +kernel
theorem dX8_chordOf_8 : decode cX8_chordOf 8 = .ok (.iconst 5, 1) := by decide +kernel
theorem dX8_chordOf_9 : decode cX8_chordOf 9 = .ok (.iload_n 2, 1) := by decide +kernel
theorem dX8_chordOf_10 : decode cX8_chordOf 10 = .ok (.imul, 1) := by decide +kernel
theorem dX8_chordOf_11 : decode cX8_chordOf 11 = .ok (.iadd, 1) := by decide +kernel
theorem dX8_chordOf_12 : decode cX8_chordOf 12 = .ok (.iconst 1, 1) := by decide +kernel
theorem dX8_chordOf_13 : decode cX8_chordOf 13 = .ok (.iadd, 1) := by decide +kernel
theorem dX8_chordOf_14 : decode cX8_chordOf 14 = .ok (.iaload, 1) := by decide +kernel
theorem dX8_chordOf_15 : decode cX8_chordOf 15 = .ok (.aload_n 0, 1) := by decide +kernel
theorem dX8_chordOf_16 : decode cX8_chordOf 16 = .ok (.getfield 25, 3) := by decide +kernel
theorem dX8_chordOf_19 : decode cX8_chordOf 19 = .ok (.iconst 3, 1) := by decide +kernel
theorem dX8_chordOf_20 : decode cX8_chordOf 20 = .ok (.iconst 5, 1) := by decide +kernel
theorem dX8_chordOf_21 : decode cX8_chordOf 21 = .ok (.iload_n 2, 1) := by decide +kernel
theorem dX8_chordOf_22 : decode cX8_chordOf 22 = .ok (.imul, 1) := by decide +kernel
theorem dX8_chordOf_23 : decode cX8_chordOf 23 = .ok (.iadd, 1) := by decide +kernel
theorem dX8_chordOf_24 : decode cX8_chordOf 24 = .ok (.iconst 2, 1) := by decide +kernel
theorem dX8_chordOf_25 : decode cX8_chordOf 25 = .ok (.iadd, 1) := by decide +kernel
theorem dX8_chordOf_26 : decode cX8_chordOf 26 = .ok (.iaload, 1) := by decide +kernel
theorem dX8_chordOf_27 : decode cX8_chordOf 27 = .ok (.iadd, 1) := by decide +kernel
theorem dX8_chordOf_28 : decode cX8_chordOf 28 = .ok (.if_icmp .lt 9, 3) := by decide +kernel
theorem dX8_chordOf_31 : decode cX8_chordOf 31 = .ok (.iinc 2 1, 3) := by decide +kernel
theorem dX8_chordOf_34 : decode cX8_chordOf 34 = .ok (.goto (-32), 3) := by decide +kernel
theorem dX8_chordOf_37 : decode cX8_chordOf 37 = .ok (.iload_n 2, 1) := by decide +kernel
theorem dX8_chordOf_38 : decode cX8_chordOf 38 = .ok (.ireturn, 1) := by decide +kernel
theorem dX8_note_0 : decode cX8_note 0 = .ok (.aload_n 0, 1) := by decide +kernel
theorem dX8_note_1 : decode cX8_note 1 = .ok (.iload_n 1, 1) := by decide +kernel
theorem dX8_note_2 : decode cX8_note 2 = .ok (.invokevirtual 205, 3) := by decide +kernel
theorem dX8_note_5 : decode cX8_note 5 = .ok (.ifCond .eq 12, 3) := by decide +kernel
theorem dX8_note_8 : decode cX8_note 8 = .ok (.iload_n 2, 1) := by decide +kernel
theorem dX8_note_9 : decode cX8_note 9 = .ok (.iconst 0, 1) := by decide +kernel
theorem dX8_note_10 : decode cX8_note 10 = .ok (.iconst 5, 1) := by decide +kernel
theorem dX8_note_11 : decode cX8_note 11 = .ok (.invokestatic 68, 3) := by decide +kernel
theorem dX8_note_14 : decode cX8_note 14 = .ok (.ifCond .ne 6, 3) := by decide +kernel
theorem dX8_note_17 : decode cX8_note 17 = .ok (.ldc 76, 2) := by decide +kernel
theorem dX8_note_19 : decode cX8_note 19 = .ok (.ireturn, 1) := by decide +kernel
theorem dX8_note_20 : decode cX8_note 20 = .ok (.aload_n 0, 1) := by decide +kernel
theorem dX8_note_21 : decode cX8_note 21 = .ok (.iload_n 1, 1) := by decide +kernel
theorem dX8_note_22 : decode cX8_note 22 = .ok (.invokevirtual 221, 3) := by decide +kernel
theorem dX8_note_25 : decode cX8_note 25 = .ok (.istore_n 3, 1) := by decide +kernel
theorem dX8_note_26 : decode cX8_note 26 = .ok (.iload_n 2, 1) := by decide +kernel
theorem dX8_note_27 : decode cX8_note 27 = .ok (.iconst 2, 1) := by decide +kernel
theorem dX8_note_28 : decode cX8_note 28 = .ok (.if_icmp .ge 21, 3) := by decide +kernel
theorem dX8_note_31 : decode cX8_note 31 = .ok (.iload_n 2, 1) := by decide +kernel
theorem dX8_note_32 : decode cX8_note 32 = .ok (.ifCond .ne 15, 3) := by decide +kernel
theorem dX8_note_35 : decode cX8_note 35 = .ok (.aload_n 0, 1) := by decide +kernel
theorem dX8_note_36 : decode cX8_note 36 = .ok (.getfield 25, 3) := by decide +kernel
theorem dX8_note_39 : decode cX8_note 39 = .ok (.bipush 53, 2) := by decide +kernel
theorem dX8_note_41 : decode cX8_note 41 = .ok (.iload_n 1, 1) := by decide +kernel
theorem dX8_note_42 : decode cX8_note 42 = .ok (.iadd, 1) := by decide +kernel
theorem dX8_note_43 : decode cX8_note 43 = .ok (.iaload, 1) := by decide +kernel
theorem dX8_note_44 : decode cX8_note 44 = .ok (.goto 4, 3) := by decide +kernel
theorem dX8_note_47 : decode cX8_note 47 = .ok (.iload_n 3, 1) := by decide +kernel
theorem dX8_note_48 : decode cX8_note 48 = .ok (.ireturn, 1) := by decide +kernel
theorem dX8_note_49 : decode cX8_note 49 = .ok (.aload_n 0, 1) := by decide +kernel
theorem dX8_note_50 : decode cX8_note 50 = .ok (.aload_n 0, 1) := by decide +kernel
theorem dX8_note_51 : decode cX8_note 51 = .ok (.getfield 25, 3) := by decide +kernel
theorem dX8_note_54 : decode cX8_note 54 = .ok (.invokevirtual 224, 3) := by decide +kernel
theorem dX8_note_57 : decode cX8_note 57 = .ok (.pop, 1) := by decide +kernel
theorem dX8_note_58 : decode cX8_note 58 = .ok (.bipush (-15), 2) := by decide +kernel
theorem dX8_note_60 : decode cX8_note 60 = .ok (.aload_n 0, 1) := by decide +kernel
theorem dX8_note_61 : decode cX8_note 61 = .ok (.getfield 50, 3) := by decide +kernel
theorem dX8_note_64 : decode cX8_note 64 = .ok (.iload_n 3, 1) := by decide +kernel
theorem dX8_note_65 : decode cX8_note 65 = .ok (.iaload, 1) := by decide +kernel
theorem dX8_note_66 : decode cX8_note 66 = .ok (.iadd, 1) := by decide +kernel
theorem dX8_note_67 : decode cX8_note 67 = .ok (.aload_n 0, 1) := by decide +kernel
theorem dX8_note_68 : decode cX8_note 68 = .ok (.getfield 25, 3) := by decide +kernel
theorem dX8_note_71 : decode cX8_note 71 = .ok (.bipush 53, 2) := by decide +kernel
theorem dX8_note_73 : decode cX8_note 73 = .ok (.iload_n 1, 1) := by decide +kernel
theorem dX8_note_74 : decode cX8_note 74 = .ok (.iadd, 1) := by decide +kernel
theorem dX8_note_75 : decode cX8_note 75 = .ok (.iaload, 1) := by decide +kernel
theorem dX8_note_76 : decode cX8_note 76 = .ok (.invokestatic 163, 3) := by decide +kernel
theorem dX8_note_79 : decode cX8_note 79 = .ok (.istore 4, 2) := by decide +kernel
theorem dX8_note_81 : decode cX8_note 81 = .ok (.iload_n 2, 1) := by decide +kernel
theorem dX8_note_82 : decode cX8_note 82 = .ok (.iconst 2, 1) := by decide +kernel
theorem dX8_note_83 : decode cX8_note 83 = .ok (.if_icmp .ne 8, 3) := by decide +kernel
theorem dX8_note_86 : decode cX8_note 86 = .ok (.iload 4, 2) := by decide +kernel
theorem dX8_note_88 : decode cX8_note 88 = .ok (.goto 35, 3) := by decide +kernel
theorem dX8_note_91 : decode cX8_note 91 = .ok (.iload_n 2, 1) := by decide +kernel
theorem dX8_note_92 : decode cX8_note 92 = .ok (.iconst 3, 1) := by decide +kernel
theorem dX8_note_93 : decode cX8_note 93 = .ok (.if_icmp .ne 11, 3) := by decide +kernel
theorem dX8_note_96 : decode cX8_note 96 = .ok (.iload 4, 2) := by decide +kernel
theorem dX8_note_98 : decode cX8_note 98 = .ok (.invokestatic 157, 3) := by decide +kernel
theorem dX8_note_101 : decode cX8_note 101 = .ok (.goto 22, 3) := by decide +kernel
theorem dX8_note_104 : decode cX8_note 104 = .ok (.iload_n 2, 1) := by decide +kernel
theorem dX8_note_105 : decode cX8_note 105 = .ok (.iconst 4, 1) := by decide +kernel
theorem dX8_note_106 : decode cX8_note 106 = .ok (.if_icmp .ne 11, 3) := by decide +kernel
theorem dX8_note_109 : decode cX8_note 109 = .ok (.iload 4, 2) := by decide +kernel
theorem dX8_note_111 : decode cX8_note 111 = .ok (.invokestatic 166, 3) := by decide +kernel
theorem dX8_note_114 : decode cX8_note 114 = .ok (.goto 9, 3) := by decide +kernel
theorem dX8_note_117 : decode cX8_note 117 = .ok (.aload_n 0, 1) := by decide +kernel
theorem dX8_note_118 : decode cX8_note 118 = .ok (.getfield 56, 3) := by decide +kernel
theorem dX8_note_121 : decode cX8_note 121 = .ok (.iload_n 1, 1) := by decide +kernel
theorem dX8_note_122 : decode cX8_note 122 = .ok (.iaload, 1) := by decide +kernel
theorem dX8_note_123 : decode cX8_note 123 = .ok (.ireturn, 1) := by decide +kernel
theorem dX8_chord_0 : decode cX8_chord 0 = .ok (.aload_n 0, 1) := by decide +kernel
theorem dX8_chord_1 : decode cX8_chord 1 = .ok (.iload_n 1, 1) := by decide +kernel
theorem dX8_chord_2 : decode cX8_chord 2 = .ok (.invokevirtual 212, 3) := by decide +kernel
theorem dX8_chord_5 : decode cX8_chord 5 = .ok (.ifCond .ne 6, 3) := by decide +kernel
theorem dX8_chord_8 : decode cX8_chord 8 = .ok (.ldc 76, 2) := by decide +kernel
theorem dX8_chord_10 : decode cX8_chord 10 = .ok (.ireturn, 1) := by decide +kernel
theorem dX8_chord_11 : decode cX8_chord 11 = .ok (.iload_n 2, 1) := by decide +kernel
theorem dX8_chord_12 : decode cX8_chord 12 = .ok (.tableswitch 112 0 5 #[40, 53, 66, 72, 86, 99], 40) := by decide +kernel
theorem dX8_chord_52 : decode cX8_chord 52 = .ok (.aload_n 0, 1) := by decide +kernel
theorem dX8_chord_53 : decode cX8_chord 53 = .ok (.getfield 25, 3) := by decide +kernel
theorem dX8_chord_56 : decode cX8_chord 56 = .ok (.iconst 3, 1) := by decide +kernel
theorem dX8_chord_57 : decode cX8_chord 57 = .ok (.iconst 5, 1) := by decide +kernel
theorem dX8_chord_58 : decode cX8_chord 58 = .ok (.iload_n 1, 1) := by decide +kernel
theorem dX8_chord_59 : decode cX8_chord 59 = .ok (.imul, 1) := by decide +kernel
theorem dX8_chord_60 : decode cX8_chord 60 = .ok (.iadd, 1) := by decide +kernel
theorem dX8_chord_61 : decode cX8_chord 61 = .ok (.iconst 2, 1) := by decide +kernel
theorem dX8_chord_62 : decode cX8_chord 62 = .ok (.iadd, 1) := by decide +kernel
theorem dX8_chord_63 : decode cX8_chord 63 = .ok (.iaload, 1) := by decide +kernel
theorem dX8_chord_64 : decode cX8_chord 64 = .ok (.ireturn, 1) := by decide +kernel
theorem dX8_chord_65 : decode cX8_chord 65 = .ok (.aload_n 0, 1) := by decide +kernel
theorem dX8_chord_66 : decode cX8_chord 66 = .ok (.getfield 25, 3) := by decide +kernel
theorem dX8_chord_69 : decode cX8_chord 69 = .ok (.iconst 3, 1) := by decide +kernel
theorem dX8_chord_70 : decode cX8_chord 70 = .ok (.iconst 5, 1) := by decide +kernel
theorem dX8_chord_71 : decode cX8_chord 71 = .ok (.iload_n 1, 1) := by decide +kernel
theorem dX8_chord_72 : decode cX8_chord 72 = .ok (.imul, 1) := by decide +kernel
theorem dX8_chord_73 : decode cX8_chord 73 = .ok (.iadd, 1) := by decide +kernel
theorem dX8_chord_74 : decode cX8_chord 74 = .ok (.iconst 1, 1) := by decide +kernel
theorem dX8_chord_75 : decode cX8_chord 75 = .ok (.iadd, 1) := by decide +kernel
theorem dX8_chord_76 : decode cX8_chord 76 = .ok (.iaload, 1) := by decide +kernel
theorem dX8_chord_77 : decode cX8_chord 77 = .ok (.ireturn, 1) := by decide +kernel
theorem dX8_chord_78 : decode cX8_chord 78 = .ok (.aload_n 0, 1) := by decide +kernel
theorem dX8_chord_79 : decode cX8_chord 79 = .ok (.iload_n 1, 1) := by decide +kernel
theorem dX8_chord_80 : decode cX8_chord 80 = .ok (.invokevirtual 228, 3) := by decide +kernel
theorem dX8_chord_83 : decode cX8_chord 83 = .ok (.ireturn, 1) := by decide +kernel
theorem dX8_chord_84 : decode cX8_chord 84 = .ok (.aload_n 0, 1) := by decide +kernel
theorem dX8_chord_85 : decode cX8_chord 85 = .ok (.getfield 25, 3) := by decide +kernel
theorem dX8_chord_88 : decode cX8_chord 88 = .ok (.iload_n 1, 1) := by decide +kernel
theorem dX8_chord_89 : decode cX8_chord 89 = .ok (.aload_n 0, 1) := by decide +kernel
theorem dX8_chord_90 : decode cX8_chord 90 = .ok (.iload_n 1, 1) := by decide +kernel
theorem dX8_chord_91 : decode cX8_chord 91 = .ok (.invokevirtual 228, 3) := by decide +kernel
theorem dX8_chord_94 : decode cX8_chord 94 = .ok (.invokestatic 192, 3) := by decide +kernel
theorem dX8_chord_97 : decode cX8_chord 97 = .ok (.ireturn, 1) := by decide +kernel
theorem dX8_chord_98 : decode cX8_chord 98 = .ok (.aload_n 0, 1) := by decide +kernel
theorem dX8_chord_99 : decode cX8_chord 99 = .ok (.getfield 25, 3) := by decide +kernel
theorem dX8_chord_102 : decode cX8_chord 102 = .ok (.iconst 3, 1) := by decide +kernel
theorem dX8_chord_103 : decode cX8_chord 103 = .ok (.iconst 5, 1) := by decide +kernel
theorem dX8_chord_104 : decode cX8_chord 104 = .ok (.iload_n 1, 1) := by decide +kernel
theorem dX8_chord_105 : decode cX8_chord 105 = .ok (.imul, 1) := by decide +kernel
theorem dX8_chord_106 : decode cX8_chord 106 = .ok (.iadd, 1) := by decide +kernel
theorem dX8_chord_107 : decode cX8_chord 107 = .ok (.iconst 3, 1) := by decide +kernel
theorem dX8_chord_108 : decode cX8_chord 108 = .ok (.iadd, 1) := by decide +kernel
theorem dX8_chord_109 : decode cX8_chord 109 = .ok (.iaload, 1) := by decide +kernel
theorem dX8_chord_110 : decode cX8_chord 110 = .ok (.ireturn, 1) := by decide +kernel
theorem dX8_chord_111 : decode cX8_chord 111 = .ok (.aload_n 0, 1) := by decide +kernel
theorem dX8_chord_112 : decode cX8_chord 112 = .ok (.getfield 25, 3) := by decide +kernel
theorem dX8_chord_115 : decode cX8_chord 115 = .ok (.iconst 3, 1) := by decide +kernel
theorem dX8_chord_116 : decode cX8_chord 116 = .ok (.iconst 5, 1) := by decide +kernel
theorem dX8_chord_117 : decode cX8_chord 117 = .ok (.iload_n 1, 1) := by decide +kernel
theorem dX8_chord_118 : decode cX8_chord 118 = .ok (.imul, 1) := by decide +kernel
theorem dX8_chord_119 : decode cX8_chord 119 = .ok (.iadd, 1) := by decide +kernel
theorem dX8_chord_120 : decode cX8_chord 120 = .ok (.iconst 4, 1) := by decide +kernel
theorem dX8_chord_121 : decode cX8_chord 121 = .ok (.iadd, 1) := by decide +kernel
theorem dX8_chord_122 : decode cX8_chord 122 = .ok (.iaload, 1) := by decide +kernel
theorem dX8_chord_123 : decode cX8_chord 123 = .ok (.ireturn, 1) := by decide +kernel
theorem dX8_chord_124 : decode cX8_chord 124 = .ok (.ldc 76, 2) := by decide +kernel
theorem dX8_chord_126 : decode cX8_chord 126 = .ok (.ireturn, 1) := by decide +kernel
theorem dX8_costBy_0 : decode cX8_costBy 0 = .ok (.aload_n 0, 1) := by decide +kernel
theorem dX8_costBy_1 : decode cX8_costBy 1 = .ok (.getfield 25, 3) := by decide +kernel
theorem dX8_costBy_4 : decode cX8_costBy 4 = .ok (.iconst 0, 1) := by decide +kernel
theorem dX8_costBy_5 : decode cX8_costBy 5 = .ok (.aload_n 0, 1) := by decide +kernel
theorem dX8_costBy_6 : decode cX8_costBy 6 = .ok (.getfield 31, 3) := by decide +kernel
theorem dX8_costBy_9 : decode cX8_costBy 9 = .ok (.iconst 0, 1) := by decide +kernel
theorem dX8_costBy_10 : decode cX8_costBy 10 = .ok (.invokestatic 147, 3) := by decide +kernel
theorem dX8_costBy_13 : decode cX8_costBy 13 = .ok (.aload_n 0, 1) := by decide +kernel
theorem dX8_costBy_14 : decode cX8_costBy 14 = .ok (.getfield 31, 3) := by decide +kernel
theorem dX8_costBy_17 : decode cX8_costBy 17 = .ok (.iconst 0, 1) := by decide +kernel
theorem dX8_costBy_18 : decode cX8_costBy 18 = .ok (.iload_n 1, 1) := by decide +kernel
theorem dX8_costBy_19 : decode cX8_costBy 19 = .ok (.iastore, 1) := by decide +kernel
theorem dX8_costBy_20 : decode cX8_costBy 20 = .ok (.aload_n 0, 1) := by decide +kernel
theorem dX8_costBy_21 : decode cX8_costBy 21 = .ok (.aload_n 0, 1) := by decide +kernel
theorem dX8_costBy_22 : decode cX8_costBy 22 = .ok (.getfield 31, 3) := by decide +kernel
theorem dX8_costBy_25 : decode cX8_costBy 25 = .ok (.invokevirtual 202, 3) := by decide +kernel
theorem dX8_costBy_28 : decode cX8_costBy 28 = .ok (.aload_n 0, 1) := by decide +kernel
theorem dX8_costBy_29 : decode cX8_costBy 29 = .ok (.getfield 199, 3) := by decide +kernel
theorem dX8_costBy_32 : decode cX8_costBy 32 = .ok (.ireturn, 1) := by decide +kernel
theorem dX8_bestHeads_0 : decode cX8_bestHeads 0 = .ok (.iconst 0, 1) := by decide +kernel
theorem dX8_bestHeads_1 : decode cX8_bestHeads 1 = .ok (.istore_n 1, 1) := by decide +kernel
theorem dX8_bestHeads_2 : decode cX8_bestHeads 2 = .ok (.aload_n 0, 1) := by decide +kernel
theorem dX8_bestHeads_3 : decode cX8_bestHeads 3 = .ok (.iconst 0, 1) := by decide +kernel
theorem dX8_bestHeads_4 : decode cX8_bestHeads 4 = .ok (.invokevirtual 231, 3) := by decide +kernel
theorem dX8_bestHeads_7 : decode cX8_bestHeads 7 = .ok (.istore_n 2, 1) := by decide +kernel
theorem dX8_bestHeads_8 : decode cX8_bestHeads 8 = .ok (.iconst 1, 1) := by decide +kernel
theorem dX8_bestHeads_9 : decode cX8_bestHeads 9 = .ok (.istore_n 3, 1) := by decide +kernel
theorem dX8_bestHeads_10 : decode cX8_bestHeads 10 = .ok (.iload_n 3, 1) := by decide +kernel
theorem dX8_bestHeads_11 : decode cX8_bestHeads 11 = .ok (.bipush 15, 2) := by decide +kernel
theorem dX8_bestHeads_13 : decode cX8_bestHeads 13 = .ok (.if_icmp .ge 41, 3) := by decide +kernel
theorem dX8_bestHeads_16 : decode cX8_bestHeads 16 = .ok (.aload_n 0, 1) := by decide +kernel
theorem dX8_bestHeads_17 : decode cX8_bestHeads 17 = .ok (.iload_n 3, 1) := by decide +kernel
theorem dX8_bestHeads_18 : decode cX8_bestHeads 18 = .ok (.invokevirtual 231, 3) := by decide +kernel
theorem dX8_bestHeads_21 : decode cX8_bestHeads 21 = .ok (.istore 4, 2) := by decide +kernel
theorem dX8_bestHeads_23 : decode cX8_bestHeads 23 = .ok (.iload 4, 2) := by decide +kernel
theorem dX8_bestHeads_25 : decode cX8_bestHeads 25 = .ok (.iload_n 2, 1) := by decide +kernel
theorem dX8_bestHeads_26 : decode cX8_bestHeads 26 = .ok (.if_icmp .ge 7, 3) := by decide +kernel
theorem dX8_bestHeads_29 : decode cX8_bestHeads 29 = .ok (.iload_n 3, 1) := by decide +kernel
theorem dX8_bestHeads_30 : decode cX8_bestHeads 30 = .ok (.goto 4, 3) := by decide +kernel
theorem dX8_bestHeads_33 : decode cX8_bestHeads 33 = .ok (.iload_n 1, 1) := by decide +kernel
theorem dX8_bestHeads_34 : decode cX8_bestHeads 34 = .ok (.istore_n 1, 1) := by decide +kernel
theorem dX8_bestHeads_35 : decode cX8_bestHeads 35 = .ok (.iload 4, 2) := by decide +kernel
theorem dX8_bestHeads_37 : decode cX8_bestHeads 37 = .ok (.iload_n 2, 1) := by decide +kernel
theorem dX8_bestHeads_38 : decode cX8_bestHeads 38 = .ok (.if_icmp .ge 8, 3) := by decide +kernel
theorem dX8_bestHeads_41 : decode cX8_bestHeads 41 = .ok (.iload 4, 2) := by decide +kernel
theorem dX8_bestHeads_43 : decode cX8_bestHeads 43 = .ok (.goto 4, 3) := by decide +kernel
theorem dX8_bestHeads_46 : decode cX8_bestHeads 46 = .ok (.iload_n 2, 1) := by decide +kernel
theorem dX8_bestHeads_47 : decode cX8_bestHeads 47 = .ok (.istore_n 2, 1) := by decide +kernel
theorem dX8_bestHeads_48 : decode cX8_bestHeads 48 = .ok (.iinc 3 1, 3) := by decide +kernel
theorem dX8_bestHeads_51 : decode cX8_bestHeads 51 = .ok (.goto (-41), 3) := by decide +kernel
theorem dX8_bestHeads_54 : decode cX8_bestHeads 54 = .ok (.iload_n 1, 1) := by decide +kernel
theorem dX8_bestHeads_55 : decode cX8_bestHeads 55 = .ok (.ireturn, 1) := by decide +kernel
theorem dX8_plainCost_0 : decode cX8_plainCost 0 = .ok (.iconst 0, 1) := by decide +kernel
theorem dX8_plainCost_1 : decode cX8_plainCost 1 = .ok (.istore_n 2, 1) := by decide +kernel
theorem dX8_plainCost_2 : decode cX8_plainCost 2 = .ok (.iconst 0, 1) := by decide +kernel
theorem dX8_plainCost_3 : decode cX8_plainCost 3 = .ok (.istore_n 3, 1) := by decide +kernel
theorem dX8_plainCost_4 : decode cX8_plainCost 4 = .ok (.iload_n 3, 1) := by decide +kernel
theorem dX8_plainCost_5 : decode cX8_plainCost 5 = .ok (.aload_n 0, 1) := by decide +kernel
theorem dX8_plainCost_6 : decode cX8_plainCost 6 = .ok (.getfield 25, 3) := by decide +kernel
theorem dX8_plainCost_9 : decode cX8_plainCost 9 = .ok (.iconst 1, 1) := by decide +kernel
theorem dX8_plainCost_10 : decode cX8_plainCost 10 = .ok (.iaload, 1) := by decide +kernel
theorem dX8_plainCost_11 : decode cX8_plainCost 11 = .ok (.if_icmp .ge 21, 3) := by decide +kernel
theorem dX8_plainCost_14 : decode cX8_plainCost 14 = .ok (.iload_n 2, 1) := by decide +kernel
theorem dX8_plainCost_15 : decode cX8_plainCost 15 = .ok (.aload_n 0, 1) := by decide +kernel
theorem dX8_plainCost_16 : decode cX8_plainCost 16 = .ok (.getfield 25, 3) := by decide +kernel
theorem dX8_plainCost_19 : decode cX8_plainCost 19 = .ok (.iload_n 3, 1) := by decide +kernel
theorem dX8_plainCost_20 : decode cX8_plainCost 20 = .ok (.iload_n 1, 1) := by decide +kernel
theorem dX8_plainCost_21 : decode cX8_plainCost 21 = .ok (.invokestatic 192, 3) := by decide +kernel
theorem dX8_plainCost_24 : decode cX8_plainCost 24 = .ok (.iadd, 1) := by decide +kernel
theorem dX8_plainCost_25 : decode cX8_plainCost 25 = .ok (.istore_n 2, 1) := by decide +kernel
theorem dX8_plainCost_26 : decode cX8_plainCost 26 = .ok (.iinc 3 1, 3) := by decide +kernel
theorem dX8_plainCost_29 : decode cX8_plainCost 29 = .ok (.goto (-25), 3) := by decide +kernel
theorem dX8_plainCost_32 : decode cX8_plainCost 32 = .ok (.iload_n 2, 1) := by decide +kernel
theorem dX8_plainCost_33 : decode cX8_plainCost 33 = .ok (.ireturn, 1) := by decide +kernel
theorem dX8_plainWindow_0 : decode cX8_plainWindow 0 = .ok (.bipush (-15), 2) := by decide +kernel
theorem dX8_plainWindow_2 : decode cX8_plainWindow 2 = .ok (.istore_n 1, 1) := by decide +kernel
theorem dX8_plainWindow_3 : decode cX8_plainWindow 3 = .ok (.bipush (-15), 2) := by decide +kernel
theorem dX8_plainWindow_5 : decode cX8_plainWindow 5 = .ok (.istore_n 2, 1) := by decide +kernel
theorem dX8_plainWindow_6 : decode cX8_plainWindow 6 = .ok (.iload_n 2, 1) := by decide +kernel
theorem dX8_plainWindow_7 : decode cX8_plainWindow 7 = .ok (.bipush 9, 2) := by decide +kernel
theorem dX8_plainWindow_9 : decode cX8_plainWindow 9 = .ok (.if_icmp .ge 28, 3) := by decide +kernel
theorem dX8_plainWindow_12 : decode cX8_plainWindow 12 = .ok (.aload_n 0, 1) := by decide +kernel
theorem dX8_plainWindow_13 : decode cX8_plainWindow 13 = .ok (.iload_n 2, 1) := by decide +kernel
theorem dX8_plainWindow_14 : decode cX8_plainWindow 14 = .ok (.invokevirtual 234, 3) := by decide +kernel
theorem dX8_plainWindow_17 : decode cX8_plainWindow 17 = .ok (.aload_n 0, 1) := by decide +kernel
theorem dX8_plainWindow_18 : decode cX8_plainWindow 18 = .ok (.iload_n 1, 1) := by decide +kernel
theorem dX8_plainWindow_19 : decode cX8_plainWindow 19 = .ok (.invokevirtual 234, 3) := by decide +kernel
theorem dX8_plainWindow_22 : decode cX8_plainWindow 22 = .ok (.if_icmp .ge 7, 3) := by decide +kernel
theorem dX8_plainWindow_25 : decode cX8_plainWindow 25 = .ok (.iload_n 2, 1) := by decide +kernel
theorem dX8_plainWindow_26 : decode cX8_plainWindow 26 = .ok (.goto 4, 3) := by decide +kernel
theorem dX8_plainWindow_29 : decode cX8_plainWindow 29 = .ok (.iload_n 1, 1) := by decide +kernel
theorem dX8_plainWindow_30 : decode cX8_plainWindow 30 = .ok (.istore_n 1, 1) := by decide +kernel
theorem dX8_plainWindow_31 : decode cX8_plainWindow 31 = .ok (.iinc 2 1, 3) := by decide +kernel
theorem dX8_plainWindow_34 : decode cX8_plainWindow 34 = .ok (.goto (-28), 3) := by decide +kernel
theorem dX8_plainWindow_37 : decode cX8_plainWindow 37 = .ok (.iload_n 1, 1) := by decide +kernel
theorem dX8_plainWindow_38 : decode cX8_plainWindow 38 = .ok (.ireturn, 1) := by decide +kernel
theorem dX8_whole_0 : decode cX8_whole 0 = .ok (.aload_n 0, 1) := by decide +kernel
theorem dX8_whole_1 : decode cX8_whole 1 = .ok (.invokevirtual 215, 3) := by decide +kernel
theorem dX8_whole_4 : decode cX8_whole 4 = .ok (.ifCond .ne 6, 3) := by decide +kernel
theorem dX8_whole_7 : decode cX8_whole 7 = .ok (.ldc 208, 2) := by decide +kernel
theorem dX8_whole_9 : decode cX8_whole 9 = .ok (.ireturn, 1) := by decide +kernel
theorem dX8_whole_10 : decode cX8_whole 10 = .ok (.iload_n 1, 1) := by decide +kernel
theorem dX8_whole_11 : decode cX8_whole 11 = .ok (.tableswitch 96 0 6 #[41, 54, 59, 68, 73, 82, 91], 41) := by decide +kernel
theorem dX8_whole_52 : decode cX8_whole 52 = .ok (.aload_n 0, 1) := by decide +kernel
theorem dX8_whole_53 : decode cX8_whole 53 = .ok (.aload_n 0, 1) := by decide +kernel
theorem dX8_whole_54 : decode cX8_whole 54 = .ok (.getfield 25, 3) := by decide +kernel
theorem dX8_whole_57 : decode cX8_whole 57 = .ok (.invokevirtual 202, 3) := by decide +kernel
theorem dX8_whole_60 : decode cX8_whole 60 = .ok (.aload_n 0, 1) := by decide +kernel
theorem dX8_whole_61 : decode cX8_whole 61 = .ok (.getfield 199, 3) := by decide +kernel
theorem dX8_whole_64 : decode cX8_whole 64 = .ok (.ireturn, 1) := by decide +kernel
theorem dX8_whole_65 : decode cX8_whole 65 = .ok (.aload_n 0, 1) := by decide +kernel
theorem dX8_whole_66 : decode cX8_whole 66 = .ok (.invokevirtual 237, 3) := by decide +kernel
theorem dX8_whole_69 : decode cX8_whole 69 = .ok (.ireturn, 1) := by decide +kernel
theorem dX8_whole_70 : decode cX8_whole 70 = .ok (.aload_n 0, 1) := by decide +kernel
theorem dX8_whole_71 : decode cX8_whole 71 = .ok (.aload_n 0, 1) := by decide +kernel
theorem dX8_whole_72 : decode cX8_whole 72 = .ok (.getfield 25, 3) := by decide +kernel
theorem dX8_whole_75 : decode cX8_whole 75 = .ok (.invokevirtual 224, 3) := by decide +kernel
theorem dX8_whole_78 : decode cX8_whole 78 = .ok (.ireturn, 1) := by decide +kernel
theorem dX8_whole_79 : decode cX8_whole 79 = .ok (.aload_n 0, 1) := by decide +kernel
theorem dX8_whole_80 : decode cX8_whole 80 = .ok (.invokevirtual 241, 3) := by decide +kernel
theorem dX8_whole_83 : decode cX8_whole 83 = .ok (.ireturn, 1) := by decide +kernel
theorem dX8_whole_84 : decode cX8_whole 84 = .ok (.aload_n 0, 1) := by decide +kernel
theorem dX8_whole_85 : decode cX8_whole 85 = .ok (.aload_n 0, 1) := by decide +kernel
theorem dX8_whole_86 : decode cX8_whole 86 = .ok (.invokevirtual 241, 3) := by decide +kernel
theorem dX8_whole_89 : decode cX8_whole 89 = .ok (.invokevirtual 231, 3) := by decide +kernel
theorem dX8_whole_92 : decode cX8_whole 92 = .ok (.ireturn, 1) := by decide +kernel
theorem dX8_whole_93 : decode cX8_whole 93 = .ok (.aload_n 0, 1) := by decide +kernel
theorem dX8_whole_94 : decode cX8_whole 94 = .ok (.aload_n 0, 1) := by decide +kernel
theorem dX8_whole_95 : decode cX8_whole 95 = .ok (.invokevirtual 244, 3) := by decide +kernel
theorem dX8_whole_98 : decode cX8_whole 98 = .ok (.invokevirtual 234, 3) := by decide +kernel
theorem dX8_whole_101 : decode cX8_whole 101 = .ok (.ireturn, 1) := by decide +kernel
theorem dX8_whole_102 : decode cX8_whole 102 = .ok (.aload_n 0, 1) := by decide +kernel
theorem dX8_whole_103 : decode cX8_whole 103 = .ok (.invokevirtual 244, 3) := by decide +kernel
theorem dX8_whole_106 : decode cX8_whole 106 = .ok (.ireturn, 1) := by decide +kernel
theorem dX8_whole_107 : decode cX8_whole 107 = .ok (.ldc 76, 2) := by decide +kernel
theorem dX8_whole_109 : decode cX8_whole 109 = .ok (.ireturn, 1) := by decide +kernel
theorem dX8_price_0 : decode cX8_price 0 = .ok (.aload_n 0, 1) := by decide +kernel
theorem dX8_price_1 : decode cX8_price 1 = .ok (.iload_n 1, 1) := by decide +kernel
theorem dX8_price_2 : decode cX8_price 2 = .ok (.invokevirtual 212, 3) := by decide +kernel
theorem dX8_price_5 : decode cX8_price 5 = .ok (.ifCond .eq 22, 3) := by decide +kernel
theorem dX8_price_8 : decode cX8_price 8 = .ok (.iload_n 2, 1) := by decide +kernel
theorem dX8_price_9 : decode cX8_price 9 = .ok (.invokestatic 218, 3) := by decide +kernel
theorem dX8_price_12 : decode cX8_price 12 = .ok (.ifCond .eq 15, 3) := by decide +kernel
theorem dX8_price_15 : decode cX8_price 15 = .ok (.aload_n 0, 1) := by decide +kernel
theorem dX8_price_16 : decode cX8_price 16 = .ok (.getfield 25, 3) := by decide +kernel
theorem dX8_price_19 : decode cX8_price 19 = .ok (.iload_n 1, 1) := by decide +kernel
theorem dX8_price_20 : decode cX8_price 20 = .ok (.iload_n 2, 1) := by decide +kernel
theorem dX8_price_21 : decode cX8_price 21 = .ok (.invokestatic 192, 3) := by decide +kernel
theorem dX8_price_24 : decode cX8_price 24 = .ok (.goto 5, 3) := by decide +kernel
theorem dX8_price_27 : decode cX8_price 27 = .ok (.ldc 76, 2) := by decide +kernel
theorem dX8_price_29 : decode cX8_price 29 = .ok (.ireturn, 1) := by decide +kernel
theorem dX8_cost_0 : decode cX8_cost 0 = .ok (.aload_n 0, 1) := by decide +kernel
theorem dX8_cost_1 : decode cX8_cost 1 = .ok (.invokevirtual 215, 3) := by decide +kernel
theorem dX8_cost_4 : decode cX8_cost 4 = .ok (.ifCond .ne 6, 3) := by decide +kernel
theorem dX8_cost_7 : decode cX8_cost 7 = .ok (.ldc 208, 2) := by decide +kernel
theorem dX8_cost_9 : decode cX8_cost 9 = .ok (.ireturn, 1) := by decide +kernel
theorem dX8_cost_10 : decode cX8_cost 10 = .ok (.iload_n 1, 1) := by decide +kernel
theorem dX8_cost_11 : decode cX8_cost 11 = .ok (.invokestatic 72, 3) := by decide +kernel
theorem dX8_cost_14 : decode cX8_cost 14 = .ok (.ifCond .ne 6, 3) := by decide +kernel
theorem dX8_cost_17 : decode cX8_cost 17 = .ok (.ldc 76, 2) := by decide +kernel
theorem dX8_cost_19 : decode cX8_cost 19 = .ok (.ireturn, 1) := by decide +kernel
theorem dX8_cost_20 : decode cX8_cost 20 = .ok (.aload_n 0, 1) := by decide +kernel
theorem dX8_cost_21 : decode cX8_cost 21 = .ok (.iload_n 1, 1) := by decide +kernel
theorem dX8_cost_22 : decode cX8_cost 22 = .ok (.invokevirtual 84, 3) := by decide +kernel
theorem dX8_cost_25 : decode cX8_cost 25 = .ok (.ifCond .eq 9, 3) := by decide +kernel
theorem dX8_cost_28 : decode cX8_cost 28 = .ok (.aload_n 0, 1) := by decide +kernel
theorem dX8_cost_29 : decode cX8_cost 29 = .ok (.iconst 1, 1) := by decide +kernel
theorem dX8_cost_30 : decode cX8_cost 30 = .ok (.invokevirtual 77, 3) := by decide +kernel
theorem dX8_cost_33 : decode cX8_cost 33 = .ok (.ireturn, 1) := by decide +kernel
theorem dX8_cost_34 : decode cX8_cost 34 = .ok (.aload_n 0, 1) := by decide +kernel
theorem dX8_cost_35 : decode cX8_cost 35 = .ok (.iload_n 1, 1) := by decide +kernel
theorem dX8_cost_36 : decode cX8_cost 36 = .ok (.iload_n 2, 1) := by decide +kernel
theorem dX8_cost_37 : decode cX8_cost 37 = .ok (.aload_n 0, 1) := by decide +kernel
theorem dX8_cost_38 : decode cX8_cost 38 = .ok (.getfield 25, 3) := by decide +kernel
theorem dX8_cost_41 : decode cX8_cost 41 = .ok (.iconst 1, 1) := by decide +kernel
theorem dX8_cost_42 : decode cX8_cost 42 = .ok (.iaload, 1) := by decide +kernel
theorem dX8_cost_43 : decode cX8_cost 43 = .ok (.invokevirtual 91, 3) := by decide +kernel
theorem dX8_cost_46 : decode cX8_cost 46 = .ok (.ifCond .ne 9, 3) := by decide +kernel
theorem dX8_cost_49 : decode cX8_cost 49 = .ok (.aload_n 0, 1) := by decide +kernel
theorem dX8_cost_50 : decode cX8_cost 50 = .ok (.iconst 2, 1) := by decide +kernel
theorem dX8_cost_51 : decode cX8_cost 51 = .ok (.invokevirtual 77, 3) := by decide +kernel
theorem dX8_cost_54 : decode cX8_cost 54 = .ok (.ireturn, 1) := by decide +kernel
theorem dX8_cost_55 : decode cX8_cost 55 = .ok (.bipush 40, 2) := by decide +kernel
theorem dX8_cost_57 : decode cX8_cost 57 = .ok (.iload_n 1, 1) := by decide +kernel
theorem dX8_cost_58 : decode cX8_cost 58 = .ok (.imul, 1) := by decide +kernel
theorem dX8_cost_59 : decode cX8_cost 59 = .ok (.iload_n 2, 1) := by decide +kernel
theorem dX8_cost_60 : decode cX8_cost 60 = .ok (.iadd, 1) := by decide +kernel
theorem dX8_cost_61 : decode cX8_cost 61 = .ok (.istore_n 3, 1) := by decide +kernel
theorem dX8_cost_62 : decode cX8_cost 62 = .ok (.iconst 0, 1) := by decide +kernel
theorem dX8_cost_63 : decode cX8_cost 63 = .ok (.istore 4, 2) := by decide +kernel
theorem dX8_cost_65 : decode cX8_cost 65 = .ok (.iconst 0, 1) := by decide +kernel
theorem dX8_cost_66 : decode cX8_cost 66 = .ok (.istore 5, 2) := by decide +kernel
theorem dX8_cost_68 : decode cX8_cost 68 = .ok (.iload 5, 2) := by decide +kernel
theorem dX8_cost_70 : decode cX8_cost 70 = .ok (.aload_n 0, 1) := by decide +kernel
theorem dX8_cost_71 : decode cX8_cost 71 = .ok (.getfield 25, 3) := by decide +kernel
theorem dX8_cost_74 : decode cX8_cost 74 = .ok (.iconst 1, 1) := by decide +kernel
theorem dX8_cost_75 : decode cX8_cost 75 = .ok (.iaload, 1) := by decide +kernel
theorem dX8_cost_76 : decode cX8_cost 76 = .ok (.if_icmp .ge 102, 3) := by decide +kernel
theorem dX8_cost_79 : decode cX8_cost 79 = .ok (.aload_n 0, 1) := by decide +kernel
theorem dX8_cost_80 : decode cX8_cost 80 = .ok (.getfield 16, 3) := by decide +kernel
theorem dX8_cost_83 : decode cX8_cost 83 = .ok (.iload_n 3, 1) := by decide +kernel
theorem dX8_cost_84 : decode cX8_cost 84 = .ok (.iload 5, 2) := by decide +kernel
theorem dX8_cost_86 : decode cX8_cost 86 = .ok (.iadd, 1) := by decide +kernel
theorem dX8_cost_87 : decode cX8_cost 87 = .ok (.iaload, 1) := by decide +kernel
theorem dX8_cost_88 : decode cX8_cost 88 = .ok (.istore 6, 2) := by decide +kernel
theorem dX8_cost_90 : decode cX8_cost 90 = .ok (.iload 5, 2) := by decide +kernel
theorem dX8_cost_92 : decode cX8_cost 92 = .ok (.ifCond .eq 11, 3) := by decide +kernel
theorem dX8_cost_95 : decode cX8_cost 95 = .ok (.iload 6, 2) := by decide +kernel
theorem dX8_cost_97 : decode cX8_cost 97 = .ok (.invokestatic 218, 3) := by decide +kernel
theorem dX8_cost_100 : decode cX8_cost 100 = .ok (.ifCond .ne 7, 3) := by decide +kernel
theorem dX8_cost_103 : decode cX8_cost 103 = .ok (.iconst 0, 1) := by decide +kernel
theorem dX8_cost_104 : decode cX8_cost 104 = .ok (.goto 25, 3) := by decide +kernel
theorem dX8_cost_107 : decode cX8_cost 107 = .ok (.aload_n 0, 1) := by decide +kernel
theorem dX8_cost_108 : decode cX8_cost 108 = .ok (.getfield 25, 3) := by decide +kernel
theorem dX8_cost_111 : decode cX8_cost 111 = .ok (.iload 5, 2) := by decide +kernel
theorem dX8_cost_113 : decode cX8_cost 113 = .ok (.aload_n 0, 1) := by decide +kernel
theorem dX8_cost_114 : decode cX8_cost 114 = .ok (.getfield 16, 3) := by decide +kernel
theorem dX8_cost_117 : decode cX8_cost 117 = .ok (.iload_n 3, 1) := by decide +kernel
theorem dX8_cost_118 : decode cX8_cost 118 = .ok (.iload 5, 2) := by decide +kernel
theorem dX8_cost_120 : decode cX8_cost 120 = .ok (.iadd, 1) := by decide +kernel
theorem dX8_cost_121 : decode cX8_cost 121 = .ok (.iconst 1, 1) := by decide +kernel
theorem dX8_cost_122 : decode cX8_cost 122 = .ok (.isub, 1) := by decide +kernel
theorem dX8_cost_123 : decode cX8_cost 123 = .ok (.iaload, 1) := by decide +kernel
theorem dX8_cost_124 : decode cX8_cost 124 = .ok (.iload 6, 2) := by decide +kernel
theorem dX8_cost_126 : decode cX8_cost 126 = .ok (.invokestatic 188, 3) := by decide +kernel
theorem dX8_cost_129 : decode cX8_cost 129 = .ok (.istore 7, 2) := by decide +kernel
theorem dX8_cost_131 : decode cX8_cost 131 = .ok (.iload 6, 2) := by decide +kernel
theorem dX8_cost_133 : decode cX8_cost 133 = .ok (.invokestatic 218, 3) := by decide +kernel
theorem dX8_cost_136 : decode cX8_cost 136 = .ok (.ifCond .eq 10, 3) := by decide +kernel
theorem dX8_cost_139 : decode cX8_cost 139 = .ok (.iload 7, 2) := by decide +kernel
theorem dX8_cost_141 : decode cX8_cost 141 = .ok (.ldc 62, 2) := by decide +kernel
theorem dX8_cost_143 : decode cX8_cost 143 = .ok (.if_icmp .ne 10, 3) := by decide +kernel
theorem dX8_cost_146 : decode cX8_cost 146 = .ok (.aload_n 0, 1) := by decide +kernel
theorem dX8_cost_147 : decode cX8_cost 147 = .ok (.ldc 62, 2) := by decide +kernel
theorem dX8_cost_149 : decode cX8_cost 149 = .ok (.invokevirtual 81, 3) := by decide +kernel
theorem dX8_cost_152 : decode cX8_cost 152 = .ok (.ireturn, 1) := by decide +kernel
theorem dX8_cost_153 : decode cX8_cost 153 = .ok (.iload 4, 2) := by decide +kernel
theorem dX8_cost_155 : decode cX8_cost 155 = .ok (.iload 7, 2) := by decide +kernel
theorem dX8_cost_157 : decode cX8_cost 157 = .ok (.aload_n 0, 1) := by decide +kernel
theorem dX8_cost_158 : decode cX8_cost 158 = .ok (.getfield 25, 3) := by decide +kernel
theorem dX8_cost_161 : decode cX8_cost 161 = .ok (.iload 5, 2) := by decide +kernel
theorem dX8_cost_163 : decode cX8_cost 163 = .ok (.iload 6, 2) := by decide +kernel
theorem dX8_cost_165 : decode cX8_cost 165 = .ok (.invokestatic 192, 3) := by decide +kernel
theorem dX8_cost_168 : decode cX8_cost 168 = .ok (.iadd, 1) := by decide +kernel
theorem dX8_cost_169 : decode cX8_cost 169 = .ok (.iadd, 1) := by decide +kernel
theorem dX8_cost_170 : decode cX8_cost 170 = .ok (.istore 4, 2) := by decide +kernel
theorem dX8_cost_172 : decode cX8_cost 172 = .ok (.iinc 5 1, 3) := by decide +kernel
theorem dX8_cost_175 : decode cX8_cost 175 = .ok (.goto (-107), 3) := by decide +kernel
theorem dX8_cost_178 : decode cX8_cost 178 = .ok (.aload_n 0, 1) := by decide +kernel
theorem dX8_cost_179 : decode cX8_cost 179 = .ok (.iload 4, 2) := by decide +kernel
theorem dX8_cost_181 : decode cX8_cost 181 = .ok (.invokevirtual 81, 3) := by decide +kernel
theorem dX8_cost_184 : decode cX8_cost 184 = .ok (.ireturn, 1) := by decide +kernel
theorem dX8_isRead_0 : decode cX8_isRead 0 = .ok (.aload_n 0, 1) := by decide +kernel
theorem dX8_isRead_1 : decode cX8_isRead 1 = .ok (.getfield 25, 3) := by decide +kernel
theorem dX8_isRead_4 : decode cX8_isRead 4 = .ok (.iconst 0, 1) := by decide +kernel
theorem dX8_isRead_5 : decode cX8_isRead 5 = .ok (.aload_n 0, 1) := by decide +kernel
theorem dX8_isRead_6 : decode cX8_isRead 6 = .ok (.getfield 31, 3) := by decide +kernel
theorem dX8_isRead_9 : decode cX8_isRead 9 = .ok (.iconst 0, 1) := by decide +kernel
theorem dX8_isRead_10 : decode cX8_isRead 10 = .ok (.invokestatic 147, 3) := by decide +kernel
theorem dX8_isRead_13 : decode cX8_isRead 13 = .ok (.aload_n 0, 1) := by decide +kernel
theorem dX8_isRead_14 : decode cX8_isRead 14 = .ok (.getfield 31, 3) := by decide +kernel
theorem dX8_isRead_17 : decode cX8_isRead 17 = .ok (.iload_n 3, 1) := by decide +kernel
theorem dX8_isRead_18 : decode cX8_isRead 18 = .ok (.iload 4, 2) := by decide +kernel
theorem dX8_isRead_20 : decode cX8_isRead 20 = .ok (.iastore, 1) := by decide +kernel
theorem dX8_isRead_21 : decode cX8_isRead 21 = .ok (.aload_n 0, 1) := by decide +kernel
theorem dX8_isRead_22 : decode cX8_isRead 22 = .ok (.aload_n 0, 1) := by decide +kernel
theorem dX8_isRead_23 : decode cX8_isRead 23 = .ok (.getfield 31, 3) := by decide +kernel
theorem dX8_isRead_26 : decode cX8_isRead 26 = .ok (.invokevirtual 202, 3) := by decide +kernel
theorem dX8_isRead_29 : decode cX8_isRead 29 = .ok (.iconst 1, 1) := by decide +kernel
theorem dX8_isRead_30 : decode cX8_isRead 30 = .ok (.istore 5, 2) := by decide +kernel
theorem dX8_isRead_32 : decode cX8_isRead 32 = .ok (.iconst 0, 1) := by decide +kernel
theorem dX8_isRead_33 : decode cX8_isRead 33 = .ok (.istore 6, 2) := by decide +kernel
theorem dX8_isRead_35 : decode cX8_isRead 35 = .ok (.iload 6, 2) := by decide +kernel
theorem dX8_isRead_37 : decode cX8_isRead 37 = .ok (.iload_n 2, 1) := by decide +kernel
theorem dX8_isRead_38 : decode cX8_isRead 38 = .ok (.if_icmp .ge 66, 3) := by decide +kernel
theorem dX8_isRead_41 : decode cX8_isRead 41 = .ok (.iload 5, 2) := by decide +kernel
theorem dX8_isRead_43 : decode cX8_isRead 43 = .ok (.ifCond .eq 52, 3) := by decide +kernel
theorem dX8_isRead_46 : decode cX8_isRead 46 = .ok (.bipush (-15), 2) := by decide +kernel
theorem dX8_isRead_48 : decode cX8_isRead 48 = .ok (.aload_n 0, 1) := by decide +kernel
theorem dX8_isRead_49 : decode cX8_isRead 49 = .ok (.getfield 50, 3) := by decide +kernel
theorem dX8_isRead_52 : decode cX8_isRead 52 = .ok (.aload_n 0, 1) := by decide +kernel
theorem dX8_isRead_53 : decode cX8_isRead 53 = .ok (.iload 6, 2) := by decide +kernel
theorem dX8_isRead_55 : decode cX8_isRead 55 = .ok (.invokevirtual 221, 3) := by decide +kernel
theorem dX8_isRead_58 : decode cX8_isRead 58 = .ok (.iaload, 1) := by decide +kernel
theorem dX8_isRead_59 : decode cX8_isRead 59 = .ok (.iadd, 1) := by decide +kernel
theorem dX8_isRead_60 : decode cX8_isRead 60 = .ok (.aload_n 0, 1) := by decide +kernel
theorem dX8_isRead_61 : decode cX8_isRead 61 = .ok (.getfield 31, 3) := by decide +kernel
theorem dX8_isRead_64 : decode cX8_isRead 64 = .ok (.bipush 53, 2) := by decide +kernel
theorem dX8_isRead_66 : decode cX8_isRead 66 = .ok (.iload 6, 2) := by decide +kernel
theorem dX8_isRead_68 : decode cX8_isRead 68 = .ok (.iadd, 1) := by decide +kernel
theorem dX8_isRead_69 : decode cX8_isRead 69 = .ok (.iaload, 1) := by decide +kernel
theorem dX8_isRead_70 : decode cX8_isRead 70 = .ok (.invokestatic 163, 3) := by decide +kernel
theorem dX8_isRead_73 : decode cX8_isRead 73 = .ok (.invokestatic 157, 3) := by decide +kernel
theorem dX8_isRead_76 : decode cX8_isRead 76 = .ok (.aload_n 0, 1) := by decide +kernel
theorem dX8_isRead_77 : decode cX8_isRead 77 = .ok (.getfield 16, 3) := by decide +kernel
theorem dX8_isRead_80 : decode cX8_isRead 80 = .ok (.bipush 40, 2) := by decide +kernel
theorem dX8_isRead_82 : decode cX8_isRead 82 = .ok (.iload_n 1, 1) := by decide +kernel
theorem dX8_isRead_83 : decode cX8_isRead 83 = .ok (.imul, 1) := by decide +kernel
theorem dX8_isRead_84 : decode cX8_isRead 84 = .ok (.iload 6, 2) := by decide +kernel
theorem dX8_isRead_86 : decode cX8_isRead 86 = .ok (.iadd, 1) := by decide +kernel
theorem dX8_isRead_87 : decode cX8_isRead 87 = .ok (.iaload, 1) := by decide +kernel
theorem dX8_isRead_88 : decode cX8_isRead 88 = .ok (.if_icmp .ne 7, 3) := by decide +kernel
theorem dX8_isRead_91 : decode cX8_isRead 91 = .ok (.iconst 1, 1) := by decide +kernel
theorem dX8_isRead_92 : decode cX8_isRead 92 = .ok (.goto 4, 3) := by decide +kernel
theorem dX8_isRead_95 : decode cX8_isRead 95 = .ok (.iconst 0, 1) := by decide +kernel
theorem dX8_isRead_96 : decode cX8_isRead 96 = .ok (.istore 5, 2) := by decide +kernel
theorem dX8_isRead_98 : decode cX8_isRead 98 = .ok (.iinc 6 1, 3) := by decide +kernel
theorem dX8_isRead_101 : decode cX8_isRead 101 = .ok (.goto (-66), 3) := by decide +kernel
theorem dX8_isRead_104 : decode cX8_isRead 104 = .ok (.iload 5, 2) := by decide +kernel
theorem dX8_isRead_106 : decode cX8_isRead 106 = .ok (.ireturn, 1) := by decide +kernel
theorem dX8_fits_0 : decode cX8_fits 0 = .ok (.aload_n 0, 1) := by decide +kernel
theorem dX8_fits_1 : decode cX8_fits 1 = .ok (.iload_n 1, 1) := by decide +kernel
theorem dX8_fits_2 : decode cX8_fits 2 = .ok (.invokevirtual 212, 3) := by decide +kernel
theorem dX8_fits_5 : decode cX8_fits 5 = .ok (.ifCond .eq 34, 3) := by decide +kernel
theorem dX8_fits_8 : decode cX8_fits 8 = .ok (.iload_n 2, 1) := by decide +kernel
theorem dX8_fits_9 : decode cX8_fits 9 = .ok (.invokestatic 72, 3) := by decide +kernel
theorem dX8_fits_12 : decode cX8_fits 12 = .ok (.ifCond .eq 27, 3) := by decide +kernel
theorem dX8_fits_15 : decode cX8_fits 15 = .ok (.iload_n 3, 1) := by decide +kernel
theorem dX8_fits_16 : decode cX8_fits 16 = .ok (.iconst 1, 1) := by decide +kernel
theorem dX8_fits_17 : decode cX8_fits 17 = .ok (.aload_n 0, 1) := by decide +kernel
theorem dX8_fits_18 : decode cX8_fits 18 = .ok (.getfield 25, 3) := by decide +kernel
theorem dX8_fits_21 : decode cX8_fits 21 = .ok (.iconst 2, 1) := by decide +kernel
theorem dX8_fits_22 : decode cX8_fits 22 = .ok (.iaload, 1) := by decide +kernel
theorem dX8_fits_23 : decode cX8_fits 23 = .ok (.invokestatic 68, 3) := by decide +kernel
theorem dX8_fits_26 : decode cX8_fits 26 = .ok (.ifCond .eq 13, 3) := by decide +kernel
theorem dX8_fits_29 : decode cX8_fits 29 = .ok (.iload 4, 2) := by decide +kernel
theorem dX8_fits_31 : decode cX8_fits 31 = .ok (.iconst 0, 1) := by decide +kernel
theorem dX8_fits_32 : decode cX8_fits 32 = .ok (.iconst 2, 1) := by decide +kernel
theorem dX8_fits_33 : decode cX8_fits 33 = .ok (.invokestatic 68, 3) := by decide +kernel
theorem dX8_fits_36 : decode cX8_fits 36 = .ok (.ifCond .ne 6, 3) := by decide +kernel
theorem dX8_fits_39 : decode cX8_fits 39 = .ok (.ldc 76, 2) := by decide +kernel
theorem dX8_fits_41 : decode cX8_fits 41 = .ok (.ireturn, 1) := by decide +kernel
theorem dX8_fits_42 : decode cX8_fits 42 = .ok (.aload_n 0, 1) := by decide +kernel
theorem dX8_fits_43 : decode cX8_fits 43 = .ok (.iload_n 2, 1) := by decide +kernel
theorem dX8_fits_44 : decode cX8_fits 44 = .ok (.invokevirtual 84, 3) := by decide +kernel
theorem dX8_fits_47 : decode cX8_fits 47 = .ok (.ifCond .eq 9, 3) := by decide +kernel
theorem dX8_fits_50 : decode cX8_fits 50 = .ok (.aload_n 0, 1) := by decide +kernel
theorem dX8_fits_51 : decode cX8_fits 51 = .ok (.iconst 1, 1) := by decide +kernel
theorem dX8_fits_52 : decode cX8_fits 52 = .ok (.invokevirtual 77, 3) := by decide +kernel
theorem dX8_fits_55 : decode cX8_fits 55 = .ok (.ireturn, 1) := by decide +kernel
theorem dX8_fits_56 : decode cX8_fits 56 = .ok (.aload_n 0, 1) := by decide +kernel
theorem dX8_fits_57 : decode cX8_fits 57 = .ok (.iload_n 2, 1) := by decide +kernel
theorem dX8_fits_58 : decode cX8_fits 58 = .ok (.iconst 0, 1) := by decide +kernel
theorem dX8_fits_59 : decode cX8_fits 59 = .ok (.iload_n 3, 1) := by decide +kernel
theorem dX8_fits_60 : decode cX8_fits 60 = .ok (.invokevirtual 91, 3) := by decide +kernel
theorem dX8_fits_63 : decode cX8_fits 63 = .ok (.ifCond .ne 9, 3) := by decide +kernel
theorem dX8_fits_66 : decode cX8_fits 66 = .ok (.aload_n 0, 1) := by decide +kernel
theorem dX8_fits_67 : decode cX8_fits 67 = .ok (.iconst 2, 1) := by decide +kernel
theorem dX8_fits_68 : decode cX8_fits 68 = .ok (.invokevirtual 77, 3) := by decide +kernel
theorem dX8_fits_71 : decode cX8_fits 71 = .ok (.ireturn, 1) := by decide +kernel
theorem dX8_fits_72 : decode cX8_fits 72 = .ok (.iload 4, 2) := by decide +kernel
theorem dX8_fits_74 : decode cX8_fits 74 = .ok (.ifCond .ne 7, 3) := by decide +kernel
theorem dX8_fits_77 : decode cX8_fits 77 = .ok (.iconst 0, 1) := by decide +kernel
theorem dX8_fits_78 : decode cX8_fits 78 = .ok (.goto 32, 3) := by decide +kernel
theorem dX8_fits_81 : decode cX8_fits 81 = .ok (.iload 4, 2) := by decide +kernel
theorem dX8_fits_83 : decode cX8_fits 83 = .ok (.iconst 1, 1) := by decide +kernel
theorem dX8_fits_84 : decode cX8_fits 84 = .ok (.if_icmp .ne 11, 3) := by decide +kernel
theorem dX8_fits_87 : decode cX8_fits 87 = .ok (.iconst 3, 1) := by decide +kernel
theorem dX8_fits_88 : decode cX8_fits 88 = .ok (.iconst 5, 1) := by decide +kernel
theorem dX8_fits_89 : decode cX8_fits 89 = .ok (.iload_n 1, 1) := by decide +kernel
theorem dX8_fits_90 : decode cX8_fits 90 = .ok (.imul, 1) := by decide +kernel
theorem dX8_fits_91 : decode cX8_fits 91 = .ok (.iadd, 1) := by decide +kernel
theorem dX8_fits_92 : decode cX8_fits 92 = .ok (.goto 18, 3) := by decide +kernel
theorem dX8_fits_95 : decode cX8_fits 95 = .ok (.bipush 53, 2) := by decide +kernel
theorem dX8_fits_97 : decode cX8_fits 97 = .ok (.aload_n 0, 1) := by decide +kernel
theorem dX8_fits_98 : decode cX8_fits 98 = .ok (.getfield 25, 3) := by decide +kernel
theorem dX8_fits_101 : decode cX8_fits 101 = .ok (.iconst 3, 1) := by decide +kernel
theorem dX8_fits_102 : decode cX8_fits 102 = .ok (.iconst 5, 1) := by decide +kernel
theorem dX8_fits_103 : decode cX8_fits 103 = .ok (.iload_n 1, 1) := by decide +kernel
theorem dX8_fits_104 : decode cX8_fits 104 = .ok (.imul, 1) := by decide +kernel
theorem dX8_fits_105 : decode cX8_fits 105 = .ok (.iadd, 1) := by decide +kernel
theorem dX8_fits_106 : decode cX8_fits 106 = .ok (.iconst 1, 1) := by decide +kernel
theorem dX8_fits_107 : decode cX8_fits 107 = .ok (.iadd, 1) := by decide +kernel
theorem dX8_fits_108 : decode cX8_fits 108 = .ok (.iaload, 1) := by decide +kernel
theorem dX8_fits_109 : decode cX8_fits 109 = .ok (.iadd, 1) := by decide +kernel
theorem dX8_fits_110 : decode cX8_fits 110 = .ok (.istore 5, 2) := by decide +kernel
theorem dX8_fits_112 : decode cX8_fits 112 = .ok (.iconst 0, 1) := by decide +kernel
theorem dX8_fits_113 : decode cX8_fits 113 = .ok (.istore 6, 2) := by decide +kernel
theorem dX8_fits_115 : decode cX8_fits 115 = .ok (.iload 4, 2) := by decide +kernel
theorem dX8_fits_117 : decode cX8_fits 117 = .ok (.iconst 1, 1) := by decide +kernel
theorem dX8_fits_118 : decode cX8_fits 118 = .ok (.if_icmp .ne 7, 3) := by decide +kernel
theorem dX8_fits_121 : decode cX8_fits 121 = .ok (.iconst 1, 1) := by decide +kernel
theorem dX8_fits_122 : decode cX8_fits 122 = .ok (.goto 4, 3) := by decide +kernel
theorem dX8_fits_125 : decode cX8_fits 125 = .ok (.iconst 0, 1) := by decide +kernel
theorem dX8_fits_126 : decode cX8_fits 126 = .ok (.istore 7, 2) := by decide +kernel
theorem dX8_fits_128 : decode cX8_fits 128 = .ok (.iload 7, 2) := by decide +kernel
theorem dX8_fits_130 : decode cX8_fits 130 = .ok (.iload 4, 2) := by decide +kernel
theorem dX8_fits_132 : decode cX8_fits 132 = .ok (.ifCond .ne 8, 3) := by decide +kernel
theorem dX8_fits_135 : decode cX8_fits 135 = .ok (.bipush 14, 2) := by decide +kernel
theorem dX8_fits_137 : decode cX8_fits 137 = .ok (.goto 15, 3) := by decide +kernel
theorem dX8_fits_140 : decode cX8_fits 140 = .ok (.iload 4, 2) := by decide +kernel
theorem dX8_fits_142 : decode cX8_fits 142 = .ok (.iconst 1, 1) := by decide +kernel
theorem dX8_fits_143 : decode cX8_fits 143 = .ok (.if_icmp .ne 7, 3) := by decide +kernel
theorem dX8_fits_146 : decode cX8_fits 146 = .ok (.iconst 5, 1) := by decide +kernel
theorem dX8_fits_147 : decode cX8_fits 147 = .ok (.goto 5, 3) := by decide +kernel
theorem dX8_fits_150 : decode cX8_fits 150 = .ok (.bipush 11, 2) := by decide +kernel
theorem dX8_fits_152 : decode cX8_fits 152 = .ok (.if_icmp .gt 35, 3) := by decide +kernel
theorem dX8_fits_155 : decode cX8_fits 155 = .ok (.iload 6, 2) := by decide +kernel
theorem dX8_fits_157 : decode cX8_fits 157 = .ok (.aload_n 0, 1) := by decide +kernel
theorem dX8_fits_158 : decode cX8_fits 158 = .ok (.iload_n 2, 1) := by decide +kernel
theorem dX8_fits_159 : decode cX8_fits 159 = .ok (.iload_n 3, 1) := by decide +kernel
theorem dX8_fits_160 : decode cX8_fits 160 = .ok (.iload 5, 2) := by decide +kernel
theorem dX8_fits_162 : decode cX8_fits 162 = .ok (.iload 7, 2) := by decide +kernel
theorem dX8_fits_164 : decode cX8_fits 164 = .ok (.invokevirtual 247, 3) := by decide +kernel
theorem dX8_fits_167 : decode cX8_fits 167 = .ok (.ifCond .eq 10, 3) := by decide +kernel
theorem dX8_fits_170 : decode cX8_fits 170 = .ok (.iconst 1, 1) := by decide +kernel
theorem dX8_fits_171 : decode cX8_fits 171 = .ok (.iload 7, 2) := by decide +kernel
theorem dX8_fits_173 : decode cX8_fits 173 = .ok (.ishl, 1) := by decide +kernel
theorem dX8_fits_174 : decode cX8_fits 174 = .ok (.goto 4, 3) := by decide +kernel
theorem dX8_fits_177 : decode cX8_fits 177 = .ok (.iconst 0, 1) := by decide +kernel
theorem dX8_fits_178 : decode cX8_fits 178 = .ok (.ior, 1) := by decide +kernel
theorem dX8_fits_179 : decode cX8_fits 179 = .ok (.istore 6, 2) := by decide +kernel
theorem dX8_fits_181 : decode cX8_fits 181 = .ok (.iinc 7 1, 3) := by decide +kernel
theorem dX8_fits_184 : decode cX8_fits 184 = .ok (.goto (-56), 3) := by decide +kernel
theorem dX8_fits_187 : decode cX8_fits 187 = .ok (.aload_n 0, 1) := by decide +kernel
theorem dX8_fits_188 : decode cX8_fits 188 = .ok (.iload 6, 2) := by decide +kernel
theorem dX8_fits_190 : decode cX8_fits 190 = .ok (.invokevirtual 81, 3) := by decide +kernel
theorem dX8_fits_193 : decode cX8_fits 193 = .ok (.ireturn, 1) := by decide +kernel
theorem dX8_drawn_0 : decode cX8_drawn 0 = .ok (.aload_n 0, 1) := by decide +kernel
theorem dX8_drawn_1 : decode cX8_drawn 1 = .ok (.invokevirtual 215, 3) := by decide +kernel
theorem dX8_drawn_4 : decode cX8_drawn 4 = .ok (.ifCond .ne 6, 3) := by decide +kernel
theorem dX8_drawn_7 : decode cX8_drawn 7 = .ok (.ldc 208, 2) := by decide +kernel
theorem dX8_drawn_9 : decode cX8_drawn 9 = .ok (.ireturn, 1) := by decide +kernel
theorem dX8_drawn_10 : decode cX8_drawn 10 = .ok (.iload_n 1, 1) := by decide +kernel
theorem dX8_drawn_11 : decode cX8_drawn 11 = .ok (.iconst 0, 1) := by decide +kernel
theorem dX8_drawn_12 : decode cX8_drawn 12 = .ok (.bipush 20, 2) := by decide +kernel
theorem dX8_drawn_14 : decode cX8_drawn 14 = .ok (.invokestatic 68, 3) := by decide +kernel
theorem dX8_drawn_17 : decode cX8_drawn 17 = .ok (.ifCond .eq 22, 3) := by decide +kernel
theorem dX8_drawn_20 : decode cX8_drawn 20 = .ok (.iload_n 2, 1) := by decide +kernel
theorem dX8_drawn_21 : decode cX8_drawn 21 = .ok (.iconst 1, 1) := by decide +kernel
theorem dX8_drawn_22 : decode cX8_drawn 22 = .ok (.ldc 251, 2) := by decide +kernel
theorem dX8_drawn_24 : decode cX8_drawn 24 = .ok (.invokestatic 68, 3) := by decide +kernel
theorem dX8_drawn_27 : decode cX8_drawn 27 = .ok (.ifCond .eq 12, 3) := by decide +kernel
theorem dX8_drawn_30 : decode cX8_drawn 30 = .ok (.iload_n 3, 1) := by decide +kernel
theorem dX8_drawn_31 : decode cX8_drawn 31 = .ok (.iconst 0, 1) := by decide +kernel
theorem dX8_drawn_32 : decode cX8_drawn 32 = .ok (.iconst 1, 1) := by decide +kernel
theorem dX8_drawn_33 : decode cX8_drawn 33 = .ok (.invokestatic 68, 3) := by decide +kernel
theorem dX8_drawn_36 : decode cX8_drawn 36 = .ok (.ifCond .ne 6, 3) := by decide +kernel
theorem dX8_drawn_39 : decode cX8_drawn 39 = .ok (.ldc 76, 2) := by decide +kernel
theorem dX8_drawn_41 : decode cX8_drawn 41 = .ok (.ireturn, 1) := by decide +kernel
theorem dX8_drawn_42 : decode cX8_drawn 42 = .ok (.aload_n 0, 1) := by decide +kernel
theorem dX8_drawn_43 : decode cX8_drawn 43 = .ok (.getfield 25, 3) := by decide +kernel
theorem dX8_drawn_46 : decode cX8_drawn 46 = .ok (.iconst 0, 1) := by decide +kernel
theorem dX8_drawn_47 : decode cX8_drawn 47 = .ok (.aload_n 0, 1) := by decide +kernel
theorem dX8_drawn_48 : decode cX8_drawn 48 = .ok (.getfield 31, 3) := by decide +kernel
theorem dX8_drawn_51 : decode cX8_drawn 51 = .ok (.iconst 0, 1) := by decide +kernel
theorem dX8_drawn_52 : decode cX8_drawn 52 = .ok (.invokestatic 147, 3) := by decide +kernel
theorem dX8_drawn_55 : decode cX8_drawn 55 = .ok (.iload_n 2, 1) := by decide +kernel
theorem dX8_drawn_56 : decode cX8_drawn 56 = .ok (.i2l, 1) := by decide +kernel
theorem dX8_drawn_57 : decode cX8_drawn 57 = .ok (.lstore 4, 2) := by decide +kernel
theorem dX8_drawn_59 : decode cX8_drawn 59 = .ok (.iconst 0, 1) := by decide +kernel
theorem dX8_drawn_60 : decode cX8_drawn 60 = .ok (.istore 6, 2) := by decide +kernel
theorem dX8_drawn_62 : decode cX8_drawn 62 = .ok (.iconst 0, 1) := by decide +kernel
theorem dX8_drawn_63 : decode cX8_drawn 63 = .ok (.istore 7, 2) := by decide +kernel
theorem dX8_drawn_65 : decode cX8_drawn 65 = .ok (.iload 7, 2) := by decide +kernel
theorem dX8_drawn_67 : decode cX8_drawn 67 = .ok (.iload_n 1, 1) := by decide +kernel
theorem dX8_drawn_68 : decode cX8_drawn 68 = .ok (.if_icmp .ge 72, 3) := by decide +kernel
theorem dX8_drawn_71 : decode cX8_drawn 71 = .ok (.lload 4, 2) := by decide +kernel
theorem dX8_drawn_73 : decode cX8_drawn 73 = .ok (.ldc2_w 252, 3) := by decide +kernel
theorem dX8_drawn_76 : decode cX8_drawn 76 = .ok (.lmul, 1) := by decide +kernel
theorem dX8_drawn_77 : decode cX8_drawn 77 = .ok (.ldc2_w 254, 3) := by decide +kernel
theorem dX8_drawn_80 : decode cX8_drawn 80 = .ok (.lrem, 1) := by decide +kernel
theorem dX8_drawn_81 : decode cX8_drawn 81 = .ok (.lstore 4, 2) := by decide +kernel
theorem dX8_drawn_83 : decode cX8_drawn 83 = .ok (.aload_n 0, 1) := by decide +kernel
theorem dX8_drawn_84 : decode cX8_drawn 84 = .ok (.getfield 31, 3) := by decide +kernel
theorem dX8_drawn_87 : decode cX8_drawn 87 = .ok (.bipush 53, 2) := by decide +kernel
theorem dX8_drawn_89 : decode cX8_drawn 89 = .ok (.lload 4, 2) := by decide +kernel
theorem dX8_drawn_91 : decode cX8_drawn 91 = .ok (.aload_n 0, 1) := by decide +kernel
theorem dX8_drawn_92 : decode cX8_drawn 92 = .ok (.getfield 25, 3) := by decide +kernel
theorem dX8_drawn_95 : decode cX8_drawn 95 = .ok (.iconst 2, 1) := by decide +kernel
theorem dX8_drawn_96 : decode cX8_drawn 96 = .ok (.iaload, 1) := by decide +kernel
theorem dX8_drawn_97 : decode cX8_drawn 97 = .ok (.i2l, 1) := by decide +kernel
theorem dX8_drawn_98 : decode cX8_drawn 98 = .ok (.lrem, 1) := by decide +kernel
theorem dX8_drawn_99 : decode cX8_drawn 99 = .ok (.l2i, 1) := by decide +kernel
theorem dX8_drawn_100 : decode cX8_drawn 100 = .ok (.iadd, 1) := by decide +kernel
theorem dX8_drawn_101 : decode cX8_drawn 101 = .ok (.lload 4, 2) := by decide +kernel
theorem dX8_drawn_103 : decode cX8_drawn 103 = .ok (.ldc2_w 256, 3) := by decide +kernel
theorem dX8_drawn_106 : decode cX8_drawn 106 = .ok (.ldiv, 1) := by decide +kernel
theorem dX8_drawn_107 : decode cX8_drawn 107 = .ok (.ldc2_w 258, 3) := by decide +kernel
theorem dX8_drawn_110 : decode cX8_drawn 110 = .ok (.lrem, 1) := by decide +kernel
theorem dX8_drawn_111 : decode cX8_drawn 111 = .ok (.l2i, 1) := by decide +kernel
theorem dX8_drawn_112 : decode cX8_drawn 112 = .ok (.iastore, 1) := by decide +kernel
theorem dX8_drawn_113 : decode cX8_drawn 113 = .ok (.iload_n 3, 1) := by decide +kernel
theorem dX8_drawn_114 : decode cX8_drawn 114 = .ok (.ifCond .ne 20, 3) := by decide +kernel
theorem dX8_drawn_117 : decode cX8_drawn 117 = .ok (.aload_n 0, 1) := by decide +kernel
theorem dX8_drawn_118 : decode cX8_drawn 118 = .ok (.aload_n 0, 1) := by decide +kernel
theorem dX8_drawn_119 : decode cX8_drawn 119 = .ok (.getfield 31, 3) := by decide +kernel
theorem dX8_drawn_122 : decode cX8_drawn 122 = .ok (.invokevirtual 202, 3) := by decide +kernel
theorem dX8_drawn_125 : decode cX8_drawn 125 = .ok (.iload 6, 2) := by decide +kernel
theorem dX8_drawn_127 : decode cX8_drawn 127 = .ok (.aload_n 0, 1) := by decide +kernel
theorem dX8_drawn_128 : decode cX8_drawn 128 = .ok (.getfield 199, 3) := by decide +kernel
theorem dX8_drawn_131 : decode cX8_drawn 131 = .ok (.iadd, 1) := by decide +kernel
theorem dX8_drawn_132 : decode cX8_drawn 132 = .ok (.istore 6, 2) := by decide +kernel
theorem dX8_drawn_134 : decode cX8_drawn 134 = .ok (.iinc 7 1, 3) := by decide +kernel
theorem dX8_drawn_137 : decode cX8_drawn 137 = .ok (.goto (-72), 3) := by decide +kernel
theorem dX8_drawn_140 : decode cX8_drawn 140 = .ok (.iload_n 3, 1) := by decide +kernel
theorem dX8_drawn_141 : decode cX8_drawn 141 = .ok (.ifCond .ne 8, 3) := by decide +kernel
theorem dX8_drawn_144 : decode cX8_drawn 144 = .ok (.iload 6, 2) := by decide +kernel
theorem dX8_drawn_146 : decode cX8_drawn 146 = .ok (.goto 11, 3) := by decide +kernel
theorem dX8_drawn_149 : decode cX8_drawn 149 = .ok (.aload_n 0, 1) := by decide +kernel
theorem dX8_drawn_150 : decode cX8_drawn 150 = .ok (.aload_n 0, 1) := by decide +kernel
theorem dX8_drawn_151 : decode cX8_drawn 151 = .ok (.getfield 31, 3) := by decide +kernel
theorem dX8_drawn_154 : decode cX8_drawn 154 = .ok (.invokevirtual 224, 3) := by decide +kernel
theorem dX8_drawn_157 : decode cX8_drawn 157 = .ok (.ireturn, 1) := by decide +kernel
theorem dX8_image_0 : decode cX8_image 0 = .ok (.iload_n 1, 1) := by decide +kernel
theorem dX8_image_1 : decode cX8_image 1 = .ok (.iconst 0, 1) := by decide +kernel
theorem dX8_image_2 : decode cX8_image 2 = .ok (.iconst 1, 1) := by decide +kernel
theorem dX8_image_3 : decode cX8_image 3 = .ok (.invokestatic 68, 3) := by decide +kernel
theorem dX8_image_6 : decode cX8_image 6 = .ok (.ifCond .ne 6, 3) := by decide +kernel
theorem dX8_image_9 : decode cX8_image 9 = .ok (.ldc 76, 2) := by decide +kernel
theorem dX8_image_11 : decode cX8_image 11 = .ok (.ireturn, 1) := by decide +kernel
theorem dX8_image_12 : decode cX8_image 12 = .ok (.aload_n 0, 1) := by decide +kernel
theorem dX8_image_13 : decode cX8_image 13 = .ok (.invokevirtual 215, 3) := by decide +kernel
theorem dX8_image_16 : decode cX8_image 16 = .ok (.ifCond .ne 6, 3) := by decide +kernel
theorem dX8_image_19 : decode cX8_image 19 = .ok (.ldc 208, 2) := by decide +kernel
theorem dX8_image_21 : decode cX8_image 21 = .ok (.ireturn, 1) := by decide +kernel
theorem dX8_image_22 : decode cX8_image 22 = .ok (.aload_n 0, 1) := by decide +kernel
theorem dX8_image_23 : decode cX8_image 23 = .ok (.getfield 25, 3) := by decide +kernel
theorem dX8_image_26 : decode cX8_image 26 = .ok (.iconst 0, 1) := by decide +kernel
theorem dX8_image_27 : decode cX8_image 27 = .ok (.aload_n 0, 1) := by decide +kernel
theorem dX8_image_28 : decode cX8_image 28 = .ok (.getfield 37, 3) := by decide +kernel
theorem dX8_image_31 : decode cX8_image 31 = .ok (.bipush 93, 2) := by decide +kernel
theorem dX8_image_33 : decode cX8_image 33 = .ok (.iload_n 1, 1) := by decide +kernel
theorem dX8_image_34 : decode cX8_image 34 = .ok (.imul, 1) := by decide +kernel
theorem dX8_image_35 : decode cX8_image 35 = .ok (.invokestatic 147, 3) := by decide +kernel
theorem dX8_image_38 : decode cX8_image 38 = .ok (.aload_n 0, 1) := by decide +kernel
theorem dX8_image_39 : decode cX8_image 39 = .ok (.getfield 40, 3) := by decide +kernel
theorem dX8_image_42 : decode cX8_image 42 = .ok (.iload_n 1, 1) := by decide +kernel
theorem dX8_image_43 : decode cX8_image 43 = .ok (.iconst 1, 1) := by decide +kernel
theorem dX8_image_44 : decode cX8_image 44 = .ok (.bastore, 1) := by decide +kernel
theorem dX8_image_45 : decode cX8_image 45 = .ok (.iconst 1, 1) := by decide +kernel
theorem dX8_image_46 : decode cX8_image 46 = .ok (.ireturn, 1) := by decide +kernel
theorem dX8_restore_0 : decode cX8_restore 0 = .ok (.iload_n 1, 1) := by decide +kernel
theorem dX8_restore_1 : decode cX8_restore 1 = .ok (.iconst 0, 1) := by decide +kernel
theorem dX8_restore_2 : decode cX8_restore 2 = .ok (.iconst 1, 1) := by decide +kernel
theorem dX8_restore_3 : decode cX8_restore 3 = .ok (.invokestatic 68, 3) := by decide +kernel
theorem dX8_restore_6 : decode cX8_restore 6 = .ok (.ifCond .ne 6, 3) := by decide +kernel
theorem dX8_restore_9 : decode cX8_restore 9 = .ok (.ldc 76, 2) := by decide +kernel
theorem dX8_restore_11 : decode cX8_restore 11 = .ok (.ireturn, 1) := by decide +kernel
theorem dX8_restore_12 : decode cX8_restore 12 = .ok (.aload_n 0, 1) := by decide +kernel
theorem dX8_restore_13 : decode cX8_restore 13 = .ok (.getfield 40, 3) := by decide +kernel
theorem dX8_restore_16 : decode cX8_restore 16 = .ok (.iload_n 1, 1) := by decide +kernel
theorem dX8_restore_17 : decode cX8_restore 17 = .ok (.baload, 1) := by decide +kernel
theorem dX8_restore_18 : decode cX8_restore 18 = .ok (.ifCond .ne 6, 3) := by decide +kernel
theorem dX8_restore_21 : decode cX8_restore 21 = .ok (.ldc 208, 2) := by decide +kernel
theorem dX8_restore_23 : decode cX8_restore 23 = .ok (.ireturn, 1) := by decide +kernel
theorem dX8_restore_24 : decode cX8_restore 24 = .ok (.aload_n 0, 1) := by decide +kernel
theorem dX8_restore_25 : decode cX8_restore 25 = .ok (.getfield 37, 3) := by decide +kernel
theorem dX8_restore_28 : decode cX8_restore 28 = .ok (.bipush 93, 2) := by decide +kernel
theorem dX8_restore_30 : decode cX8_restore 30 = .ok (.iload_n 1, 1) := by decide +kernel
theorem dX8_restore_31 : decode cX8_restore 31 = .ok (.imul, 1) := by decide +kernel
theorem dX8_restore_32 : decode cX8_restore 32 = .ok (.aload_n 0, 1) := by decide +kernel
theorem dX8_restore_33 : decode cX8_restore 33 = .ok (.getfield 25, 3) := by decide +kernel
theorem dX8_restore_36 : decode cX8_restore 36 = .ok (.iconst 0, 1) := by decide +kernel
theorem dX8_restore_37 : decode cX8_restore 37 = .ok (.invokestatic 147, 3) := by decide +kernel
theorem dX8_restore_40 : decode cX8_restore 40 = .ok (.aload_n 0, 1) := by decide +kernel
theorem dX8_restore_41 : decode cX8_restore 41 = .ok (.iconst 0, 1) := by decide +kernel
theorem dX8_restore_42 : decode cX8_restore 42 = .ok (.putfield 151, 3) := by decide +kernel
theorem dX8_restore_45 : decode cX8_restore 45 = .ok (.iconst 1, 1) := by decide +kernel
theorem dX8_restore_46 : decode cX8_restore 46 = .ok (.ireturn, 1) := by decide +kernel
theorem dX8_kindIn_0 : decode cX8_kindIn 0 = .ok (.aload_n 0, 1) := by decide +kernel
theorem dX8_kindIn_1 : decode cX8_kindIn 1 = .ok (.getfield 25, 3) := by decide +kernel
theorem dX8_kindIn_4 : decode cX8_kindIn 4 = .ok (.iconst 3, 1) := by decide +kernel
theorem dX8_kindIn_5 : decode cX8_kindIn 5 = .ok (.iconst 5, 1) := by decide +kernel
theorem dX8_kindIn_6 : decode cX8_kindIn 6 = .ok (.iload_n 1, 1) := by decide +kernel
theorem dX8_kindIn_7 : decode cX8_kindIn 7 = .ok (.imul, 1) := by decide +kernel
theorem dX8_kindIn_8 : decode cX8_kindIn 8 = .ok (.iadd, 1) := by decide +kernel
theorem dX8_kindIn_9 : decode cX8_kindIn 9 = .ok (.iaload, 1) := by decide +kernel
theorem dX8_kindIn_10 : decode cX8_kindIn 10 = .ok (.ireturn, 1) := by decide +kernel
theorem dX8_kind_0 : decode cX8_kind 0 = .ok (.aload_n 0, 1) := by decide +kernel
theorem dX8_kind_1 : decode cX8_kind 1 = .ok (.iload_n 1, 1) := by decide +kernel
theorem dX8_kind_2 : decode cX8_kind 2 = .ok (.invokevirtual 212, 3) := by decide +kernel
theorem dX8_kind_5 : decode cX8_kind 5 = .ok (.ifCond .eq 11, 3) := by decide +kernel
theorem dX8_kind_8 : decode cX8_kind 8 = .ok (.aload_n 0, 1) := by decide +kernel
theorem dX8_kind_9 : decode cX8_kind 9 = .ok (.iload_n 1, 1) := by decide +kernel
theorem dX8_kind_10 : decode cX8_kind 10 = .ok (.invokevirtual 260, 3) := by decide +kernel
theorem dX8_kind_13 : decode cX8_kind 13 = .ok (.goto 5, 3) := by decide +kernel
theorem dX8_kind_16 : decode cX8_kind 16 = .ok (.ldc 76, 2) := by decide +kernel
theorem dX8_kind_18 : decode cX8_kind 18 = .ok (.ireturn, 1) := by decide +kernel
theorem dX8_as_0 : decode cX8_as 0 = .ok (.aload_n 0, 1) := by decide +kernel
theorem dX8_as_1 : decode cX8_as 1 = .ok (.iload_n 1, 1) := by decide +kernel
theorem dX8_as_2 : decode cX8_as 2 = .ok (.invokevirtual 212, 3) := by decide +kernel
theorem dX8_as_5 : decode cX8_as 5 = .ok (.ifCond .eq 12, 3) := by decide +kernel
theorem dX8_as_8 : decode cX8_as 8 = .ok (.iload_n 2, 1) := by decide +kernel
theorem dX8_as_9 : decode cX8_as 9 = .ok (.iconst 0, 1) := by decide +kernel
theorem dX8_as_10 : decode cX8_as 10 = .ok (.iconst 5, 1) := by decide +kernel
theorem dX8_as_11 : decode cX8_as 11 = .ok (.invokestatic 68, 3) := by decide +kernel
theorem dX8_as_14 : decode cX8_as 14 = .ok (.ifCond .ne 6, 3) := by decide +kernel
theorem dX8_as_17 : decode cX8_as 17 = .ok (.ldc 76, 2) := by decide +kernel
theorem dX8_as_19 : decode cX8_as 19 = .ok (.ireturn, 1) := by decide +kernel
theorem dX8_as_20 : decode cX8_as 20 = .ok (.aload_n 0, 1) := by decide +kernel
theorem dX8_as_21 : decode cX8_as 21 = .ok (.iload_n 1, 1) := by decide +kernel
theorem dX8_as_22 : decode cX8_as 22 = .ok (.invokevirtual 260, 3) := by decide +kernel
theorem dX8_as_25 : decode cX8_as 25 = .ok (.istore_n 3, 1) := by decide +kernel
theorem dX8_as_26 : decode cX8_as 26 = .ok (.iload_n 2, 1) := by decide +kernel
theorem dX8_as_27 : decode cX8_as 27 = .ok (.ifCond .eq 28, 3) := by decide +kernel
theorem dX8_as_30 : decode cX8_as 30 = .ok (.iload_n 2, 1) := by decide +kernel
theorem dX8_as_31 : decode cX8_as 31 = .ok (.iload_n 3, 1) := by decide +kernel
theorem dX8_as_32 : decode cX8_as 32 = .ok (.if_icmp .eq 23, 3) := by decide +kernel
theorem dX8_as_35 : decode cX8_as 35 = .ok (.iload_n 2, 1) := by decide +kernel
theorem dX8_as_36 : decode cX8_as 36 = .ok (.iconst 1, 1) := by decide +kernel
theorem dX8_as_37 : decode cX8_as 37 = .ok (.if_icmp .ne 8, 3) := by decide +kernel
theorem dX8_as_40 : decode cX8_as 40 = .ok (.iload_n 3, 1) := by decide +kernel
theorem dX8_as_41 : decode cX8_as 41 = .ok (.iconst 4, 1) := by decide +kernel
theorem dX8_as_42 : decode cX8_as 42 = .ok (.if_icmp .lt 13, 3) := by decide +kernel
theorem dX8_as_45 : decode cX8_as 45 = .ok (.iload_n 2, 1) := by decide +kernel
theorem dX8_as_46 : decode cX8_as 46 = .ok (.iconst 4, 1) := by decide +kernel
theorem dX8_as_47 : decode cX8_as 47 = .ok (.if_icmp .ne 12, 3) := by decide +kernel
theorem dX8_as_50 : decode cX8_as 50 = .ok (.iload_n 3, 1) := by decide +kernel
theorem dX8_as_51 : decode cX8_as 51 = .ok (.iconst 5, 1) := by decide +kernel
theorem dX8_as_52 : decode cX8_as 52 = .ok (.if_icmp .ne 7, 3) := by decide +kernel
theorem dX8_as_55 : decode cX8_as 55 = .ok (.iconst 1, 1) := by decide +kernel
theorem dX8_as_56 : decode cX8_as 56 = .ok (.goto 4, 3) := by decide +kernel
theorem dX8_as_59 : decode cX8_as 59 = .ok (.iconst 0, 1) := by decide +kernel
theorem dX8_as_60 : decode cX8_as 60 = .ok (.istore 4, 2) := by decide +kernel
theorem dX8_as_62 : decode cX8_as 62 = .ok (.iload 4, 2) := by decide +kernel
theorem dX8_as_64 : decode cX8_as 64 = .ok (.ifCond .eq 11, 3) := by decide +kernel
theorem dX8_as_67 : decode cX8_as 67 = .ok (.aload_n 0, 1) := by decide +kernel
theorem dX8_as_68 : decode cX8_as 68 = .ok (.iload_n 1, 1) := by decide +kernel
theorem dX8_as_69 : decode cX8_as 69 = .ok (.invokevirtual 81, 3) := by decide +kernel
theorem dX8_as_72 : decode cX8_as 72 = .ok (.goto 8, 3) := by decide +kernel
theorem dX8_as_75 : decode cX8_as 75 = .ok (.aload_n 0, 1) := by decide +kernel
theorem dX8_as_76 : decode cX8_as 76 = .ok (.iconst 3, 1) := by decide +kernel
theorem dX8_as_77 : decode cX8_as 77 = .ok (.invokevirtual 77, 3) := by decide +kernel
theorem dX8_as_80 : decode cX8_as 80 = .ok (.ireturn, 1) := by decide +kernel
theorem dX8_begins_0 : decode cX8_begins 0 = .ok (.aload_n 0, 1) := by decide +kernel
theorem dX8_begins_1 : decode cX8_begins 1 = .ok (.getfield 263, 3) := by decide +kernel
theorem dX8_begins_4 : decode cX8_begins 4 = .ok (.bipush 16, 2) := by decide +kernel
theorem dX8_begins_6 : decode cX8_begins 6 = .ok (.if_icmp .ge 23, 3) := by decide +kernel
theorem dX8_begins_9 : decode cX8_begins 9 = .ok (.aload_n 0, 1) := by decide +kernel
theorem dX8_begins_10 : decode cX8_begins 10 = .ok (.getfield 59, 3) := by decide +kernel
theorem dX8_begins_13 : decode cX8_begins 13 = .ok (.aload_n 0, 1) := by decide +kernel
theorem dX8_begins_14 : decode cX8_begins 14 = .ok (.getfield 263, 3) := by decide +kernel
theorem dX8_begins_17 : decode cX8_begins 17 = .ok (.iload_n 1, 1) := by decide +kernel
theorem dX8_begins_18 : decode cX8_begins 18 = .ok (.iastore, 1) := by decide +kernel
theorem dX8_begins_19 : decode cX8_begins 19 = .ok (.aload_n 0, 1) := by decide +kernel
theorem dX8_begins_20 : decode cX8_begins 20 = .ok (.dup, 1) := by decide +kernel
theorem dX8_begins_21 : decode cX8_begins 21 = .ok (.getfield 263, 3) := by decide +kernel
theorem dX8_begins_24 : decode cX8_begins 24 = .ok (.iconst 1, 1) := by decide +kernel
theorem dX8_begins_25 : decode cX8_begins 25 = .ok (.iadd, 1) := by decide +kernel
theorem dX8_begins_26 : decode cX8_begins 26 = .ok (.putfield 263, 3) := by decide +kernel
theorem dX8_begins_29 : decode cX8_begins 29 = .ok (.return_, 1) := by decide +kernel
theorem dX8_plainMark_0 : decode cX8_plainMark 0 = .ok (.aload_n 0, 1) := by decide +kernel
theorem dX8_plainMark_1 : decode cX8_plainMark 1 = .ok (.iload_n 1, 1) := by decide +kernel
theorem dX8_plainMark_2 : decode cX8_plainMark 2 = .ok (.invokevirtual 260, 3) := by decide +kernel
theorem dX8_plainMark_5 : decode cX8_plainMark 5 = .ok (.istore_n 2, 1) := by decide +kernel
theorem dX8_plainMark_6 : decode cX8_plainMark 6 = .ok (.iload_n 2, 1) := by decide +kernel
theorem dX8_plainMark_7 : decode cX8_plainMark 7 = .ok (.iconst 1, 1) := by decide +kernel
theorem dX8_plainMark_8 : decode cX8_plainMark 8 = .ok (.if_icmp .eq 19, 3) := by decide +kernel
theorem dX8_plainMark_11 : decode cX8_plainMark 11 = .ok (.aload_n 0, 1) := by decide +kernel
theorem dX8_plainMark_12 : decode cX8_plainMark 12 = .ok (.iload_n 2, 1) := by decide +kernel
theorem dX8_plainMark_13 : decode cX8_plainMark 13 = .ok (.iconst 2, 1) := by decide +kernel
theorem dX8_plainMark_14 : decode cX8_plainMark 14 = .ok (.if_icmp .ne 8, 3) := by decide +kernel
theorem dX8_plainMark_17 : decode cX8_plainMark 17 = .ok (.bipush 24, 2) := by decide +kernel
theorem dX8_plainMark_19 : decode cX8_plainMark 19 = .ok (.goto 5, 3) := by decide +kernel
theorem dX8_plainMark_22 : decode cX8_plainMark 22 = .ok (.bipush 22, 2) := by decide +kernel
theorem dX8_plainMark_24 : decode cX8_plainMark 24 = .ok (.invokevirtual 266, 3) := by decide +kernel
theorem dX8_plainMark_27 : decode cX8_plainMark 27 = .ok (.aload_n 0, 1) := by decide +kernel
theorem dX8_plainMark_28 : decode cX8_plainMark 28 = .ok (.bipush 21, 2) := by decide +kernel
theorem dX8_plainMark_30 : decode cX8_plainMark 30 = .ok (.invokevirtual 266, 3) := by decide +kernel
theorem dX8_plainMark_33 : decode cX8_plainMark 33 = .ok (.aload_n 0, 1) := by decide +kernel
theorem dX8_plainMark_34 : decode cX8_plainMark 34 = .ok (.bipush 20, 2) := by decide +kernel
theorem dX8_plainMark_36 : decode cX8_plainMark 36 = .ok (.invokevirtual 266, 3) := by decide +kernel
theorem dX8_plainMark_39 : decode cX8_plainMark 39 = .ok (.iload_n 1, 1) := by decide +kernel
theorem dX8_plainMark_40 : decode cX8_plainMark 40 = .ok (.aload_n 0, 1) := by decide +kernel
theorem dX8_plainMark_41 : decode cX8_plainMark 41 = .ok (.iload_n 1, 1) := by decide +kernel
theorem dX8_plainMark_42 : decode cX8_plainMark 42 = .ok (.invokevirtual 228, 3) := by decide +kernel
theorem dX8_plainMark_45 : decode cX8_plainMark 45 = .ok (.iadd, 1) := by decide +kernel
theorem dX8_plainMark_46 : decode cX8_plainMark 46 = .ok (.istore_n 3, 1) := by decide +kernel
theorem dX8_plainMark_47 : decode cX8_plainMark 47 = .ok (.iload_n 2, 1) := by decide +kernel
theorem dX8_plainMark_48 : decode cX8_plainMark 48 = .ok (.iconst 2, 1) := by decide +kernel
theorem dX8_plainMark_49 : decode cX8_plainMark 49 = .ok (.if_icmp .ne 9, 3) := by decide +kernel
theorem dX8_plainMark_52 : decode cX8_plainMark 52 = .ok (.iconst 2, 1) := by decide +kernel
theorem dX8_plainMark_53 : decode cX8_plainMark 53 = .ok (.iload_n 3, 1) := by decide +kernel
theorem dX8_plainMark_54 : decode cX8_plainMark 54 = .ok (.imul, 1) := by decide +kernel
theorem dX8_plainMark_55 : decode cX8_plainMark 55 = .ok (.goto 17, 3) := by decide +kernel
theorem dX8_plainMark_58 : decode cX8_plainMark 58 = .ok (.iload_n 2, 1) := by decide +kernel
theorem dX8_plainMark_59 : decode cX8_plainMark 59 = .ok (.iconst 3, 1) := by decide +kernel
theorem dX8_plainMark_60 : decode cX8_plainMark 60 = .ok (.if_icmp .ne 11, 3) := by decide +kernel
theorem dX8_plainMark_63 : decode cX8_plainMark 63 = .ok (.iload_n 3, 1) := by decide +kernel
theorem dX8_plainMark_64 : decode cX8_plainMark 64 = .ok (.sipush 1000, 3) := by decide +kernel
theorem dX8_plainMark_67 : decode cX8_plainMark 67 = .ok (.isub, 1) := by decide +kernel
theorem dX8_plainMark_68 : decode cX8_plainMark 68 = .ok (.goto 4, 3) := by decide +kernel
theorem dX8_plainMark_71 : decode cX8_plainMark 71 = .ok (.iload_n 3, 1) := by decide +kernel
theorem dX8_plainMark_72 : decode cX8_plainMark 72 = .ok (.ireturn, 1) := by decide +kernel
theorem dX8_heldSize_0 : decode cX8_heldSize 0 = .ok (.aload_n 0, 1) := by decide +kernel
theorem dX8_heldSize_1 : decode cX8_heldSize 1 = .ok (.iload_n 1, 1) := by decide +kernel
theorem dX8_heldSize_2 : decode cX8_heldSize 2 = .ok (.invokevirtual 260, 3) := by decide +kernel
theorem dX8_heldSize_5 : decode cX8_heldSize 5 = .ok (.iconst 5, 1) := by decide +kernel
theorem dX8_heldSize_6 : decode cX8_heldSize 6 = .ok (.if_icmp .ne 7, 3) := by decide +kernel
theorem dX8_heldSize_9 : decode cX8_heldSize 9 = .ok (.iconst 1, 1) := by decide +kernel
theorem dX8_heldSize_10 : decode cX8_heldSize 10 = .ok (.goto 4, 3) := by decide +kernel
theorem dX8_heldSize_13 : decode cX8_heldSize 13 = .ok (.iconst 0, 1) := by decide +kernel
theorem dX8_heldSize_14 : decode cX8_heldSize 14 = .ok (.istore_n 2, 1) := by decide +kernel
theorem dX8_heldSize_15 : decode cX8_heldSize 15 = .ok (.iload_n 2, 1) := by decide +kernel
theorem dX8_heldSize_16 : decode cX8_heldSize 16 = .ok (.ifCond .eq 9, 3) := by decide +kernel
theorem dX8_heldSize_19 : decode cX8_heldSize 19 = .ok (.aload_n 0, 1) := by decide +kernel
theorem dX8_heldSize_20 : decode cX8_heldSize 20 = .ok (.bipush 14, 2) := by decide +kernel
theorem dX8_heldSize_22 : decode cX8_heldSize 22 = .ok (.invokevirtual 266, 3) := by decide +kernel
theorem dX8_heldSize_25 : decode cX8_heldSize 25 = .ok (.aload_n 0, 1) := by decide +kernel
theorem dX8_heldSize_26 : decode cX8_heldSize 26 = .ok (.bipush 13, 2) := by decide +kernel
theorem dX8_heldSize_28 : decode cX8_heldSize 28 = .ok (.invokevirtual 266, 3) := by decide +kernel
theorem dX8_heldSize_31 : decode cX8_heldSize 31 = .ok (.aload_n 0, 1) := by decide +kernel
theorem dX8_heldSize_32 : decode cX8_heldSize 32 = .ok (.bipush 10, 2) := by decide +kernel
theorem dX8_heldSize_34 : decode cX8_heldSize 34 = .ok (.invokevirtual 266, 3) := by decide +kernel
theorem dX8_heldSize_37 : decode cX8_heldSize 37 = .ok (.aload_n 0, 1) := by decide +kernel
theorem dX8_heldSize_38 : decode cX8_heldSize 38 = .ok (.getfield 25, 3) := by decide +kernel
theorem dX8_heldSize_41 : decode cX8_heldSize 41 = .ok (.iconst 3, 1) := by decide +kernel
theorem dX8_heldSize_42 : decode cX8_heldSize 42 = .ok (.iconst 5, 1) := by decide +kernel
theorem dX8_heldSize_43 : decode cX8_heldSize 43 = .ok (.iload_n 1, 1) := by decide +kernel
theorem dX8_heldSize_44 : decode cX8_heldSize 44 = .ok (.imul, 1) := by decide +kernel
theorem dX8_heldSize_45 : decode cX8_heldSize 45 = .ok (.iadd, 1) := by decide +kernel
theorem dX8_heldSize_46 : decode cX8_heldSize 46 = .ok (.iconst 2, 1) := by decide +kernel
theorem dX8_heldSize_47 : decode cX8_heldSize 47 = .ok (.iadd, 1) := by decide +kernel
theorem dX8_heldSize_48 : decode cX8_heldSize 48 = .ok (.iaload, 1) := by decide +kernel
theorem dX8_heldSize_49 : decode cX8_heldSize 49 = .ok (.bipush 100, 2) := by decide +kernel
theorem dX8_heldSize_51 : decode cX8_heldSize 51 = .ok (.isub, 1) := by decide +kernel
theorem dX8_heldSize_52 : decode cX8_heldSize 52 = .ok (.istore_n 3, 1) := by decide +kernel
theorem dX8_heldSize_53 : decode cX8_heldSize 53 = .ok (.iload_n 2, 1) := by decide +kernel
theorem dX8_heldSize_54 : decode cX8_heldSize 54 = .ok (.ifCond .eq 9, 3) := by decide +kernel
theorem dX8_heldSize_57 : decode cX8_heldSize 57 = .ok (.iconst 2, 1) := by decide +kernel
theorem dX8_heldSize_58 : decode cX8_heldSize 58 = .ok (.iload_n 3, 1) := by decide +kernel
theorem dX8_heldSize_59 : decode cX8_heldSize 59 = .ok (.imul, 1) := by decide +kernel
theorem dX8_heldSize_60 : decode cX8_heldSize 60 = .ok (.goto 4, 3) := by decide +kernel
theorem dX8_heldSize_63 : decode cX8_heldSize 63 = .ok (.iload_n 3, 1) := by decide +kernel
theorem dX8_heldSize_64 : decode cX8_heldSize 64 = .ok (.ireturn, 1) := by decide +kernel
theorem dX8_plainSize_0 : decode cX8_plainSize 0 = .ok (.aload_n 0, 1) := by decide +kernel
theorem dX8_plainSize_1 : decode cX8_plainSize 1 = .ok (.iload_n 1, 1) := by decide +kernel
theorem dX8_plainSize_2 : decode cX8_plainSize 2 = .ok (.invokevirtual 260, 3) := by decide +kernel
theorem dX8_plainSize_5 : decode cX8_plainSize 5 = .ok (.iconst 2, 1) := by decide +kernel
theorem dX8_plainSize_6 : decode cX8_plainSize 6 = .ok (.if_icmp .ne 7, 3) := by decide +kernel
theorem dX8_plainSize_9 : decode cX8_plainSize 9 = .ok (.iconst 1, 1) := by decide +kernel
theorem dX8_plainSize_10 : decode cX8_plainSize 10 = .ok (.goto 4, 3) := by decide +kernel
theorem dX8_plainSize_13 : decode cX8_plainSize 13 = .ok (.iconst 0, 1) := by decide +kernel
theorem dX8_plainSize_14 : decode cX8_plainSize 14 = .ok (.istore_n 2, 1) := by decide +kernel
theorem dX8_plainSize_15 : decode cX8_plainSize 15 = .ok (.iload_n 2, 1) := by decide +kernel
theorem dX8_plainSize_16 : decode cX8_plainSize 16 = .ok (.ifCond .eq 9, 3) := by decide +kernel
theorem dX8_plainSize_19 : decode cX8_plainSize 19 = .ok (.aload_n 0, 1) := by decide +kernel
theorem dX8_plainSize_20 : decode cX8_plainSize 20 = .ok (.bipush 12, 2) := by decide +kernel
theorem dX8_plainSize_22 : decode cX8_plainSize 22 = .ok (.invokevirtual 266, 3) := by decide +kernel
theorem dX8_plainSize_25 : decode cX8_plainSize 25 = .ok (.aload_n 0, 1) := by decide +kernel
theorem dX8_plainSize_26 : decode cX8_plainSize 26 = .ok (.bipush 11, 2) := by decide +kernel
theorem dX8_plainSize_28 : decode cX8_plainSize 28 = .ok (.invokevirtual 266, 3) := by decide +kernel
theorem dX8_plainSize_31 : decode cX8_plainSize 31 = .ok (.aload_n 0, 1) := by decide +kernel
theorem dX8_plainSize_32 : decode cX8_plainSize 32 = .ok (.bipush 10, 2) := by decide +kernel
theorem dX8_plainSize_34 : decode cX8_plainSize 34 = .ok (.invokevirtual 266, 3) := by decide +kernel
theorem dX8_plainSize_37 : decode cX8_plainSize 37 = .ok (.aload_n 0, 1) := by decide +kernel
theorem dX8_plainSize_38 : decode cX8_plainSize 38 = .ok (.getfield 25, 3) := by decide +kernel
theorem dX8_plainSize_41 : decode cX8_plainSize 41 = .ok (.iconst 3, 1) := by decide +kernel
theorem dX8_plainSize_42 : decode cX8_plainSize 42 = .ok (.iconst 5, 1) := by decide +kernel
theorem dX8_plainSize_43 : decode cX8_plainSize 43 = .ok (.iload_n 1, 1) := by decide +kernel
theorem dX8_plainSize_44 : decode cX8_plainSize 44 = .ok (.imul, 1) := by decide +kernel
theorem dX8_plainSize_45 : decode cX8_plainSize 45 = .ok (.iadd, 1) := by decide +kernel
theorem dX8_plainSize_46 : decode cX8_plainSize 46 = .ok (.iconst 2, 1) := by decide +kernel
theorem dX8_plainSize_47 : decode cX8_plainSize 47 = .ok (.iadd, 1) := by decide +kernel
theorem dX8_plainSize_48 : decode cX8_plainSize 48 = .ok (.iaload, 1) := by decide +kernel
theorem dX8_plainSize_49 : decode cX8_plainSize 49 = .ok (.aload_n 0, 1) := by decide +kernel
theorem dX8_plainSize_50 : decode cX8_plainSize 50 = .ok (.iload_n 1, 1) := by decide +kernel
theorem dX8_plainSize_51 : decode cX8_plainSize 51 = .ok (.invokevirtual 270, 3) := by decide +kernel
theorem dX8_plainSize_54 : decode cX8_plainSize 54 = .ok (.iadd, 1) := by decide +kernel
theorem dX8_plainSize_55 : decode cX8_plainSize 55 = .ok (.istore_n 3, 1) := by decide +kernel
theorem dX8_plainSize_56 : decode cX8_plainSize 56 = .ok (.iload_n 2, 1) := by decide +kernel
theorem dX8_plainSize_57 : decode cX8_plainSize 57 = .ok (.ifCond .eq 8, 3) := by decide +kernel
theorem dX8_plainSize_60 : decode cX8_plainSize 60 = .ok (.iload_n 3, 1) := by decide +kernel
theorem dX8_plainSize_61 : decode cX8_plainSize 61 = .ok (.ineg, 1) := by decide +kernel
theorem dX8_plainSize_62 : decode cX8_plainSize 62 = .ok (.goto 4, 3) := by decide +kernel
theorem dX8_plainSize_65 : decode cX8_plainSize 65 = .ok (.iload_n 3, 1) := by decide +kernel
theorem dX8_plainSize_66 : decode cX8_plainSize 66 = .ok (.ireturn, 1) := by decide +kernel
theorem dX8_heldMark_0 : decode cX8_heldMark 0 = .ok (.aload_n 0, 1) := by decide +kernel
theorem dX8_heldMark_1 : decode cX8_heldMark 1 = .ok (.bipush 23, 2) := by decide +kernel
theorem dX8_heldMark_3 : decode cX8_heldMark 3 = .ok (.invokevirtual 266, 3) := by decide +kernel
theorem dX8_heldMark_6 : decode cX8_heldMark 6 = .ok (.aload_n 0, 1) := by decide +kernel
theorem dX8_heldMark_7 : decode cX8_heldMark 7 = .ok (.bipush 20, 2) := by decide +kernel
theorem dX8_heldMark_9 : decode cX8_heldMark 9 = .ok (.invokevirtual 266, 3) := by decide +kernel
theorem dX8_heldMark_12 : decode cX8_heldMark 12 = .ok (.iload_n 1, 1) := by decide +kernel
theorem dX8_heldMark_13 : decode cX8_heldMark 13 = .ok (.aload_n 0, 1) := by decide +kernel
theorem dX8_heldMark_14 : decode cX8_heldMark 14 = .ok (.iload_n 1, 1) := by decide +kernel
theorem dX8_heldMark_15 : decode cX8_heldMark 15 = .ok (.invokevirtual 273, 3) := by decide +kernel
theorem dX8_heldMark_18 : decode cX8_heldMark 18 = .ok (.isub, 1) := by decide +kernel
theorem dX8_heldMark_19 : decode cX8_heldMark 19 = .ok (.ireturn, 1) := by decide +kernel
theorem dX8_ask_0 : decode cX8_ask 0 = .ok (.aload_n 0, 1) := by decide +kernel
theorem dX8_ask_1 : decode cX8_ask 1 = .ok (.iload_n 1, 1) := by decide +kernel
theorem dX8_ask_2 : decode cX8_ask 2 = .ok (.invokevirtual 212, 3) := by decide +kernel
theorem dX8_ask_5 : decode cX8_ask 5 = .ok (.ifCond .eq 12, 3) := by decide +kernel
theorem dX8_ask_8 : decode cX8_ask 8 = .ok (.iload_n 2, 1) := by decide +kernel
theorem dX8_ask_9 : decode cX8_ask 9 = .ok (.iconst 0, 1) := by decide +kernel
theorem dX8_ask_10 : decode cX8_ask 10 = .ok (.iconst 1, 1) := by decide +kernel
theorem dX8_ask_11 : decode cX8_ask 11 = .ok (.invokestatic 68, 3) := by decide +kernel
theorem dX8_ask_14 : decode cX8_ask 14 = .ok (.ifCond .ne 6, 3) := by decide +kernel
theorem dX8_ask_17 : decode cX8_ask 17 = .ok (.ldc 76, 2) := by decide +kernel
theorem dX8_ask_19 : decode cX8_ask 19 = .ok (.ireturn, 1) := by decide +kernel
theorem dX8_ask_20 : decode cX8_ask 20 = .ok (.aload_n 0, 1) := by decide +kernel
theorem dX8_ask_21 : decode cX8_ask 21 = .ok (.iconst 0, 1) := by decide +kernel
theorem dX8_ask_22 : decode cX8_ask 22 = .ok (.putfield 263, 3) := by decide +kernel
theorem dX8_ask_25 : decode cX8_ask 25 = .ok (.aload_n 0, 1) := by decide +kernel
theorem dX8_ask_26 : decode cX8_ask 26 = .ok (.iload_n 1, 1) := by decide +kernel
theorem dX8_ask_27 : decode cX8_ask 27 = .ok (.invokevirtual 260, 3) := by decide +kernel
theorem dX8_ask_30 : decode cX8_ask 30 = .ok (.iconst 4, 1) := by decide +kernel
theorem dX8_ask_31 : decode cX8_ask 31 = .ok (.if_icmp .lt 7, 3) := by decide +kernel
theorem dX8_ask_34 : decode cX8_ask 34 = .ok (.iconst 1, 1) := by decide +kernel
theorem dX8_ask_35 : decode cX8_ask 35 = .ok (.goto 4, 3) := by decide +kernel
theorem dX8_ask_38 : decode cX8_ask 38 = .ok (.iconst 0, 1) := by decide +kernel
theorem dX8_ask_39 : decode cX8_ask 39 = .ok (.istore_n 3, 1) := by decide +kernel
theorem dX8_ask_40 : decode cX8_ask 40 = .ok (.iload_n 2, 1) := by decide +kernel
theorem dX8_ask_41 : decode cX8_ask 41 = .ok (.ifCond .ne 21, 3) := by decide +kernel
theorem dX8_ask_44 : decode cX8_ask 44 = .ok (.iload_n 3, 1) := by decide +kernel
theorem dX8_ask_45 : decode cX8_ask 45 = .ok (.ifCond .eq 11, 3) := by decide +kernel
theorem dX8_ask_48 : decode cX8_ask 48 = .ok (.aload_n 0, 1) := by decide +kernel
theorem dX8_ask_49 : decode cX8_ask 49 = .ok (.iload_n 1, 1) := by decide +kernel
theorem dX8_ask_50 : decode cX8_ask 50 = .ok (.invokevirtual 273, 3) := by decide +kernel
theorem dX8_ask_53 : decode cX8_ask 53 = .ok (.goto 8, 3) := by decide +kernel
theorem dX8_ask_56 : decode cX8_ask 56 = .ok (.aload_n 0, 1) := by decide +kernel
theorem dX8_ask_57 : decode cX8_ask 57 = .ok (.iload_n 1, 1) := by decide +kernel
theorem dX8_ask_58 : decode cX8_ask 58 = .ok (.invokevirtual 276, 3) := by decide +kernel
theorem dX8_ask_61 : decode cX8_ask 61 = .ok (.ireturn, 1) := by decide +kernel
theorem dX8_ask_62 : decode cX8_ask 62 = .ok (.iload_n 3, 1) := by decide +kernel
theorem dX8_ask_63 : decode cX8_ask 63 = .ok (.ifCond .eq 11, 3) := by decide +kernel
theorem dX8_ask_66 : decode cX8_ask 66 = .ok (.aload_n 0, 1) := by decide +kernel
theorem dX8_ask_67 : decode cX8_ask 67 = .ok (.iload_n 1, 1) := by decide +kernel
theorem dX8_ask_68 : decode cX8_ask 68 = .ok (.invokevirtual 279, 3) := by decide +kernel
theorem dX8_ask_71 : decode cX8_ask 71 = .ok (.goto 8, 3) := by decide +kernel
theorem dX8_ask_74 : decode cX8_ask 74 = .ok (.aload_n 0, 1) := by decide +kernel
theorem dX8_ask_75 : decode cX8_ask 75 = .ok (.iload_n 1, 1) := by decide +kernel
theorem dX8_ask_76 : decode cX8_ask 76 = .ok (.invokevirtual 270, 3) := by decide +kernel
theorem dX8_ask_79 : decode cX8_ask 79 = .ok (.ireturn, 1) := by decide +kernel
theorem dX8_trace_0 : decode cX8_trace 0 = .ok (.iload_n 1, 1) := by decide +kernel
theorem dX8_trace_1 : decode cX8_trace 1 = .ok (.iconst 0, 1) := by decide +kernel
theorem dX8_trace_2 : decode cX8_trace 2 = .ok (.aload_n 0, 1) := by decide +kernel
theorem dX8_trace_3 : decode cX8_trace 3 = .ok (.getfield 263, 3) := by decide +kernel
theorem dX8_trace_6 : decode cX8_trace 6 = .ok (.iconst 1, 1) := by decide +kernel
theorem dX8_trace_7 : decode cX8_trace 7 = .ok (.isub, 1) := by decide +kernel
theorem dX8_trace_8 : decode cX8_trace 8 = .ok (.invokestatic 68, 3) := by decide +kernel
theorem dX8_trace_11 : decode cX8_trace 11 = .ok (.ifCond .eq 12, 3) := by decide +kernel
theorem dX8_trace_14 : decode cX8_trace 14 = .ok (.aload_n 0, 1) := by decide +kernel
theorem dX8_trace_15 : decode cX8_trace 15 = .ok (.getfield 59, 3) := by decide +kernel
theorem dX8_trace_18 : decode cX8_trace 18 = .ok (.iload_n 1, 1) := by decide +kernel
theorem dX8_trace_19 : decode cX8_trace 19 = .ok (.iaload, 1) := by decide +kernel
theorem dX8_trace_20 : decode cX8_trace 20 = .ok (.goto 5, 3) := by decide +kernel
theorem dX8_trace_23 : decode cX8_trace 23 = .ok (.ldc 62, 2) := by decide +kernel
theorem dX8_trace_25 : decode cX8_trace 25 = .ok (.ireturn, 1) := by decide +kernel
theorem dX8_count_0 : decode cX8_count 0 = .ok (.iconst 0, 1) := by decide +kernel
theorem dX8_count_1 : decode cX8_count 1 = .ok (.istore_n 2, 1) := by decide +kernel
theorem dX8_count_2 : decode cX8_count 2 = .ok (.iload_n 1, 1) := by decide +kernel
theorem dX8_count_3 : decode cX8_count 3 = .ok (.tableswitch 100 0 5 #[37, 69, 76, 83, 90, 95], 37) := by decide +kernel
theorem dX8_count_40 : decode cX8_count 40 = .ok (.iconst 0, 1) := by decide +kernel
theorem dX8_count_41 : decode cX8_count 41 = .ok (.istore_n 3, 1) := by decide +kernel
theorem dX8_count_42 : decode cX8_count 42 = .ok (.iload_n 3, 1) := by decide +kernel
theorem dX8_count_43 : decode cX8_count 43 = .ok (.bipush 8, 2) := by decide +kernel
theorem dX8_count_45 : decode cX8_count 45 = .ok (.if_icmp .ge 25, 3) := by decide +kernel
theorem dX8_count_48 : decode cX8_count 48 = .ok (.iload_n 2, 1) := by decide +kernel
theorem dX8_count_49 : decode cX8_count 49 = .ok (.aload_n 0, 1) := by decide +kernel
theorem dX8_count_50 : decode cX8_count 50 = .ok (.iload_n 3, 1) := by decide +kernel
theorem dX8_count_51 : decode cX8_count 51 = .ok (.invokevirtual 84, 3) := by decide +kernel
theorem dX8_count_54 : decode cX8_count 54 = .ok (.ifCond .eq 7, 3) := by decide +kernel
theorem dX8_count_57 : decode cX8_count 57 = .ok (.iconst 0, 1) := by decide +kernel
theorem dX8_count_58 : decode cX8_count 58 = .ok (.goto 4, 3) := by decide +kernel
theorem dX8_count_61 : decode cX8_count 61 = .ok (.iconst 1, 1) := by decide +kernel
theorem dX8_count_62 : decode cX8_count 62 = .ok (.iadd, 1) := by decide +kernel
theorem dX8_count_63 : decode cX8_count 63 = .ok (.istore_n 2, 1) := by decide +kernel
theorem dX8_count_64 : decode cX8_count 64 = .ok (.iinc 3 1, 3) := by decide +kernel
theorem dX8_count_67 : decode cX8_count 67 = .ok (.goto (-25), 3) := by decide +kernel
theorem dX8_count_70 : decode cX8_count 70 = .ok (.iload_n 2, 1) := by decide +kernel
theorem dX8_count_71 : decode cX8_count 71 = .ok (.ireturn, 1) := by decide +kernel
theorem dX8_count_72 : decode cX8_count 72 = .ok (.aload_n 0, 1) := by decide +kernel
theorem dX8_count_73 : decode cX8_count 73 = .ok (.getfield 25, 3) := by decide +kernel
theorem dX8_count_76 : decode cX8_count 76 = .ok (.iconst 1, 1) := by decide +kernel
theorem dX8_count_77 : decode cX8_count 77 = .ok (.iaload, 1) := by decide +kernel
theorem dX8_count_78 : decode cX8_count 78 = .ok (.ireturn, 1) := by decide +kernel
theorem dX8_count_79 : decode cX8_count 79 = .ok (.aload_n 0, 1) := by decide +kernel
theorem dX8_count_80 : decode cX8_count 80 = .ok (.getfield 25, 3) := by decide +kernel
theorem dX8_count_83 : decode cX8_count 83 = .ok (.iconst 2, 1) := by decide +kernel
theorem dX8_count_84 : decode cX8_count 84 = .ok (.iaload, 1) := by decide +kernel
theorem dX8_count_85 : decode cX8_count 85 = .ok (.ireturn, 1) := by decide +kernel
theorem dX8_count_86 : decode cX8_count 86 = .ok (.aload_n 0, 1) := by decide +kernel
theorem dX8_count_87 : decode cX8_count 87 = .ok (.getfield 25, 3) := by decide +kernel
theorem dX8_count_90 : decode cX8_count 90 = .ok (.iconst 0, 1) := by decide +kernel
theorem dX8_count_91 : decode cX8_count 91 = .ok (.iaload, 1) := by decide +kernel
theorem dX8_count_92 : decode cX8_count 92 = .ok (.ireturn, 1) := by decide +kernel
theorem dX8_count_93 : decode cX8_count 93 = .ok (.aload_n 0, 1) := by decide +kernel
theorem dX8_count_94 : decode cX8_count 94 = .ok (.getfield 151, 3) := by decide +kernel
theorem dX8_count_97 : decode cX8_count 97 = .ok (.ireturn, 1) := by decide +kernel
theorem dX8_count_98 : decode cX8_count 98 = .ok (.aload_n 0, 1) := by decide +kernel
theorem dX8_count_99 : decode cX8_count 99 = .ok (.getfield 94, 3) := by decide +kernel
theorem dX8_count_102 : decode cX8_count 102 = .ok (.ireturn, 1) := by decide +kernel
theorem dX8_count_103 : decode cX8_count 103 = .ok (.ldc 76, 2) := by decide +kernel
theorem dX8_count_105 : decode cX8_count 105 = .ok (.ireturn, 1) := by decide +kernel
theorem dX8_status_0 : decode cX8_status 0 = .ok (.aload_n 0, 1) := by decide +kernel
theorem dX8_status_1 : decode cX8_status 1 = .ok (.getfield 63, 3) := by decide +kernel
theorem dX8_status_4 : decode cX8_status 4 = .ok (.ireturn, 1) := by decide +kernel
end
section
/-! decode rows, printed by program -/
theorem dL_law_0 : decode cL_law 0 = .ok (.new 7, 3) := by decide +kernel
theorem dL_law_3 : decode cL_law 3 = .ok (.dup, 1) := by decide +kernel
theorem dL_law_4 : decode cL_law 4 = .ok (.invokespecial 9, 3) := by decide +kernel
theorem dL_law_7 : decode cL_law 7 = .ok (.astore_n 1, 1) := by decide +kernel
theorem dL_law_8 : decode cL_law 8 = .ok (.new 10, 3) := by decide +kernel
theorem dL_law_11 : decode cL_law 11 = .ok (.dup, 1) := by decide +kernel
theorem dL_law_12 : decode cL_law 12 = .ok (.invokespecial 12, 3) := by decide +kernel
theorem dL_law_15 : decode cL_law 15 = .ok (.astore_n 2, 1) := by decide +kernel
theorem dL_law_16 : decode cL_law 16 = .ok (.iconst 0, 1) := by decide +kernel
theorem dL_law_17 : decode cL_law 17 = .ok (.istore_n 3, 1) := by decide +kernel
theorem dL_law_18 : decode cL_law 18 = .ok (.iload_n 3, 1) := by decide +kernel
theorem dL_law_19 : decode cL_law 19 = .ok (.aload_n 0, 1) := by decide +kernel
theorem dL_law_20 : decode cL_law 20 = .ok (.arraylength, 1) := by decide +kernel
theorem dL_law_21 : decode cL_law 21 = .ok (.bipush 6, 2) := by decide +kernel
theorem dL_law_23 : decode cL_law 23 = .ok (.isub, 1) := by decide +kernel
theorem dL_law_24 : decode cL_law 24 = .ok (.if_icmp .gt 1030, 3) := by decide +kernel
theorem dL_law_27 : decode cL_law 27 = .ok (.aload_n 0, 1) := by decide +kernel
theorem dL_law_28 : decode cL_law 28 = .ok (.iload_n 3, 1) := by decide +kernel
theorem dL_law_29 : decode cL_law 29 = .ok (.iaload, 1) := by decide +kernel
theorem dL_law_30 : decode cL_law 30 = .ok (.bipush 31, 2) := by decide +kernel
theorem dL_law_32 : decode cL_law 32 = .ok (.iand, 1) := by decide +kernel
theorem dL_law_33 : decode cL_law 33 = .ok (.tableswitch 1015 0 29 #[135, 178, 221, 284, 307, 330, 343, 356, 389, 422, 445, 468, 481, 514, 547, 570, 603, 636, 659, 692, 725, 778, 821, 844, 867, 890, 923, 956, 979, 1002], 135) := by decide +kernel
theorem dL_law_168 : decode cL_law 168 = .ok (.aload_n 1, 1) := by decide +kernel
theorem dL_law_169 : decode cL_law 169 = .ok (.aload_n 0, 1) := by decide +kernel
theorem dL_law_170 : decode cL_law 170 = .ok (.iload_n 3, 1) := by decide +kernel
theorem dL_law_171 : decode cL_law 171 = .ok (.iconst 1, 1) := by decide +kernel
theorem dL_law_172 : decode cL_law 172 = .ok (.iadd, 1) := by decide +kernel
theorem dL_law_173 : decode cL_law 173 = .ok (.iaload, 1) := by decide +kernel
theorem dL_law_174 : decode cL_law 174 = .ok (.aload_n 0, 1) := by decide +kernel
theorem dL_law_175 : decode cL_law 175 = .ok (.iload_n 3, 1) := by decide +kernel
theorem dL_law_176 : decode cL_law 176 = .ok (.iconst 2, 1) := by decide +kernel
theorem dL_law_177 : decode cL_law 177 = .ok (.iadd, 1) := by decide +kernel
theorem dL_law_178 : decode cL_law 178 = .ok (.iaload, 1) := by decide +kernel
theorem dL_law_179 : decode cL_law 179 = .ok (.aload_n 0, 1) := by decide +kernel
theorem dL_law_180 : decode cL_law 180 = .ok (.iload_n 3, 1) := by decide +kernel
theorem dL_law_181 : decode cL_law 181 = .ok (.iconst 3, 1) := by decide +kernel
theorem dL_law_182 : decode cL_law 182 = .ok (.iadd, 1) := by decide +kernel
theorem dL_law_183 : decode cL_law 183 = .ok (.iaload, 1) := by decide +kernel
theorem dL_law_184 : decode cL_law 184 = .ok (.invokevirtual 13, 3) := by decide +kernel
theorem dL_law_187 : decode cL_law 187 = .ok (.aload_n 2, 1) := by decide +kernel
theorem dL_law_188 : decode cL_law 188 = .ok (.aload_n 0, 1) := by decide +kernel
theorem dL_law_189 : decode cL_law 189 = .ok (.iload_n 3, 1) := by decide +kernel
theorem dL_law_190 : decode cL_law 190 = .ok (.iconst 1, 1) := by decide +kernel
theorem dL_law_191 : decode cL_law 191 = .ok (.iadd, 1) := by decide +kernel
theorem dL_law_192 : decode cL_law 192 = .ok (.iaload, 1) := by decide +kernel
theorem dL_law_193 : decode cL_law 193 = .ok (.aload_n 0, 1) := by decide +kernel
theorem dL_law_194 : decode cL_law 194 = .ok (.iload_n 3, 1) := by decide +kernel
theorem dL_law_195 : decode cL_law 195 = .ok (.iconst 2, 1) := by decide +kernel
theorem dL_law_196 : decode cL_law 196 = .ok (.iadd, 1) := by decide +kernel
theorem dL_law_197 : decode cL_law 197 = .ok (.iaload, 1) := by decide +kernel
theorem dL_law_198 : decode cL_law 198 = .ok (.aload_n 0, 1) := by decide +kernel
theorem dL_law_199 : decode cL_law 199 = .ok (.iload_n 3, 1) := by decide +kernel
theorem dL_law_200 : decode cL_law 200 = .ok (.iconst 3, 1) := by decide +kernel
theorem dL_law_201 : decode cL_law 201 = .ok (.iadd, 1) := by decide +kernel
theorem dL_law_202 : decode cL_law 202 = .ok (.iaload, 1) := by decide +kernel
theorem dL_law_203 : decode cL_law 203 = .ok (.invokevirtual 17, 3) := by decide +kernel
theorem dL_law_206 : decode cL_law 206 = .ok (.if_icmp .eq 842, 3) := by decide +kernel
theorem dL_law_209 : decode cL_law 209 = .ok (.iconst 0, 1) := by decide +kernel
theorem dL_law_210 : decode cL_law 210 = .ok (.ireturn, 1) := by decide +kernel
theorem dL_law_211 : decode cL_law 211 = .ok (.aload_n 1, 1) := by decide +kernel
theorem dL_law_212 : decode cL_law 212 = .ok (.aload_n 0, 1) := by decide +kernel
theorem dL_law_213 : decode cL_law 213 = .ok (.iload_n 3, 1) := by decide +kernel
theorem dL_law_214 : decode cL_law 214 = .ok (.iconst 1, 1) := by decide +kernel
theorem dL_law_215 : decode cL_law 215 = .ok (.iadd, 1) := by decide +kernel
theorem dL_law_216 : decode cL_law 216 = .ok (.iaload, 1) := by decide +kernel
theorem dL_law_217 : decode cL_law 217 = .ok (.aload_n 0, 1) := by decide +kernel
theorem dL_law_218 : decode cL_law 218 = .ok (.iload_n 3, 1) := by decide +kernel
theorem dL_law_219 : decode cL_law 219 = .ok (.iconst 2, 1) := by decide +kernel
theorem dL_law_220 : decode cL_law 220 = .ok (.iadd, 1) := by decide +kernel
theorem dL_law_221 : decode cL_law 221 = .ok (.iaload, 1) := by decide +kernel
theorem dL_law_222 : decode cL_law 222 = .ok (.aload_n 0, 1) := by decide +kernel
theorem dL_law_223 : decode cL_law 223 = .ok (.iload_n 3, 1) := by decide +kernel
theorem dL_law_224 : decode cL_law 224 = .ok (.iconst 3, 1) := by decide +kernel
theorem dL_law_225 : decode cL_law 225 = .ok (.iadd, 1) := by decide +kernel
theorem dL_law_226 : decode cL_law 226 = .ok (.iaload, 1) := by decide +kernel
theorem dL_law_227 : decode cL_law 227 = .ok (.invokevirtual 18, 3) := by decide +kernel
theorem dL_law_230 : decode cL_law 230 = .ok (.aload_n 2, 1) := by decide +kernel
theorem dL_law_231 : decode cL_law 231 = .ok (.aload_n 0, 1) := by decide +kernel
theorem dL_law_232 : decode cL_law 232 = .ok (.iload_n 3, 1) := by decide +kernel
theorem dL_law_233 : decode cL_law 233 = .ok (.iconst 1, 1) := by decide +kernel
theorem dL_law_234 : decode cL_law 234 = .ok (.iadd, 1) := by decide +kernel
theorem dL_law_235 : decode cL_law 235 = .ok (.iaload, 1) := by decide +kernel
theorem dL_law_236 : decode cL_law 236 = .ok (.aload_n 0, 1) := by decide +kernel
theorem dL_law_237 : decode cL_law 237 = .ok (.iload_n 3, 1) := by decide +kernel
theorem dL_law_238 : decode cL_law 238 = .ok (.iconst 2, 1) := by decide +kernel
theorem dL_law_239 : decode cL_law 239 = .ok (.iadd, 1) := by decide +kernel
theorem dL_law_240 : decode cL_law 240 = .ok (.iaload, 1) := by decide +kernel
theorem dL_law_241 : decode cL_law 241 = .ok (.aload_n 0, 1) := by decide +kernel
theorem dL_law_242 : decode cL_law 242 = .ok (.iload_n 3, 1) := by decide +kernel
theorem dL_law_243 : decode cL_law 243 = .ok (.iconst 3, 1) := by decide +kernel
theorem dL_law_244 : decode cL_law 244 = .ok (.iadd, 1) := by decide +kernel
theorem dL_law_245 : decode cL_law 245 = .ok (.iaload, 1) := by decide +kernel
theorem dL_law_246 : decode cL_law 246 = .ok (.invokevirtual 21, 3) := by decide +kernel
theorem dL_law_249 : decode cL_law 249 = .ok (.if_icmp .eq 799, 3) := by decide +kernel
theorem dL_law_252 : decode cL_law 252 = .ok (.iconst 0, 1) := by decide +kernel
theorem dL_law_253 : decode cL_law 253 = .ok (.ireturn, 1) := by decide +kernel
theorem dL_law_254 : decode cL_law 254 = .ok (.aload_n 1, 1) := by decide +kernel
theorem dL_law_255 : decode cL_law 255 = .ok (.aload_n 0, 1) := by decide +kernel
theorem dL_law_256 : decode cL_law 256 = .ok (.iload_n 3, 1) := by decide +kernel
theorem dL_law_257 : decode cL_law 257 = .ok (.iconst 1, 1) := by decide +kernel
theorem dL_law_258 : decode cL_law 258 = .ok (.iadd, 1) := by decide +kernel
theorem dL_law_259 : decode cL_law 259 = .ok (.iaload, 1) := by decide +kernel
theorem dL_law_260 : decode cL_law 260 = .ok (.aload_n 0, 1) := by decide +kernel
theorem dL_law_261 : decode cL_law 261 = .ok (.iload_n 3, 1) := by decide +kernel
theorem dL_law_262 : decode cL_law 262 = .ok (.iconst 2, 1) := by decide +kernel
theorem dL_law_263 : decode cL_law 263 = .ok (.iadd, 1) := by decide +kernel
theorem dL_law_264 : decode cL_law 264 = .ok (.iaload, 1) := by decide +kernel
theorem dL_law_265 : decode cL_law 265 = .ok (.aload_n 0, 1) := by decide +kernel
theorem dL_law_266 : decode cL_law 266 = .ok (.iload_n 3, 1) := by decide +kernel
theorem dL_law_267 : decode cL_law 267 = .ok (.iconst 3, 1) := by decide +kernel
theorem dL_law_268 : decode cL_law 268 = .ok (.iadd, 1) := by decide +kernel
theorem dL_law_269 : decode cL_law 269 = .ok (.iaload, 1) := by decide +kernel
theorem dL_law_270 : decode cL_law 270 = .ok (.aload_n 0, 1) := by decide +kernel
theorem dL_law_271 : decode cL_law 271 = .ok (.iload_n 3, 1) := by decide +kernel
theorem dL_law_272 : decode cL_law 272 = .ok (.iconst 4, 1) := by decide +kernel
theorem dL_law_273 : decode cL_law 273 = .ok (.iadd, 1) := by decide +kernel
theorem dL_law_274 : decode cL_law 274 = .ok (.iaload, 1) := by decide +kernel
theorem dL_law_275 : decode cL_law 275 = .ok (.aload_n 0, 1) := by decide +kernel
theorem dL_law_276 : decode cL_law 276 = .ok (.iload_n 3, 1) := by decide +kernel
theorem dL_law_277 : decode cL_law 277 = .ok (.iconst 5, 1) := by decide +kernel
theorem dL_law_278 : decode cL_law 278 = .ok (.iadd, 1) := by decide +kernel
theorem dL_law_279 : decode cL_law 279 = .ok (.iaload, 1) := by decide +kernel
theorem dL_law_280 : decode cL_law 280 = .ok (.invokevirtual 22, 3) := by decide +kernel
theorem dL_law_283 : decode cL_law 283 = .ok (.aload_n 2, 1) := by decide +kernel
theorem dL_law_284 : decode cL_law 284 = .ok (.aload_n 0, 1) := by decide +kernel
theorem dL_law_285 : decode cL_law 285 = .ok (.iload_n 3, 1) := by decide +kernel
theorem dL_law_286 : decode cL_law 286 = .ok (.iconst 1, 1) := by decide +kernel
theorem dL_law_287 : decode cL_law 287 = .ok (.iadd, 1) := by decide +kernel
theorem dL_law_288 : decode cL_law 288 = .ok (.iaload, 1) := by decide +kernel
theorem dL_law_289 : decode cL_law 289 = .ok (.aload_n 0, 1) := by decide +kernel
theorem dL_law_290 : decode cL_law 290 = .ok (.iload_n 3, 1) := by decide +kernel
theorem dL_law_291 : decode cL_law 291 = .ok (.iconst 2, 1) := by decide +kernel
theorem dL_law_292 : decode cL_law 292 = .ok (.iadd, 1) := by decide +kernel
theorem dL_law_293 : decode cL_law 293 = .ok (.iaload, 1) := by decide +kernel
theorem dL_law_294 : decode cL_law 294 = .ok (.aload_n 0, 1) := by decide +kernel
theorem dL_law_295 : decode cL_law 295 = .ok (.iload_n 3, 1) := by decide +kernel
theorem dL_law_296 : decode cL_law 296 = .ok (.iconst 3, 1) := by decide +kernel
theorem dL_law_297 : decode cL_law 297 = .ok (.iadd, 1) := by decide +kernel
theorem dL_law_298 : decode cL_law 298 = .ok (.iaload, 1) := by decide +kernel
theorem dL_law_299 : decode cL_law 299 = .ok (.aload_n 0, 1) := by decide +kernel
theorem dL_law_300 : decode cL_law 300 = .ok (.iload_n 3, 1) := by decide +kernel
theorem dL_law_301 : decode cL_law 301 = .ok (.iconst 4, 1) := by decide +kernel
theorem dL_law_302 : decode cL_law 302 = .ok (.iadd, 1) := by decide +kernel
theorem dL_law_303 : decode cL_law 303 = .ok (.iaload, 1) := by decide +kernel
theorem dL_law_304 : decode cL_law 304 = .ok (.aload_n 0, 1) := by decide +kernel
theorem dL_law_305 : decode cL_law 305 = .ok (.iload_n 3, 1) := by decide +kernel
theorem dL_law_306 : decode cL_law 306 = .ok (.iconst 5, 1) := by decide +kernel
theorem dL_law_307 : decode cL_law 307 = .ok (.iadd, 1) := by decide +kernel
theorem dL_law_308 : decode cL_law 308 = .ok (.iaload, 1) := by decide +kernel
theorem dL_law_309 : decode cL_law 309 = .ok (.invokevirtual 26, 3) := by decide +kernel
theorem dL_law_312 : decode cL_law 312 = .ok (.if_icmp .eq 736, 3) := by decide +kernel
theorem dL_law_315 : decode cL_law 315 = .ok (.iconst 0, 1) := by decide +kernel
theorem dL_law_316 : decode cL_law 316 = .ok (.ireturn, 1) := by decide +kernel
theorem dL_law_317 : decode cL_law 317 = .ok (.aload_n 1, 1) := by decide +kernel
theorem dL_law_318 : decode cL_law 318 = .ok (.aload_n 0, 1) := by decide +kernel
theorem dL_law_319 : decode cL_law 319 = .ok (.iload_n 3, 1) := by decide +kernel
theorem dL_law_320 : decode cL_law 320 = .ok (.iconst 1, 1) := by decide +kernel
theorem dL_law_321 : decode cL_law 321 = .ok (.iadd, 1) := by decide +kernel
theorem dL_law_322 : decode cL_law 322 = .ok (.iaload, 1) := by decide +kernel
theorem dL_law_323 : decode cL_law 323 = .ok (.invokevirtual 27, 3) := by decide +kernel
theorem dL_law_326 : decode cL_law 326 = .ok (.aload_n 2, 1) := by decide +kernel
theorem dL_law_327 : decode cL_law 327 = .ok (.aload_n 0, 1) := by decide +kernel
theorem dL_law_328 : decode cL_law 328 = .ok (.iload_n 3, 1) := by decide +kernel
theorem dL_law_329 : decode cL_law 329 = .ok (.iconst 1, 1) := by decide +kernel
theorem dL_law_330 : decode cL_law 330 = .ok (.iadd, 1) := by decide +kernel
theorem dL_law_331 : decode cL_law 331 = .ok (.iaload, 1) := by decide +kernel
theorem dL_law_332 : decode cL_law 332 = .ok (.invokevirtual 31, 3) := by decide +kernel
theorem dL_law_335 : decode cL_law 335 = .ok (.if_icmp .eq 713, 3) := by decide +kernel
theorem dL_law_338 : decode cL_law 338 = .ok (.iconst 0, 1) := by decide +kernel
theorem dL_law_339 : decode cL_law 339 = .ok (.ireturn, 1) := by decide +kernel
theorem dL_law_340 : decode cL_law 340 = .ok (.aload_n 1, 1) := by decide +kernel
theorem dL_law_341 : decode cL_law 341 = .ok (.aload_n 0, 1) := by decide +kernel
theorem dL_law_342 : decode cL_law 342 = .ok (.iload_n 3, 1) := by decide +kernel
theorem dL_law_343 : decode cL_law 343 = .ok (.iconst 1, 1) := by decide +kernel
theorem dL_law_344 : decode cL_law 344 = .ok (.iadd, 1) := by decide +kernel
theorem dL_law_345 : decode cL_law 345 = .ok (.iaload, 1) := by decide +kernel
theorem dL_law_346 : decode cL_law 346 = .ok (.invokevirtual 32, 3) := by decide +kernel
theorem dL_law_349 : decode cL_law 349 = .ok (.aload_n 2, 1) := by decide +kernel
theorem dL_law_350 : decode cL_law 350 = .ok (.aload_n 0, 1) := by decide +kernel
theorem dL_law_351 : decode cL_law 351 = .ok (.iload_n 3, 1) := by decide +kernel
theorem dL_law_352 : decode cL_law 352 = .ok (.iconst 1, 1) := by decide +kernel
theorem dL_law_353 : decode cL_law 353 = .ok (.iadd, 1) := by decide +kernel
theorem dL_law_354 : decode cL_law 354 = .ok (.iaload, 1) := by decide +kernel
theorem dL_law_355 : decode cL_law 355 = .ok (.invokevirtual 35, 3) := by decide +kernel
theorem dL_law_358 : decode cL_law 358 = .ok (.if_icmp .eq 690, 3) := by decide +kernel
theorem dL_law_361 : decode cL_law 361 = .ok (.iconst 0, 1) := by decide +kernel
theorem dL_law_362 : decode cL_law 362 = .ok (.ireturn, 1) := by decide +kernel
theorem dL_law_363 : decode cL_law 363 = .ok (.aload_n 1, 1) := by decide +kernel
theorem dL_law_364 : decode cL_law 364 = .ok (.invokevirtual 36, 3) := by decide +kernel
theorem dL_law_367 : decode cL_law 367 = .ok (.aload_n 2, 1) := by decide +kernel
theorem dL_law_368 : decode cL_law 368 = .ok (.invokevirtual 40, 3) := by decide +kernel
theorem dL_law_371 : decode cL_law 371 = .ok (.if_icmp .eq 677, 3) := by decide +kernel
theorem dL_law_374 : decode cL_law 374 = .ok (.iconst 0, 1) := by decide +kernel
theorem dL_law_375 : decode cL_law 375 = .ok (.ireturn, 1) := by decide +kernel
theorem dL_law_376 : decode cL_law 376 = .ok (.aload_n 1, 1) := by decide +kernel
theorem dL_law_377 : decode cL_law 377 = .ok (.invokevirtual 41, 3) := by decide +kernel
theorem dL_law_380 : decode cL_law 380 = .ok (.aload_n 2, 1) := by decide +kernel
theorem dL_law_381 : decode cL_law 381 = .ok (.invokevirtual 44, 3) := by decide +kernel
theorem dL_law_384 : decode cL_law 384 = .ok (.if_icmp .eq 664, 3) := by decide +kernel
theorem dL_law_387 : decode cL_law 387 = .ok (.iconst 0, 1) := by decide +kernel
theorem dL_law_388 : decode cL_law 388 = .ok (.ireturn, 1) := by decide +kernel
theorem dL_law_389 : decode cL_law 389 = .ok (.aload_n 1, 1) := by decide +kernel
theorem dL_law_390 : decode cL_law 390 = .ok (.aload_n 0, 1) := by decide +kernel
theorem dL_law_391 : decode cL_law 391 = .ok (.iload_n 3, 1) := by decide +kernel
theorem dL_law_392 : decode cL_law 392 = .ok (.iconst 1, 1) := by decide +kernel
theorem dL_law_393 : decode cL_law 393 = .ok (.iadd, 1) := by decide +kernel
theorem dL_law_394 : decode cL_law 394 = .ok (.iaload, 1) := by decide +kernel
theorem dL_law_395 : decode cL_law 395 = .ok (.aload_n 0, 1) := by decide +kernel
theorem dL_law_396 : decode cL_law 396 = .ok (.iload_n 3, 1) := by decide +kernel
theorem dL_law_397 : decode cL_law 397 = .ok (.iconst 2, 1) := by decide +kernel
theorem dL_law_398 : decode cL_law 398 = .ok (.iadd, 1) := by decide +kernel
theorem dL_law_399 : decode cL_law 399 = .ok (.iaload, 1) := by decide +kernel
theorem dL_law_400 : decode cL_law 400 = .ok (.invokevirtual 45, 3) := by decide +kernel
theorem dL_law_403 : decode cL_law 403 = .ok (.aload_n 2, 1) := by decide +kernel
theorem dL_law_404 : decode cL_law 404 = .ok (.aload_n 0, 1) := by decide +kernel
theorem dL_law_405 : decode cL_law 405 = .ok (.iload_n 3, 1) := by decide +kernel
theorem dL_law_406 : decode cL_law 406 = .ok (.iconst 1, 1) := by decide +kernel
theorem dL_law_407 : decode cL_law 407 = .ok (.iadd, 1) := by decide +kernel
theorem dL_law_408 : decode cL_law 408 = .ok (.iaload, 1) := by decide +kernel
theorem dL_law_409 : decode cL_law 409 = .ok (.aload_n 0, 1) := by decide +kernel
theorem dL_law_410 : decode cL_law 410 = .ok (.iload_n 3, 1) := by decide +kernel
theorem dL_law_411 : decode cL_law 411 = .ok (.iconst 2, 1) := by decide +kernel
theorem dL_law_412 : decode cL_law 412 = .ok (.iadd, 1) := by decide +kernel
theorem dL_law_413 : decode cL_law 413 = .ok (.iaload, 1) := by decide +kernel
theorem dL_law_414 : decode cL_law 414 = .ok (.invokevirtual 49, 3) := by decide +kernel
theorem dL_law_417 : decode cL_law 417 = .ok (.if_icmp .eq 631, 3) := by decide +kernel
theorem dL_law_420 : decode cL_law 420 = .ok (.iconst 0, 1) := by decide +kernel
theorem dL_law_421 : decode cL_law 421 = .ok (.ireturn, 1) := by decide +kernel
theorem dL_law_422 : decode cL_law 422 = .ok (.aload_n 1, 1) := by decide +kernel
theorem dL_law_423 : decode cL_law 423 = .ok (.aload_n 0, 1) := by decide +kernel
theorem dL_law_424 : decode cL_law 424 = .ok (.iload_n 3, 1) := by decide +kernel
theorem dL_law_425 : decode cL_law 425 = .ok (.iconst 1, 1) := by decide +kernel
theorem dL_law_426 : decode cL_law 426 = .ok (.iadd, 1) := by decide +kernel
theorem dL_law_427 : decode cL_law 427 = .ok (.iaload, 1) := by decide +kernel
theorem dL_law_428 : decode cL_law 428 = .ok (.aload_n 0, 1) := by decide +kernel
theorem dL_law_429 : decode cL_law 429 = .ok (.iload_n 3, 1) := by decide +kernel
theorem dL_law_430 : decode cL_law 430 = .ok (.iconst 2, 1) := by decide +kernel
theorem dL_law_431 : decode cL_law 431 = .ok (.iadd, 1) := by decide +kernel
theorem dL_law_432 : decode cL_law 432 = .ok (.iaload, 1) := by decide +kernel
theorem dL_law_433 : decode cL_law 433 = .ok (.invokevirtual 50, 3) := by decide +kernel
theorem dL_law_436 : decode cL_law 436 = .ok (.aload_n 2, 1) := by decide +kernel
theorem dL_law_437 : decode cL_law 437 = .ok (.aload_n 0, 1) := by decide +kernel
theorem dL_law_438 : decode cL_law 438 = .ok (.iload_n 3, 1) := by decide +kernel
theorem dL_law_439 : decode cL_law 439 = .ok (.iconst 1, 1) := by decide +kernel
theorem dL_law_440 : decode cL_law 440 = .ok (.iadd, 1) := by decide +kernel
theorem dL_law_441 : decode cL_law 441 = .ok (.iaload, 1) := by decide +kernel
theorem dL_law_442 : decode cL_law 442 = .ok (.aload_n 0, 1) := by decide +kernel
theorem dL_law_443 : decode cL_law 443 = .ok (.iload_n 3, 1) := by decide +kernel
theorem dL_law_444 : decode cL_law 444 = .ok (.iconst 2, 1) := by decide +kernel
theorem dL_law_445 : decode cL_law 445 = .ok (.iadd, 1) := by decide +kernel
theorem dL_law_446 : decode cL_law 446 = .ok (.iaload, 1) := by decide +kernel
theorem dL_law_447 : decode cL_law 447 = .ok (.invokevirtual 53, 3) := by decide +kernel
theorem dL_law_450 : decode cL_law 450 = .ok (.if_icmp .eq 598, 3) := by decide +kernel
theorem dL_law_453 : decode cL_law 453 = .ok (.iconst 0, 1) := by decide +kernel
theorem dL_law_454 : decode cL_law 454 = .ok (.ireturn, 1) := by decide +kernel
theorem dL_law_455 : decode cL_law 455 = .ok (.aload_n 1, 1) := by decide +kernel
theorem dL_law_456 : decode cL_law 456 = .ok (.aload_n 0, 1) := by decide +kernel
theorem dL_law_457 : decode cL_law 457 = .ok (.iload_n 3, 1) := by decide +kernel
theorem dL_law_458 : decode cL_law 458 = .ok (.iconst 1, 1) := by decide +kernel
theorem dL_law_459 : decode cL_law 459 = .ok (.iadd, 1) := by decide +kernel
theorem dL_law_460 : decode cL_law 460 = .ok (.iaload, 1) := by decide +kernel
theorem dL_law_461 : decode cL_law 461 = .ok (.invokevirtual 54, 3) := by decide +kernel
theorem dL_law_464 : decode cL_law 464 = .ok (.aload_n 2, 1) := by decide +kernel
theorem dL_law_465 : decode cL_law 465 = .ok (.aload_n 0, 1) := by decide +kernel
theorem dL_law_466 : decode cL_law 466 = .ok (.iload_n 3, 1) := by decide +kernel
theorem dL_law_467 : decode cL_law 467 = .ok (.iconst 1, 1) := by decide +kernel
theorem dL_law_468 : decode cL_law 468 = .ok (.iadd, 1) := by decide +kernel
theorem dL_law_469 : decode cL_law 469 = .ok (.iaload, 1) := by decide +kernel
theorem dL_law_470 : decode cL_law 470 = .ok (.invokevirtual 57, 3) := by decide +kernel
theorem dL_law_473 : decode cL_law 473 = .ok (.if_icmp .eq 575, 3) := by decide +kernel
theorem dL_law_476 : decode cL_law 476 = .ok (.iconst 0, 1) := by decide +kernel
theorem dL_law_477 : decode cL_law 477 = .ok (.ireturn, 1) := by decide +kernel
theorem dL_law_478 : decode cL_law 478 = .ok (.aload_n 1, 1) := by decide +kernel
theorem dL_law_479 : decode cL_law 479 = .ok (.aload_n 0, 1) := by decide +kernel
theorem dL_law_480 : decode cL_law 480 = .ok (.iload_n 3, 1) := by decide +kernel
theorem dL_law_481 : decode cL_law 481 = .ok (.iconst 1, 1) := by decide +kernel
theorem dL_law_482 : decode cL_law 482 = .ok (.iadd, 1) := by decide +kernel
theorem dL_law_483 : decode cL_law 483 = .ok (.iaload, 1) := by decide +kernel
theorem dL_law_484 : decode cL_law 484 = .ok (.invokevirtual 58, 3) := by decide +kernel
theorem dL_law_487 : decode cL_law 487 = .ok (.aload_n 2, 1) := by decide +kernel
theorem dL_law_488 : decode cL_law 488 = .ok (.aload_n 0, 1) := by decide +kernel
theorem dL_law_489 : decode cL_law 489 = .ok (.iload_n 3, 1) := by decide +kernel
theorem dL_law_490 : decode cL_law 490 = .ok (.iconst 1, 1) := by decide +kernel
theorem dL_law_491 : decode cL_law 491 = .ok (.iadd, 1) := by decide +kernel
theorem dL_law_492 : decode cL_law 492 = .ok (.iaload, 1) := by decide +kernel
theorem dL_law_493 : decode cL_law 493 = .ok (.invokevirtual 61, 3) := by decide +kernel
theorem dL_law_496 : decode cL_law 496 = .ok (.if_icmp .eq 552, 3) := by decide +kernel
theorem dL_law_499 : decode cL_law 499 = .ok (.iconst 0, 1) := by decide +kernel
theorem dL_law_500 : decode cL_law 500 = .ok (.ireturn, 1) := by decide +kernel
theorem dL_law_501 : decode cL_law 501 = .ok (.aload_n 1, 1) := by decide +kernel
theorem dL_law_502 : decode cL_law 502 = .ok (.invokevirtual 62, 3) := by decide +kernel
theorem dL_law_505 : decode cL_law 505 = .ok (.aload_n 2, 1) := by decide +kernel
theorem dL_law_506 : decode cL_law 506 = .ok (.invokevirtual 65, 3) := by decide +kernel
theorem dL_law_509 : decode cL_law 509 = .ok (.if_icmp .eq 539, 3) := by decide +kernel
theorem dL_law_512 : decode cL_law 512 = .ok (.iconst 0, 1) := by decide +kernel
theorem dL_law_513 : decode cL_law 513 = .ok (.ireturn, 1) := by decide +kernel
theorem dL_law_514 : decode cL_law 514 = .ok (.aload_n 1, 1) := by decide +kernel
theorem dL_law_515 : decode cL_law 515 = .ok (.aload_n 0, 1) := by decide +kernel
theorem dL_law_516 : decode cL_law 516 = .ok (.iload_n 3, 1) := by decide +kernel
theorem dL_law_517 : decode cL_law 517 = .ok (.iconst 1, 1) := by decide +kernel
theorem dL_law_518 : decode cL_law 518 = .ok (.iadd, 1) := by decide +kernel
theorem dL_law_519 : decode cL_law 519 = .ok (.iaload, 1) := by decide +kernel
theorem dL_law_520 : decode cL_law 520 = .ok (.aload_n 0, 1) := by decide +kernel
theorem dL_law_521 : decode cL_law 521 = .ok (.iload_n 3, 1) := by decide +kernel
theorem dL_law_522 : decode cL_law 522 = .ok (.iconst 2, 1) := by decide +kernel
theorem dL_law_523 : decode cL_law 523 = .ok (.iadd, 1) := by decide +kernel
theorem dL_law_524 : decode cL_law 524 = .ok (.iaload, 1) := by decide +kernel
theorem dL_law_525 : decode cL_law 525 = .ok (.invokevirtual 66, 3) := by decide +kernel
theorem dL_law_528 : decode cL_law 528 = .ok (.aload_n 2, 1) := by decide +kernel
theorem dL_law_529 : decode cL_law 529 = .ok (.aload_n 0, 1) := by decide +kernel
theorem dL_law_530 : decode cL_law 530 = .ok (.iload_n 3, 1) := by decide +kernel
theorem dL_law_531 : decode cL_law 531 = .ok (.iconst 1, 1) := by decide +kernel
theorem dL_law_532 : decode cL_law 532 = .ok (.iadd, 1) := by decide +kernel
theorem dL_law_533 : decode cL_law 533 = .ok (.iaload, 1) := by decide +kernel
theorem dL_law_534 : decode cL_law 534 = .ok (.aload_n 0, 1) := by decide +kernel
theorem dL_law_535 : decode cL_law 535 = .ok (.iload_n 3, 1) := by decide +kernel
theorem dL_law_536 : decode cL_law 536 = .ok (.iconst 2, 1) := by decide +kernel
theorem dL_law_537 : decode cL_law 537 = .ok (.iadd, 1) := by decide +kernel
theorem dL_law_538 : decode cL_law 538 = .ok (.iaload, 1) := by decide +kernel
theorem dL_law_539 : decode cL_law 539 = .ok (.invokevirtual 69, 3) := by decide +kernel
theorem dL_law_542 : decode cL_law 542 = .ok (.if_icmp .eq 506, 3) := by decide +kernel
theorem dL_law_545 : decode cL_law 545 = .ok (.iconst 0, 1) := by decide +kernel
theorem dL_law_546 : decode cL_law 546 = .ok (.ireturn, 1) := by decide +kernel
theorem dL_law_547 : decode cL_law 547 = .ok (.aload_n 1, 1) := by decide +kernel
theorem dL_law_548 : decode cL_law 548 = .ok (.aload_n 0, 1) := by decide +kernel
theorem dL_law_549 : decode cL_law 549 = .ok (.iload_n 3, 1) := by decide +kernel
theorem dL_law_550 : decode cL_law 550 = .ok (.iconst 1, 1) := by decide +kernel
theorem dL_law_551 : decode cL_law 551 = .ok (.iadd, 1) := by decide +kernel
theorem dL_law_552 : decode cL_law 552 = .ok (.iaload, 1) := by decide +kernel
theorem dL_law_553 : decode cL_law 553 = .ok (.aload_n 0, 1) := by decide +kernel
theorem dL_law_554 : decode cL_law 554 = .ok (.iload_n 3, 1) := by decide +kernel
theorem dL_law_555 : decode cL_law 555 = .ok (.iconst 2, 1) := by decide +kernel
theorem dL_law_556 : decode cL_law 556 = .ok (.iadd, 1) := by decide +kernel
theorem dL_law_557 : decode cL_law 557 = .ok (.iaload, 1) := by decide +kernel
theorem dL_law_558 : decode cL_law 558 = .ok (.invokevirtual 70, 3) := by decide +kernel
theorem dL_law_561 : decode cL_law 561 = .ok (.aload_n 2, 1) := by decide +kernel
theorem dL_law_562 : decode cL_law 562 = .ok (.aload_n 0, 1) := by decide +kernel
theorem dL_law_563 : decode cL_law 563 = .ok (.iload_n 3, 1) := by decide +kernel
theorem dL_law_564 : decode cL_law 564 = .ok (.iconst 1, 1) := by decide +kernel
theorem dL_law_565 : decode cL_law 565 = .ok (.iadd, 1) := by decide +kernel
theorem dL_law_566 : decode cL_law 566 = .ok (.iaload, 1) := by decide +kernel
theorem dL_law_567 : decode cL_law 567 = .ok (.aload_n 0, 1) := by decide +kernel
theorem dL_law_568 : decode cL_law 568 = .ok (.iload_n 3, 1) := by decide +kernel
theorem dL_law_569 : decode cL_law 569 = .ok (.iconst 2, 1) := by decide +kernel
theorem dL_law_570 : decode cL_law 570 = .ok (.iadd, 1) := by decide +kernel
theorem dL_law_571 : decode cL_law 571 = .ok (.iaload, 1) := by decide +kernel
theorem dL_law_572 : decode cL_law 572 = .ok (.invokevirtual 73, 3) := by decide +kernel
theorem dL_law_575 : decode cL_law 575 = .ok (.if_icmp .eq 473, 3) := by decide +kernel
theorem dL_law_578 : decode cL_law 578 = .ok (.iconst 0, 1) := by decide +kernel
theorem dL_law_579 : decode cL_law 579 = .ok (.ireturn, 1) := by decide +kernel
theorem dL_law_580 : decode cL_law 580 = .ok (.aload_n 1, 1) := by decide +kernel
theorem dL_law_581 : decode cL_law 581 = .ok (.aload_n 0, 1) := by decide +kernel
theorem dL_law_582 : decode cL_law 582 = .ok (.iload_n 3, 1) := by decide +kernel
theorem dL_law_583 : decode cL_law 583 = .ok (.iconst 1, 1) := by decide +kernel
theorem dL_law_584 : decode cL_law 584 = .ok (.iadd, 1) := by decide +kernel
theorem dL_law_585 : decode cL_law 585 = .ok (.iaload, 1) := by decide +kernel
theorem dL_law_586 : decode cL_law 586 = .ok (.invokevirtual 74, 3) := by decide +kernel
theorem dL_law_589 : decode cL_law 589 = .ok (.aload_n 2, 1) := by decide +kernel
theorem dL_law_590 : decode cL_law 590 = .ok (.aload_n 0, 1) := by decide +kernel
theorem dL_law_591 : decode cL_law 591 = .ok (.iload_n 3, 1) := by decide +kernel
theorem dL_law_592 : decode cL_law 592 = .ok (.iconst 1, 1) := by decide +kernel
theorem dL_law_593 : decode cL_law 593 = .ok (.iadd, 1) := by decide +kernel
theorem dL_law_594 : decode cL_law 594 = .ok (.iaload, 1) := by decide +kernel
theorem dL_law_595 : decode cL_law 595 = .ok (.invokevirtual 77, 3) := by decide +kernel
theorem dL_law_598 : decode cL_law 598 = .ok (.if_icmp .eq 450, 3) := by decide +kernel
theorem dL_law_601 : decode cL_law 601 = .ok (.iconst 0, 1) := by decide +kernel
theorem dL_law_602 : decode cL_law 602 = .ok (.ireturn, 1) := by decide +kernel
theorem dL_law_603 : decode cL_law 603 = .ok (.aload_n 1, 1) := by decide +kernel
theorem dL_law_604 : decode cL_law 604 = .ok (.aload_n 0, 1) := by decide +kernel
theorem dL_law_605 : decode cL_law 605 = .ok (.iload_n 3, 1) := by decide +kernel
theorem dL_law_606 : decode cL_law 606 = .ok (.iconst 1, 1) := by decide +kernel
theorem dL_law_607 : decode cL_law 607 = .ok (.iadd, 1) := by decide +kernel
theorem dL_law_608 : decode cL_law 608 = .ok (.iaload, 1) := by decide +kernel
theorem dL_law_609 : decode cL_law 609 = .ok (.aload_n 0, 1) := by decide +kernel
theorem dL_law_610 : decode cL_law 610 = .ok (.iload_n 3, 1) := by decide +kernel
theorem dL_law_611 : decode cL_law 611 = .ok (.iconst 2, 1) := by decide +kernel
theorem dL_law_612 : decode cL_law 612 = .ok (.iadd, 1) := by decide +kernel
theorem dL_law_613 : decode cL_law 613 = .ok (.iaload, 1) := by decide +kernel
theorem dL_law_614 : decode cL_law 614 = .ok (.invokevirtual 78, 3) := by decide +kernel
theorem dL_law_617 : decode cL_law 617 = .ok (.aload_n 2, 1) := by decide +kernel
theorem dL_law_618 : decode cL_law 618 = .ok (.aload_n 0, 1) := by decide +kernel
theorem dL_law_619 : decode cL_law 619 = .ok (.iload_n 3, 1) := by decide +kernel
theorem dL_law_620 : decode cL_law 620 = .ok (.iconst 1, 1) := by decide +kernel
theorem dL_law_621 : decode cL_law 621 = .ok (.iadd, 1) := by decide +kernel
theorem dL_law_622 : decode cL_law 622 = .ok (.iaload, 1) := by decide +kernel
theorem dL_law_623 : decode cL_law 623 = .ok (.aload_n 0, 1) := by decide +kernel
theorem dL_law_624 : decode cL_law 624 = .ok (.iload_n 3, 1) := by decide +kernel
theorem dL_law_625 : decode cL_law 625 = .ok (.iconst 2, 1) := by decide +kernel
theorem dL_law_626 : decode cL_law 626 = .ok (.iadd, 1) := by decide +kernel
theorem dL_law_627 : decode cL_law 627 = .ok (.iaload, 1) := by decide +kernel
theorem dL_law_628 : decode cL_law 628 = .ok (.invokevirtual 81, 3) := by decide +kernel
theorem dL_law_631 : decode cL_law 631 = .ok (.if_icmp .eq 417, 3) := by decide +kernel
theorem dL_law_634 : decode cL_law 634 = .ok (.iconst 0, 1) := by decide +kernel
theorem dL_law_635 : decode cL_law 635 = .ok (.ireturn, 1) := by decide +kernel
theorem dL_law_636 : decode cL_law 636 = .ok (.aload_n 1, 1) := by decide +kernel
theorem dL_law_637 : decode cL_law 637 = .ok (.aload_n 0, 1) := by decide +kernel
theorem dL_law_638 : decode cL_law 638 = .ok (.iload_n 3, 1) := by decide +kernel
theorem dL_law_639 : decode cL_law 639 = .ok (.iconst 1, 1) := by decide +kernel
theorem dL_law_640 : decode cL_law 640 = .ok (.iadd, 1) := by decide +kernel
theorem dL_law_641 : decode cL_law 641 = .ok (.iaload, 1) := by decide +kernel
theorem dL_law_642 : decode cL_law 642 = .ok (.aload_n 0, 1) := by decide +kernel
theorem dL_law_643 : decode cL_law 643 = .ok (.iload_n 3, 1) := by decide +kernel
theorem dL_law_644 : decode cL_law 644 = .ok (.iconst 2, 1) := by decide +kernel
theorem dL_law_645 : decode cL_law 645 = .ok (.iadd, 1) := by decide +kernel
theorem dL_law_646 : decode cL_law 646 = .ok (.iaload, 1) := by decide +kernel
theorem dL_law_647 : decode cL_law 647 = .ok (.invokevirtual 82, 3) := by decide +kernel
theorem dL_law_650 : decode cL_law 650 = .ok (.aload_n 2, 1) := by decide +kernel
theorem dL_law_651 : decode cL_law 651 = .ok (.aload_n 0, 1) := by decide +kernel
theorem dL_law_652 : decode cL_law 652 = .ok (.iload_n 3, 1) := by decide +kernel
theorem dL_law_653 : decode cL_law 653 = .ok (.iconst 1, 1) := by decide +kernel
theorem dL_law_654 : decode cL_law 654 = .ok (.iadd, 1) := by decide +kernel
theorem dL_law_655 : decode cL_law 655 = .ok (.iaload, 1) := by decide +kernel
theorem dL_law_656 : decode cL_law 656 = .ok (.aload_n 0, 1) := by decide +kernel
theorem dL_law_657 : decode cL_law 657 = .ok (.iload_n 3, 1) := by decide +kernel
theorem dL_law_658 : decode cL_law 658 = .ok (.iconst 2, 1) := by decide +kernel
theorem dL_law_659 : decode cL_law 659 = .ok (.iadd, 1) := by decide +kernel
theorem dL_law_660 : decode cL_law 660 = .ok (.iaload, 1) := by decide +kernel
theorem dL_law_661 : decode cL_law 661 = .ok (.invokevirtual 85, 3) := by decide +kernel
theorem dL_law_664 : decode cL_law 664 = .ok (.if_icmp .eq 384, 3) := by decide +kernel
theorem dL_law_667 : decode cL_law 667 = .ok (.iconst 0, 1) := by decide +kernel
theorem dL_law_668 : decode cL_law 668 = .ok (.ireturn, 1) := by decide +kernel
theorem dL_law_669 : decode cL_law 669 = .ok (.aload_n 1, 1) := by decide +kernel
theorem dL_law_670 : decode cL_law 670 = .ok (.aload_n 0, 1) := by decide +kernel
theorem dL_law_671 : decode cL_law 671 = .ok (.iload_n 3, 1) := by decide +kernel
theorem dL_law_672 : decode cL_law 672 = .ok (.iconst 1, 1) := by decide +kernel
theorem dL_law_673 : decode cL_law 673 = .ok (.iadd, 1) := by decide +kernel
theorem dL_law_674 : decode cL_law 674 = .ok (.iaload, 1) := by decide +kernel
theorem dL_law_675 : decode cL_law 675 = .ok (.invokevirtual 86, 3) := by decide +kernel
theorem dL_law_678 : decode cL_law 678 = .ok (.aload_n 2, 1) := by decide +kernel
theorem dL_law_679 : decode cL_law 679 = .ok (.aload_n 0, 1) := by decide +kernel
theorem dL_law_680 : decode cL_law 680 = .ok (.iload_n 3, 1) := by decide +kernel
theorem dL_law_681 : decode cL_law 681 = .ok (.iconst 1, 1) := by decide +kernel
theorem dL_law_682 : decode cL_law 682 = .ok (.iadd, 1) := by decide +kernel
theorem dL_law_683 : decode cL_law 683 = .ok (.iaload, 1) := by decide +kernel
theorem dL_law_684 : decode cL_law 684 = .ok (.invokevirtual 89, 3) := by decide +kernel
theorem dL_law_687 : decode cL_law 687 = .ok (.if_icmp .eq 361, 3) := by decide +kernel
theorem dL_law_690 : decode cL_law 690 = .ok (.iconst 0, 1) := by decide +kernel
theorem dL_law_691 : decode cL_law 691 = .ok (.ireturn, 1) := by decide +kernel
theorem dL_law_692 : decode cL_law 692 = .ok (.aload_n 1, 1) := by decide +kernel
theorem dL_law_693 : decode cL_law 693 = .ok (.aload_n 0, 1) := by decide +kernel
theorem dL_law_694 : decode cL_law 694 = .ok (.iload_n 3, 1) := by decide +kernel
theorem dL_law_695 : decode cL_law 695 = .ok (.iconst 1, 1) := by decide +kernel
theorem dL_law_696 : decode cL_law 696 = .ok (.iadd, 1) := by decide +kernel
theorem dL_law_697 : decode cL_law 697 = .ok (.iaload, 1) := by decide +kernel
theorem dL_law_698 : decode cL_law 698 = .ok (.aload_n 0, 1) := by decide +kernel
theorem dL_law_699 : decode cL_law 699 = .ok (.iload_n 3, 1) := by decide +kernel
theorem dL_law_700 : decode cL_law 700 = .ok (.iconst 2, 1) := by decide +kernel
theorem dL_law_701 : decode cL_law 701 = .ok (.iadd, 1) := by decide +kernel
theorem dL_law_702 : decode cL_law 702 = .ok (.iaload, 1) := by decide +kernel
theorem dL_law_703 : decode cL_law 703 = .ok (.invokevirtual 90, 3) := by decide +kernel
theorem dL_law_706 : decode cL_law 706 = .ok (.aload_n 2, 1) := by decide +kernel
theorem dL_law_707 : decode cL_law 707 = .ok (.aload_n 0, 1) := by decide +kernel
theorem dL_law_708 : decode cL_law 708 = .ok (.iload_n 3, 1) := by decide +kernel
theorem dL_law_709 : decode cL_law 709 = .ok (.iconst 1, 1) := by decide +kernel
theorem dL_law_710 : decode cL_law 710 = .ok (.iadd, 1) := by decide +kernel
theorem dL_law_711 : decode cL_law 711 = .ok (.iaload, 1) := by decide +kernel
theorem dL_law_712 : decode cL_law 712 = .ok (.aload_n 0, 1) := by decide +kernel
theorem dL_law_713 : decode cL_law 713 = .ok (.iload_n 3, 1) := by decide +kernel
theorem dL_law_714 : decode cL_law 714 = .ok (.iconst 2, 1) := by decide +kernel
theorem dL_law_715 : decode cL_law 715 = .ok (.iadd, 1) := by decide +kernel
theorem dL_law_716 : decode cL_law 716 = .ok (.iaload, 1) := by decide +kernel
theorem dL_law_717 : decode cL_law 717 = .ok (.invokevirtual 93, 3) := by decide +kernel
theorem dL_law_720 : decode cL_law 720 = .ok (.if_icmp .eq 328, 3) := by decide +kernel
theorem dL_law_723 : decode cL_law 723 = .ok (.iconst 0, 1) := by decide +kernel
theorem dL_law_724 : decode cL_law 724 = .ok (.ireturn, 1) := by decide +kernel
theorem dL_law_725 : decode cL_law 725 = .ok (.aload_n 1, 1) := by decide +kernel
theorem dL_law_726 : decode cL_law 726 = .ok (.aload_n 0, 1) := by decide +kernel
theorem dL_law_727 : decode cL_law 727 = .ok (.iload_n 3, 1) := by decide +kernel
theorem dL_law_728 : decode cL_law 728 = .ok (.iconst 1, 1) := by decide +kernel
theorem dL_law_729 : decode cL_law 729 = .ok (.iadd, 1) := by decide +kernel
theorem dL_law_730 : decode cL_law 730 = .ok (.iaload, 1) := by decide +kernel
theorem dL_law_731 : decode cL_law 731 = .ok (.aload_n 0, 1) := by decide +kernel
theorem dL_law_732 : decode cL_law 732 = .ok (.iload_n 3, 1) := by decide +kernel
theorem dL_law_733 : decode cL_law 733 = .ok (.iconst 2, 1) := by decide +kernel
theorem dL_law_734 : decode cL_law 734 = .ok (.iadd, 1) := by decide +kernel
theorem dL_law_735 : decode cL_law 735 = .ok (.iaload, 1) := by decide +kernel
theorem dL_law_736 : decode cL_law 736 = .ok (.invokevirtual 94, 3) := by decide +kernel
theorem dL_law_739 : decode cL_law 739 = .ok (.aload_n 2, 1) := by decide +kernel
theorem dL_law_740 : decode cL_law 740 = .ok (.aload_n 0, 1) := by decide +kernel
theorem dL_law_741 : decode cL_law 741 = .ok (.iload_n 3, 1) := by decide +kernel
theorem dL_law_742 : decode cL_law 742 = .ok (.iconst 1, 1) := by decide +kernel
theorem dL_law_743 : decode cL_law 743 = .ok (.iadd, 1) := by decide +kernel
theorem dL_law_744 : decode cL_law 744 = .ok (.iaload, 1) := by decide +kernel
theorem dL_law_745 : decode cL_law 745 = .ok (.aload_n 0, 1) := by decide +kernel
theorem dL_law_746 : decode cL_law 746 = .ok (.iload_n 3, 1) := by decide +kernel
theorem dL_law_747 : decode cL_law 747 = .ok (.iconst 2, 1) := by decide +kernel
theorem dL_law_748 : decode cL_law 748 = .ok (.iadd, 1) := by decide +kernel
theorem dL_law_749 : decode cL_law 749 = .ok (.iaload, 1) := by decide +kernel
theorem dL_law_750 : decode cL_law 750 = .ok (.invokevirtual 97, 3) := by decide +kernel
theorem dL_law_753 : decode cL_law 753 = .ok (.if_icmp .eq 295, 3) := by decide +kernel
theorem dL_law_756 : decode cL_law 756 = .ok (.iconst 0, 1) := by decide +kernel
theorem dL_law_757 : decode cL_law 757 = .ok (.ireturn, 1) := by decide +kernel
theorem dL_law_758 : decode cL_law 758 = .ok (.aload_n 1, 1) := by decide +kernel
theorem dL_law_759 : decode cL_law 759 = .ok (.aload_n 0, 1) := by decide +kernel
theorem dL_law_760 : decode cL_law 760 = .ok (.iload_n 3, 1) := by decide +kernel
theorem dL_law_761 : decode cL_law 761 = .ok (.iconst 1, 1) := by decide +kernel
theorem dL_law_762 : decode cL_law 762 = .ok (.iadd, 1) := by decide +kernel
theorem dL_law_763 : decode cL_law 763 = .ok (.iaload, 1) := by decide +kernel
theorem dL_law_764 : decode cL_law 764 = .ok (.aload_n 0, 1) := by decide +kernel
theorem dL_law_765 : decode cL_law 765 = .ok (.iload_n 3, 1) := by decide +kernel
theorem dL_law_766 : decode cL_law 766 = .ok (.iconst 2, 1) := by decide +kernel
theorem dL_law_767 : decode cL_law 767 = .ok (.iadd, 1) := by decide +kernel
theorem dL_law_768 : decode cL_law 768 = .ok (.iaload, 1) := by decide +kernel
theorem dL_law_769 : decode cL_law 769 = .ok (.aload_n 0, 1) := by decide +kernel
theorem dL_law_770 : decode cL_law 770 = .ok (.iload_n 3, 1) := by decide +kernel
theorem dL_law_771 : decode cL_law 771 = .ok (.iconst 3, 1) := by decide +kernel
theorem dL_law_772 : decode cL_law 772 = .ok (.iadd, 1) := by decide +kernel
theorem dL_law_773 : decode cL_law 773 = .ok (.iaload, 1) := by decide +kernel
theorem dL_law_774 : decode cL_law 774 = .ok (.aload_n 0, 1) := by decide +kernel
theorem dL_law_775 : decode cL_law 775 = .ok (.iload_n 3, 1) := by decide +kernel
theorem dL_law_776 : decode cL_law 776 = .ok (.iconst 4, 1) := by decide +kernel
theorem dL_law_777 : decode cL_law 777 = .ok (.iadd, 1) := by decide +kernel
theorem dL_law_778 : decode cL_law 778 = .ok (.iaload, 1) := by decide +kernel
theorem dL_law_779 : decode cL_law 779 = .ok (.invokevirtual 98, 3) := by decide +kernel
theorem dL_law_782 : decode cL_law 782 = .ok (.aload_n 2, 1) := by decide +kernel
theorem dL_law_783 : decode cL_law 783 = .ok (.aload_n 0, 1) := by decide +kernel
theorem dL_law_784 : decode cL_law 784 = .ok (.iload_n 3, 1) := by decide +kernel
theorem dL_law_785 : decode cL_law 785 = .ok (.iconst 1, 1) := by decide +kernel
theorem dL_law_786 : decode cL_law 786 = .ok (.iadd, 1) := by decide +kernel
theorem dL_law_787 : decode cL_law 787 = .ok (.iaload, 1) := by decide +kernel
theorem dL_law_788 : decode cL_law 788 = .ok (.aload_n 0, 1) := by decide +kernel
theorem dL_law_789 : decode cL_law 789 = .ok (.iload_n 3, 1) := by decide +kernel
theorem dL_law_790 : decode cL_law 790 = .ok (.iconst 2, 1) := by decide +kernel
theorem dL_law_791 : decode cL_law 791 = .ok (.iadd, 1) := by decide +kernel
theorem dL_law_792 : decode cL_law 792 = .ok (.iaload, 1) := by decide +kernel
theorem dL_law_793 : decode cL_law 793 = .ok (.aload_n 0, 1) := by decide +kernel
theorem dL_law_794 : decode cL_law 794 = .ok (.iload_n 3, 1) := by decide +kernel
theorem dL_law_795 : decode cL_law 795 = .ok (.iconst 3, 1) := by decide +kernel
theorem dL_law_796 : decode cL_law 796 = .ok (.iadd, 1) := by decide +kernel
theorem dL_law_797 : decode cL_law 797 = .ok (.iaload, 1) := by decide +kernel
theorem dL_law_798 : decode cL_law 798 = .ok (.aload_n 0, 1) := by decide +kernel
theorem dL_law_799 : decode cL_law 799 = .ok (.iload_n 3, 1) := by decide +kernel
theorem dL_law_800 : decode cL_law 800 = .ok (.iconst 4, 1) := by decide +kernel
theorem dL_law_801 : decode cL_law 801 = .ok (.iadd, 1) := by decide +kernel
theorem dL_law_802 : decode cL_law 802 = .ok (.iaload, 1) := by decide +kernel
theorem dL_law_803 : decode cL_law 803 = .ok (.invokevirtual 102, 3) := by decide +kernel
theorem dL_law_806 : decode cL_law 806 = .ok (.if_icmp .eq 242, 3) := by decide +kernel
theorem dL_law_809 : decode cL_law 809 = .ok (.iconst 0, 1) := by decide +kernel
theorem dL_law_810 : decode cL_law 810 = .ok (.ireturn, 1) := by decide +kernel
theorem dL_law_811 : decode cL_law 811 = .ok (.aload_n 1, 1) := by decide +kernel
theorem dL_law_812 : decode cL_law 812 = .ok (.aload_n 0, 1) := by decide +kernel
theorem dL_law_813 : decode cL_law 813 = .ok (.iload_n 3, 1) := by decide +kernel
theorem dL_law_814 : decode cL_law 814 = .ok (.iconst 1, 1) := by decide +kernel
theorem dL_law_815 : decode cL_law 815 = .ok (.iadd, 1) := by decide +kernel
theorem dL_law_816 : decode cL_law 816 = .ok (.iaload, 1) := by decide +kernel
theorem dL_law_817 : decode cL_law 817 = .ok (.aload_n 0, 1) := by decide +kernel
theorem dL_law_818 : decode cL_law 818 = .ok (.iload_n 3, 1) := by decide +kernel
theorem dL_law_819 : decode cL_law 819 = .ok (.iconst 2, 1) := by decide +kernel
theorem dL_law_820 : decode cL_law 820 = .ok (.iadd, 1) := by decide +kernel
theorem dL_law_821 : decode cL_law 821 = .ok (.iaload, 1) := by decide +kernel
theorem dL_law_822 : decode cL_law 822 = .ok (.aload_n 0, 1) := by decide +kernel
theorem dL_law_823 : decode cL_law 823 = .ok (.iload_n 3, 1) := by decide +kernel
theorem dL_law_824 : decode cL_law 824 = .ok (.iconst 3, 1) := by decide +kernel
theorem dL_law_825 : decode cL_law 825 = .ok (.iadd, 1) := by decide +kernel
theorem dL_law_826 : decode cL_law 826 = .ok (.iaload, 1) := by decide +kernel
theorem dL_law_827 : decode cL_law 827 = .ok (.invokevirtual 103, 3) := by decide +kernel
theorem dL_law_830 : decode cL_law 830 = .ok (.aload_n 2, 1) := by decide +kernel
theorem dL_law_831 : decode cL_law 831 = .ok (.aload_n 0, 1) := by decide +kernel
theorem dL_law_832 : decode cL_law 832 = .ok (.iload_n 3, 1) := by decide +kernel
theorem dL_law_833 : decode cL_law 833 = .ok (.iconst 1, 1) := by decide +kernel
theorem dL_law_834 : decode cL_law 834 = .ok (.iadd, 1) := by decide +kernel
theorem dL_law_835 : decode cL_law 835 = .ok (.iaload, 1) := by decide +kernel
theorem dL_law_836 : decode cL_law 836 = .ok (.aload_n 0, 1) := by decide +kernel
theorem dL_law_837 : decode cL_law 837 = .ok (.iload_n 3, 1) := by decide +kernel
theorem dL_law_838 : decode cL_law 838 = .ok (.iconst 2, 1) := by decide +kernel
theorem dL_law_839 : decode cL_law 839 = .ok (.iadd, 1) := by decide +kernel
theorem dL_law_840 : decode cL_law 840 = .ok (.iaload, 1) := by decide +kernel
theorem dL_law_841 : decode cL_law 841 = .ok (.aload_n 0, 1) := by decide +kernel
theorem dL_law_842 : decode cL_law 842 = .ok (.iload_n 3, 1) := by decide +kernel
theorem dL_law_843 : decode cL_law 843 = .ok (.iconst 3, 1) := by decide +kernel
theorem dL_law_844 : decode cL_law 844 = .ok (.iadd, 1) := by decide +kernel
theorem dL_law_845 : decode cL_law 845 = .ok (.iaload, 1) := by decide +kernel
theorem dL_law_846 : decode cL_law 846 = .ok (.invokevirtual 106, 3) := by decide +kernel
theorem dL_law_849 : decode cL_law 849 = .ok (.if_icmp .eq 199, 3) := by decide +kernel
theorem dL_law_852 : decode cL_law 852 = .ok (.iconst 0, 1) := by decide +kernel
theorem dL_law_853 : decode cL_law 853 = .ok (.ireturn, 1) := by decide +kernel
theorem dL_law_854 : decode cL_law 854 = .ok (.aload_n 1, 1) := by decide +kernel
theorem dL_law_855 : decode cL_law 855 = .ok (.aload_n 0, 1) := by decide +kernel
theorem dL_law_856 : decode cL_law 856 = .ok (.iload_n 3, 1) := by decide +kernel
theorem dL_law_857 : decode cL_law 857 = .ok (.iconst 1, 1) := by decide +kernel
theorem dL_law_858 : decode cL_law 858 = .ok (.iadd, 1) := by decide +kernel
theorem dL_law_859 : decode cL_law 859 = .ok (.iaload, 1) := by decide +kernel
theorem dL_law_860 : decode cL_law 860 = .ok (.invokevirtual 107, 3) := by decide +kernel
theorem dL_law_863 : decode cL_law 863 = .ok (.aload_n 2, 1) := by decide +kernel
theorem dL_law_864 : decode cL_law 864 = .ok (.aload_n 0, 1) := by decide +kernel
theorem dL_law_865 : decode cL_law 865 = .ok (.iload_n 3, 1) := by decide +kernel
theorem dL_law_866 : decode cL_law 866 = .ok (.iconst 1, 1) := by decide +kernel
theorem dL_law_867 : decode cL_law 867 = .ok (.iadd, 1) := by decide +kernel
theorem dL_law_868 : decode cL_law 868 = .ok (.iaload, 1) := by decide +kernel
theorem dL_law_869 : decode cL_law 869 = .ok (.invokevirtual 110, 3) := by decide +kernel
theorem dL_law_872 : decode cL_law 872 = .ok (.if_icmp .eq 176, 3) := by decide +kernel
theorem dL_law_875 : decode cL_law 875 = .ok (.iconst 0, 1) := by decide +kernel
theorem dL_law_876 : decode cL_law 876 = .ok (.ireturn, 1) := by decide +kernel
theorem dL_law_877 : decode cL_law 877 = .ok (.aload_n 1, 1) := by decide +kernel
theorem dL_law_878 : decode cL_law 878 = .ok (.aload_n 0, 1) := by decide +kernel
theorem dL_law_879 : decode cL_law 879 = .ok (.iload_n 3, 1) := by decide +kernel
theorem dL_law_880 : decode cL_law 880 = .ok (.iconst 1, 1) := by decide +kernel
theorem dL_law_881 : decode cL_law 881 = .ok (.iadd, 1) := by decide +kernel
theorem dL_law_882 : decode cL_law 882 = .ok (.iaload, 1) := by decide +kernel
theorem dL_law_883 : decode cL_law 883 = .ok (.invokevirtual 111, 3) := by decide +kernel
theorem dL_law_886 : decode cL_law 886 = .ok (.aload_n 2, 1) := by decide +kernel
theorem dL_law_887 : decode cL_law 887 = .ok (.aload_n 0, 1) := by decide +kernel
theorem dL_law_888 : decode cL_law 888 = .ok (.iload_n 3, 1) := by decide +kernel
theorem dL_law_889 : decode cL_law 889 = .ok (.iconst 1, 1) := by decide +kernel
theorem dL_law_890 : decode cL_law 890 = .ok (.iadd, 1) := by decide +kernel
theorem dL_law_891 : decode cL_law 891 = .ok (.iaload, 1) := by decide +kernel
theorem dL_law_892 : decode cL_law 892 = .ok (.invokevirtual 114, 3) := by decide +kernel
theorem dL_law_895 : decode cL_law 895 = .ok (.if_icmp .eq 153, 3) := by decide +kernel
theorem dL_law_898 : decode cL_law 898 = .ok (.iconst 0, 1) := by decide +kernel
theorem dL_law_899 : decode cL_law 899 = .ok (.ireturn, 1) := by decide +kernel
theorem dL_law_900 : decode cL_law 900 = .ok (.aload_n 1, 1) := by decide +kernel
theorem dL_law_901 : decode cL_law 901 = .ok (.aload_n 0, 1) := by decide +kernel
theorem dL_law_902 : decode cL_law 902 = .ok (.iload_n 3, 1) := by decide +kernel
theorem dL_law_903 : decode cL_law 903 = .ok (.iconst 1, 1) := by decide +kernel
theorem dL_law_904 : decode cL_law 904 = .ok (.iadd, 1) := by decide +kernel
theorem dL_law_905 : decode cL_law 905 = .ok (.iaload, 1) := by decide +kernel
theorem dL_law_906 : decode cL_law 906 = .ok (.invokevirtual 115, 3) := by decide +kernel
theorem dL_law_909 : decode cL_law 909 = .ok (.aload_n 2, 1) := by decide +kernel
theorem dL_law_910 : decode cL_law 910 = .ok (.aload_n 0, 1) := by decide +kernel
theorem dL_law_911 : decode cL_law 911 = .ok (.iload_n 3, 1) := by decide +kernel
theorem dL_law_912 : decode cL_law 912 = .ok (.iconst 1, 1) := by decide +kernel
theorem dL_law_913 : decode cL_law 913 = .ok (.iadd, 1) := by decide +kernel
theorem dL_law_914 : decode cL_law 914 = .ok (.iaload, 1) := by decide +kernel
theorem dL_law_915 : decode cL_law 915 = .ok (.invokevirtual 118, 3) := by decide +kernel
theorem dL_law_918 : decode cL_law 918 = .ok (.if_icmp .eq 130, 3) := by decide +kernel
theorem dL_law_921 : decode cL_law 921 = .ok (.iconst 0, 1) := by decide +kernel
theorem dL_law_922 : decode cL_law 922 = .ok (.ireturn, 1) := by decide +kernel
theorem dL_law_923 : decode cL_law 923 = .ok (.aload_n 1, 1) := by decide +kernel
theorem dL_law_924 : decode cL_law 924 = .ok (.aload_n 0, 1) := by decide +kernel
theorem dL_law_925 : decode cL_law 925 = .ok (.iload_n 3, 1) := by decide +kernel
theorem dL_law_926 : decode cL_law 926 = .ok (.iconst 1, 1) := by decide +kernel
theorem dL_law_927 : decode cL_law 927 = .ok (.iadd, 1) := by decide +kernel
theorem dL_law_928 : decode cL_law 928 = .ok (.iaload, 1) := by decide +kernel
theorem dL_law_929 : decode cL_law 929 = .ok (.aload_n 0, 1) := by decide +kernel
theorem dL_law_930 : decode cL_law 930 = .ok (.iload_n 3, 1) := by decide +kernel
theorem dL_law_931 : decode cL_law 931 = .ok (.iconst 2, 1) := by decide +kernel
theorem dL_law_932 : decode cL_law 932 = .ok (.iadd, 1) := by decide +kernel
theorem dL_law_933 : decode cL_law 933 = .ok (.iaload, 1) := by decide +kernel
theorem dL_law_934 : decode cL_law 934 = .ok (.invokevirtual 119, 3) := by decide +kernel
theorem dL_law_937 : decode cL_law 937 = .ok (.aload_n 2, 1) := by decide +kernel
theorem dL_law_938 : decode cL_law 938 = .ok (.aload_n 0, 1) := by decide +kernel
theorem dL_law_939 : decode cL_law 939 = .ok (.iload_n 3, 1) := by decide +kernel
theorem dL_law_940 : decode cL_law 940 = .ok (.iconst 1, 1) := by decide +kernel
theorem dL_law_941 : decode cL_law 941 = .ok (.iadd, 1) := by decide +kernel
theorem dL_law_942 : decode cL_law 942 = .ok (.iaload, 1) := by decide +kernel
theorem dL_law_943 : decode cL_law 943 = .ok (.aload_n 0, 1) := by decide +kernel
theorem dL_law_944 : decode cL_law 944 = .ok (.iload_n 3, 1) := by decide +kernel
theorem dL_law_945 : decode cL_law 945 = .ok (.iconst 2, 1) := by decide +kernel
theorem dL_law_946 : decode cL_law 946 = .ok (.iadd, 1) := by decide +kernel
theorem dL_law_947 : decode cL_law 947 = .ok (.iaload, 1) := by decide +kernel
theorem dL_law_948 : decode cL_law 948 = .ok (.invokevirtual 122, 3) := by decide +kernel
theorem dL_law_951 : decode cL_law 951 = .ok (.if_icmp .eq 97, 3) := by decide +kernel
theorem dL_law_954 : decode cL_law 954 = .ok (.iconst 0, 1) := by decide +kernel
theorem dL_law_955 : decode cL_law 955 = .ok (.ireturn, 1) := by decide +kernel
theorem dL_law_956 : decode cL_law 956 = .ok (.aload_n 1, 1) := by decide +kernel
theorem dL_law_957 : decode cL_law 957 = .ok (.aload_n 0, 1) := by decide +kernel
theorem dL_law_958 : decode cL_law 958 = .ok (.iload_n 3, 1) := by decide +kernel
theorem dL_law_959 : decode cL_law 959 = .ok (.iconst 1, 1) := by decide +kernel
theorem dL_law_960 : decode cL_law 960 = .ok (.iadd, 1) := by decide +kernel
theorem dL_law_961 : decode cL_law 961 = .ok (.iaload, 1) := by decide +kernel
theorem dL_law_962 : decode cL_law 962 = .ok (.aload_n 0, 1) := by decide +kernel
theorem dL_law_963 : decode cL_law 963 = .ok (.iload_n 3, 1) := by decide +kernel
theorem dL_law_964 : decode cL_law 964 = .ok (.iconst 2, 1) := by decide +kernel
theorem dL_law_965 : decode cL_law 965 = .ok (.iadd, 1) := by decide +kernel
theorem dL_law_966 : decode cL_law 966 = .ok (.iaload, 1) := by decide +kernel
theorem dL_law_967 : decode cL_law 967 = .ok (.invokevirtual 123, 3) := by decide +kernel
theorem dL_law_970 : decode cL_law 970 = .ok (.aload_n 2, 1) := by decide +kernel
theorem dL_law_971 : decode cL_law 971 = .ok (.aload_n 0, 1) := by decide +kernel
theorem dL_law_972 : decode cL_law 972 = .ok (.iload_n 3, 1) := by decide +kernel
theorem dL_law_973 : decode cL_law 973 = .ok (.iconst 1, 1) := by decide +kernel
theorem dL_law_974 : decode cL_law 974 = .ok (.iadd, 1) := by decide +kernel
theorem dL_law_975 : decode cL_law 975 = .ok (.iaload, 1) := by decide +kernel
theorem dL_law_976 : decode cL_law 976 = .ok (.aload_n 0, 1) := by decide +kernel
theorem dL_law_977 : decode cL_law 977 = .ok (.iload_n 3, 1) := by decide +kernel
theorem dL_law_978 : decode cL_law 978 = .ok (.iconst 2, 1) := by decide +kernel
theorem dL_law_979 : decode cL_law 979 = .ok (.iadd, 1) := by decide +kernel
theorem dL_law_980 : decode cL_law 980 = .ok (.iaload, 1) := by decide +kernel
theorem dL_law_981 : decode cL_law 981 = .ok (.invokevirtual 126, 3) := by decide +kernel
theorem dL_law_984 : decode cL_law 984 = .ok (.if_icmp .eq 64, 3) := by decide +kernel
theorem dL_law_987 : decode cL_law 987 = .ok (.iconst 0, 1) := by decide +kernel
theorem dL_law_988 : decode cL_law 988 = .ok (.ireturn, 1) := by decide +kernel
theorem dL_law_989 : decode cL_law 989 = .ok (.aload_n 1, 1) := by decide +kernel
theorem dL_law_990 : decode cL_law 990 = .ok (.aload_n 0, 1) := by decide +kernel
theorem dL_law_991 : decode cL_law 991 = .ok (.iload_n 3, 1) := by decide +kernel
theorem dL_law_992 : decode cL_law 992 = .ok (.iconst 1, 1) := by decide +kernel
theorem dL_law_993 : decode cL_law 993 = .ok (.iadd, 1) := by decide +kernel
theorem dL_law_994 : decode cL_law 994 = .ok (.iaload, 1) := by decide +kernel
theorem dL_law_995 : decode cL_law 995 = .ok (.invokevirtual 127, 3) := by decide +kernel
theorem dL_law_998 : decode cL_law 998 = .ok (.aload_n 2, 1) := by decide +kernel
theorem dL_law_999 : decode cL_law 999 = .ok (.aload_n 0, 1) := by decide +kernel
theorem dL_law_1000 : decode cL_law 1000 = .ok (.iload_n 3, 1) := by decide +kernel
theorem dL_law_1001 : decode cL_law 1001 = .ok (.iconst 1, 1) := by decide +kernel
theorem dL_law_1002 : decode cL_law 1002 = .ok (.iadd, 1) := by decide +kernel
theorem dL_law_1003 : decode cL_law 1003 = .ok (.iaload, 1) := by decide +kernel
theorem dL_law_1004 : decode cL_law 1004 = .ok (.invokevirtual 130, 3) := by decide +kernel
theorem dL_law_1007 : decode cL_law 1007 = .ok (.if_icmp .eq 41, 3) := by decide +kernel
theorem dL_law_1010 : decode cL_law 1010 = .ok (.iconst 0, 1) := by decide +kernel
theorem dL_law_1011 : decode cL_law 1011 = .ok (.ireturn, 1) := by decide +kernel
theorem dL_law_1012 : decode cL_law 1012 = .ok (.aload_n 1, 1) := by decide +kernel
theorem dL_law_1013 : decode cL_law 1013 = .ok (.aload_n 0, 1) := by decide +kernel
theorem dL_law_1014 : decode cL_law 1014 = .ok (.iload_n 3, 1) := by decide +kernel
theorem dL_law_1015 : decode cL_law 1015 = .ok (.iconst 1, 1) := by decide +kernel
theorem dL_law_1016 : decode cL_law 1016 = .ok (.iadd, 1) := by decide +kernel
theorem dL_law_1017 : decode cL_law 1017 = .ok (.iaload, 1) := by decide +kernel
theorem dL_law_1018 : decode cL_law 1018 = .ok (.invokevirtual 131, 3) := by decide +kernel
theorem dL_law_1021 : decode cL_law 1021 = .ok (.aload_n 2, 1) := by decide +kernel
theorem dL_law_1022 : decode cL_law 1022 = .ok (.aload_n 0, 1) := by decide +kernel
theorem dL_law_1023 : decode cL_law 1023 = .ok (.iload_n 3, 1) := by decide +kernel
theorem dL_law_1024 : decode cL_law 1024 = .ok (.iconst 1, 1) := by decide +kernel
theorem dL_law_1025 : decode cL_law 1025 = .ok (.iadd, 1) := by decide +kernel
theorem dL_law_1026 : decode cL_law 1026 = .ok (.iaload, 1) := by decide +kernel
theorem dL_law_1027 : decode cL_law 1027 = .ok (.invokevirtual 134, 3) := by decide +kernel
theorem dL_law_1030 : decode cL_law 1030 = .ok (.if_icmp .eq 18, 3) := by decide +kernel
theorem dL_law_1033 : decode cL_law 1033 = .ok (.iconst 0, 1) := by decide +kernel
theorem dL_law_1034 : decode cL_law 1034 = .ok (.ireturn, 1) := by decide +kernel
theorem dL_law_1035 : decode cL_law 1035 = .ok (.aload_n 1, 1) := by decide +kernel
theorem dL_law_1036 : decode cL_law 1036 = .ok (.invokevirtual 135, 3) := by decide +kernel
theorem dL_law_1039 : decode cL_law 1039 = .ok (.aload_n 2, 1) := by decide +kernel
theorem dL_law_1040 : decode cL_law 1040 = .ok (.invokevirtual 138, 3) := by decide +kernel
theorem dL_law_1043 : decode cL_law 1043 = .ok (.if_icmp .eq 5, 3) := by decide +kernel
theorem dL_law_1046 : decode cL_law 1046 = .ok (.iconst 0, 1) := by decide +kernel
theorem dL_law_1047 : decode cL_law 1047 = .ok (.ireturn, 1) := by decide +kernel
theorem dL_law_1048 : decode cL_law 1048 = .ok (.iinc 3 6, 3) := by decide +kernel
theorem dL_law_1051 : decode cL_law 1051 = .ok (.goto (-1033), 3) := by decide +kernel
theorem dL_law_1054 : decode cL_law 1054 = .ok (.iconst 1, 1) := by decide +kernel
theorem dL_law_1055 : decode cL_law 1055 = .ok (.ireturn, 1) := by decide +kernel
end
section
/-! constant pools, the words of methods: printed by program -/
theorem gtp (ws : List Cond) (ps : List Nat) (hp : ws = ps.filterMap (fun i => tables_1[i]?)) (g : ws.all goodWord = true) : ∀ w ∈ ws, w ∈ gtb := by
  intro w hw
  have h1 := List.all_eq_true.mp g w hw
  rw [hp] at hw
  obtain ⟨i, -, hi⟩ := List.mem_filterMap.mp hw
  exact gtm i hi h1
theorem inGX0 : ∀ w ∈ u_ws RX0 TX0 4, w ∈ gtb := gtp _ [188, 190, 192, 194] (by decide +kernel) (by decide +kernel)
theorem inGX1 : ∀ w ∈ u_ws RX1 TX1 6, w ∈ gtb := gtp _ [211, 213, 215, 217, 219, 221] (by decide +kernel) (by decide +kernel)
theorem inGX2 : ∀ w ∈ u_ws RX2 TX2 10, w ∈ gtb := gtp _ [154, 156, 158, 160, 162, 164, 166, 168, 170, 172] (by decide +kernel) (by decide +kernel)
theorem inGX4 : ∀ w ∈ u_ws RX4 TX4 9, w ∈ gtb := gtp _ [113, 115, 117, 119, 121, 123, 125, 127, 129] (by decide +kernel) (by decide +kernel)
theorem inGX5 : ∀ w ∈ u_ws RX5 TX5 3, w ∈ gtb := gtp _ [29, 31, 33] (by decide +kernel) (by decide +kernel)
theorem inGX6 : ∀ w ∈ u_ws RX6 TX6 10, w ∈ gtb := gtp _ [55, 57, 59, 61, 63, 65, 67, 69, 71, 73] (by decide +kernel) (by decide +kernel)
theorem inGX7 : ∀ w ∈ u_ws RX7 TX7 15, w ∈ gtb := gtp _ [239, 241, 243, 245, 247, 249, 251, 253, 255, 257, 259, 261, 263, 265, 267] (by decide +kernel) (by decide +kernel)
theorem inGX8 : ∀ w ∈ u_ws RX8 TX8 28, w ∈ gtb := gtp _ [766, 768, 770, 772, 774, 776, 778, 780, 782, 784, 786, 788, 790, 792, 794, 796, 798, 800, 802, 804, 806, 808, 810, 812, 814, 816, 818, 820] (by decide +kernel) (by decide +kernel)
def cpX5 (i : Nat) : Option CE := match i with
  | 9 => some (0, 4, 0, false)
  | 13 => some (0, 4, 1, false)
  | 16 => some (0, 4, 2, false)
  | 19 => some (4, 0, 0, false)
  | _ => none
theorem cpX5_ok : ∀ i e, cpX5 i = some e → cpV RX5 i e := by
  intro i e h
  unfold cpX5 at h
  split at h
  · cases h; exact ⟨RX5, TX5, 3, rfl, by decide, inGX5, gtm 26 (by decide +kernel) (by decide +kernel)⟩
  · cases h; exact ⟨RX5, TX5, 3, rfl, by decide, inGX5, gtm 27 (by decide +kernel) (by decide +kernel)⟩
  · cases h; exact ⟨RX5, TX5, 3, rfl, by decide, inGX5, gtm 28 (by decide +kernel) (by decide +kernel)⟩
  · cases h; exact ⟨gtm 319 (by decide +kernel) (by decide +kernel), gtm 321 (by decide +kernel) (by decide +kernel), gtm 320 (by decide +kernel) (by decide +kernel), gtm 9 (by decide +kernel) (by decide +kernel)⟩
  · cases h
def cpX6 (i : Nat) : Option CE := match i with
  | 11 => some (0, 5, 0, false)
  | 15 => some (5, 5, 1, false)
  | 19 => some (5, 5, 2, false)
  | 27 => some (5, 5, 6, false)
  | 30 => some (5, 5, 8, true)
  | 34 => some (5, 5, 9, true)
  | 40 => some (5, 5, 3, false)
  | 47 => some (5, 5, 4, false)
  | 57 => some (5, 5, 5, false)
  | 79 => some (5, 3, 0, false)
  | 89 => some (5, 3, 1, false)
  | 96 => some (5, 5, 7, false)
  | _ => none
theorem cpX6_ok : ∀ i e, cpX6 i = some e → cpV RX6 i e := by
  intro i e h
  unfold cpX6 at h
  split at h
  · cases h; exact ⟨RX6, TX6, 10, rfl, by decide, inGX6, gtm 43 (by decide +kernel) (by decide +kernel)⟩
  · cases h; exact ⟨RX6, TX6, 10, tyX6, rfl, by decide, inGX6, gtm 44 (by decide +kernel) (by decide +kernel), tyX6_ok, nmX6, rfl, by decide +kernel⟩
  · cases h; exact ⟨RX6, TX6, 10, tyX6, rfl, by decide, inGX6, gtm 46 (by decide +kernel) (by decide +kernel), tyX6_ok, nmX6, rfl, by decide +kernel⟩
  · cases h; exact ⟨RX6, TX6, 10, tyX6, rfl, by decide, inGX6, gtm 51 (by decide +kernel) (by decide +kernel), tyX6_ok, nmX6, rfl, by decide +kernel⟩
  · cases h; exact ⟨RX6, TX6, 10, tyX6, rfl, by decide, inGX6, gtm 53 (by decide +kernel) (by decide +kernel), tyX6_ok, nmX6, rfl, by decide +kernel⟩
  · cases h; exact ⟨RX6, TX6, 10, tyX6, rfl, by decide, inGX6, gtm 54 (by decide +kernel) (by decide +kernel), tyX6_ok, nmX6, rfl, by decide +kernel⟩
  · cases h; exact ⟨RX6, TX6, 10, tyX6, rfl, by decide, inGX6, gtm 48 (by decide +kernel) (by decide +kernel), tyX6_ok, nmX6, rfl, by decide +kernel⟩
  · cases h; exact ⟨RX6, TX6, 10, tyX6, rfl, by decide, inGX6, gtm 49 (by decide +kernel) (by decide +kernel), tyX6_ok, nmX6, rfl, by decide +kernel⟩
  · cases h; exact ⟨RX6, TX6, 10, tyX6, rfl, by decide, inGX6, gtm 50 (by decide +kernel) (by decide +kernel), tyX6_ok, nmX6, rfl, by decide +kernel⟩
  · cases h; exact ⟨RX4, TX4, 9, tyX4, rfl, by decide, inGX4, gtm 85 (by decide +kernel) (by decide +kernel), tyX4_ok, nmX4, rfl, by decide +kernel⟩
  · cases h; exact ⟨RX4, TX4, 9, tyX4, rfl, by decide, inGX4, gtm 90 (by decide +kernel) (by decide +kernel), tyX4_ok, nmX4, rfl, by decide +kernel⟩
  · cases h; exact ⟨RX6, TX6, 10, tyX6, rfl, by decide, inGX6, gtm 52 (by decide +kernel) (by decide +kernel), tyX6_ok, nmX6, rfl, by decide +kernel⟩
  · cases h
def cpX7 (i : Nat) : Option CE := match i with
  | 10 => some (0, 6, 0, false)
  | 19 => some (0, 6, 1, false)
  | 26 => some (0, 6, 2, false)
  | 33 => some (0, 6, 3, false)
  | 37 => some (0, 6, 4, false)
  | 40 => some (0, 6, 5, false)
  | 43 => some (0, 6, 6, false)
  | 50 => some (0, 6, 7, false)
  | 57 => some (0, 6, 8, false)
  | 61 => some (5, 6, 9, true)
  | 65 => some (5, 6, 10, true)
  | 68 => some (5, 6, 11, false)
  | 72 => some (5, 6, 12, false)
  | 75 => some (5, 6, 13, false)
  | 78 => some (5, 6, 14, false)
  | 85 => some (1, -1000001, 0, false)
  | 119 => some (5, 5, 1, false)
  | 122 => some (1, -1000003, 0, false)
  | 130 => some (1, -1000100, 0, false)
  | 131 => some (5, 5, 2, false)
  | 144 => some (5, 3, 1, false)
  | 153 => some (0, 3, 7, false)
  | 157 => some (1, -1000002, 0, false)
  | 164 => some (0, 3, 3, false)
  | 174 => some (5, 3, 0, false)
  | 180 => some (5, 0, 0, false)
  | 207 => some (0, 3, 8, false)
  | 214 => some (0, 2, 4, false)
  | 217 => some (0, 2, 5, false)
  | 223 => some (0, 3, 6, false)
  | 226 => some (0, 2, 3, false)
  | 232 => some (0, 3, 4, false)
  | 235 => some (0, 3, 5, false)
  | 238 => some (5, 2, 0, false)
  | 241 => some (5, 2, 1, false)
  | 244 => some (5, 2, 2, false)
  | 263 => some (5, 3, 2, false)
  | 275 => some (1, 999999, 0, false)
  | 292 => some (5, 1, 0, false)
  | 295 => some (0, 1, 1, false)
  | 298 => some (1, -1000000, 0, false)
  | 302 => some (1, -1000010, 0, false)
  | 308 => some (1, 2147483647, 0, false)
  | 324 => some (2, 16807, 0, false)
  | 326 => some (2, 2147483647, 0, false)
  | 328 => some (2, 32, 0, false)
  | 330 => some (2, 12, 0, false)
  | _ => none
theorem cpX7_ok : ∀ i e, cpX7 i = some e → cpV RX7 i e := by
  intro i e h
  unfold cpX7 at h
  split at h
  · cases h; exact ⟨RX7, TX7, 15, rfl, by decide, inGX7, gtm 224 (by decide +kernel) (by decide +kernel)⟩
  · cases h; exact ⟨RX7, TX7, 15, rfl, by decide, inGX7, gtm 225 (by decide +kernel) (by decide +kernel)⟩
  · cases h; exact ⟨RX7, TX7, 15, rfl, by decide, inGX7, gtm 226 (by decide +kernel) (by decide +kernel)⟩
  · cases h; exact ⟨RX7, TX7, 15, rfl, by decide, inGX7, gtm 227 (by decide +kernel) (by decide +kernel)⟩
  · cases h; exact ⟨RX7, TX7, 15, rfl, by decide, inGX7, gtm 228 (by decide +kernel) (by decide +kernel)⟩
  · cases h; exact ⟨RX7, TX7, 15, rfl, by decide, inGX7, gtm 229 (by decide +kernel) (by decide +kernel)⟩
  · cases h; exact ⟨RX7, TX7, 15, rfl, by decide, inGX7, gtm 230 (by decide +kernel) (by decide +kernel)⟩
  · cases h; exact ⟨RX7, TX7, 15, rfl, by decide, inGX7, gtm 231 (by decide +kernel) (by decide +kernel)⟩
  · cases h; exact ⟨RX7, TX7, 15, rfl, by decide, inGX7, gtm 232 (by decide +kernel) (by decide +kernel)⟩
  · cases h; exact ⟨RX7, TX7, 15, tyX7, rfl, by decide, inGX7, gtm 233 (by decide +kernel) (by decide +kernel), tyX7_ok, nmX7, rfl, by decide +kernel⟩
  · cases h; exact ⟨RX7, TX7, 15, tyX7, rfl, by decide, inGX7, gtm 234 (by decide +kernel) (by decide +kernel), tyX7_ok, nmX7, rfl, by decide +kernel⟩
  · cases h; exact ⟨RX7, TX7, 15, tyX7, rfl, by decide, inGX7, gtm 235 (by decide +kernel) (by decide +kernel), tyX7_ok, nmX7, rfl, by decide +kernel⟩
  · cases h; exact ⟨RX7, TX7, 15, tyX7, rfl, by decide, inGX7, gtm 236 (by decide +kernel) (by decide +kernel), tyX7_ok, nmX7, rfl, by decide +kernel⟩
  · cases h; exact ⟨RX7, TX7, 15, tyX7, rfl, by decide, inGX7, gtm 237 (by decide +kernel) (by decide +kernel), tyX7_ok, nmX7, rfl, by decide +kernel⟩
  · cases h; exact ⟨RX7, TX7, 15, tyX7, rfl, by decide, inGX7, gtm 238 (by decide +kernel) (by decide +kernel), tyX7_ok, nmX7, rfl, by decide +kernel⟩
  · cases h; exact gtm 277 (by decide +kernel) (by decide +kernel)
  · cases h; exact ⟨RX6, TX6, 10, tyX6, rfl, by decide, inGX6, gtm 45 (by decide +kernel) (by decide +kernel), tyX6_ok, nmX6, rfl, by decide +kernel⟩
  · cases h; exact gtm 334 (by decide +kernel) (by decide +kernel)
  · cases h; exact gtm 412 (by decide +kernel) (by decide +kernel)
  · cases h; exact ⟨RX6, TX6, 10, tyX6, rfl, by decide, inGX6, gtm 47 (by decide +kernel) (by decide +kernel), tyX6_ok, nmX6, rfl, by decide +kernel⟩
  · cases h; exact ⟨RX4, TX4, 9, tyX4, rfl, by decide, inGX4, gtm 89 (by decide +kernel) (by decide +kernel), tyX4_ok, nmX4, rfl, by decide +kernel⟩
  · cases h; exact ⟨RX4, TX4, 9, rfl, by decide, inGX4, gtm 109 (by decide +kernel) (by decide +kernel)⟩
  · cases h; exact gtm 439 (by decide +kernel) (by decide +kernel)
  · cases h; exact ⟨RX4, TX4, 9, rfl, by decide, inGX4, gtm 96 (by decide +kernel) (by decide +kernel)⟩
  · cases h; exact ⟨RX4, TX4, 9, tyX4, rfl, by decide, inGX4, gtm 86 (by decide +kernel) (by decide +kernel), tyX4_ok, nmX4, rfl, by decide +kernel⟩
  · cases h; exact ⟨RX0, TX0, 4, tyX0, rfl, by decide, inGX0, gtm 184 (by decide +kernel) (by decide +kernel), tyX0_ok, nmX0, rfl, by decide +kernel⟩
  · cases h; exact ⟨RX4, TX4, 9, rfl, by decide, inGX4, gtm 112 (by decide +kernel) (by decide +kernel)⟩
  · cases h; exact ⟨RX2, TX2, 10, rfl, by decide, inGX2, gtm 147 (by decide +kernel) (by decide +kernel)⟩
  · cases h; exact ⟨RX2, TX2, 10, rfl, by decide, inGX2, gtm 149 (by decide +kernel) (by decide +kernel)⟩
  · cases h; exact ⟨RX4, TX4, 9, rfl, by decide, inGX4, gtm 105 (by decide +kernel) (by decide +kernel)⟩
  · cases h; exact ⟨RX2, TX2, 10, rfl, by decide, inGX2, gtm 145 (by decide +kernel) (by decide +kernel)⟩
  · cases h; exact ⟨RX4, TX4, 9, rfl, by decide, inGX4, gtm 99 (by decide +kernel) (by decide +kernel)⟩
  · cases h; exact ⟨RX4, TX4, 9, rfl, by decide, inGX4, gtm 102 (by decide +kernel) (by decide +kernel)⟩
  · cases h; exact ⟨RX2, TX2, 10, tyX2, rfl, by decide, inGX2, gtm 139 (by decide +kernel) (by decide +kernel), tyX2_ok, nmX2, rfl, by decide +kernel⟩
  · cases h; exact ⟨RX2, TX2, 10, tyX2, rfl, by decide, inGX2, gtm 141 (by decide +kernel) (by decide +kernel), tyX2_ok, nmX2, rfl, by decide +kernel⟩
  · cases h; exact ⟨RX2, TX2, 10, tyX2, rfl, by decide, inGX2, gtm 143 (by decide +kernel) (by decide +kernel), tyX2_ok, nmX2, rfl, by decide +kernel⟩
  · cases h; exact ⟨RX4, TX4, 9, tyX4, rfl, by decide, inGX4, gtm 93 (by decide +kernel) (by decide +kernel), tyX4_ok, nmX4, rfl, by decide +kernel⟩
  · cases h; exact gtm 665 (by decide +kernel) (by decide +kernel)
  · cases h; exact ⟨RX1, TX1, 6, tyX1, rfl, by decide, inGX1, gtm 204 (by decide +kernel) (by decide +kernel), tyX1_ok, nmX1, rfl, by decide +kernel⟩
  · cases h; exact ⟨RX1, TX1, 6, rfl, by decide, inGX1, gtm 206 (by decide +kernel) (by decide +kernel)⟩
  · cases h; exact gtm 635 (by decide +kernel) (by decide +kernel)
  · cases h; exact gtm 282 (by decide +kernel) (by decide +kernel)
  · cases h; exact gtm 606 (by decide +kernel) (by decide +kernel)
  · cases h; exact gtm 670 (by decide +kernel) (by decide +kernel)
  · cases h; exact gtm 671 (by decide +kernel) (by decide +kernel)
  · cases h; exact gtm 672 (by decide +kernel) (by decide +kernel)
  · cases h; exact gtm 673 (by decide +kernel) (by decide +kernel)
  · cases h
def cpX4 (i : Nat) : Option CE := match i with
  | 9 => some (5, 3, 0, false)
  | 15 => some (5, 3, 1, false)
  | 18 => some (5, 3, 2, false)
  | 21 => some (0, 3, 3, false)
  | 25 => some (0, 3, 4, false)
  | 28 => some (0, 3, 5, false)
  | 31 => some (0, 3, 6, false)
  | 34 => some (0, 3, 7, false)
  | 37 => some (0, 3, 8, false)
  | 40 => some (4, 0, 0, false)
  | _ => none
theorem cpX4_ok : ∀ i e, cpX4 i = some e → cpV RX4 i e := by
  intro i e h
  unfold cpX4 at h
  split at h
  · cases h; exact ⟨RX4, TX4, 9, tyX4, rfl, by decide, inGX4, gtm 82 (by decide +kernel) (by decide +kernel), tyX4_ok, nmX4, rfl, by decide +kernel⟩
  · cases h; exact ⟨RX4, TX4, 9, tyX4, rfl, by decide, inGX4, gtm 87 (by decide +kernel) (by decide +kernel), tyX4_ok, nmX4, rfl, by decide +kernel⟩
  · cases h; exact ⟨RX4, TX4, 9, tyX4, rfl, by decide, inGX4, gtm 91 (by decide +kernel) (by decide +kernel), tyX4_ok, nmX4, rfl, by decide +kernel⟩
  · cases h; exact ⟨RX4, TX4, 9, rfl, by decide, inGX4, gtm 94 (by decide +kernel) (by decide +kernel)⟩
  · cases h; exact ⟨RX4, TX4, 9, rfl, by decide, inGX4, gtm 97 (by decide +kernel) (by decide +kernel)⟩
  · cases h; exact ⟨RX4, TX4, 9, rfl, by decide, inGX4, gtm 100 (by decide +kernel) (by decide +kernel)⟩
  · cases h; exact ⟨RX4, TX4, 9, rfl, by decide, inGX4, gtm 103 (by decide +kernel) (by decide +kernel)⟩
  · cases h; exact ⟨RX4, TX4, 9, rfl, by decide, inGX4, gtm 106 (by decide +kernel) (by decide +kernel)⟩
  · cases h; exact ⟨RX4, TX4, 9, rfl, by decide, inGX4, gtm 110 (by decide +kernel) (by decide +kernel)⟩
  · cases h; exact ⟨gtm 417 (by decide +kernel) (by decide +kernel), gtm 321 (by decide +kernel) (by decide +kernel), gtm 320 (by decide +kernel) (by decide +kernel), gtm 9 (by decide +kernel) (by decide +kernel)⟩
  · cases h
def cpX0 (i : Nat) : Option CE := match i with
  | 7 => some (5, 0, 0, false)
  | 13 => some (0, 0, 1, false)
  | 17 => some (0, 0, 2, false)
  | 20 => some (0, 0, 3, false)
  | 26 => some (4, 0, 0, false)
  | 32 => some (0, 3, 7, false)
  | 37 => some (0, 3, 3, false)
  | 40 => some (5, 3, 0, false)
  | _ => none
theorem cpX0_ok : ∀ i e, cpX0 i = some e → cpV RX0 i e := by
  intro i e h
  unfold cpX0 at h
  split at h
  · cases h; exact ⟨RX0, TX0, 4, tyX0, rfl, by decide, inGX0, gtm 183 (by decide +kernel) (by decide +kernel), tyX0_ok, nmX0, rfl, by decide +kernel⟩
  · cases h; exact ⟨RX0, TX0, 4, rfl, by decide, inGX0, gtm 185 (by decide +kernel) (by decide +kernel)⟩
  · cases h; exact ⟨RX0, TX0, 4, rfl, by decide, inGX0, gtm 186 (by decide +kernel) (by decide +kernel)⟩
  · cases h; exact ⟨RX0, TX0, 4, rfl, by decide, inGX0, gtm 187 (by decide +kernel) (by decide +kernel)⟩
  · cases h; exact ⟨gtm 452 (by decide +kernel) (by decide +kernel), gtm 321 (by decide +kernel) (by decide +kernel), gtm 320 (by decide +kernel) (by decide +kernel), gtm 9 (by decide +kernel) (by decide +kernel)⟩
  · cases h; exact ⟨RX4, TX4, 9, rfl, by decide, inGX4, gtm 107 (by decide +kernel) (by decide +kernel)⟩
  · cases h; exact ⟨RX4, TX4, 9, rfl, by decide, inGX4, gtm 95 (by decide +kernel) (by decide +kernel)⟩
  · cases h; exact ⟨RX4, TX4, 9, tyX4, rfl, by decide, inGX4, gtm 83 (by decide +kernel) (by decide +kernel), tyX4_ok, nmX4, rfl, by decide +kernel⟩
  · cases h
def cpX2 (i : Nat) : Option CE := match i with
  | 9 => some (5, 2, 0, false)
  | 15 => some (5, 2, 1, false)
  | 18 => some (5, 2, 2, false)
  | 21 => some (0, 2, 3, false)
  | 25 => some (0, 2, 4, false)
  | 28 => some (0, 2, 5, false)
  | 31 => some (0, 2, 6, false)
  | 34 => some (0, 2, 7, false)
  | 38 => some (0, 2, 8, false)
  | 41 => some (0, 2, 9, false)
  | 44 => some (5, 3, 1, false)
  | 65 => some (0, 3, 5, false)
  | 74 => some (1, 2147483647, 0, false)
  | 75 => some (2, 99999999, 0, false)
  | 83 => some (5, 3, 2, false)
  | 86 => some (0, 3, 8, false)
  | 89 => some (0, 3, 6, false)
  | 92 => some (0, 3, 4, false)
  | 95 => some (5, 3, 0, false)
  | 101 => some (0, 3, 7, false)
  | 122 => some (1, -1000000, 0, false)
  | _ => none
theorem cpX2_ok : ∀ i e, cpX2 i = some e → cpV RX2 i e := by
  intro i e h
  unfold cpX2 at h
  split at h
  · cases h; exact ⟨RX2, TX2, 10, tyX2, rfl, by decide, inGX2, gtm 138 (by decide +kernel) (by decide +kernel), tyX2_ok, nmX2, rfl, by decide +kernel⟩
  · cases h; exact ⟨RX2, TX2, 10, tyX2, rfl, by decide, inGX2, gtm 140 (by decide +kernel) (by decide +kernel), tyX2_ok, nmX2, rfl, by decide +kernel⟩
  · cases h; exact ⟨RX2, TX2, 10, tyX2, rfl, by decide, inGX2, gtm 142 (by decide +kernel) (by decide +kernel), tyX2_ok, nmX2, rfl, by decide +kernel⟩
  · cases h; exact ⟨RX2, TX2, 10, rfl, by decide, inGX2, gtm 144 (by decide +kernel) (by decide +kernel)⟩
  · cases h; exact ⟨RX2, TX2, 10, rfl, by decide, inGX2, gtm 146 (by decide +kernel) (by decide +kernel)⟩
  · cases h; exact ⟨RX2, TX2, 10, rfl, by decide, inGX2, gtm 148 (by decide +kernel) (by decide +kernel)⟩
  · cases h; exact ⟨RX2, TX2, 10, rfl, by decide, inGX2, gtm 150 (by decide +kernel) (by decide +kernel)⟩
  · cases h; exact ⟨RX2, TX2, 10, rfl, by decide, inGX2, gtm 151 (by decide +kernel) (by decide +kernel)⟩
  · cases h; exact ⟨RX2, TX2, 10, rfl, by decide, inGX2, gtm 152 (by decide +kernel) (by decide +kernel)⟩
  · cases h; exact ⟨RX2, TX2, 10, rfl, by decide, inGX2, gtm 153 (by decide +kernel) (by decide +kernel)⟩
  · cases h; exact ⟨RX4, TX4, 9, tyX4, rfl, by decide, inGX4, gtm 88 (by decide +kernel) (by decide +kernel), tyX4_ok, nmX4, rfl, by decide +kernel⟩
  · cases h; exact ⟨RX4, TX4, 9, rfl, by decide, inGX4, gtm 101 (by decide +kernel) (by decide +kernel)⟩
  · cases h; exact gtm 548 (by decide +kernel) (by decide +kernel)
  · cases h; exact gtm 567 (by decide +kernel) (by decide +kernel)
  · cases h; exact ⟨RX4, TX4, 9, tyX4, rfl, by decide, inGX4, gtm 92 (by decide +kernel) (by decide +kernel), tyX4_ok, nmX4, rfl, by decide +kernel⟩
  · cases h; exact ⟨RX4, TX4, 9, rfl, by decide, inGX4, gtm 111 (by decide +kernel) (by decide +kernel)⟩
  · cases h; exact ⟨RX4, TX4, 9, rfl, by decide, inGX4, gtm 104 (by decide +kernel) (by decide +kernel)⟩
  · cases h; exact ⟨RX4, TX4, 9, rfl, by decide, inGX4, gtm 98 (by decide +kernel) (by decide +kernel)⟩
  · cases h; exact ⟨RX4, TX4, 9, tyX4, rfl, by decide, inGX4, gtm 84 (by decide +kernel) (by decide +kernel), tyX4_ok, nmX4, rfl, by decide +kernel⟩
  · cases h; exact ⟨RX4, TX4, 9, rfl, by decide, inGX4, gtm 108 (by decide +kernel) (by decide +kernel)⟩
  · cases h; exact gtm 587 (by decide +kernel) (by decide +kernel)
  · cases h
def cpX1 (i : Nat) : Option CE := match i with
  | 7 => some (5, 1, 0, false)
  | 13 => some (0, 1, 1, false)
  | 17 => some (5, 1, 2, false)
  | 20 => some (5, 1, 3, false)
  | 23 => some (5, 1, 4, false)
  | 26 => some (5, 1, 5, false)
  | 29 => some (3, 0, 76, false)
  | 32 => some (3, 0, 77, false)
  | 35 => some (3, 0, 78, false)
  | _ => none
theorem cpX1_ok : ∀ i e, cpX1 i = some e → cpV RX1 i e := by
  intro i e h
  unfold cpX1 at h
  split at h
  · cases h; exact ⟨RX1, TX1, 6, tyX1, rfl, by decide, inGX1, gtm 203 (by decide +kernel) (by decide +kernel), tyX1_ok, nmX1, rfl, by decide +kernel⟩
  · cases h; exact ⟨RX1, TX1, 6, rfl, by decide, inGX1, gtm 205 (by decide +kernel) (by decide +kernel)⟩
  · cases h; exact ⟨RX1, TX1, 6, tyX1, rfl, by decide, inGX1, gtm 207 (by decide +kernel) (by decide +kernel), tyX1_ok, nmX1, rfl, by decide +kernel⟩
  · cases h; exact ⟨RX1, TX1, 6, tyX1, rfl, by decide, inGX1, gtm 208 (by decide +kernel) (by decide +kernel), tyX1_ok, nmX1, rfl, by decide +kernel⟩
  · cases h; exact ⟨RX1, TX1, 6, tyX1, rfl, by decide, inGX1, gtm 209 (by decide +kernel) (by decide +kernel), tyX1_ok, nmX1, rfl, by decide +kernel⟩
  · cases h; exact ⟨RX1, TX1, 6, tyX1, rfl, by decide, inGX1, gtm 210 (by decide +kernel) (by decide +kernel), tyX1_ok, nmX1, rfl, by decide +kernel⟩
  · cases h; exact Or.inl ⟨rfl, gtm 693 (by decide +kernel) (by decide +kernel)⟩
  · cases h; exact Or.inr (Or.inl ⟨rfl, gtm 703 (by decide +kernel) (by decide +kernel)⟩)
  · cases h; exact Or.inr (Or.inr ⟨rfl, gtm 705 (by decide +kernel) (by decide +kernel)⟩)
  · cases h
def cpX8 (i : Nat) : Option CE := match i with
  | 7 => some (0, 7, 0, false)
  | 13 => some (0, 7, 1, false)
  | 16 => some (0, 7, 2, false)
  | 19 => some (0, 7, 3, false)
  | 22 => some (0, 7, 5, false)
  | 25 => some (0, 7, 13, false)
  | 28 => some (0, 7, 14, false)
  | 31 => some (0, 7, 15, false)
  | 34 => some (0, 7, 16, false)
  | 37 => some (0, 7, 18, false)
  | 40 => some (0, 7, 19, false)
  | 44 => some (0, 7, 20, false)
  | 47 => some (0, 7, 21, false)
  | 50 => some (0, 7, 22, false)
  | 53 => some (0, 7, 24, false)
  | 56 => some (0, 7, 25, false)
  | 59 => some (0, 7, 26, false)
  | 62 => some (1, -1000000, 0, false)
  | 63 => some (5, 7, 4, false)
  | 67 => some (1, -1000010, 0, false)
  | 76 => some (1, -1000001, 0, false)
  | 94 => some (5, 7, 6, false)
  | 97 => some (1, -1000003, 0, false)
  | 98 => some (5, 7, 9, false)
  | 101 => some (5, 7, 10, false)
  | 107 => some (5, 7, 12, false)
  | 110 => some (5, 7, 11, false)
  | 113 => some (5, 7, 8, false)
  | 120 => some (5, 7, 7, false)
  | 146 => some (1, -1000100, 0, false)
  | 151 => some (5, 7, 17, false)
  | 191 => some (1, 99999999, 0, false)
  | 199 => some (5, 7, 23, false)
  | 208 => some (1, -1000002, 0, false)
  | 251 => some (1, 999999, 0, false)
  | 252 => some (2, 16807, 0, false)
  | 254 => some (2, 2147483647, 0, false)
  | 256 => some (2, 32, 0, false)
  | 258 => some (2, 12, 0, false)
  | 263 => some (5, 7, 27, false)
  | _ => none
theorem cpX8_ok : ∀ i e, cpX8 i = some e → cpV RX8 i e := by
  intro i e h
  unfold cpX8 at h
  split at h
  · cases h; exact ⟨RX8, TX8, 28, rfl, by decide, inGX8, gtm 738 (by decide +kernel) (by decide +kernel)⟩
  · cases h; exact ⟨RX8, TX8, 28, rfl, by decide, inGX8, gtm 739 (by decide +kernel) (by decide +kernel)⟩
  · cases h; exact ⟨RX8, TX8, 28, rfl, by decide, inGX8, gtm 740 (by decide +kernel) (by decide +kernel)⟩
  · cases h; exact ⟨RX8, TX8, 28, rfl, by decide, inGX8, gtm 741 (by decide +kernel) (by decide +kernel)⟩
  · cases h; exact ⟨RX8, TX8, 28, rfl, by decide, inGX8, gtm 743 (by decide +kernel) (by decide +kernel)⟩
  · cases h; exact ⟨RX8, TX8, 28, rfl, by decide, inGX8, gtm 751 (by decide +kernel) (by decide +kernel)⟩
  · cases h; exact ⟨RX8, TX8, 28, rfl, by decide, inGX8, gtm 752 (by decide +kernel) (by decide +kernel)⟩
  · cases h; exact ⟨RX8, TX8, 28, rfl, by decide, inGX8, gtm 753 (by decide +kernel) (by decide +kernel)⟩
  · cases h; exact ⟨RX8, TX8, 28, rfl, by decide, inGX8, gtm 754 (by decide +kernel) (by decide +kernel)⟩
  · cases h; exact ⟨RX8, TX8, 28, rfl, by decide, inGX8, gtm 756 (by decide +kernel) (by decide +kernel)⟩
  · cases h; exact ⟨RX8, TX8, 28, rfl, by decide, inGX8, gtm 757 (by decide +kernel) (by decide +kernel)⟩
  · cases h; exact ⟨RX8, TX8, 28, rfl, by decide, inGX8, gtm 758 (by decide +kernel) (by decide +kernel)⟩
  · cases h; exact ⟨RX8, TX8, 28, rfl, by decide, inGX8, gtm 759 (by decide +kernel) (by decide +kernel)⟩
  · cases h; exact ⟨RX8, TX8, 28, rfl, by decide, inGX8, gtm 760 (by decide +kernel) (by decide +kernel)⟩
  · cases h; exact ⟨RX8, TX8, 28, rfl, by decide, inGX8, gtm 762 (by decide +kernel) (by decide +kernel)⟩
  · cases h; exact ⟨RX8, TX8, 28, rfl, by decide, inGX8, gtm 763 (by decide +kernel) (by decide +kernel)⟩
  · cases h; exact ⟨RX8, TX8, 28, rfl, by decide, inGX8, gtm 764 (by decide +kernel) (by decide +kernel)⟩
  · cases h; exact gtm 737 (by decide +kernel) (by decide +kernel)
  · cases h; exact ⟨RX8, TX8, 28, tyX8, rfl, by decide, inGX8, gtm 742 (by decide +kernel) (by decide +kernel), tyX8_ok, nmX8, rfl, by decide +kernel⟩
  · cases h; exact gtm 839 (by decide +kernel) (by decide +kernel)
  · cases h; exact gtm 834 (by decide +kernel) (by decide +kernel)
  · cases h; exact ⟨RX8, TX8, 28, tyX8, rfl, by decide, inGX8, gtm 744 (by decide +kernel) (by decide +kernel), tyX8_ok, nmX8, rfl, by decide +kernel⟩
  · cases h; exact gtm 871 (by decide +kernel) (by decide +kernel)
  · cases h; exact ⟨RX8, TX8, 28, tyX8, rfl, by decide, inGX8, gtm 747 (by decide +kernel) (by decide +kernel), tyX8_ok, nmX8, rfl, by decide +kernel⟩
  · cases h; exact ⟨RX8, TX8, 28, tyX8, rfl, by decide, inGX8, gtm 748 (by decide +kernel) (by decide +kernel), tyX8_ok, nmX8, rfl, by decide +kernel⟩
  · cases h; exact ⟨RX8, TX8, 28, tyX8, rfl, by decide, inGX8, gtm 750 (by decide +kernel) (by decide +kernel), tyX8_ok, nmX8, rfl, by decide +kernel⟩
  · cases h; exact ⟨RX8, TX8, 28, tyX8, rfl, by decide, inGX8, gtm 749 (by decide +kernel) (by decide +kernel), tyX8_ok, nmX8, rfl, by decide +kernel⟩
  · cases h; exact ⟨RX8, TX8, 28, tyX8, rfl, by decide, inGX8, gtm 746 (by decide +kernel) (by decide +kernel), tyX8_ok, nmX8, rfl, by decide +kernel⟩
  · cases h; exact ⟨RX8, TX8, 28, tyX8, rfl, by decide, inGX8, gtm 745 (by decide +kernel) (by decide +kernel), tyX8_ok, nmX8, rfl, by decide +kernel⟩
  · cases h; exact gtm 911 (by decide +kernel) (by decide +kernel)
  · cases h; exact ⟨RX8, TX8, 28, tyX8, rfl, by decide, inGX8, gtm 755 (by decide +kernel) (by decide +kernel), tyX8_ok, nmX8, rfl, by decide +kernel⟩
  · cases h; exact gtm 1018 (by decide +kernel) (by decide +kernel)
  · cases h; exact ⟨RX8, TX8, 28, tyX8, rfl, by decide, inGX8, gtm 761 (by decide +kernel) (by decide +kernel), tyX8_ok, nmX8, rfl, by decide +kernel⟩
  · cases h; exact gtm 927 (by decide +kernel) (by decide +kernel)
  · cases h; exact gtm 1080 (by decide +kernel) (by decide +kernel)
  · cases h; exact gtm 1081 (by decide +kernel) (by decide +kernel)
  · cases h; exact gtm 1082 (by decide +kernel) (by decide +kernel)
  · cases h; exact gtm 1083 (by decide +kernel) (by decide +kernel)
  · cases h; exact gtm 1084 (by decide +kernel) (by decide +kernel)
  · cases h; exact ⟨RX8, TX8, 28, tyX8, rfl, by decide, inGX8, gtm 765 (by decide +kernel) (by decide +kernel), tyX8_ok, nmX8, rfl, by decide +kernel⟩
  · cases h
def cpN (i : Nat) : Option CE := match i with
  | _ => none
theorem cpN_ok (own : String) : ∀ i e, cpN i = some e → cpV own i e := by
  intro i e h
  cases h
def mwI (y : MethodName) (bc : ByteArray) (mL : Nat) (rt : Option FieldType) : Prop := Cond.code y bc mL rt ∈ gtb ∧ Cond.initialized y.cls ∈ gtb ∧ (y.cls ≠ "java/lang/invoke/MethodHandle" ∧ y.cls ≠ "java/lang/invoke/VarHandle") ∧ Cond.instanceMethod y ∈ gtb ∧ Cond.selects y.cls y y ∈ gtb
def mwS (y : MethodName) (bc : ByteArray) (mL : Nat) (rt : Option FieldType) : Prop := Cond.code y bc mL rt ∈ gtb ∧ Cond.initialized y.cls ∈ gtb ∧ (y.cls ≠ "java/lang/invoke/MethodHandle" ∧ y.cls ≠ "java/lang/invoke/VarHandle") ∧ Cond.static y ∈ gtb
theorem mw_X7_row : mwI yX7_row cX7_row 4 (some .int) := ⟨gtm 273 (by decide +kernel) (by decide +kernel), gtm 1 (by decide +kernel) (by decide +kernel), ⟨by decide +kernel, by decide +kernel⟩, gtm 271 (by decide +kernel) (by decide +kernel), gtm 272 (by decide +kernel) (by decide +kernel)⟩
theorem mw_X5_isRow : mwS yX5_isRow cX5_isRow 1 (some .boolean) := ⟨gtm 276 (by decide +kernel) (by decide +kernel), gtm 2 (by decide +kernel) (by decide +kernel), ⟨by decide +kernel, by decide +kernel⟩, gtm 275 (by decide +kernel) (by decide +kernel)⟩
theorem mw_X7_found : mwI yX7_found cX7_found 2 (some .int) := ⟨gtm 281 (by decide +kernel) (by decide +kernel), gtm 1 (by decide +kernel) (by decide +kernel), ⟨by decide +kernel, by decide +kernel⟩, gtm 280 (by decide +kernel) (by decide +kernel), gts 0 (by decide +kernel) (by decide +kernel)⟩
theorem mw_X5_make : mwI yX5_make cX5_make 5 none := ⟨gtm 286 (by decide +kernel) (by decide +kernel), gtm 2 (by decide +kernel) (by decide +kernel), ⟨by decide +kernel, by decide +kernel⟩, gtm 284 (by decide +kernel) (by decide +kernel), gtm 285 (by decide +kernel) (by decide +kernel)⟩
theorem mw_X7_fine : mwI yX7_fine cX7_fine 2 (some .int) := ⟨gtm 290 (by decide +kernel) (by decide +kernel), gtm 1 (by decide +kernel) (by decide +kernel), ⟨by decide +kernel, by decide +kernel⟩, gtm 289 (by decide +kernel) (by decide +kernel), gts 1 (by decide +kernel) (by decide +kernel)⟩
theorem mw_X7_set : mwI yX7_set cX7_set 4 (some .int) := ⟨gtm 294 (by decide +kernel) (by decide +kernel), gtm 1 (by decide +kernel) (by decide +kernel), ⟨by decide +kernel, by decide +kernel⟩, gtm 292 (by decide +kernel) (by decide +kernel), gtm 293 (by decide +kernel) (by decide +kernel)⟩
theorem mw_X5_isMissing : mwI yX5_isMissing cX5_isMissing 2 (some .boolean) := ⟨gtm 298 (by decide +kernel) (by decide +kernel), gtm 2 (by decide +kernel) (by decide +kernel), ⟨by decide +kernel, by decide +kernel⟩, gtm 296 (by decide +kernel) (by decide +kernel), gtm 297 (by decide +kernel) (by decide +kernel)⟩
theorem mw_X5_holds : mwI yX5_holds cX5_holds 4 (some .boolean) := ⟨gtm 302 (by decide +kernel) (by decide +kernel), gtm 2 (by decide +kernel) (by decide +kernel), ⟨by decide +kernel, by decide +kernel⟩, gtm 300 (by decide +kernel) (by decide +kernel), gtm 301 (by decide +kernel) (by decide +kernel)⟩
theorem mw_X5_put : mwI yX5_put cX5_put 5 (some .int) := ⟨gtm 306 (by decide +kernel) (by decide +kernel), gtm 2 (by decide +kernel) (by decide +kernel), ⟨by decide +kernel, by decide +kernel⟩, gtm 304 (by decide +kernel) (by decide +kernel), gtm 305 (by decide +kernel) (by decide +kernel)⟩
theorem mw_X7_copy : mwI yX7_copy cX7_copy 6 (some .int) := ⟨gtm 310 (by decide +kernel) (by decide +kernel), gtm 1 (by decide +kernel) (by decide +kernel), ⟨by decide +kernel, by decide +kernel⟩, gtm 308 (by decide +kernel) (by decide +kernel), gtm 309 (by decide +kernel) (by decide +kernel)⟩
theorem mw_X5_ofOneLane : mwI yX5_ofOneLane cX5_ofOneLane 3 (some .boolean) := ⟨gtm 314 (by decide +kernel) (by decide +kernel), gtm 2 (by decide +kernel) (by decide +kernel), ⟨by decide +kernel, by decide +kernel⟩, gtm 312 (by decide +kernel) (by decide +kernel), gtm 313 (by decide +kernel) (by decide +kernel)⟩
theorem mw_X5_carry : mwI yX5_carry cX5_carry 6 none := ⟨gtm 318 (by decide +kernel) (by decide +kernel), gtm 2 (by decide +kernel) (by decide +kernel), ⟨by decide +kernel, by decide +kernel⟩, gtm 316 (by decide +kernel) (by decide +kernel), gtm 317 (by decide +kernel) (by decide +kernel)⟩
theorem mw_X7_drop : mwI yX7_drop cX7_drop 2 (some .int) := ⟨gtm 325 (by decide +kernel) (by decide +kernel), gtm 1 (by decide +kernel) (by decide +kernel), ⟨by decide +kernel, by decide +kernel⟩, gtm 323 (by decide +kernel) (by decide +kernel), gtm 324 (by decide +kernel) (by decide +kernel)⟩
theorem mw_X5_lose : mwI yX5_lose cX5_lose 3 (some .int) := ⟨gtm 329 (by decide +kernel) (by decide +kernel), gtm 2 (by decide +kernel) (by decide +kernel), ⟨by decide +kernel, by decide +kernel⟩, gtm 327 (by decide +kernel) (by decide +kernel), gtm 328 (by decide +kernel) (by decide +kernel)⟩
theorem mw_X7_feed : mwI yX7_feed cX7_feed 2 (some .int) := ⟨gtm 333 (by decide +kernel) (by decide +kernel), gtm 1 (by decide +kernel) (by decide +kernel), ⟨by decide +kernel, by decide +kernel⟩, gtm 331 (by decide +kernel) (by decide +kernel), gtm 332 (by decide +kernel) (by decide +kernel)⟩
theorem mw_X6_put : mwI yX6_put cX6_put 2 none := ⟨gtm 338 (by decide +kernel) (by decide +kernel), gtm 3 (by decide +kernel) (by decide +kernel), ⟨by decide +kernel, by decide +kernel⟩, gtm 336 (by decide +kernel) (by decide +kernel), gtm 337 (by decide +kernel) (by decide +kernel)⟩
theorem mw_X7_piece : mwI yX7_piece cX7_piece 2 (some .int) := ⟨gtm 342 (by decide +kernel) (by decide +kernel), gtm 1 (by decide +kernel) (by decide +kernel), ⟨by decide +kernel, by decide +kernel⟩, gtm 340 (by decide +kernel) (by decide +kernel), gtm 341 (by decide +kernel) (by decide +kernel)⟩
theorem mw_X6_readInto : mwI yX6_readInto cX6_readInto 4 (some .int) := ⟨gtm 346 (by decide +kernel) (by decide +kernel), gtm 3 (by decide +kernel) (by decide +kernel), ⟨by decide +kernel, by decide +kernel⟩, gtm 344 (by decide +kernel) (by decide +kernel), gtm 345 (by decide +kernel) (by decide +kernel)⟩
theorem mw_X4_clear : mwI yX4_clear cX4_clear 1 none := ⟨gtm 350 (by decide +kernel) (by decide +kernel), gtm 4 (by decide +kernel) (by decide +kernel), ⟨by decide +kernel, by decide +kernel⟩, gtm 348 (by decide +kernel) (by decide +kernel), gtm 349 (by decide +kernel) (by decide +kernel)⟩
theorem mw_X6_takeToken : mwI yX6_takeToken cX6_takeToken 3 none := ⟨gtm 354 (by decide +kernel) (by decide +kernel), gtm 3 (by decide +kernel) (by decide +kernel), ⟨by decide +kernel, by decide +kernel⟩, gtm 353 (by decide +kernel) (by decide +kernel), gts 2 (by decide +kernel) (by decide +kernel)⟩
theorem mw_X6_isFigure : mwI yX6_isFigure cX6_isFigure 2 (some .boolean) := ⟨gtm 358 (by decide +kernel) (by decide +kernel), gtm 3 (by decide +kernel) (by decide +kernel), ⟨by decide +kernel, by decide +kernel⟩, gtm 357 (by decide +kernel) (by decide +kernel), gts 3 (by decide +kernel) (by decide +kernel)⟩
theorem mw_X6_takeNumber : mwI yX6_takeNumber cX6_takeNumber 1 none := ⟨gtm 362 (by decide +kernel) (by decide +kernel), gtm 3 (by decide +kernel) (by decide +kernel), ⟨by decide +kernel, by decide +kernel⟩, gtm 361 (by decide +kernel) (by decide +kernel), gts 4 (by decide +kernel) (by decide +kernel)⟩
theorem mw_X6_step : mwI yX6_step cX6_step 2 (some .int) := ⟨gtm 366 (by decide +kernel) (by decide +kernel), gtm 3 (by decide +kernel) (by decide +kernel), ⟨by decide +kernel, by decide +kernel⟩, gtm 365 (by decide +kernel) (by decide +kernel), gts 5 (by decide +kernel) (by decide +kernel)⟩
theorem mw_X6_want : mwI yX6_want cX6_want 3 (some .int) := ⟨gtm 370 (by decide +kernel) (by decide +kernel), gtm 3 (by decide +kernel) (by decide +kernel), ⟨by decide +kernel, by decide +kernel⟩, gtm 369 (by decide +kernel) (by decide +kernel), gts 6 (by decide +kernel) (by decide +kernel)⟩
theorem mw_X6_takeSignature : mwI yX6_takeSignature cX6_takeSignature 2 (some .int) := ⟨gtm 374 (by decide +kernel) (by decide +kernel), gtm 3 (by decide +kernel) (by decide +kernel), ⟨by decide +kernel, by decide +kernel⟩, gtm 373 (by decide +kernel) (by decide +kernel), gts 7 (by decide +kernel) (by decide +kernel)⟩
theorem mw_X7_isSignature : mwS yX7_isSignature cX7_isSignature 1 (some .boolean) := ⟨gtm 377 (by decide +kernel) (by decide +kernel), gtm 1 (by decide +kernel) (by decide +kernel), ⟨by decide +kernel, by decide +kernel⟩, gtm 376 (by decide +kernel) (by decide +kernel)⟩
theorem mw_X6_takeKey : mwI yX6_takeKey cX6_takeKey 2 (some .int) := ⟨gtm 381 (by decide +kernel) (by decide +kernel), gtm 3 (by decide +kernel) (by decide +kernel), ⟨by decide +kernel, by decide +kernel⟩, gtm 380 (by decide +kernel) (by decide +kernel), gts 8 (by decide +kernel) (by decide +kernel)⟩
theorem mw_X7_isKey : mwS yX7_isKey cX7_isKey 1 (some .boolean) := ⟨gtm 384 (by decide +kernel) (by decide +kernel), gtm 1 (by decide +kernel) (by decide +kernel), ⟨by decide +kernel, by decide +kernel⟩, gtm 383 (by decide +kernel) (by decide +kernel)⟩
theorem mw_X4_addKey : mwI yX4_addKey cX4_addKey 2 none := ⟨gtm 388 (by decide +kernel) (by decide +kernel), gtm 4 (by decide +kernel) (by decide +kernel), ⟨by decide +kernel, by decide +kernel⟩, gtm 386 (by decide +kernel) (by decide +kernel), gtm 387 (by decide +kernel) (by decide +kernel)⟩
theorem mw_X6_endKey : mwI yX6_endKey cX6_endKey 3 (some .int) := ⟨gtm 392 (by decide +kernel) (by decide +kernel), gtm 3 (by decide +kernel) (by decide +kernel), ⟨by decide +kernel, by decide +kernel⟩, gtm 391 (by decide +kernel) (by decide +kernel), gts 9 (by decide +kernel) (by decide +kernel)⟩
theorem mw_X4_sizeOf : mwI yX4_sizeOf cX4_sizeOf 2 (some .int) := ⟨gtm 396 (by decide +kernel) (by decide +kernel), gtm 4 (by decide +kernel) (by decide +kernel), ⟨by decide +kernel, by decide +kernel⟩, gtm 394 (by decide +kernel) (by decide +kernel), gtm 395 (by decide +kernel) (by decide +kernel)⟩
theorem mw_X6_takeLetter : mwI yX6_takeLetter cX6_takeLetter 2 (some .int) := ⟨gtm 400 (by decide +kernel) (by decide +kernel), gtm 3 (by decide +kernel) (by decide +kernel), ⟨by decide +kernel, by decide +kernel⟩, gtm 399 (by decide +kernel) (by decide +kernel), gts 10 (by decide +kernel) (by decide +kernel)⟩
theorem mw_X6_takeSort : mwI yX6_takeSort cX6_takeSort 3 (some .int) := ⟨gtm 404 (by decide +kernel) (by decide +kernel), gtm 3 (by decide +kernel) (by decide +kernel), ⟨by decide +kernel, by decide +kernel⟩, gtm 403 (by decide +kernel) (by decide +kernel), gts 11 (by decide +kernel) (by decide +kernel)⟩
theorem mw_X6_kindOfSort : mwS yX6_kindOfSort cX6_kindOfSort 1 (some .int) := ⟨gtm 407 (by decide +kernel) (by decide +kernel), gtm 3 (by decide +kernel) (by decide +kernel), ⟨by decide +kernel, by decide +kernel⟩, gtm 406 (by decide +kernel) (by decide +kernel)⟩
theorem mw_X4_addChord : mwI yX4_addChord cX4_addChord 4 none := ⟨gtm 411 (by decide +kernel) (by decide +kernel), gtm 4 (by decide +kernel) (by decide +kernel), ⟨by decide +kernel, by decide +kernel⟩, gtm 409 (by decide +kernel) (by decide +kernel), gtm 410 (by decide +kernel) (by decide +kernel)⟩
theorem mw_X4_becomeLike : mwI yX4_becomeLike cX4_becomeLike 2 none := ⟨gtm 416 (by decide +kernel) (by decide +kernel), gtm 4 (by decide +kernel) (by decide +kernel), ⟨by decide +kernel, by decide +kernel⟩, gtm 414 (by decide +kernel) (by decide +kernel), gtm 415 (by decide +kernel) (by decide +kernel)⟩
theorem mw_X0_forgetAll : mwI yX0_forgetAll cX0_forgetAll 1 none := ⟨gtm 421 (by decide +kernel) (by decide +kernel), gtm 6 (by decide +kernel) (by decide +kernel), ⟨by decide +kernel, by decide +kernel⟩, gtm 419 (by decide +kernel) (by decide +kernel), gtm 420 (by decide +kernel) (by decide +kernel)⟩
theorem mw_X7_changed : mwI yX7_changed cX7_changed 1 none := ⟨gtm 425 (by decide +kernel) (by decide +kernel), gtm 1 (by decide +kernel) (by decide +kernel), ⟨by decide +kernel, by decide +kernel⟩, gtm 424 (by decide +kernel) (by decide +kernel), gts 12 (by decide +kernel) (by decide +kernel)⟩
theorem mw_X7_fault : mwI yX7_fault cX7_fault 1 (some .int) := ⟨gtm 429 (by decide +kernel) (by decide +kernel), gtm 1 (by decide +kernel) (by decide +kernel), ⟨by decide +kernel, by decide +kernel⟩, gtm 427 (by decide +kernel) (by decide +kernel), gtm 428 (by decide +kernel) (by decide +kernel)⟩
theorem mw_X7_key : mwI yX7_key cX7_key 4 (some .int) := ⟨gtm 433 (by decide +kernel) (by decide +kernel), gtm 1 (by decide +kernel) (by decide +kernel), ⟨by decide +kernel, by decide +kernel⟩, gtm 431 (by decide +kernel) (by decide +kernel), gtm 432 (by decide +kernel) (by decide +kernel)⟩
theorem mw_X7_isNote : mwI yX7_isNote cX7_isNote 2 (some .boolean) := ⟨gtm 437 (by decide +kernel) (by decide +kernel), gtm 1 (by decide +kernel) (by decide +kernel), ⟨by decide +kernel, by decide +kernel⟩, gtm 436 (by decide +kernel) (by decide +kernel), gts 13 (by decide +kernel) (by decide +kernel)⟩
theorem mw_X7_acted : mwI yX7_acted cX7_acted 4 none := ⟨gtm 443 (by decide +kernel) (by decide +kernel), gtm 1 (by decide +kernel) (by decide +kernel), ⟨by decide +kernel, by decide +kernel⟩, gtm 442 (by decide +kernel) (by decide +kernel), gts 14 (by decide +kernel) (by decide +kernel)⟩
theorem mw_X0_keep : mwI yX0_keep cX0_keep 4 none := ⟨gtm 447 (by decide +kernel) (by decide +kernel), gtm 6 (by decide +kernel) (by decide +kernel), ⟨by decide +kernel, by decide +kernel⟩, gtm 445 (by decide +kernel) (by decide +kernel), gtm 446 (by decide +kernel) (by decide +kernel)⟩
theorem mw_X0_forgetOldest : mwI yX0_forgetOldest cX0_forgetOldest 1 none := ⟨gtm 451 (by decide +kernel) (by decide +kernel), gtm 6 (by decide +kernel) (by decide +kernel), ⟨by decide +kernel, by decide +kernel⟩, gtm 450 (by decide +kernel) (by decide +kernel), gts 15 (by decide +kernel) (by decide +kernel)⟩
theorem mw_X7_become : mwI yX7_become cX7_become 4 (some .int) := ⟨gtm 456 (by decide +kernel) (by decide +kernel), gtm 1 (by decide +kernel) (by decide +kernel), ⟨by decide +kernel, by decide +kernel⟩, gtm 454 (by decide +kernel) (by decide +kernel), gtm 455 (by decide +kernel) (by decide +kernel)⟩
theorem mw_X7_isChord : mwI yX7_isChord cX7_isChord 2 (some .boolean) := ⟨gtm 460 (by decide +kernel) (by decide +kernel), gtm 1 (by decide +kernel) (by decide +kernel), ⟨by decide +kernel, by decide +kernel⟩, gtm 459 (by decide +kernel) (by decide +kernel), gts 16 (by decide +kernel) (by decide +kernel)⟩
theorem mw_X7_sign : mwI yX7_sign cX7_sign 3 (some .int) := ⟨gtm 464 (by decide +kernel) (by decide +kernel), gtm 1 (by decide +kernel) (by decide +kernel), ⟨by decide +kernel, by decide +kernel⟩, gtm 462 (by decide +kernel) (by decide +kernel), gtm 463 (by decide +kernel) (by decide +kernel)⟩
theorem mw_X7_isNoPiece : mwI yX7_isNoPiece cX7_isNoPiece 1 (some .boolean) := ⟨gtm 468 (by decide +kernel) (by decide +kernel), gtm 1 (by decide +kernel) (by decide +kernel), ⟨by decide +kernel, by decide +kernel⟩, gtm 467 (by decide +kernel) (by decide +kernel), gts 17 (by decide +kernel) (by decide +kernel)⟩
theorem mw_X7_shift : mwI yX7_shift cX7_shift 2 (some .int) := ⟨gtm 473 (by decide +kernel) (by decide +kernel), gtm 1 (by decide +kernel) (by decide +kernel), ⟨by decide +kernel, by decide +kernel⟩, gtm 471 (by decide +kernel) (by decide +kernel), gtm 472 (by decide +kernel) (by decide +kernel)⟩
theorem mw_X4_moveBy : mwI yX4_moveBy cX4_moveBy 3 none := ⟨gtm 477 (by decide +kernel) (by decide +kernel), gtm 4 (by decide +kernel) (by decide +kernel), ⟨by decide +kernel, by decide +kernel⟩, gtm 475 (by decide +kernel) (by decide +kernel), gtm 476 (by decide +kernel) (by decide +kernel)⟩
theorem mw_J9_floorMod_7cf53 : mwS yJ9_floorMod_7cf53 cJ9_floorMod_7cf53 3 (some .int) := ⟨gtm 480 (by decide +kernel) (by decide +kernel), gtm 10 (by decide +kernel) (by decide +kernel), ⟨by decide +kernel, by decide +kernel⟩, gtm 479 (by decide +kernel) (by decide +kernel)⟩
theorem mw_X7_undo : mwI yX7_undo cX7_undo 1 (some .int) := ⟨gtm 484 (by decide +kernel) (by decide +kernel), gtm 1 (by decide +kernel) (by decide +kernel), ⟨by decide +kernel, by decide +kernel⟩, gtm 482 (by decide +kernel) (by decide +kernel), gtm 483 (by decide +kernel) (by decide +kernel)⟩
theorem mw_X0_takeBack : mwI yX0_takeBack cX0_takeBack 4 none := ⟨gtm 488 (by decide +kernel) (by decide +kernel), gtm 6 (by decide +kernel) (by decide +kernel), ⟨by decide +kernel, by decide +kernel⟩, gtm 486 (by decide +kernel) (by decide +kernel), gtm 487 (by decide +kernel) (by decide +kernel)⟩
theorem mw_X7_place : mwI yX7_place cX7_place 3 (some .int) := ⟨gtm 493 (by decide +kernel) (by decide +kernel), gtm 1 (by decide +kernel) (by decide +kernel), ⟨by decide +kernel, by decide +kernel⟩, gtm 491 (by decide +kernel) (by decide +kernel), gtm 492 (by decide +kernel) (by decide +kernel)⟩
theorem mw_X3_letterOf : mwS yX3_letterOf cX3_letterOf 1 (some .int) := ⟨gtm 496 (by decide +kernel) (by decide +kernel), gtm 11 (by decide +kernel) (by decide +kernel), ⟨by decide +kernel, by decide +kernel⟩, gtm 495 (by decide +kernel) (by decide +kernel)⟩
theorem mw_X3_alterOf : mwS yX3_alterOf cX3_alterOf 1 (some .int) := ⟨gtm 500 (by decide +kernel) (by decide +kernel), gtm 11 (by decide +kernel) (by decide +kernel), ⟨by decide +kernel, by decide +kernel⟩, gtm 499 (by decide +kernel) (by decide +kernel)⟩
theorem mw_J9_floorDiv_7cf53 : mwS yJ9_floorDiv_7cf53 cJ9_floorDiv_7cf53 3 (some .int) := ⟨gtm 503 (by decide +kernel) (by decide +kernel), gtm 10 (by decide +kernel) (by decide +kernel), ⟨by decide +kernel, by decide +kernel⟩, gtm 502 (by decide +kernel) (by decide +kernel)⟩
theorem mw_X3_keyOf : mwS yX3_keyOf cX3_keyOf 1 (some .int) := ⟨gtm 506 (by decide +kernel) (by decide +kernel), gtm 11 (by decide +kernel) (by decide +kernel), ⟨by decide +kernel, by decide +kernel⟩, gtm 505 (by decide +kernel) (by decide +kernel)⟩
theorem mw_X7_inWindow : mwI yX7_inWindow cX7_inWindow 3 (some .int) := ⟨gtm 510 (by decide +kernel) (by decide +kernel), gtm 1 (by decide +kernel) (by decide +kernel), ⟨by decide +kernel, by decide +kernel⟩, gtm 508 (by decide +kernel) (by decide +kernel), gtm 509 (by decide +kernel) (by decide +kernel)⟩
theorem mw_X7_isWindow : mwS yX7_isWindow cX7_isWindow 1 (some .boolean) := ⟨gtm 513 (by decide +kernel) (by decide +kernel), gtm 1 (by decide +kernel) (by decide +kernel), ⟨by decide +kernel, by decide +kernel⟩, gtm 512 (by decide +kernel) (by decide +kernel)⟩
theorem mw_X3_placeIn : mwS yX3_placeIn cX3_placeIn 2 (some .int) := ⟨gtm 516 (by decide +kernel) (by decide +kernel), gtm 11 (by decide +kernel) (by decide +kernel), ⟨by decide +kernel, by decide +kernel⟩, gtm 515 (by decide +kernel) (by decide +kernel)⟩
theorem mw_X7_head : mwI yX7_head cX7_head 2 (some .int) := ⟨gtm 520 (by decide +kernel) (by decide +kernel), gtm 1 (by decide +kernel) (by decide +kernel), ⟨by decide +kernel, by decide +kernel⟩, gtm 518 (by decide +kernel) (by decide +kernel), gtm 519 (by decide +kernel) (by decide +kernel)⟩
theorem mw_X3_headOf : mwS yX3_headOf cX3_headOf 2 (some .int) := ⟨gtm 523 (by decide +kernel) (by decide +kernel), gtm 11 (by decide +kernel) (by decide +kernel), ⟨by decide +kernel, by decide +kernel⟩, gtm 522 (by decide +kernel) (by decide +kernel)⟩
theorem mw_X7_note : mwI yX7_note cX7_note 3 (some .int) := ⟨gtm 527 (by decide +kernel) (by decide +kernel), gtm 1 (by decide +kernel) (by decide +kernel), ⟨by decide +kernel, by decide +kernel⟩, gtm 525 (by decide +kernel) (by decide +kernel), gtm 526 (by decide +kernel) (by decide +kernel)⟩
theorem mw_X7_settled : mwI yX7_settled cX7_settled 1 (some (.object "SpelledTones$Best")) := ⟨gtm 531 (by decide +kernel) (by decide +kernel), gtm 1 (by decide +kernel) (by decide +kernel), ⟨by decide +kernel, by decide +kernel⟩, gtm 530 (by decide +kernel) (by decide +kernel), gts 18 (by decide +kernel) (by decide +kernel)⟩
theorem mw_X2_solve : mwI yX2_solve cX2_solve 5 none := ⟨gtm 535 (by decide +kernel) (by decide +kernel), gtm 5 (by decide +kernel) (by decide +kernel), ⟨by decide +kernel, by decide +kernel⟩, gtm 533 (by decide +kernel) (by decide +kernel), gtm 534 (by decide +kernel) (by decide +kernel)⟩
theorem mw_X2_goOn : mwI yX2_goOn cX2_goOn 5 none := ⟨gtm 539 (by decide +kernel) (by decide +kernel), gtm 5 (by decide +kernel) (by decide +kernel), ⟨by decide +kernel, by decide +kernel⟩, gtm 538 (by decide +kernel) (by decide +kernel), gts 19 (by decide +kernel) (by decide +kernel)⟩
theorem mw_X4_staysWithin : mwI yX4_staysWithin cX4_staysWithin 2 (some .boolean) := ⟨gtm 543 (by decide +kernel) (by decide +kernel), gtm 4 (by decide +kernel) (by decide +kernel), ⟨by decide +kernel, by decide +kernel⟩, gtm 541 (by decide +kernel) (by decide +kernel), gtm 542 (by decide +kernel) (by decide +kernel)⟩
theorem mw_X2_choose : mwI yX2_choose cX2_choose 12 none := ⟨gtm 547 (by decide +kernel) (by decide +kernel), gtm 5 (by decide +kernel) (by decide +kernel), ⟨by decide +kernel, by decide +kernel⟩, gtm 546 (by decide +kernel) (by decide +kernel), gts 20 (by decide +kernel) (by decide +kernel)⟩
theorem mw_X4_priceBy : mwI yX4_priceBy cX4_priceBy 9 (some .int) := ⟨gtm 552 (by decide +kernel) (by decide +kernel), gtm 4 (by decide +kernel) (by decide +kernel), ⟨by decide +kernel, by decide +kernel⟩, gtm 550 (by decide +kernel) (by decide +kernel), gtm 551 (by decide +kernel) (by decide +kernel)⟩
theorem mw_X4_priceOfName : mwS yX4_priceOfName cX4_priceOfName 5 (some .int) := ⟨gtm 559 (by decide +kernel) (by decide +kernel), gtm 4 (by decide +kernel) (by decide +kernel), ⟨by decide +kernel, by decide +kernel⟩, gtm 558 (by decide +kernel) (by decide +kernel)⟩
theorem mw_J9_abs_0f7a4 : mwS yJ9_abs_0f7a4 cJ9_abs_0f7a4 1 (some .int) := ⟨gtm 562 (by decide +kernel) (by decide +kernel), gtm 10 (by decide +kernel) (by decide +kernel), ⟨by decide +kernel, by decide +kernel⟩, gtm 561 (by decide +kernel) (by decide +kernel)⟩
theorem mw_X2_pick : mwI yX2_pick cX2_pick 7 none := ⟨gtm 566 (by decide +kernel) (by decide +kernel), gtm 5 (by decide +kernel) (by decide +kernel), ⟨by decide +kernel, by decide +kernel⟩, gtm 565 (by decide +kernel) (by decide +kernel), gts 21 (by decide +kernel) (by decide +kernel)⟩
theorem mw_J9_min_f86c9 : mwS yJ9_min_f86c9 cJ9_min_f86c9 4 (some .long) := ⟨gtm 570 (by decide +kernel) (by decide +kernel), gtm 10 (by decide +kernel) (by decide +kernel), ⟨by decide +kernel, by decide +kernel⟩, gtm 569 (by decide +kernel) (by decide +kernel)⟩
theorem mw_X2_spell : mwI yX2_spell cX2_spell 4 none := ⟨gtm 574 (by decide +kernel) (by decide +kernel), gtm 5 (by decide +kernel) (by decide +kernel), ⟨by decide +kernel, by decide +kernel⟩, gtm 572 (by decide +kernel) (by decide +kernel), gtm 573 (by decide +kernel) (by decide +kernel)⟩
theorem mw_X2_beginBar : mwI yX2_beginBar cX2_beginBar 3 none := ⟨gtm 578 (by decide +kernel) (by decide +kernel), gtm 5 (by decide +kernel) (by decide +kernel), ⟨by decide +kernel, by decide +kernel⟩, gtm 577 (by decide +kernel) (by decide +kernel), gts 22 (by decide +kernel) (by decide +kernel)⟩
theorem mw_X2_print : mwI yX2_print cX2_print 4 none := ⟨gtm 584 (by decide +kernel) (by decide +kernel), gtm 5 (by decide +kernel) (by decide +kernel), ⟨by decide +kernel, by decide +kernel⟩, gtm 583 (by decide +kernel) (by decide +kernel), gts 23 (by decide +kernel) (by decide +kernel)⟩
theorem mw_X7_chord : mwI yX7_chord cX7_chord 3 (some .int) := ⟨gtm 591 (by decide +kernel) (by decide +kernel), gtm 1 (by decide +kernel) (by decide +kernel), ⟨by decide +kernel, by decide +kernel⟩, gtm 589 (by decide +kernel) (by decide +kernel), gtm 590 (by decide +kernel) (by decide +kernel)⟩
theorem mw_X7_whole : mwI yX7_whole cX7_whole 2 (some .int) := ⟨gtm 597 (by decide +kernel) (by decide +kernel), gtm 1 (by decide +kernel) (by decide +kernel), ⟨by decide +kernel, by decide +kernel⟩, gtm 595 (by decide +kernel) (by decide +kernel), gtm 596 (by decide +kernel) (by decide +kernel)⟩
theorem mw_X7_signatureOfHeads : mwI yX7_signatureOfHeads cX7_signatureOfHeads 1 (some .int) := ⟨gtm 601 (by decide +kernel) (by decide +kernel), gtm 1 (by decide +kernel) (by decide +kernel), ⟨by decide +kernel, by decide +kernel⟩, gtm 600 (by decide +kernel) (by decide +kernel), gts 24 (by decide +kernel) (by decide +kernel)⟩
theorem mw_X7_findHeads : mwI yX7_findHeads cX7_findHeads 2 none := ⟨gtm 605 (by decide +kernel) (by decide +kernel), gtm 1 (by decide +kernel) (by decide +kernel), ⟨by decide +kernel, by decide +kernel⟩, gtm 604 (by decide +kernel) (by decide +kernel), gts 25 (by decide +kernel) (by decide +kernel)⟩
theorem mw_X7_costOfHeads : mwI yX7_costOfHeads cX7_costOfHeads 1 (some .int) := ⟨gtm 610 (by decide +kernel) (by decide +kernel), gtm 1 (by decide +kernel) (by decide +kernel), ⟨by decide +kernel, by decide +kernel⟩, gtm 609 (by decide +kernel) (by decide +kernel), gts 26 (by decide +kernel) (by decide +kernel)⟩
theorem mw_X7_cheapestOne : mwI yX7_cheapestOne cX7_cheapestOne 5 (some .int) := ⟨gtm 614 (by decide +kernel) (by decide +kernel), gtm 1 (by decide +kernel) (by decide +kernel), ⟨by decide +kernel, by decide +kernel⟩, gtm 613 (by decide +kernel) (by decide +kernel), gts 27 (by decide +kernel) (by decide +kernel)⟩
theorem mw_X7_costOfOne : mwI yX7_costOfOne cX7_costOfOne 4 (some .int) := ⟨gtm 618 (by decide +kernel) (by decide +kernel), gtm 1 (by decide +kernel) (by decide +kernel), ⟨by decide +kernel, by decide +kernel⟩, gtm 617 (by decide +kernel) (by decide +kernel), gts 28 (by decide +kernel) (by decide +kernel)⟩
theorem mw_X7_price : mwI yX7_price cX7_price 3 (some .int) := ⟨gtm 622 (by decide +kernel) (by decide +kernel), gtm 1 (by decide +kernel) (by decide +kernel), ⟨by decide +kernel, by decide +kernel⟩, gtm 620 (by decide +kernel) (by decide +kernel), gtm 621 (by decide +kernel) (by decide +kernel)⟩
theorem mw_X7_cost : mwI yX7_cost cX7_cost 3 (some .int) := ⟨gtm 626 (by decide +kernel) (by decide +kernel), gtm 1 (by decide +kernel) (by decide +kernel), ⟨by decide +kernel, by decide +kernel⟩, gtm 624 (by decide +kernel) (by decide +kernel), gtm 625 (by decide +kernel) (by decide +kernel)⟩
theorem mw_X7_costOfItems : mwI yX7_costOfItems cX7_costOfItems 7 (some .int) := ⟨gtm 630 (by decide +kernel) (by decide +kernel), gtm 1 (by decide +kernel) (by decide +kernel), ⟨by decide +kernel, by decide +kernel⟩, gtm 629 (by decide +kernel) (by decide +kernel), gts 29 (by decide +kernel) (by decide +kernel)⟩
theorem mw_X5_itemOf : mwI yX5_itemOf cX5_itemOf 3 (some .int) := ⟨gtm 634 (by decide +kernel) (by decide +kernel), gtm 2 (by decide +kernel) (by decide +kernel), ⟨by decide +kernel, by decide +kernel⟩, gtm 632 (by decide +kernel) (by decide +kernel), gtm 633 (by decide +kernel) (by decide +kernel)⟩
theorem mw_X4_priceOfStep : mwI yX4_priceOfStep cX4_priceOfStep 5 (some .int) := ⟨gtm 640 (by decide +kernel) (by decide +kernel), gtm 4 (by decide +kernel) (by decide +kernel), ⟨by decide +kernel, by decide +kernel⟩, gtm 638 (by decide +kernel) (by decide +kernel), gtm 639 (by decide +kernel) (by decide +kernel)⟩
theorem mw_X7_fits : mwI yX7_fits cX7_fits 5 (some .int) := ⟨gtm 644 (by decide +kernel) (by decide +kernel), gtm 1 (by decide +kernel) (by decide +kernel), ⟨by decide +kernel, by decide +kernel⟩, gtm 642 (by decide +kernel) (by decide +kernel), gtm 643 (by decide +kernel) (by decide +kernel)⟩
theorem mw_X7_fittingSignatures : mwI yX7_fittingSignatures cX7_fittingSignatures 5 (some .int) := ⟨gtm 648 (by decide +kernel) (by decide +kernel), gtm 1 (by decide +kernel) (by decide +kernel), ⟨by decide +kernel, by decide +kernel⟩, gtm 647 (by decide +kernel) (by decide +kernel), gts 30 (by decide +kernel) (by decide +kernel)⟩
theorem mw_X7_bitIfLettersFit : mwI yX7_bitIfLettersFit cX7_bitIfLettersFit 5 (some .int) := ⟨gtm 652 (by decide +kernel) (by decide +kernel), gtm 1 (by decide +kernel) (by decide +kernel), ⟨by decide +kernel, by decide +kernel⟩, gtm 651 (by decide +kernel) (by decide +kernel), gts 31 (by decide +kernel) (by decide +kernel)⟩
theorem mw_X7_fittingKinds : mwI yX7_fittingKinds cX7_fittingKinds 6 (some .int) := ⟨gtm 656 (by decide +kernel) (by decide +kernel), gtm 1 (by decide +kernel) (by decide +kernel), ⟨by decide +kernel, by decide +kernel⟩, gtm 655 (by decide +kernel) (by decide +kernel), gts 32 (by decide +kernel) (by decide +kernel)⟩
theorem mw_X7_fittingKeys : mwI yX7_fittingKeys cX7_fittingKeys 6 (some .int) := ⟨gtm 660 (by decide +kernel) (by decide +kernel), gtm 1 (by decide +kernel) (by decide +kernel), ⟨by decide +kernel, by decide +kernel⟩, gtm 659 (by decide +kernel) (by decide +kernel), gts 33 (by decide +kernel) (by decide +kernel)⟩
theorem mw_X7_drawn : mwI yX7_drawn cX7_drawn 5 (some .int) := ⟨gtm 664 (by decide +kernel) (by decide +kernel), gtm 1 (by decide +kernel) (by decide +kernel), ⟨by decide +kernel, by decide +kernel⟩, gtm 662 (by decide +kernel) (by decide +kernel), gtm 663 (by decide +kernel) (by decide +kernel)⟩
theorem mw_X7_drawOnTrial : mwI yX7_drawOnTrial cX7_drawOnTrial 7 (some .int) := ⟨gtm 669 (by decide +kernel) (by decide +kernel), gtm 1 (by decide +kernel) (by decide +kernel), ⟨by decide +kernel, by decide +kernel⟩, gtm 668 (by decide +kernel) (by decide +kernel), gts 34 (by decide +kernel) (by decide +kernel)⟩
theorem mw_X7_image : mwI yX7_image cX7_image 2 (some .int) := ⟨gtm 677 (by decide +kernel) (by decide +kernel), gtm 1 (by decide +kernel) (by decide +kernel), ⟨by decide +kernel, by decide +kernel⟩, gtm 675 (by decide +kernel) (by decide +kernel), gtm 676 (by decide +kernel) (by decide +kernel)⟩
theorem mw_X7_restore : mwI yX7_restore cX7_restore 2 (some .int) := ⟨gtm 681 (by decide +kernel) (by decide +kernel), gtm 1 (by decide +kernel) (by decide +kernel), ⟨by decide +kernel, by decide +kernel⟩, gtm 679 (by decide +kernel) (by decide +kernel), gtm 680 (by decide +kernel) (by decide +kernel)⟩
theorem mw_X7_kind : mwI yX7_kind cX7_kind 2 (some .int) := ⟨gtm 685 (by decide +kernel) (by decide +kernel), gtm 1 (by decide +kernel) (by decide +kernel), ⟨by decide +kernel, by decide +kernel⟩, gtm 683 (by decide +kernel) (by decide +kernel), gtm 684 (by decide +kernel) (by decide +kernel)⟩
theorem mw_X7_as : mwI yX7_as cX7_as 3 (some .int) := ⟨gtm 689 (by decide +kernel) (by decide +kernel), gtm 1 (by decide +kernel) (by decide +kernel), ⟨by decide +kernel, by decide +kernel⟩, gtm 687 (by decide +kernel) (by decide +kernel), gtm 688 (by decide +kernel) (by decide +kernel)⟩
theorem mw_X1_isOne : mwS yX1_isOne cX1_isOne 2 (some .boolean) := ⟨gtm 692 (by decide +kernel) (by decide +kernel), gtm 7 (by decide +kernel) (by decide +kernel), ⟨by decide +kernel, by decide +kernel⟩, gtm 691 (by decide +kernel) (by decide +kernel)⟩
theorem mw_X7_ask : mwI yX7_ask cX7_ask 3 (some .int) := ⟨gtm 698 (by decide +kernel) (by decide +kernel), gtm 1 (by decide +kernel) (by decide +kernel), ⟨by decide +kernel, by decide +kernel⟩, gtm 696 (by decide +kernel) (by decide +kernel), gtm 697 (by decide +kernel) (by decide +kernel)⟩
theorem mw_X1_begin : mwI yX1_begin cX1_begin 6 (some .int) := ⟨gtm 702 (by decide +kernel) (by decide +kernel), gtm 7 (by decide +kernel) (by decide +kernel), ⟨by decide +kernel, by decide +kernel⟩, gtm 700 (by decide +kernel) (by decide +kernel), gtm 701 (by decide +kernel) (by decide +kernel)⟩
theorem mw_X1_run : mwI yX1_run cX1_run 4 (some .int) := ⟨gtm 710 (by decide +kernel) (by decide +kernel), gtm 7 (by decide +kernel) (by decide +kernel), ⟨by decide +kernel, by decide +kernel⟩, gtm 709 (by decide +kernel) (by decide +kernel), gts 35 (by decide +kernel) (by decide +kernel)⟩
theorem mw_X1_leave : mwI yX1_leave cX1_leave 2 none := ⟨gtm 714 (by decide +kernel) (by decide +kernel), gtm 7 (by decide +kernel) (by decide +kernel), ⟨by decide +kernel, by decide +kernel⟩, gtm 713 (by decide +kernel) (by decide +kernel), gts 36 (by decide +kernel) (by decide +kernel)⟩
theorem mw_X7_trace : mwI yX7_trace cX7_trace 2 (some .int) := ⟨gtm 718 (by decide +kernel) (by decide +kernel), gtm 1 (by decide +kernel) (by decide +kernel), ⟨by decide +kernel, by decide +kernel⟩, gtm 716 (by decide +kernel) (by decide +kernel), gtm 717 (by decide +kernel) (by decide +kernel)⟩
theorem mw_X7_count : mwI yX7_count cX7_count 2 (some .int) := ⟨gtm 722 (by decide +kernel) (by decide +kernel), gtm 1 (by decide +kernel) (by decide +kernel), ⟨by decide +kernel, by decide +kernel⟩, gtm 720 (by decide +kernel) (by decide +kernel), gtm 721 (by decide +kernel) (by decide +kernel)⟩
theorem mw_X5_howMany : mwI yX5_howMany cX5_howMany 3 (some .int) := ⟨gtm 726 (by decide +kernel) (by decide +kernel), gtm 2 (by decide +kernel) (by decide +kernel), ⟨by decide +kernel, by decide +kernel⟩, gtm 724 (by decide +kernel) (by decide +kernel), gtm 725 (by decide +kernel) (by decide +kernel)⟩
theorem mw_X7_status : mwI yX7_status cX7_status 1 (some .int) := ⟨gtm 730 (by decide +kernel) (by decide +kernel), gtm 1 (by decide +kernel) (by decide +kernel), ⟨by decide +kernel, by decide +kernel⟩, gtm 728 (by decide +kernel) (by decide +kernel), gtm 729 (by decide +kernel) (by decide +kernel)⟩
theorem mw_X8_row : mwI yX8_row cX8_row 5 (some .int) := ⟨gtm 827 (by decide +kernel) (by decide +kernel), gtm 8 (by decide +kernel) (by decide +kernel), ⟨by decide +kernel, by decide +kernel⟩, gtm 825 (by decide +kernel) (by decide +kernel), gtm 826 (by decide +kernel) (by decide +kernel)⟩
theorem mw_X8_isRow : mwS yX8_isRow cX8_isRow 1 (some .boolean) := ⟨gtm 830 (by decide +kernel) (by decide +kernel), gtm 8 (by decide +kernel) (by decide +kernel), ⟨by decide +kernel, by decide +kernel⟩, gtm 829 (by decide +kernel) (by decide +kernel)⟩
theorem mw_X8_in : mwS yX8_in cX8_in 3 (some .boolean) := ⟨gtm 833 (by decide +kernel) (by decide +kernel), gtm 8 (by decide +kernel) (by decide +kernel), ⟨by decide +kernel, by decide +kernel⟩, gtm 832 (by decide +kernel) (by decide +kernel)⟩
theorem mw_X8_found : mwI yX8_found cX8_found 2 (some .int) := ⟨gtm 838 (by decide +kernel) (by decide +kernel), gtm 8 (by decide +kernel) (by decide +kernel), ⟨by decide +kernel, by decide +kernel⟩, gtm 837 (by decide +kernel) (by decide +kernel), gts 37 (by decide +kernel) (by decide +kernel)⟩
theorem mw_X8_well : mwI yX8_well cX8_well 2 (some .int) := ⟨gtm 843 (by decide +kernel) (by decide +kernel), gtm 8 (by decide +kernel) (by decide +kernel), ⟨by decide +kernel, by decide +kernel⟩, gtm 842 (by decide +kernel) (by decide +kernel), gts 38 (by decide +kernel) (by decide +kernel)⟩
theorem mw_X8_set : mwI yX8_set cX8_set 4 (some .int) := ⟨gtm 847 (by decide +kernel) (by decide +kernel), gtm 8 (by decide +kernel) (by decide +kernel), ⟨by decide +kernel, by decide +kernel⟩, gtm 845 (by decide +kernel) (by decide +kernel), gtm 846 (by decide +kernel) (by decide +kernel)⟩
theorem mw_X8_isMissing : mwI yX8_isMissing cX8_isMissing 2 (some .boolean) := ⟨gtm 851 (by decide +kernel) (by decide +kernel), gtm 8 (by decide +kernel) (by decide +kernel), ⟨by decide +kernel, by decide +kernel⟩, gtm 850 (by decide +kernel) (by decide +kernel), gts 39 (by decide +kernel) (by decide +kernel)⟩
theorem mw_X8_lowest : mwS yX8_lowest cX8_lowest 2 (some .int) := ⟨gtm 854 (by decide +kernel) (by decide +kernel), gtm 8 (by decide +kernel) (by decide +kernel), ⟨by decide +kernel, by decide +kernel⟩, gtm 853 (by decide +kernel) (by decide +kernel)⟩
theorem mw_X8_copy : mwI yX8_copy cX8_copy 7 (some .int) := ⟨gtm 858 (by decide +kernel) (by decide +kernel), gtm 8 (by decide +kernel) (by decide +kernel), ⟨by decide +kernel, by decide +kernel⟩, gtm 856 (by decide +kernel) (by decide +kernel), gtm 857 (by decide +kernel) (by decide +kernel)⟩
theorem mw_X8_isPart : mwI yX8_isPart cX8_isPart 4 (some .boolean) := ⟨gtm 862 (by decide +kernel) (by decide +kernel), gtm 8 (by decide +kernel) (by decide +kernel), ⟨by decide +kernel, by decide +kernel⟩, gtm 861 (by decide +kernel) (by decide +kernel), gts 40 (by decide +kernel) (by decide +kernel)⟩
theorem mw_X8_drop : mwI yX8_drop cX8_drop 2 (some .int) := ⟨gtm 866 (by decide +kernel) (by decide +kernel), gtm 8 (by decide +kernel) (by decide +kernel), ⟨by decide +kernel, by decide +kernel⟩, gtm 864 (by decide +kernel) (by decide +kernel), gtm 865 (by decide +kernel) (by decide +kernel)⟩
theorem mw_X8_feed : mwI yX8_feed cX8_feed 2 (some .int) := ⟨gtm 870 (by decide +kernel) (by decide +kernel), gtm 8 (by decide +kernel) (by decide +kernel), ⟨by decide +kernel, by decide +kernel⟩, gtm 868 (by decide +kernel) (by decide +kernel), gtm 869 (by decide +kernel) (by decide +kernel)⟩
theorem mw_X8_piece : mwI yX8_piece cX8_piece 4 (some .int) := ⟨gtm 875 (by decide +kernel) (by decide +kernel), gtm 8 (by decide +kernel) (by decide +kernel), ⟨by decide +kernel, by decide +kernel⟩, gtm 873 (by decide +kernel) (by decide +kernel), gtm 874 (by decide +kernel) (by decide +kernel)⟩
theorem mw_X8_advances : mwI yX8_advances cX8_advances 2 none := ⟨gtm 879 (by decide +kernel) (by decide +kernel), gtm 8 (by decide +kernel) (by decide +kernel), ⟨by decide +kernel, by decide +kernel⟩, gtm 878 (by decide +kernel) (by decide +kernel), gts 41 (by decide +kernel) (by decide +kernel)⟩
theorem mw_X8_byteAt : mwI yX8_byteAt cX8_byteAt 2 (some .int) := ⟨gtm 883 (by decide +kernel) (by decide +kernel), gtm 8 (by decide +kernel) (by decide +kernel), ⟨by decide +kernel, by decide +kernel⟩, gtm 882 (by decide +kernel) (by decide +kernel), gts 42 (by decide +kernel) (by decide +kernel)⟩
theorem mw_X8_takes : mwI yX8_takes cX8_takes 4 (some .int) := ⟨gtm 887 (by decide +kernel) (by decide +kernel), gtm 8 (by decide +kernel) (by decide +kernel), ⟨by decide +kernel, by decide +kernel⟩, gtm 886 (by decide +kernel) (by decide +kernel), gts 43 (by decide +kernel) (by decide +kernel)⟩
theorem mw_X8_isWell : mwI yX8_isWell cX8_isWell 1 (some .boolean) := ⟨gtm 891 (by decide +kernel) (by decide +kernel), gtm 8 (by decide +kernel) (by decide +kernel), ⟨by decide +kernel, by decide +kernel⟩, gtm 890 (by decide +kernel) (by decide +kernel), gts 44 (by decide +kernel) (by decide +kernel)⟩
theorem mw_X8_figure : mwI yX8_figure cX8_figure 3 (some .int) := ⟨gtm 895 (by decide +kernel) (by decide +kernel), gtm 8 (by decide +kernel) (by decide +kernel), ⟨by decide +kernel, by decide +kernel⟩, gtm 894 (by decide +kernel) (by decide +kernel), gts 45 (by decide +kernel) (by decide +kernel)⟩
theorem mw_X8_readsChord : mwI yX8_readsChord cX8_readsChord 8 none := ⟨gtm 899 (by decide +kernel) (by decide +kernel), gtm 8 (by decide +kernel) (by decide +kernel), ⟨by decide +kernel, by decide +kernel⟩, gtm 898 (by decide +kernel) (by decide +kernel), gts 46 (by decide +kernel) (by decide +kernel)⟩
theorem mw_X8_kindOf : mwS yX8_kindOf cX8_kindOf 1 (some .int) := ⟨gtm 902 (by decide +kernel) (by decide +kernel), gtm 8 (by decide +kernel) (by decide +kernel), ⟨by decide +kernel, by decide +kernel⟩, gtm 901 (by decide +kernel) (by decide +kernel)⟩
theorem mw_X8_marks : mwI yX8_marks cX8_marks 3 (some .boolean) := ⟨gtm 906 (by decide +kernel) (by decide +kernel), gtm 8 (by decide +kernel) (by decide +kernel), ⟨by decide +kernel, by decide +kernel⟩, gtm 905 (by decide +kernel) (by decide +kernel), gts 47 (by decide +kernel) (by decide +kernel)⟩
theorem mw_X8_isLetter : mwI yX8_isLetter cX8_isLetter 2 (some .boolean) := ⟨gtm 910 (by decide +kernel) (by decide +kernel), gtm 8 (by decide +kernel) (by decide +kernel), ⟨by decide +kernel, by decide +kernel⟩, gtm 909 (by decide +kernel) (by decide +kernel), gts 48 (by decide +kernel) (by decide +kernel)⟩
theorem mw_X8_copies : mwS yX8_copies cX8_copies 5 none := ⟨gtm 914 (by decide +kernel) (by decide +kernel), gtm 8 (by decide +kernel) (by decide +kernel), ⟨by decide +kernel, by decide +kernel⟩, gtm 913 (by decide +kernel) (by decide +kernel)⟩
theorem mw_X8_fault : mwI yX8_fault cX8_fault 1 (some .int) := ⟨gtm 918 (by decide +kernel) (by decide +kernel), gtm 8 (by decide +kernel) (by decide +kernel), ⟨by decide +kernel, by decide +kernel⟩, gtm 916 (by decide +kernel) (by decide +kernel), gtm 917 (by decide +kernel) (by decide +kernel)⟩
theorem mw_X8_key : mwI yX8_key cX8_key 4 (some .int) := ⟨gtm 922 (by decide +kernel) (by decide +kernel), gtm 8 (by decide +kernel) (by decide +kernel), ⟨by decide +kernel, by decide +kernel⟩, gtm 920 (by decide +kernel) (by decide +kernel), gtm 921 (by decide +kernel) (by decide +kernel)⟩
theorem mw_X8_isNote : mwI yX8_isNote cX8_isNote 2 (some .boolean) := ⟨gtm 926 (by decide +kernel) (by decide +kernel), gtm 8 (by decide +kernel) (by decide +kernel), ⟨by decide +kernel, by decide +kernel⟩, gtm 925 (by decide +kernel) (by decide +kernel), gts 49 (by decide +kernel) (by decide +kernel)⟩
theorem mw_X8_notes : mwI yX8_notes cX8_notes 2 none := ⟨gtm 931 (by decide +kernel) (by decide +kernel), gtm 8 (by decide +kernel) (by decide +kernel), ⟨by decide +kernel, by decide +kernel⟩, gtm 930 (by decide +kernel) (by decide +kernel), gts 50 (by decide +kernel) (by decide +kernel)⟩
theorem mw_X8_become : mwI yX8_become cX8_become 4 (some .int) := ⟨gtm 935 (by decide +kernel) (by decide +kernel), gtm 8 (by decide +kernel) (by decide +kernel), ⟨by decide +kernel, by decide +kernel⟩, gtm 933 (by decide +kernel) (by decide +kernel), gtm 934 (by decide +kernel) (by decide +kernel)⟩
theorem mw_X8_isChord : mwI yX8_isChord cX8_isChord 2 (some .boolean) := ⟨gtm 939 (by decide +kernel) (by decide +kernel), gtm 8 (by decide +kernel) (by decide +kernel), ⟨by decide +kernel, by decide +kernel⟩, gtm 938 (by decide +kernel) (by decide +kernel), gts 51 (by decide +kernel) (by decide +kernel)⟩
theorem mw_X8_sign : mwI yX8_sign cX8_sign 3 (some .int) := ⟨gtm 943 (by decide +kernel) (by decide +kernel), gtm 8 (by decide +kernel) (by decide +kernel), ⟨by decide +kernel, by decide +kernel⟩, gtm 941 (by decide +kernel) (by decide +kernel), gtm 942 (by decide +kernel) (by decide +kernel)⟩
theorem mw_X8_isPiece : mwI yX8_isPiece cX8_isPiece 1 (some .boolean) := ⟨gtm 947 (by decide +kernel) (by decide +kernel), gtm 8 (by decide +kernel) (by decide +kernel), ⟨by decide +kernel, by decide +kernel⟩, gtm 946 (by decide +kernel) (by decide +kernel), gts 52 (by decide +kernel) (by decide +kernel)⟩
theorem mw_X8_shift : mwI yX8_shift cX8_shift 3 (some .int) := ⟨gtm 951 (by decide +kernel) (by decide +kernel), gtm 8 (by decide +kernel) (by decide +kernel), ⟨by decide +kernel, by decide +kernel⟩, gtm 949 (by decide +kernel) (by decide +kernel), gtm 950 (by decide +kernel) (by decide +kernel)⟩
theorem mw_X8_over : mwS yX8_over cX8_over 3 (some .int) := ⟨gtm 954 (by decide +kernel) (by decide +kernel), gtm 8 (by decide +kernel) (by decide +kernel), ⟨by decide +kernel, by decide +kernel⟩, gtm 953 (by decide +kernel) (by decide +kernel)⟩
theorem mw_X8_undo : mwI yX8_undo cX8_undo 1 (some .int) := ⟨gtm 958 (by decide +kernel) (by decide +kernel), gtm 8 (by decide +kernel) (by decide +kernel), ⟨by decide +kernel, by decide +kernel⟩, gtm 956 (by decide +kernel) (by decide +kernel), gtm 957 (by decide +kernel) (by decide +kernel)⟩
theorem mw_X8_place : mwI yX8_place cX8_place 3 (some .int) := ⟨gtm 962 (by decide +kernel) (by decide +kernel), gtm 8 (by decide +kernel) (by decide +kernel), ⟨by decide +kernel, by decide +kernel⟩, gtm 960 (by decide +kernel) (by decide +kernel), gtm 961 (by decide +kernel) (by decide +kernel)⟩
theorem mw_X8_letterOf : mwS yX8_letterOf cX8_letterOf 1 (some .int) := ⟨gtm 965 (by decide +kernel) (by decide +kernel), gtm 8 (by decide +kernel) (by decide +kernel), ⟨by decide +kernel, by decide +kernel⟩, gtm 964 (by decide +kernel) (by decide +kernel)⟩
theorem mw_X8_alterOf : mwS yX8_alterOf cX8_alterOf 1 (some .int) := ⟨gtm 968 (by decide +kernel) (by decide +kernel), gtm 8 (by decide +kernel) (by decide +kernel), ⟨by decide +kernel, by decide +kernel⟩, gtm 967 (by decide +kernel) (by decide +kernel)⟩
theorem mw_X8_keyOf : mwS yX8_keyOf cX8_keyOf 1 (some .int) := ⟨gtm 971 (by decide +kernel) (by decide +kernel), gtm 8 (by decide +kernel) (by decide +kernel), ⟨by decide +kernel, by decide +kernel⟩, gtm 970 (by decide +kernel) (by decide +kernel)⟩
theorem mw_X8_inWindow : mwI yX8_inWindow cX8_inWindow 3 (some .int) := ⟨gtm 975 (by decide +kernel) (by decide +kernel), gtm 8 (by decide +kernel) (by decide +kernel), ⟨by decide +kernel, by decide +kernel⟩, gtm 973 (by decide +kernel) (by decide +kernel), gtm 974 (by decide +kernel) (by decide +kernel)⟩
theorem mw_X8_isWindow : mwS yX8_isWindow cX8_isWindow 1 (some .boolean) := ⟨gtm 978 (by decide +kernel) (by decide +kernel), gtm 8 (by decide +kernel) (by decide +kernel), ⟨by decide +kernel, by decide +kernel⟩, gtm 977 (by decide +kernel) (by decide +kernel)⟩
theorem mw_X8_nameOf : mwS yX8_nameOf cX8_nameOf 3 (some .int) := ⟨gtm 981 (by decide +kernel) (by decide +kernel), gtm 8 (by decide +kernel) (by decide +kernel), ⟨by decide +kernel, by decide +kernel⟩, gtm 980 (by decide +kernel) (by decide +kernel)⟩
theorem mw_X8_head : mwI yX8_head cX8_head 2 (some .int) := ⟨gtm 985 (by decide +kernel) (by decide +kernel), gtm 8 (by decide +kernel) (by decide +kernel), ⟨by decide +kernel, by decide +kernel⟩, gtm 983 (by decide +kernel) (by decide +kernel), gtm 984 (by decide +kernel) (by decide +kernel)⟩
theorem mw_X8_headOf : mwS yX8_headOf cX8_headOf 3 (some .int) := ⟨gtm 988 (by decide +kernel) (by decide +kernel), gtm 8 (by decide +kernel) (by decide +kernel), ⟨by decide +kernel, by decide +kernel⟩, gtm 987 (by decide +kernel) (by decide +kernel)⟩
theorem mw_X8_note : mwI yX8_note cX8_note 5 (some .int) := ⟨gtm 992 (by decide +kernel) (by decide +kernel), gtm 8 (by decide +kernel) (by decide +kernel), ⟨by decide +kernel, by decide +kernel⟩, gtm 990 (by decide +kernel) (by decide +kernel), gtm 991 (by decide +kernel) (by decide +kernel)⟩
theorem mw_X8_chordOf : mwI yX8_chordOf cX8_chordOf 3 (some .int) := ⟨gtm 996 (by decide +kernel) (by decide +kernel), gtm 8 (by decide +kernel) (by decide +kernel), ⟨by decide +kernel, by decide +kernel⟩, gtm 995 (by decide +kernel) (by decide +kernel), gts 53 (by decide +kernel) (by decide +kernel)⟩
theorem mw_X8_prints : mwI yX8_prints cX8_prints 8 (some .int) := ⟨gtm 1000 (by decide +kernel) (by decide +kernel), gtm 8 (by decide +kernel) (by decide +kernel), ⟨by decide +kernel, by decide +kernel⟩, gtm 999 (by decide +kernel) (by decide +kernel), gts 54 (by decide +kernel) (by decide +kernel)⟩
theorem mw_X8_finds : mwI yX8_finds cX8_finds 6 none := ⟨gtm 1004 (by decide +kernel) (by decide +kernel), gtm 8 (by decide +kernel) (by decide +kernel), ⟨by decide +kernel, by decide +kernel⟩, gtm 1003 (by decide +kernel) (by decide +kernel), gts 55 (by decide +kernel) (by decide +kernel)⟩
theorem mw_X8_reckons : mwI yX8_reckons cX8_reckons 9 none := ⟨gtm 1008 (by decide +kernel) (by decide +kernel), gtm 8 (by decide +kernel) (by decide +kernel), ⟨by decide +kernel, by decide +kernel⟩, gtm 1007 (by decide +kernel) (by decide +kernel), gts 56 (by decide +kernel) (by decide +kernel)⟩
theorem mw_X8_moveTo : mwS yX8_moveTo cX8_moveTo 5 (some .int) := ⟨gtm 1011 (by decide +kernel) (by decide +kernel), gtm 8 (by decide +kernel) (by decide +kernel), ⟨by decide +kernel, by decide +kernel⟩, gtm 1010 (by decide +kernel) (by decide +kernel)⟩
theorem mw_X8_size : mwS yX8_size cX8_size 1 (some .int) := ⟨gtm 1014 (by decide +kernel) (by decide +kernel), gtm 8 (by decide +kernel) (by decide +kernel), ⟨by decide +kernel, by decide +kernel⟩, gtm 1013 (by decide +kernel) (by decide +kernel)⟩
theorem mw_X8_isHeld : mwS yX8_isHeld cX8_isHeld 2 (some .boolean) := ⟨gtm 1017 (by decide +kernel) (by decide +kernel), gtm 8 (by decide +kernel) (by decide +kernel), ⟨by decide +kernel, by decide +kernel⟩, gtm 1016 (by decide +kernel) (by decide +kernel)⟩
theorem mw_X8_priceOf : mwS yX8_priceOf cX8_priceOf 8 (some .int) := ⟨gtm 1021 (by decide +kernel) (by decide +kernel), gtm 8 (by decide +kernel) (by decide +kernel), ⟨by decide +kernel, by decide +kernel⟩, gtm 1020 (by decide +kernel) (by decide +kernel)⟩
theorem mw_X8_nameIn : mwS yX8_nameIn cX8_nameIn 4 (some .int) := ⟨gtm 1024 (by decide +kernel) (by decide +kernel), gtm 8 (by decide +kernel) (by decide +kernel), ⟨by decide +kernel, by decide +kernel⟩, gtm 1023 (by decide +kernel) (by decide +kernel)⟩
theorem mw_X8_priceOfName : mwS yX8_priceOfName cX8_priceOfName 7 (some .int) := ⟨gtm 1027 (by decide +kernel) (by decide +kernel), gtm 8 (by decide +kernel) (by decide +kernel), ⟨by decide +kernel, by decide +kernel⟩, gtm 1026 (by decide +kernel) (by decide +kernel)⟩
theorem mw_X8_chord : mwI yX8_chord cX8_chord 3 (some .int) := ⟨gtm 1031 (by decide +kernel) (by decide +kernel), gtm 8 (by decide +kernel) (by decide +kernel), ⟨by decide +kernel, by decide +kernel⟩, gtm 1029 (by decide +kernel) (by decide +kernel), gtm 1030 (by decide +kernel) (by decide +kernel)⟩
theorem mw_X8_windowOf : mwI yX8_windowOf cX8_windowOf 2 (some .int) := ⟨gtm 1035 (by decide +kernel) (by decide +kernel), gtm 8 (by decide +kernel) (by decide +kernel), ⟨by decide +kernel, by decide +kernel⟩, gtm 1034 (by decide +kernel) (by decide +kernel), gts 57 (by decide +kernel) (by decide +kernel)⟩
theorem mw_X8_whole : mwI yX8_whole cX8_whole 2 (some .int) := ⟨gtm 1039 (by decide +kernel) (by decide +kernel), gtm 8 (by decide +kernel) (by decide +kernel), ⟨by decide +kernel, by decide +kernel⟩, gtm 1037 (by decide +kernel) (by decide +kernel), gtm 1038 (by decide +kernel) (by decide +kernel)⟩
theorem mw_X8_allWays : mwI yX8_allWays cX8_allWays 3 (some .int) := ⟨gtm 1043 (by decide +kernel) (by decide +kernel), gtm 8 (by decide +kernel) (by decide +kernel), ⟨by decide +kernel, by decide +kernel⟩, gtm 1042 (by decide +kernel) (by decide +kernel), gts 58 (by decide +kernel) (by decide +kernel)⟩
theorem mw_X8_bestHeads : mwI yX8_bestHeads cX8_bestHeads 5 (some .int) := ⟨gtm 1047 (by decide +kernel) (by decide +kernel), gtm 8 (by decide +kernel) (by decide +kernel), ⟨by decide +kernel, by decide +kernel⟩, gtm 1046 (by decide +kernel) (by decide +kernel), gts 59 (by decide +kernel) (by decide +kernel)⟩
theorem mw_X8_costBy : mwI yX8_costBy cX8_costBy 2 (some .int) := ⟨gtm 1051 (by decide +kernel) (by decide +kernel), gtm 8 (by decide +kernel) (by decide +kernel), ⟨by decide +kernel, by decide +kernel⟩, gtm 1050 (by decide +kernel) (by decide +kernel), gts 60 (by decide +kernel) (by decide +kernel)⟩
theorem mw_X8_plainWindow : mwI yX8_plainWindow cX8_plainWindow 3 (some .int) := ⟨gtm 1055 (by decide +kernel) (by decide +kernel), gtm 8 (by decide +kernel) (by decide +kernel), ⟨by decide +kernel, by decide +kernel⟩, gtm 1054 (by decide +kernel) (by decide +kernel), gts 61 (by decide +kernel) (by decide +kernel)⟩
theorem mw_X8_plainCost : mwI yX8_plainCost cX8_plainCost 4 (some .int) := ⟨gtm 1059 (by decide +kernel) (by decide +kernel), gtm 8 (by decide +kernel) (by decide +kernel), ⟨by decide +kernel, by decide +kernel⟩, gtm 1058 (by decide +kernel) (by decide +kernel), gts 62 (by decide +kernel) (by decide +kernel)⟩
theorem mw_X8_price : mwI yX8_price cX8_price 3 (some .int) := ⟨gtm 1063 (by decide +kernel) (by decide +kernel), gtm 8 (by decide +kernel) (by decide +kernel), ⟨by decide +kernel, by decide +kernel⟩, gtm 1061 (by decide +kernel) (by decide +kernel), gtm 1062 (by decide +kernel) (by decide +kernel)⟩
theorem mw_X8_cost : mwI yX8_cost cX8_cost 8 (some .int) := ⟨gtm 1067 (by decide +kernel) (by decide +kernel), gtm 8 (by decide +kernel) (by decide +kernel), ⟨by decide +kernel, by decide +kernel⟩, gtm 1065 (by decide +kernel) (by decide +kernel), gtm 1066 (by decide +kernel) (by decide +kernel)⟩
theorem mw_X8_fits : mwI yX8_fits cX8_fits 8 (some .int) := ⟨gtm 1071 (by decide +kernel) (by decide +kernel), gtm 8 (by decide +kernel) (by decide +kernel), ⟨by decide +kernel, by decide +kernel⟩, gtm 1069 (by decide +kernel) (by decide +kernel), gtm 1070 (by decide +kernel) (by decide +kernel)⟩
theorem mw_X8_isRead : mwI yX8_isRead cX8_isRead 7 (some .boolean) := ⟨gtm 1075 (by decide +kernel) (by decide +kernel), gtm 8 (by decide +kernel) (by decide +kernel), ⟨by decide +kernel, by decide +kernel⟩, gtm 1074 (by decide +kernel) (by decide +kernel), gts 63 (by decide +kernel) (by decide +kernel)⟩
theorem mw_X8_drawn : mwI yX8_drawn cX8_drawn 8 (some .int) := ⟨gtm 1079 (by decide +kernel) (by decide +kernel), gtm 8 (by decide +kernel) (by decide +kernel), ⟨by decide +kernel, by decide +kernel⟩, gtm 1077 (by decide +kernel) (by decide +kernel), gtm 1078 (by decide +kernel) (by decide +kernel)⟩
theorem mw_X8_image : mwI yX8_image cX8_image 2 (some .int) := ⟨gtm 1088 (by decide +kernel) (by decide +kernel), gtm 8 (by decide +kernel) (by decide +kernel), ⟨by decide +kernel, by decide +kernel⟩, gtm 1086 (by decide +kernel) (by decide +kernel), gtm 1087 (by decide +kernel) (by decide +kernel)⟩
theorem mw_X8_restore : mwI yX8_restore cX8_restore 2 (some .int) := ⟨gtm 1092 (by decide +kernel) (by decide +kernel), gtm 8 (by decide +kernel) (by decide +kernel), ⟨by decide +kernel, by decide +kernel⟩, gtm 1090 (by decide +kernel) (by decide +kernel), gtm 1091 (by decide +kernel) (by decide +kernel)⟩
theorem mw_X8_kind : mwI yX8_kind cX8_kind 2 (some .int) := ⟨gtm 1096 (by decide +kernel) (by decide +kernel), gtm 8 (by decide +kernel) (by decide +kernel), ⟨by decide +kernel, by decide +kernel⟩, gtm 1094 (by decide +kernel) (by decide +kernel), gtm 1095 (by decide +kernel) (by decide +kernel)⟩
theorem mw_X8_kindIn : mwI yX8_kindIn cX8_kindIn 2 (some .int) := ⟨gtm 1100 (by decide +kernel) (by decide +kernel), gtm 8 (by decide +kernel) (by decide +kernel), ⟨by decide +kernel, by decide +kernel⟩, gtm 1099 (by decide +kernel) (by decide +kernel), gts 64 (by decide +kernel) (by decide +kernel)⟩
theorem mw_X8_as : mwI yX8_as cX8_as 5 (some .int) := ⟨gtm 1104 (by decide +kernel) (by decide +kernel), gtm 8 (by decide +kernel) (by decide +kernel), ⟨by decide +kernel, by decide +kernel⟩, gtm 1102 (by decide +kernel) (by decide +kernel), gtm 1103 (by decide +kernel) (by decide +kernel)⟩
theorem mw_X8_ask : mwI yX8_ask cX8_ask 4 (some .int) := ⟨gtm 1108 (by decide +kernel) (by decide +kernel), gtm 8 (by decide +kernel) (by decide +kernel), ⟨by decide +kernel, by decide +kernel⟩, gtm 1106 (by decide +kernel) (by decide +kernel), gtm 1107 (by decide +kernel) (by decide +kernel)⟩
theorem mw_X8_heldSize : mwI yX8_heldSize cX8_heldSize 4 (some .int) := ⟨gtm 1112 (by decide +kernel) (by decide +kernel), gtm 8 (by decide +kernel) (by decide +kernel), ⟨by decide +kernel, by decide +kernel⟩, gtm 1111 (by decide +kernel) (by decide +kernel), gts 65 (by decide +kernel) (by decide +kernel)⟩
theorem mw_X8_begins : mwI yX8_begins cX8_begins 2 none := ⟨gtm 1116 (by decide +kernel) (by decide +kernel), gtm 8 (by decide +kernel) (by decide +kernel), ⟨by decide +kernel, by decide +kernel⟩, gtm 1115 (by decide +kernel) (by decide +kernel), gts 66 (by decide +kernel) (by decide +kernel)⟩
theorem mw_X8_plainSize : mwI yX8_plainSize cX8_plainSize 4 (some .int) := ⟨gtm 1120 (by decide +kernel) (by decide +kernel), gtm 8 (by decide +kernel) (by decide +kernel), ⟨by decide +kernel, by decide +kernel⟩, gtm 1119 (by decide +kernel) (by decide +kernel), gts 67 (by decide +kernel) (by decide +kernel)⟩
theorem mw_X8_plainMark : mwI yX8_plainMark cX8_plainMark 4 (some .int) := ⟨gtm 1124 (by decide +kernel) (by decide +kernel), gtm 8 (by decide +kernel) (by decide +kernel), ⟨by decide +kernel, by decide +kernel⟩, gtm 1123 (by decide +kernel) (by decide +kernel), gts 68 (by decide +kernel) (by decide +kernel)⟩
theorem mw_X8_heldMark : mwI yX8_heldMark cX8_heldMark 2 (some .int) := ⟨gtm 1128 (by decide +kernel) (by decide +kernel), gtm 8 (by decide +kernel) (by decide +kernel), ⟨by decide +kernel, by decide +kernel⟩, gtm 1127 (by decide +kernel) (by decide +kernel), gts 69 (by decide +kernel) (by decide +kernel)⟩
theorem mw_X8_trace : mwI yX8_trace cX8_trace 2 (some .int) := ⟨gtm 1132 (by decide +kernel) (by decide +kernel), gtm 8 (by decide +kernel) (by decide +kernel), ⟨by decide +kernel, by decide +kernel⟩, gtm 1130 (by decide +kernel) (by decide +kernel), gtm 1131 (by decide +kernel) (by decide +kernel)⟩
theorem mw_X8_count : mwI yX8_count cX8_count 4 (some .int) := ⟨gtm 1136 (by decide +kernel) (by decide +kernel), gtm 8 (by decide +kernel) (by decide +kernel), ⟨by decide +kernel, by decide +kernel⟩, gtm 1134 (by decide +kernel) (by decide +kernel), gtm 1135 (by decide +kernel) (by decide +kernel)⟩
theorem mw_X8_status : mwI yX8_status cX8_status 1 (some .int) := ⟨gtm 1140 (by decide +kernel) (by decide +kernel), gtm 8 (by decide +kernel) (by decide +kernel), ⟨by decide +kernel, by decide +kernel⟩, gtm 1138 (by decide +kernel) (by decide +kernel), gtm 1139 (by decide +kernel) (by decide +kernel)⟩
theorem mvS {l : Launch} {n : Nat} {own : String} {i na lv : Nat} {S : MSpec} {y : MethodName} {bc : ByteArray} {mL : Nat} {rt : Option FieldType} (hw : mwS y bc mL rt) (hn : lv + 1 ≤ n) (hm : mL ≤ 41) (hp : (parseMethodDescriptor y.desc).map (fun d => d.parameters.length) = some na) (hl : Cond.methodLink own i y ∈ gtb ∨ (own = RX6 ∧ ((i = 76 ∧ y = yX7_isSignature) ∨ (i = 99 ∧ y = yX7_isKey)))) (ok : ∀ l n, lv ≤ n → ∀ a σ Q, S a σ Q → AM l n y bc mL rt a σ Q) : mV l (rmOf n) own i (na, false, S) := by
  obtain ⟨w1, w2, w3, w4⟩ := hw
  refine ⟨n - 1, y, bc, mL, rt, ?_, ?_, w1, w2, w3, Or.inr ⟨rfl, hp, w4, hl, fun a σ Q h => ok l (n - 1) (by omega) a σ Q h⟩⟩
  · show n - 1 + 1 + 1 ≤ n + 1
    omega
  · show 8 + (mL + 11) + 60 * (n - 1 + 1) ≤ 60 * (n + 1)
    omega
theorem mvI {l : Launch} {n : Nat} {own : String} {i na lv ci : Nat} {T : u_T} {N : Nat} {S : MSpec} {y : MethodName} {bc : ByteArray} {mL : Nat} {rt : Option FieldType} (hw : mwI y bc mL rt) (hc : vwCl[ci]? = some (y.cls, T, N)) (hn : lv + 1 ≤ n) (hm : mL ≤ 41) (hp : (parseMethodDescriptor y.desc).map (fun d => d.parameters.length + 1) = some na) (hl : Cond.methodLink own i y ∈ gtb) (hr : ∀ a σ Q, S a σ Q → ∃ (p : Nat) (r : List AV), a = .inr (.inl p) :: r ∧ p < 76 ∧ (SH p).1 = 4 ∧ (SH p).2.1 = ci) (ok : ∀ l n, lv ≤ n → ∀ a σ Q, S a σ Q → AM l n y bc mL rt a σ Q) : mV l (rmOf n) own i (na, true, S) := by
  obtain ⟨w1, w2, w3, w4, w5⟩ := hw
  refine ⟨n - 1, y, bc, mL, rt, ?_, ?_, w1, w2, w3, Or.inl ⟨rfl, hp, hl, w4, w5, ci, T, N, hc, fun a σ Q h => ⟨hr a σ Q h, ok l (n - 1) (by omega) a σ Q h⟩⟩⟩
  · show n - 1 + 1 + 1 ≤ n + 1
    omega
  · show 8 + (mL + 11) + 60 * (n - 1 + 1) ≤ 60 * (n + 1)
    omega
end
section
/-! a method of any class that the machine has no row of its own for -/
theorem am_ofF {l : Launch} {n : Nat} {y : MethodName} {cc : ByteArray} {nL : Nat} {rt : Option FieldType} {a : List AV} {σ : HP} {Q : Option AV → HP → Prop} (rk : Nat) (cp : Nat → Option CE) (mT : Nat → Option (Nat × Bool × MSpec)) (hy : plainFor y = true) (hrk : rkOK rk rt) (hw : wid a ≤ nL) (hcp : ∀ i e, cp i = some e → cpV y.cls i e) (hmT : ∀ i e, mT i = some e → mV l (rmOf n) y.cls i e)
    (h : ∀ K : KT, SND cc cp mT roS rk Q K → K 0 (entL nL a) [] σ) : AM l n y cc nL rt a σ Q := by
  intro G
  refine va_MetF (cc := cc) (maxL := nL) (ret := rt) hy rfl ?_
  intro p e s m args below meth c s₁ B hml hv
  obtain ⟨rfl, hP, hK⟩ := hv
  have hx := B.exec
  have hb := B.bytes
  have hr := B.returns
  have hts := atoms_spec (ws := Cond.code y cc nL rt :: gtb) B.pre
  have hown : s.vm.findClass y.cls = some m.cls := findClass_of_methodNamed B.named
  have hlocks := B.notSynchronized
  have C : CX p l (rmOf n) s m ((a.map (cv G.1)).toArray) c 0 0 (Aof G) cc y.cls nL G cp mT roS := ⟨hx, hb, hml, hown, fun w hw => hts w (List.mem_cons_of_mem _ hw), ⟨by show 1 ≤ n + 1; omega, by show 60 ≤ 60 * (n + 1); omega, Nat.le_refl _, Nat.le_refl _⟩, hK, fun k hk => ⟨k, hk, rfl⟩, fun _ _ _ h => h, hcp, hmT⟩
  have hret : RTK p l e (rmOf n) s m ((a.map (cv G.1)).toArray) below meth c 0 0 (Aof G) (MQ below (Qc0 G Q) ((a.map (cv G.1)).toArray) s 0 0 (Aof G)) G cc rk Q := by
    intro pc σ H locs lsA hP hS
    refine ⟨fun v hd hk hq => ?_, fun v hd hk hq => ?_, fun v hd hk hq => ?_, fun hd hk hq => ?_⟩
    · rcases hk with rfl | ⟨rfl, h01⟩
      · have hr' : meth.sig.returnType = some .int := by rw [hr]; exact hrk
        exact W.iret hx hb hr' (fun t ht hW => ⟨some (.inl v), σ, rfl, hq, by rw [ht]; exact hP, hS.F ht⟩) hS.2.2 hd
      · have hr' : meth.sig.returnType = some .boolean := by rw [hr]; exact hrk
        exact W.zret hx hb hr' (iI_01 h01).2.1 (fun t ht hW => ⟨some (.inl v), σ, rfl, hq, by rw [ht]; exact hP, hS.F ht⟩) hS.2.2 hd
    · subst hk
      have hr' : meth.sig.returnType = some .long := by rw [hr]; exact hrk
      exact W.lret hx hb hr' (fun t ht hW => ⟨some (.inr (.inr v)), σ, rfl, hq, by rw [ht]; exact hP, hS.F ht⟩) hS.2.2 hd
    · subst hk
      obtain ⟨nm, hnm⟩ := hrk
      have hr' : meth.sig.returnType = some (.object nm) := by rw [hr]; exact hnm
      exact W.aret hx hb hr' (Or.inl ⟨nm, rfl⟩) (Or.inr ⟨_, rfl⟩) (fun t ht hW => ⟨some (.inr (.inl v)), σ, rfl, hq, by rw [ht]; exact hP, hS.F ht⟩) hS.2.2 hd
    · subst hk
      have hr' : meth.sig.returnType = none := by rw [hr]; exact hrk
      exact W.vret hx hb hr' (fun t ht hW => ⟨none, σ, rfl, hq, by rw [ht]; exact hP, hS.F ht⟩) hS.2.2 hd
  have K0 := h (AW p l e (rmOf n) s m ((a.map (cv G.1)).toArray) below meth c 0 0 (Aof G) (MQ below (Qc0 G Q) ((a.map (cv G.1)).toArray) s 0 0 (Aof G)) nL G) (fun stop k pc ls st σ hh => wp_sound C hret stop k pc ls st σ hh)
  rw [lg_entry_eq]
  have hl := lv_entry (a.map (cv G.1)) (n := nL) (by rw [wid_sl]; exact hw)
  exact K0 s.heap [] _ hP va_S.rf ⟨entL_len a nL hw, by rw [entL_lvp]; exact hl⟩
theorem fin0 : ((0 : Fin 4) : Nat) = 0 := rfl
theorem fin1 : ((1 : Fin 4) : Nat) = 1 := rfl
theorem fin2 : ((2 : Fin 4) : Nat) = 2 := rfl
theorem fin3 : ((3 : Fin 4) : Nat) = 3 := rfl
end
section
/-! ===== Math, Line ===== -/
theorem zxor_neg {x y : Int} (hx : R32 x) (hy : R32 y) (h : 0 < y) : 0 ≤ zxor x y ↔ 0 ≤ x := by
  have e : (zxor x y < 0) ↔ x < 0 := by
    have h1 : (iI x ^^^ iI y).toBitVec.msb = ((iI x).toBitVec.msb ^^ (iI y).toBitVec.msb) := by
      rw [Int32.toBitVec_xor, BitVec.msb_xor]
    have h2 : ∀ z : Int32, z.toBitVec.msb = decide (z.toInt < 0) := fun z => BitVec.msb_eq_toInt
    rw [h2, h2, h2, iI_toInt hx, iI_toInt hy] at h1
    have h3 : ¬ y < 0 := by omega
    simp only [h3, decide_false, Bool.xor_false] at h1
    have h4 := decide_eq_decide.mp h1
    exact h4
  omega
theorem tmod_pos {x y : Int} (h : 0 < y) : (0 ≤ x → x.tmod y = x % y) ∧ (¬ 0 ≤ x → (x.tmod y = 0 → x.tmod y = x % y) ∧ (¬ x.tmod y = 0 → x.tmod y + y = x % y)) := by
  have e1 := Int.emod_nonneg x (show y ≠ 0 by omega)
  have e2 := Int.emod_lt_of_pos x h
  have e4 : (y.natAbs : Int) = y := by omega
  refine ⟨fun q => Int.tmod_eq_emod_of_nonneg q, fun q => ?_⟩
  by_cases hd : y ∣ x
  · have e3 : x.tmod y = x % y := by rw [Int.tmod_eq_emod, if_pos (Or.inr hd)]; simp
    have e5 := Int.emod_eq_zero_of_dvd hd
    exact ⟨fun _ => e3, fun z => absurd (e3.trans e5) z⟩
  · have e3 : x.tmod y = x % y - y := by
      rw [Int.tmod_eq_emod, if_neg (fun z => z.elim q hd), e4]
    exact ⟨fun z => by omega, fun z => by omega⟩
theorem tmod_R32 {x y : Int} (hy : R32 y) (h : 0 < y) : R32 (x.tmod y) := by
  obtain ⟨r1, r2⟩ := hy
  have h3 := Int.lt_tmod_of_pos x h
  have h4 := Int.tmod_lt_of_pos x h
  exact ⟨by omega, by omega⟩
def S_J9_floorMod_7cf53 : MSpec := fun a σ Q => match a with
  | [.inl x, .inl y] => R32 x ∧ R32 y ∧ 0 < y ∧ Q (some (.inl (x % y))) σ
  | _ => False
def mT_J9_floorMod_7cf53 (i : Nat) : Option (Nat × Bool × MSpec) := match i with
  | _ => none
theorem mT_J9_floorMod_7cf53_ok {l : Launch} {n : Nat} (hn : 0 ≤ n) : ∀ i e, mT_J9_floorMod_7cf53 i = some e → mV l (rmOf n) RJ9 i e := by
  intro i e h
  unfold mT_J9_floorMod_7cf53 at h
  split at h
  · cases h
set_option maxRecDepth 100000 in
set_option maxHeartbeats 4000000 in
theorem ok_J9_floorMod_7cf53 : ∀ l n, 0 ≤ n → ∀ a σ Q, S_J9_floorMod_7cf53 a σ Q → AM l n yJ9_floorMod_7cf53 cJ9_floorMod_7cf53 3 (some .int) a σ Q := by
  intro l n hn a σ Q hS
  unfold S_J9_floorMod_7cf53 at hS
  split at hS
  rotate_left
  · exact hS.elim
  rename_i x y
  obtain ⟨r1, r2, hy, hq⟩ := hS
  refine am_ofF 1 cpN mT_J9_floorMod_7cf53 (by decide +kernel) (rfl) (Nat.le_of_ble_eq_true rfl) (cpN_ok _) (mT_J9_floorMod_7cf53_ok hn) (fun K hK => ?_)
  refine hK (fun _ => false) 200 _ _ _ _ ?_
  simp only [↓wp, ↓stp, ilen, lnth, st1, st2, nolong, nohead, rnth, ↓gfX, ↓pfX, gfV, pfV, cpF, cpP, cndZ, ↓tgo, ↓tsw, ↓lsw, ↓ldI, ↓ldA, ↓ldL, ↓stI, ↓stA, ↓stL, ↓bin, ↓binD, ↓binL, ↓binDL, ↓una, ↓acV, ↓acK, ↓acpy, ↓inv, entL, nones, SH, List.length_cons, List.length_nil, List.take, List.drop, List.reverse_cons, List.reverse_nil, List.nil_append, List.cons_append, Option.toList_some, Option.toList_none, Nat.reduceAdd, Nat.reduceSub, Nat.reduceLT, Nat.reduceEqDiff, Fin.isValue, Int.toNat_natCast, Nat.reduceBEq, beq_self_eq_true, Fin.val_zero, Fin.val_one, fin0, fin1, fin2, fin3, Nat.le_refl, Nat.reduceLeDiff, Nat.zero_le, Int.reduceAdd, Int.reduceNeg, Int.reduceLE, Int.reduceLT, Int.reduceToNat, Int.reduceMul, Int.cast_ofNat_Int, Nat.reduceMod, ↓reduceIte, if_true, if_false, and_true, true_and, or_true, true_or, false_or, or_false, and_self, not_true_eq_false, not_false_eq_true, Bool.false_eq_true, reduceCtorEq, false_implies, true_implies, implies_true, and_false, false_and, dJ9_floorMod_7cf53_0, dJ9_floorMod_7cf53_1, dJ9_floorMod_7cf53_2, dJ9_floorMod_7cf53_3, dJ9_floorMod_7cf53_4, dJ9_floorMod_7cf53_5, dJ9_floorMod_7cf53_6, dJ9_floorMod_7cf53_7, dJ9_floorMod_7cf53_10, dJ9_floorMod_7cf53_11, dJ9_floorMod_7cf53_14, dJ9_floorMod_7cf53_15, dJ9_floorMod_7cf53_16, dJ9_floorMod_7cf53_17, dJ9_floorMod_7cf53_18, dJ9_floorMod_7cf53_19, cpN, mT_J9_floorMod_7cf53]
  have h1 := zxor_neg r1 r2 hy
  obtain ⟨h2, h3⟩ := tmod_pos (x := x) hy
  refine ⟨r1, r2, by omega, R32_of _, fun q => ?_, fun q => ⟨tmod_R32 r2 hy, fun z => ?_, fun z => ?_⟩⟩
  · rw [h2 (h1.mp q)]; exact hq
  · rw [(h3 (fun w => q (h1.mpr w))).1 z]; exact hq
  · rw [(h3 (fun w => q (h1.mpr w))).2 z]; exact hq
theorem tdiv_7 (x : Int) : (0 ≤ x → x.tdiv 7 = x / 7) ∧ (¬ 0 ≤ x → (x.tdiv 7 * 7 = x → x.tdiv 7 = x / 7) ∧ (¬ x.tdiv 7 * 7 = x → x.tdiv 7 - 1 = x / 7)) := by
  refine ⟨fun q => Int.tdiv_eq_ediv_of_nonneg q, fun q => ?_⟩
  by_cases hd : (7 : Int) ∣ x
  · have e3 : x.tdiv 7 = x / 7 := Int.tdiv_eq_ediv_of_dvd hd
    rw [e3]
    omega
  · have e3 : x.tdiv 7 = x / 7 + 1 := by
      rw [Int.tdiv_eq_ediv, if_neg (fun z => z.elim q hd)]
      rfl
    rw [e3]
    omega
theorem tdiv_R32 {x : Int} (hx : R32 x) : R32 (x.tdiv 7 * 7) := by
  obtain ⟨r1, r2⟩ := hx
  obtain ⟨h1, h2⟩ := tdiv_7 x
  by_cases q : 0 ≤ x
  · rw [h1 q]; exact ⟨by omega, by omega⟩
  · by_cases z : x.tdiv 7 * 7 = x
    · rw [z]; exact ⟨r1, r2⟩
    · have := (h2 q).2 z
      exact ⟨by omega, by omega⟩
def S_J9_floorDiv_7cf53 : MSpec := fun a σ Q => match a with
  | [.inl x, .inl y] => R32 x ∧ y = 7 ∧ Q (some (.inl (x / 7))) σ
  | _ => False
def mT_J9_floorDiv_7cf53 (i : Nat) : Option (Nat × Bool × MSpec) := match i with
  | _ => none
theorem mT_J9_floorDiv_7cf53_ok {l : Launch} {n : Nat} (hn : 0 ≤ n) : ∀ i e, mT_J9_floorDiv_7cf53 i = some e → mV l (rmOf n) RJ9 i e := by
  intro i e h
  unfold mT_J9_floorDiv_7cf53 at h
  split at h
  · cases h
set_option maxRecDepth 100000 in
set_option maxHeartbeats 4000000 in
theorem ok_J9_floorDiv_7cf53 : ∀ l n, 0 ≤ n → ∀ a σ Q, S_J9_floorDiv_7cf53 a σ Q → AM l n yJ9_floorDiv_7cf53 cJ9_floorDiv_7cf53 3 (some .int) a σ Q := by
  intro l n hn a σ Q hS
  unfold S_J9_floorDiv_7cf53 at hS
  split at hS
  rotate_left
  · exact hS.elim
  rename_i x y
  obtain ⟨r1, rfl, hq⟩ := hS
  refine am_ofF 1 cpN mT_J9_floorDiv_7cf53 (by decide +kernel) (rfl) (Nat.le_of_ble_eq_true rfl) (cpN_ok _) (mT_J9_floorDiv_7cf53_ok hn) (fun K hK => ?_)
  refine hK (fun _ => false) 200 _ _ _ _ ?_
  simp only [↓wp, ↓stp, ilen, lnth, st1, st2, nolong, nohead, rnth, ↓gfX, ↓pfX, gfV, pfV, cpF, cpP, cndZ, ↓tgo, ↓tsw, ↓lsw, ↓ldI, ↓ldA, ↓ldL, ↓stI, ↓stA, ↓stL, ↓bin, ↓binD, ↓binL, ↓binDL, ↓una, ↓acV, ↓acK, ↓acpy, ↓inv, entL, nones, SH, List.length_cons, List.length_nil, List.take, List.drop, List.reverse_cons, List.reverse_nil, List.nil_append, List.cons_append, Option.toList_some, Option.toList_none, Nat.reduceAdd, Nat.reduceSub, Nat.reduceLT, Nat.reduceEqDiff, Fin.isValue, Int.toNat_natCast, Nat.reduceBEq, beq_self_eq_true, Fin.val_zero, Fin.val_one, fin0, fin1, fin2, fin3, Nat.le_refl, Nat.reduceLeDiff, Nat.zero_le, Int.reduceAdd, Int.reduceNeg, Int.reduceLE, Int.reduceLT, Int.reduceToNat, Int.reduceMul, Int.cast_ofNat_Int, Nat.reduceMod, ↓reduceIte, if_true, if_false, and_true, true_and, or_true, true_or, false_or, or_false, and_self, not_true_eq_false, not_false_eq_true, Bool.false_eq_true, reduceCtorEq, false_implies, true_implies, implies_true, and_false, false_and, dJ9_floorDiv_7cf53_0, dJ9_floorDiv_7cf53_1, dJ9_floorDiv_7cf53_2, dJ9_floorDiv_7cf53_3, dJ9_floorDiv_7cf53_4, dJ9_floorDiv_7cf53_5, dJ9_floorDiv_7cf53_6, dJ9_floorDiv_7cf53_7, dJ9_floorDiv_7cf53_10, dJ9_floorDiv_7cf53_11, dJ9_floorDiv_7cf53_12, dJ9_floorDiv_7cf53_13, dJ9_floorDiv_7cf53_14, dJ9_floorDiv_7cf53_17, dJ9_floorDiv_7cf53_18, dJ9_floorDiv_7cf53_19, dJ9_floorDiv_7cf53_20, dJ9_floorDiv_7cf53_21, dJ9_floorDiv_7cf53_22, cpN, mT_J9_floorDiv_7cf53]
  have r2 : R32 7 := ⟨by decide, by decide⟩
  have h1 := zxor_neg r1 r2 (by decide)
  obtain ⟨h2, h3⟩ := tdiv_7 x
  refine ⟨r1, r2, by decide, R32_of _, fun q => ?_, fun q => ⟨tdiv_R32 r1, r1, fun z => ?_, fun z => ?_⟩⟩
  · rw [h2 (h1.mp q)]; exact hq
  · rw [(h3 (fun w => q (h1.mpr w))).1 z]; exact hq
  · rw [(h3 (fun w => q (h1.mpr w))).2 z]; exact hq
def S_J9_abs_0f7a4 : MSpec := fun a σ Q => match a with
  | [.inl x] => R32 x ∧ Q (some (.inl (x.natAbs : Int))) σ
  | _ => False
def mT_J9_abs_0f7a4 (i : Nat) : Option (Nat × Bool × MSpec) := match i with
  | _ => none
theorem mT_J9_abs_0f7a4_ok {l : Launch} {n : Nat} (hn : 0 ≤ n) : ∀ i e, mT_J9_abs_0f7a4 i = some e → mV l (rmOf n) RJ9 i e := by
  intro i e h
  unfold mT_J9_abs_0f7a4 at h
  split at h
  · cases h
set_option maxRecDepth 100000 in
set_option maxHeartbeats 4000000 in
theorem ok_J9_abs_0f7a4 : ∀ l n, 0 ≤ n → ∀ a σ Q, S_J9_abs_0f7a4 a σ Q → AM l n yJ9_abs_0f7a4 cJ9_abs_0f7a4 1 (some .int) a σ Q := by
  intro l n hn a σ Q hS
  unfold S_J9_abs_0f7a4 at hS
  split at hS
  rotate_left
  · exact hS.elim
  rename_i x
  obtain ⟨r1, hq⟩ := hS
  refine am_ofF 1 cpN mT_J9_abs_0f7a4 (by decide +kernel) (rfl) (Nat.le_of_ble_eq_true rfl) (cpN_ok _) (mT_J9_abs_0f7a4_ok hn) (fun K hK => ?_)
  refine hK (fun _ => false) 200 _ _ _ _ ?_
  simp only [↓wp, ↓stp, ilen, lnth, st1, st2, nolong, nohead, rnth, ↓gfX, ↓pfX, gfV, pfV, cpF, cpP, cndZ, ↓tgo, ↓tsw, ↓lsw, ↓ldI, ↓ldA, ↓ldL, ↓stI, ↓stA, ↓stL, ↓bin, ↓binD, ↓binL, ↓binDL, ↓una, ↓acV, ↓acK, ↓acpy, ↓inv, entL, nones, SH, List.length_cons, List.length_nil, List.take, List.drop, List.reverse_cons, List.reverse_nil, List.nil_append, List.cons_append, Option.toList_some, Option.toList_none, Nat.reduceAdd, Nat.reduceSub, Nat.reduceLT, Nat.reduceEqDiff, Fin.isValue, Int.toNat_natCast, Nat.reduceBEq, beq_self_eq_true, Fin.val_zero, Fin.val_one, fin0, fin1, fin2, fin3, Nat.le_refl, Nat.reduceLeDiff, Nat.zero_le, Int.reduceAdd, Int.reduceNeg, Int.reduceLE, Int.reduceLT, Int.reduceToNat, Int.reduceMul, Int.cast_ofNat_Int, Nat.reduceMod, ↓reduceIte, if_true, if_false, and_true, true_and, or_true, true_or, false_or, or_false, and_self, not_true_eq_false, not_false_eq_true, Bool.false_eq_true, reduceCtorEq, false_implies, true_implies, implies_true, and_false, false_and, dJ9_abs_0f7a4_0, dJ9_abs_0f7a4_1, dJ9_abs_0f7a4_4, dJ9_abs_0f7a4_5, dJ9_abs_0f7a4_6, dJ9_abs_0f7a4_9, dJ9_abs_0f7a4_10, cpN, mT_J9_abs_0f7a4]
  refine ⟨r1, fun q => ?_, fun q => ?_⟩
  · rw [show (x.natAbs : Int) = x by omega] at hq; exact hq
  · rw [show (x.natAbs : Int) = -x by omega] at hq; exact hq
def S_J9_min_f86c9 : MSpec := fun a σ Q => match a with
  | [.inr (.inr x), .inr (.inr y)] => R64 x ∧ R64 y ∧ Q (some (.inr (.inr (min x y)))) σ
  | _ => False
def mT_J9_min_f86c9 (i : Nat) : Option (Nat × Bool × MSpec) := match i with
  | _ => none
theorem mT_J9_min_f86c9_ok {l : Launch} {n : Nat} (hn : 0 ≤ n) : ∀ i e, mT_J9_min_f86c9 i = some e → mV l (rmOf n) RJ9 i e := by
  intro i e h
  unfold mT_J9_min_f86c9 at h
  split at h
  · cases h
set_option maxRecDepth 100000 in
set_option maxHeartbeats 4000000 in
theorem ok_J9_min_f86c9 : ∀ l n, 0 ≤ n → ∀ a σ Q, S_J9_min_f86c9 a σ Q → AM l n yJ9_min_f86c9 cJ9_min_f86c9 4 (some .long) a σ Q := by
  intro l n hn a σ Q hS
  unfold S_J9_min_f86c9 at hS
  split at hS
  rotate_left
  · exact hS.elim
  rename_i x y
  obtain ⟨r1, r2, hq⟩ := hS
  refine am_ofF 3 cpN mT_J9_min_f86c9 (by decide +kernel) (rfl) (Nat.le_of_ble_eq_true rfl) (cpN_ok _) (mT_J9_min_f86c9_ok hn) (fun K hK => ?_)
  refine hK (fun _ => false) 200 _ _ _ _ ?_
  simp only [↓wp, ↓stp, ilen, lnth, st1, st2, nolong, nohead, rnth, ↓gfX, ↓pfX, gfV, pfV, cpF, cpP, cndZ, ↓tgo, ↓tsw, ↓lsw, ↓ldI, ↓ldA, ↓ldL, ↓stI, ↓stA, ↓stL, ↓bin, ↓binD, ↓binL, ↓binDL, ↓una, ↓acV, ↓acK, ↓acpy, ↓inv, entL, nones, SH, List.length_cons, List.length_nil, List.take, List.drop, List.reverse_cons, List.reverse_nil, List.nil_append, List.cons_append, Option.toList_some, Option.toList_none, Nat.reduceAdd, Nat.reduceSub, Nat.reduceLT, Nat.reduceEqDiff, Fin.isValue, Int.toNat_natCast, Nat.reduceBEq, beq_self_eq_true, Fin.val_zero, Fin.val_one, fin0, fin1, fin2, fin3, Nat.le_refl, Nat.reduceLeDiff, Nat.zero_le, Int.reduceAdd, Int.reduceNeg, Int.reduceLE, Int.reduceLT, Int.reduceToNat, Int.reduceMul, Int.cast_ofNat_Int, Nat.reduceMod, ↓reduceIte, if_true, if_false, and_true, true_and, or_true, true_or, false_or, or_false, and_self, not_true_eq_false, not_false_eq_true, Bool.false_eq_true, reduceCtorEq, false_implies, true_implies, implies_true, and_false, false_and, dJ9_min_f86c9_0, dJ9_min_f86c9_1, dJ9_min_f86c9_2, dJ9_min_f86c9_3, dJ9_min_f86c9_6, dJ9_min_f86c9_7, dJ9_min_f86c9_10, dJ9_min_f86c9_11, cpN, mT_J9_min_f86c9]
  unfold lcmpZ
  refine ⟨r1, r2, ?_, fun q => ?_, fun q => ?_⟩
  · split
    · exact ⟨by decide, by decide⟩
    · split <;> exact ⟨by decide, by decide⟩
  · rw [show min x y = y from Int.min_eq_right (by split at q <;> omega)] at hq
    exact hq
  · rw [show min x y = x from Int.min_eq_left (by split at q <;> omega)] at hq
    exact hq
def S_X3_letterOf : MSpec := fun a σ Q => match a with
  | [.inl x] => (-100000 ≤ x ∧ x ≤ 100000) ∧ Q (some (.inl ((x + 1) % 7))) σ
  | _ => False
def mT_X3_letterOf (i : Nat) : Option (Nat × Bool × MSpec) := match i with
  | 9 => some (2, false, S_J9_floorMod_7cf53)
  | _ => none
theorem mT_X3_letterOf_ok {l : Launch} {n : Nat} (hn : 1 ≤ n) : ∀ i e, mT_X3_letterOf i = some e → mV l (rmOf n) RX3 i e := by
  intro i e h
  unfold mT_X3_letterOf at h
  split at h
  · cases h; exact mvS (lv := 0) mw_J9_floorMod_7cf53 (by omega) (by decide) (by decide +kernel) (Or.inl (gtm 497 (by decide +kernel) (by decide +kernel))) ok_J9_floorMod_7cf53
  · cases h
set_option maxRecDepth 100000 in
set_option maxHeartbeats 4000000 in
theorem ok_X3_letterOf : ∀ l n, 1 ≤ n → ∀ a σ Q, S_X3_letterOf a σ Q → AM l n yX3_letterOf cX3_letterOf 1 (some .int) a σ Q := by
  intro l n hn a σ Q hS
  unfold S_X3_letterOf at hS
  split at hS
  rotate_left
  · exact hS.elim
  rename_i x
  obtain ⟨r1, hq⟩ := hS
  refine am_ofF 1 cpN mT_X3_letterOf (plainFor_of_name (by decide +kernel)) (rfl) (Nat.le_of_ble_eq_true rfl) (cpN_ok _) (mT_X3_letterOf_ok hn) (fun K hK => ?_)
  refine hK (fun _ => false) 200 _ _ _ _ ?_
  simp only [↓wp, ↓stp, ilen, lnth, st1, st2, nolong, nohead, rnth, ↓gfX, ↓pfX, gfV, pfV, cpF, cpP, cndZ, ↓tgo, ↓tsw, ↓lsw, ↓ldI, ↓ldA, ↓ldL, ↓stI, ↓stA, ↓stL, ↓bin, ↓binD, ↓binL, ↓binDL, ↓una, ↓acV, ↓acK, ↓acpy, ↓inv, entL, nones, SH, List.length_cons, List.length_nil, List.take, List.drop, List.reverse_cons, List.reverse_nil, List.nil_append, List.cons_append, Option.toList_some, Option.toList_none, Nat.reduceAdd, Nat.reduceSub, Nat.reduceLT, Nat.reduceEqDiff, Fin.isValue, Int.toNat_natCast, Nat.reduceBEq, beq_self_eq_true, Fin.val_zero, Fin.val_one, fin0, fin1, fin2, fin3, Nat.le_refl, Nat.reduceLeDiff, Nat.zero_le, Int.reduceAdd, Int.reduceNeg, Int.reduceLE, Int.reduceLT, Int.reduceToNat, Int.reduceMul, Int.cast_ofNat_Int, Nat.reduceMod, ↓reduceIte, if_true, if_false, and_true, true_and, or_true, true_or, false_or, or_false, and_self, not_true_eq_false, not_false_eq_true, Bool.false_eq_true, reduceCtorEq, false_implies, true_implies, implies_true, and_false, false_and, dX3_letterOf_0, dX3_letterOf_1, dX3_letterOf_2, dX3_letterOf_3, dX3_letterOf_5, dX3_letterOf_8, cpN, mT_X3_letterOf, S_J9_floorMod_7cf53]
  (repeat' (first | apply And.intro | intro _)) <;> first | omega | exact hq | (rw [if_pos (by omega)] at hq; exact hq) | (rw [if_neg (by omega)] at hq; exact hq) | (repeat (first | rw [if_pos (by omega)] at hq | rw [if_neg (by omega)] at hq)) <;> exact hq | assumption | exact R32_of _
def S_X3_alterOf : MSpec := fun a σ Q => match a with
  | [.inl x] => (-100000 ≤ x ∧ x ≤ 100000) ∧ Q (some (.inl ((x + 1) / 7))) σ
  | _ => False
def mT_X3_alterOf (i : Nat) : Option (Nat × Bool × MSpec) := match i with
  | 15 => some (2, false, S_J9_floorDiv_7cf53)
  | _ => none
theorem mT_X3_alterOf_ok {l : Launch} {n : Nat} (hn : 1 ≤ n) : ∀ i e, mT_X3_alterOf i = some e → mV l (rmOf n) RX3 i e := by
  intro i e h
  unfold mT_X3_alterOf at h
  split at h
  · cases h; exact mvS (lv := 0) mw_J9_floorDiv_7cf53 (by omega) (by decide) (by decide +kernel) (Or.inl (gtm 501 (by decide +kernel) (by decide +kernel))) ok_J9_floorDiv_7cf53
  · cases h
set_option maxRecDepth 100000 in
set_option maxHeartbeats 4000000 in
theorem ok_X3_alterOf : ∀ l n, 1 ≤ n → ∀ a σ Q, S_X3_alterOf a σ Q → AM l n yX3_alterOf cX3_alterOf 1 (some .int) a σ Q := by
  intro l n hn a σ Q hS
  unfold S_X3_alterOf at hS
  split at hS
  rotate_left
  · exact hS.elim
  rename_i x
  obtain ⟨r1, hq⟩ := hS
  refine am_ofF 1 cpN mT_X3_alterOf (plainFor_of_name (by decide +kernel)) (rfl) (Nat.le_of_ble_eq_true rfl) (cpN_ok _) (mT_X3_alterOf_ok hn) (fun K hK => ?_)
  refine hK (fun _ => false) 200 _ _ _ _ ?_
  simp only [↓wp, ↓stp, ilen, lnth, st1, st2, nolong, nohead, rnth, ↓gfX, ↓pfX, gfV, pfV, cpF, cpP, cndZ, ↓tgo, ↓tsw, ↓lsw, ↓ldI, ↓ldA, ↓ldL, ↓stI, ↓stA, ↓stL, ↓bin, ↓binD, ↓binL, ↓binDL, ↓una, ↓acV, ↓acK, ↓acpy, ↓inv, entL, nones, SH, List.length_cons, List.length_nil, List.take, List.drop, List.reverse_cons, List.reverse_nil, List.nil_append, List.cons_append, Option.toList_some, Option.toList_none, Nat.reduceAdd, Nat.reduceSub, Nat.reduceLT, Nat.reduceEqDiff, Fin.isValue, Int.toNat_natCast, Nat.reduceBEq, beq_self_eq_true, Fin.val_zero, Fin.val_one, fin0, fin1, fin2, fin3, Nat.le_refl, Nat.reduceLeDiff, Nat.zero_le, Int.reduceAdd, Int.reduceNeg, Int.reduceLE, Int.reduceLT, Int.reduceToNat, Int.reduceMul, Int.cast_ofNat_Int, Nat.reduceMod, ↓reduceIte, if_true, if_false, and_true, true_and, or_true, true_or, false_or, or_false, and_self, not_true_eq_false, not_false_eq_true, Bool.false_eq_true, reduceCtorEq, false_implies, true_implies, implies_true, and_false, false_and, dX3_alterOf_0, dX3_alterOf_1, dX3_alterOf_2, dX3_alterOf_3, dX3_alterOf_5, dX3_alterOf_8, cpN, mT_X3_alterOf, S_J9_floorDiv_7cf53]
  (repeat' (first | apply And.intro | intro _)) <;> first | omega | exact hq | (rw [if_pos (by omega)] at hq; exact hq) | (rw [if_neg (by omega)] at hq; exact hq) | (repeat (first | rw [if_pos (by omega)] at hq | rw [if_neg (by omega)] at hq)) <;> exact hq | assumption | exact R32_of _
def S_X3_keyOf : MSpec := fun a σ Q => match a with
  | [.inl x] => (-100000 ≤ x ∧ x ≤ 100000) ∧ Q (some (.inl (7 * x % 12))) σ
  | _ => False
def mT_X3_keyOf (i : Nat) : Option (Nat × Bool × MSpec) := match i with
  | 9 => some (2, false, S_J9_floorMod_7cf53)
  | _ => none
theorem mT_X3_keyOf_ok {l : Launch} {n : Nat} (hn : 1 ≤ n) : ∀ i e, mT_X3_keyOf i = some e → mV l (rmOf n) RX3 i e := by
  intro i e h
  unfold mT_X3_keyOf at h
  split at h
  · cases h; exact mvS (lv := 0) mw_J9_floorMod_7cf53 (by omega) (by decide) (by decide +kernel) (Or.inl (gtm 497 (by decide +kernel) (by decide +kernel))) ok_J9_floorMod_7cf53
  · cases h
set_option maxRecDepth 100000 in
set_option maxHeartbeats 4000000 in
theorem ok_X3_keyOf : ∀ l n, 1 ≤ n → ∀ a σ Q, S_X3_keyOf a σ Q → AM l n yX3_keyOf cX3_keyOf 1 (some .int) a σ Q := by
  intro l n hn a σ Q hS
  unfold S_X3_keyOf at hS
  split at hS
  rotate_left
  · exact hS.elim
  rename_i x
  obtain ⟨r1, hq⟩ := hS
  refine am_ofF 1 cpN mT_X3_keyOf (plainFor_of_name (by decide +kernel)) (rfl) (Nat.le_of_ble_eq_true rfl) (cpN_ok _) (mT_X3_keyOf_ok hn) (fun K hK => ?_)
  refine hK (fun _ => false) 200 _ _ _ _ ?_
  simp only [↓wp, ↓stp, ilen, lnth, st1, st2, nolong, nohead, rnth, ↓gfX, ↓pfX, gfV, pfV, cpF, cpP, cndZ, ↓tgo, ↓tsw, ↓lsw, ↓ldI, ↓ldA, ↓ldL, ↓stI, ↓stA, ↓stL, ↓bin, ↓binD, ↓binL, ↓binDL, ↓una, ↓acV, ↓acK, ↓acpy, ↓inv, entL, nones, SH, List.length_cons, List.length_nil, List.take, List.drop, List.reverse_cons, List.reverse_nil, List.nil_append, List.cons_append, Option.toList_some, Option.toList_none, Nat.reduceAdd, Nat.reduceSub, Nat.reduceLT, Nat.reduceEqDiff, Fin.isValue, Int.toNat_natCast, Nat.reduceBEq, beq_self_eq_true, Fin.val_zero, Fin.val_one, fin0, fin1, fin2, fin3, Nat.le_refl, Nat.reduceLeDiff, Nat.zero_le, Int.reduceAdd, Int.reduceNeg, Int.reduceLE, Int.reduceLT, Int.reduceToNat, Int.reduceMul, Int.cast_ofNat_Int, Nat.reduceMod, ↓reduceIte, if_true, if_false, and_true, true_and, or_true, true_or, false_or, or_false, and_self, not_true_eq_false, not_false_eq_true, Bool.false_eq_true, reduceCtorEq, false_implies, true_implies, implies_true, and_false, false_and, dX3_keyOf_0, dX3_keyOf_2, dX3_keyOf_3, dX3_keyOf_4, dX3_keyOf_6, dX3_keyOf_9, cpN, mT_X3_keyOf, S_J9_floorMod_7cf53]
  (repeat' (first | apply And.intro | intro _)) <;> first | omega | exact hq | (rw [if_pos (by omega)] at hq; exact hq) | (rw [if_neg (by omega)] at hq; exact hq) | (repeat (first | rw [if_pos (by omega)] at hq | rw [if_neg (by omega)] at hq)) <;> exact hq | assumption | exact R32_of _
def S_X3_placeIn : MSpec := fun a σ Q => match a with
  | [.inl w, .inl k] => (-100000 ≤ w ∧ w ≤ 100000) ∧ (-100000 ≤ k ∧ k ≤ 100000) ∧ Q (some (.inl (w + (7 * k - w) % 12))) σ
  | _ => False
def mT_X3_placeIn (i : Nat) : Option (Nat × Bool × MSpec) := match i with
  | 9 => some (2, false, S_J9_floorMod_7cf53)
  | _ => none
theorem mT_X3_placeIn_ok {l : Launch} {n : Nat} (hn : 1 ≤ n) : ∀ i e, mT_X3_placeIn i = some e → mV l (rmOf n) RX3 i e := by
  intro i e h
  unfold mT_X3_placeIn at h
  split at h
  · cases h; exact mvS (lv := 0) mw_J9_floorMod_7cf53 (by omega) (by decide) (by decide +kernel) (Or.inl (gtm 497 (by decide +kernel) (by decide +kernel))) ok_J9_floorMod_7cf53
  · cases h
set_option maxRecDepth 100000 in
set_option maxHeartbeats 4000000 in
theorem ok_X3_placeIn : ∀ l n, 1 ≤ n → ∀ a σ Q, S_X3_placeIn a σ Q → AM l n yX3_placeIn cX3_placeIn 2 (some .int) a σ Q := by
  intro l n hn a σ Q hS
  unfold S_X3_placeIn at hS
  split at hS
  rotate_left
  · exact hS.elim
  rename_i w k
  obtain ⟨r1, r2, hq⟩ := hS
  refine am_ofF 1 cpN mT_X3_placeIn (plainFor_of_name (by decide +kernel)) (rfl) (Nat.le_of_ble_eq_true rfl) (cpN_ok _) (mT_X3_placeIn_ok hn) (fun K hK => ?_)
  refine hK (fun _ => false) 200 _ _ _ _ ?_
  simp only [↓wp, ↓stp, ilen, lnth, st1, st2, nolong, nohead, rnth, ↓gfX, ↓pfX, gfV, pfV, cpF, cpP, cndZ, ↓tgo, ↓tsw, ↓lsw, ↓ldI, ↓ldA, ↓ldL, ↓stI, ↓stA, ↓stL, ↓bin, ↓binD, ↓binL, ↓binDL, ↓una, ↓acV, ↓acK, ↓acpy, ↓inv, entL, nones, SH, List.length_cons, List.length_nil, List.take, List.drop, List.reverse_cons, List.reverse_nil, List.nil_append, List.cons_append, Option.toList_some, Option.toList_none, Nat.reduceAdd, Nat.reduceSub, Nat.reduceLT, Nat.reduceEqDiff, Fin.isValue, Int.toNat_natCast, Nat.reduceBEq, beq_self_eq_true, Fin.val_zero, Fin.val_one, fin0, fin1, fin2, fin3, Nat.le_refl, Nat.reduceLeDiff, Nat.zero_le, Int.reduceAdd, Int.reduceNeg, Int.reduceLE, Int.reduceLT, Int.reduceToNat, Int.reduceMul, Int.cast_ofNat_Int, Nat.reduceMod, ↓reduceIte, if_true, if_false, and_true, true_and, or_true, true_or, false_or, or_false, and_self, not_true_eq_false, not_false_eq_true, Bool.false_eq_true, reduceCtorEq, false_implies, true_implies, implies_true, and_false, false_and, dX3_placeIn_0, dX3_placeIn_1, dX3_placeIn_3, dX3_placeIn_4, dX3_placeIn_5, dX3_placeIn_6, dX3_placeIn_7, dX3_placeIn_9, dX3_placeIn_12, dX3_placeIn_13, cpN, mT_X3_placeIn, S_J9_floorMod_7cf53]
  (repeat' (first | apply And.intro | intro _)) <;> first | omega | exact hq | (rw [if_pos (by omega)] at hq; exact hq) | (rw [if_neg (by omega)] at hq; exact hq) | (repeat (first | rw [if_pos (by omega)] at hq | rw [if_neg (by omega)] at hq)) <;> exact hq | assumption | exact R32_of _
def S_X3_headOf : MSpec := fun a σ Q => match a with
  | [.inl g, .inl t] => (-100000 ≤ g ∧ g ≤ 100000) ∧ (-100000 ≤ t ∧ t ≤ 100000) ∧ Q (some (.inl (if t < g - 7 then 1 else if g ≤ t then -1 else 0))) σ
  | _ => False
def mT_X3_headOf (i : Nat) : Option (Nat × Bool × MSpec) := match i with
  | _ => none
theorem mT_X3_headOf_ok {l : Launch} {n : Nat} (hn : 0 ≤ n) : ∀ i e, mT_X3_headOf i = some e → mV l (rmOf n) RX3 i e := by
  intro i e h
  unfold mT_X3_headOf at h
  split at h
  · cases h
set_option maxRecDepth 100000 in
set_option maxHeartbeats 4000000 in
theorem ok_X3_headOf : ∀ l n, 0 ≤ n → ∀ a σ Q, S_X3_headOf a σ Q → AM l n yX3_headOf cX3_headOf 2 (some .int) a σ Q := by
  intro l n hn a σ Q hS
  unfold S_X3_headOf at hS
  split at hS
  rotate_left
  · exact hS.elim
  rename_i g t
  obtain ⟨r1, r2, hq⟩ := hS
  refine am_ofF 1 cpN mT_X3_headOf (plainFor_of_name (by decide +kernel)) (rfl) (Nat.le_of_ble_eq_true rfl) (cpN_ok _) (mT_X3_headOf_ok hn) (fun K hK => ?_)
  refine hK (fun _ => false) 200 _ _ _ _ ?_
  simp only [↓wp, ↓stp, ilen, lnth, st1, st2, nolong, nohead, rnth, ↓gfX, ↓pfX, gfV, pfV, cpF, cpP, cndZ, ↓tgo, ↓tsw, ↓lsw, ↓ldI, ↓ldA, ↓ldL, ↓stI, ↓stA, ↓stL, ↓bin, ↓binD, ↓binL, ↓binDL, ↓una, ↓acV, ↓acK, ↓acpy, ↓inv, entL, nones, SH, List.length_cons, List.length_nil, List.take, List.drop, List.reverse_cons, List.reverse_nil, List.nil_append, List.cons_append, Option.toList_some, Option.toList_none, Nat.reduceAdd, Nat.reduceSub, Nat.reduceLT, Nat.reduceEqDiff, Fin.isValue, Int.toNat_natCast, Nat.reduceBEq, beq_self_eq_true, Fin.val_zero, Fin.val_one, fin0, fin1, fin2, fin3, Nat.le_refl, Nat.reduceLeDiff, Nat.zero_le, Int.reduceAdd, Int.reduceNeg, Int.reduceLE, Int.reduceLT, Int.reduceToNat, Int.reduceMul, Int.cast_ofNat_Int, Nat.reduceMod, ↓reduceIte, if_true, if_false, and_true, true_and, or_true, true_or, false_or, or_false, and_self, not_true_eq_false, not_false_eq_true, Bool.false_eq_true, reduceCtorEq, false_implies, true_implies, implies_true, and_false, false_and, dX3_headOf_0, dX3_headOf_1, dX3_headOf_2, dX3_headOf_4, dX3_headOf_5, dX3_headOf_8, dX3_headOf_9, dX3_headOf_10, dX3_headOf_11, dX3_headOf_12, dX3_headOf_15, dX3_headOf_16, dX3_headOf_19, dX3_headOf_20, cpN, mT_X3_headOf]
  refine ⟨⟨by omega, by omega⟩, ⟨by omega, by omega⟩, fun q => ⟨⟨by omega, by omega⟩, ⟨by omega, by omega⟩, fun z => ?_, fun z => ?_⟩, fun q => ?_⟩
  · rw [if_neg (by omega), if_neg (by omega)] at hq; exact hq
  · rw [if_neg (by omega), if_pos (by omega)] at hq; exact hq
  · rw [if_pos (by omega)] at hq; exact hq
end
section
/-! ===== Rows ===== -/
def hfill (σ : HP) (p a n : Nat) : HP := fun q j => if q = p ∧ a ≤ j ∧ j < a + n then 0 else σ q j
theorem hfill_0 (σ : HP) (p a : Nat) : hfill σ p a 0 = σ := by
  funext q j
  unfold hfill
  rw [if_neg (by omega)]
theorem hfill_step (σ : HP) (p a i : Nat) : hset (hfill σ p a i) p (a + i) 0 = hfill σ p a (i + 1) := by
  funext q j
  unfold hset hfill
  by_cases h : q = p ∧ j = a + i
  · rw [if_pos h, if_pos ⟨h.1, by omega, by omega⟩]
  · rw [if_neg h]
    by_cases h2 : q = p ∧ a ≤ j ∧ j < a + i
    · rw [if_pos h2, if_pos ⟨h2.1, by omega, by omega⟩]
    · rw [if_neg h2, if_neg (fun z => h2 ⟨z.1, z.2.1, by
        have : ¬ j = a + i := fun w => h ⟨z.1, w⟩
        omega⟩)]
/-- how many below n are not -1 in f -/
def howM (f : Nat → Int) : Nat → Int
  | 0 => 0
  | n + 1 => howM f n + (if f n = -1 then 0 else 1)
def S_X5_isRow : MSpec := fun a σ Q => match a with
  | [.inl r] => R32 r ∧ Q (some (.inl (if 0 ≤ r ∧ r < 8 then 1 else 0))) σ
  | _ => False
def mT_X5_isRow (i : Nat) : Option (Nat × Bool × MSpec) := match i with
  | _ => none
theorem mT_X5_isRow_ok {l : Launch} {n : Nat} (hn : 0 ≤ n) : ∀ i e, mT_X5_isRow i = some e → mV l (rmOf n) RX5 i e := by
  intro i e h
  unfold mT_X5_isRow at h
  split at h
  · cases h
set_option maxRecDepth 100000 in
set_option maxHeartbeats 4000000 in
theorem ok_X5_isRow : ∀ l n, 0 ≤ n → ∀ a σ Q, S_X5_isRow a σ Q → AM l n yX5_isRow cX5_isRow 1 (some .boolean) a σ Q := by
  intro l n hn a σ Q hS
  unfold S_X5_isRow at hS
  split at hS
  rotate_left
  · exact hS.elim
  rename_i r
  obtain ⟨r1, hq⟩ := hS
  refine am_ofF 2 cpX5 mT_X5_isRow (plainFor_of_name (by decide +kernel)) (rfl) (Nat.le_of_ble_eq_true rfl) (cpX5_ok) (mT_X5_isRow_ok hn) (fun K hK => ?_)
  refine hK (fun _ => false) 200 _ _ _ _ ?_
  simp only [↓wp, ↓stp, ilen, lnth, st1, st2, nolong, nohead, rnth, ↓gfX, ↓pfX, gfV, pfV, cpF, cpP, cndZ, ↓tgo, ↓tsw, ↓lsw, ↓ldI, ↓ldA, ↓ldL, ↓stI, ↓stA, ↓stL, ↓bin, ↓binD, ↓binL, ↓binDL, ↓una, ↓acV, ↓acK, ↓acpy, ↓inv, entL, nones, SH, List.length_cons, List.length_nil, List.take, List.drop, List.reverse_cons, List.reverse_nil, List.nil_append, List.cons_append, Option.toList_some, Option.toList_none, Nat.reduceAdd, Nat.reduceSub, Nat.reduceLT, Nat.reduceEqDiff, Fin.isValue, Int.toNat_natCast, Nat.reduceBEq, beq_self_eq_true, Fin.val_zero, Fin.val_one, fin0, fin1, fin2, fin3, Nat.le_refl, Nat.reduceLeDiff, Nat.zero_le, Int.reduceAdd, Int.reduceNeg, Int.reduceLE, Int.reduceLT, Int.reduceToNat, Int.reduceMul, Int.cast_ofNat_Int, Nat.reduceMod, ↓reduceIte, if_true, if_false, and_true, true_and, or_true, true_or, false_or, or_false, and_self, not_true_eq_false, not_false_eq_true, Bool.false_eq_true, reduceCtorEq, false_implies, true_implies, implies_true, and_false, false_and, dX5_isRow_0, dX5_isRow_1, dX5_isRow_4, dX5_isRow_5, dX5_isRow_7, dX5_isRow_10, dX5_isRow_11, dX5_isRow_14, dX5_isRow_15, cpX5, mT_X5_isRow]
  obtain ⟨b1, b2⟩ := r1
  (repeat' (first | apply And.intro | intro _)) <;> first | omega | exact hq | (rw [if_pos (by omega)] at hq; exact hq) | (rw [if_neg (by omega)] at hq; exact hq) | (repeat (first | rw [if_pos (by omega)] at hq | rw [if_neg (by omega)] at hq)) <;> exact hq | assumption | exact R32_of _
def S_X5_isMissing : MSpec := fun a σ Q => match a with
  | [.inr (.inl 1), .inl r] => (0 ≤ r ∧ r < 8) ∧ (-1 ≤ σ 4 r.toNat ∧ σ 4 r.toNat ≤ 40) ∧ Q (some (.inl (if σ 4 r.toNat = -1 then 1 else 0))) σ
  | _ => False
theorem rc_X5_isMissing : ∀ a σ Q, S_X5_isMissing a σ Q → ∃ (p : Nat) (r : List AV), a = .inr (.inl p) :: r ∧ p < 76 ∧ (SH p).1 = 4 ∧ (SH p).2.1 = 4 := by
  intro a σ Q h
  unfold S_X5_isMissing at h
  split at h
  · exact ⟨1, _, rfl, by decide, rfl, rfl⟩
  · exact h.elim
def mT_X5_isMissing (i : Nat) : Option (Nat × Bool × MSpec) := match i with
  | _ => none
theorem mT_X5_isMissing_ok {l : Launch} {n : Nat} (hn : 0 ≤ n) : ∀ i e, mT_X5_isMissing i = some e → mV l (rmOf n) RX5 i e := by
  intro i e h
  unfold mT_X5_isMissing at h
  split at h
  · cases h
set_option maxRecDepth 100000 in
set_option maxHeartbeats 4000000 in
theorem ok_X5_isMissing : ∀ l n, 0 ≤ n → ∀ a σ Q, S_X5_isMissing a σ Q → AM l n yX5_isMissing cX5_isMissing 2 (some .boolean) a σ Q := by
  intro l n hn a σ Q hS
  unfold S_X5_isMissing at hS
  split at hS
  rotate_left
  · exact hS.elim
  rename_i r
  obtain ⟨r1, r2, hq⟩ := hS
  refine am_ofF 2 cpX5 mT_X5_isMissing (plainFor_of_name (by decide +kernel)) (rfl) (Nat.le_of_ble_eq_true rfl) (cpX5_ok) (mT_X5_isMissing_ok hn) (fun K hK => ?_)
  refine hK (fun _ => false) 200 _ _ _ _ ?_
  simp only [↓wp, ↓stp, ilen, lnth, st1, st2, nolong, nohead, rnth, ↓gfX, ↓pfX, gfV, pfV, cpF, cpP, cndZ, ↓tgo, ↓tsw, ↓lsw, ↓ldI, ↓ldA, ↓ldL, ↓stI, ↓stA, ↓stL, ↓bin, ↓binD, ↓binL, ↓binDL, ↓una, ↓acV, ↓acK, ↓acpy, ↓inv, entL, nones, SH, List.length_cons, List.length_nil, List.take, List.drop, List.reverse_cons, List.reverse_nil, List.nil_append, List.cons_append, Option.toList_some, Option.toList_none, Nat.reduceAdd, Nat.reduceSub, Nat.reduceLT, Nat.reduceEqDiff, Fin.isValue, Int.toNat_natCast, Nat.reduceBEq, beq_self_eq_true, Fin.val_zero, Fin.val_one, fin0, fin1, fin2, fin3, Nat.le_refl, Nat.reduceLeDiff, Nat.zero_le, Int.reduceAdd, Int.reduceNeg, Int.reduceLE, Int.reduceLT, Int.reduceToNat, Int.reduceMul, Int.cast_ofNat_Int, Nat.reduceMod, ↓reduceIte, if_true, if_false, and_true, true_and, or_true, true_or, false_or, or_false, and_self, not_true_eq_false, not_false_eq_true, Bool.false_eq_true, reduceCtorEq, false_implies, true_implies, implies_true, and_false, false_and, dX5_isMissing_0, dX5_isMissing_1, dX5_isMissing_4, dX5_isMissing_5, dX5_isMissing_6, dX5_isMissing_7, dX5_isMissing_10, dX5_isMissing_11, dX5_isMissing_14, dX5_isMissing_15, cpX5, mT_X5_isMissing]
  (repeat' (first | apply And.intro | intro _)) <;> first | omega | exact hq | (rw [if_pos (by omega)] at hq; exact hq) | (rw [if_neg (by omega)] at hq; exact hq) | (repeat (first | rw [if_pos (by omega)] at hq | rw [if_neg (by omega)] at hq)) <;> exact hq | assumption | exact R32_of _
def S_X5_ofOneLane : MSpec := fun a σ Q => match a with
  | [.inr (.inl 1), .inl r, .inl s] => (0 ≤ r ∧ r < 8) ∧ (0 ≤ s ∧ s < 8) ∧ (0 ≤ σ 3 r.toNat ∧ σ 3 r.toNat ≤ 2) ∧ (0 ≤ σ 3 s.toNat ∧ σ 3 s.toNat ≤ 2) ∧ Q (some (.inl (if σ 3 r.toNat = σ 3 s.toNat then 1 else 0))) σ
  | _ => False
theorem rc_X5_ofOneLane : ∀ a σ Q, S_X5_ofOneLane a σ Q → ∃ (p : Nat) (r : List AV), a = .inr (.inl p) :: r ∧ p < 76 ∧ (SH p).1 = 4 ∧ (SH p).2.1 = 4 := by
  intro a σ Q h
  unfold S_X5_ofOneLane at h
  split at h
  · exact ⟨1, _, rfl, by decide, rfl, rfl⟩
  · exact h.elim
def mT_X5_ofOneLane (i : Nat) : Option (Nat × Bool × MSpec) := match i with
  | _ => none
theorem mT_X5_ofOneLane_ok {l : Launch} {n : Nat} (hn : 0 ≤ n) : ∀ i e, mT_X5_ofOneLane i = some e → mV l (rmOf n) RX5 i e := by
  intro i e h
  unfold mT_X5_ofOneLane at h
  split at h
  · cases h
set_option maxRecDepth 100000 in
set_option maxHeartbeats 4000000 in
theorem ok_X5_ofOneLane : ∀ l n, 0 ≤ n → ∀ a σ Q, S_X5_ofOneLane a σ Q → AM l n yX5_ofOneLane cX5_ofOneLane 3 (some .boolean) a σ Q := by
  intro l n hn a σ Q hS
  unfold S_X5_ofOneLane at hS
  split at hS
  rotate_left
  · exact hS.elim
  rename_i r s
  obtain ⟨r1, r2, r3, r4, hq⟩ := hS
  refine am_ofF 2 cpX5 mT_X5_ofOneLane (plainFor_of_name (by decide +kernel)) (rfl) (Nat.le_of_ble_eq_true rfl) (cpX5_ok) (mT_X5_ofOneLane_ok hn) (fun K hK => ?_)
  refine hK (fun _ => false) 200 _ _ _ _ ?_
  simp only [↓wp, ↓stp, ilen, lnth, st1, st2, nolong, nohead, rnth, ↓gfX, ↓pfX, gfV, pfV, cpF, cpP, cndZ, ↓tgo, ↓tsw, ↓lsw, ↓ldI, ↓ldA, ↓ldL, ↓stI, ↓stA, ↓stL, ↓bin, ↓binD, ↓binL, ↓binDL, ↓una, ↓acV, ↓acK, ↓acpy, ↓inv, entL, nones, SH, List.length_cons, List.length_nil, List.take, List.drop, List.reverse_cons, List.reverse_nil, List.nil_append, List.cons_append, Option.toList_some, Option.toList_none, Nat.reduceAdd, Nat.reduceSub, Nat.reduceLT, Nat.reduceEqDiff, Fin.isValue, Int.toNat_natCast, Nat.reduceBEq, beq_self_eq_true, Fin.val_zero, Fin.val_one, fin0, fin1, fin2, fin3, Nat.le_refl, Nat.reduceLeDiff, Nat.zero_le, Int.reduceAdd, Int.reduceNeg, Int.reduceLE, Int.reduceLT, Int.reduceToNat, Int.reduceMul, Int.cast_ofNat_Int, Nat.reduceMod, ↓reduceIte, if_true, if_false, and_true, true_and, or_true, true_or, false_or, or_false, and_self, not_true_eq_false, not_false_eq_true, Bool.false_eq_true, reduceCtorEq, false_implies, true_implies, implies_true, and_false, false_and, dX5_ofOneLane_0, dX5_ofOneLane_1, dX5_ofOneLane_4, dX5_ofOneLane_5, dX5_ofOneLane_6, dX5_ofOneLane_7, dX5_ofOneLane_10, dX5_ofOneLane_11, dX5_ofOneLane_12, dX5_ofOneLane_15, dX5_ofOneLane_16, dX5_ofOneLane_19, dX5_ofOneLane_20, cpX5, mT_X5_ofOneLane]
  (repeat' (first | apply And.intro | intro _)) <;> first | omega | exact hq | (rw [if_pos (by omega)] at hq; exact hq) | (rw [if_neg (by omega)] at hq; exact hq) | (repeat (first | rw [if_pos (by omega)] at hq | rw [if_neg (by omega)] at hq)) <;> exact hq | assumption | exact R32_of _
def S_X5_holds : MSpec := fun a σ Q => match a with
  | [.inr (.inl 1), .inl r, .inl i, .inl n] => (0 ≤ r ∧ r < 8) ∧ R32 i ∧ R32 n ∧ (-1 ≤ σ 4 r.toNat ∧ σ 4 r.toNat ≤ 40) ∧ Q (some (.inl (if 0 ≤ i ∧ 0 ≤ n ∧ n ≤ σ 4 r.toNat - i then 1 else 0))) σ
  | _ => False
theorem rc_X5_holds : ∀ a σ Q, S_X5_holds a σ Q → ∃ (p : Nat) (r : List AV), a = .inr (.inl p) :: r ∧ p < 76 ∧ (SH p).1 = 4 ∧ (SH p).2.1 = 4 := by
  intro a σ Q h
  unfold S_X5_holds at h
  split at h
  · exact ⟨1, _, rfl, by decide, rfl, rfl⟩
  · exact h.elim
def mT_X5_holds (i : Nat) : Option (Nat × Bool × MSpec) := match i with
  | _ => none
theorem mT_X5_holds_ok {l : Launch} {n : Nat} (hn : 0 ≤ n) : ∀ i e, mT_X5_holds i = some e → mV l (rmOf n) RX5 i e := by
  intro i e h
  unfold mT_X5_holds at h
  split at h
  · cases h
set_option maxRecDepth 100000 in
set_option maxHeartbeats 4000000 in
theorem ok_X5_holds : ∀ l n, 0 ≤ n → ∀ a σ Q, S_X5_holds a σ Q → AM l n yX5_holds cX5_holds 4 (some .boolean) a σ Q := by
  intro l n hn a σ Q hS
  unfold S_X5_holds at hS
  split at hS
  rotate_left
  · exact hS.elim
  rename_i r i n
  obtain ⟨r1, ⟨i1, i2⟩, ⟨n1, n2⟩, r3, hq⟩ := hS
  refine am_ofF 2 cpX5 mT_X5_holds (plainFor_of_name (by decide +kernel)) (rfl) (Nat.le_of_ble_eq_true rfl) (cpX5_ok) (mT_X5_holds_ok hn) (fun K hK => ?_)
  refine hK (fun _ => false) 200 _ _ _ _ ?_
  simp only [↓wp, ↓stp, ilen, lnth, st1, st2, nolong, nohead, rnth, ↓gfX, ↓pfX, gfV, pfV, cpF, cpP, cndZ, ↓tgo, ↓tsw, ↓lsw, ↓ldI, ↓ldA, ↓ldL, ↓stI, ↓stA, ↓stL, ↓bin, ↓binD, ↓binL, ↓binDL, ↓una, ↓acV, ↓acK, ↓acpy, ↓inv, entL, nones, SH, List.length_cons, List.length_nil, List.take, List.drop, List.reverse_cons, List.reverse_nil, List.nil_append, List.cons_append, Option.toList_some, Option.toList_none, Nat.reduceAdd, Nat.reduceSub, Nat.reduceLT, Nat.reduceEqDiff, Fin.isValue, Int.toNat_natCast, Nat.reduceBEq, beq_self_eq_true, Fin.val_zero, Fin.val_one, fin0, fin1, fin2, fin3, Nat.le_refl, Nat.reduceLeDiff, Nat.zero_le, Int.reduceAdd, Int.reduceNeg, Int.reduceLE, Int.reduceLT, Int.reduceToNat, Int.reduceMul, Int.cast_ofNat_Int, Nat.reduceMod, ↓reduceIte, if_true, if_false, and_true, true_and, or_true, true_or, false_or, or_false, and_self, not_true_eq_false, not_false_eq_true, Bool.false_eq_true, reduceCtorEq, false_implies, true_implies, implies_true, and_false, false_and, dX5_holds_0, dX5_holds_1, dX5_holds_4, dX5_holds_5, dX5_holds_8, dX5_holds_9, dX5_holds_10, dX5_holds_13, dX5_holds_14, dX5_holds_15, dX5_holds_16, dX5_holds_17, dX5_holds_20, dX5_holds_21, dX5_holds_24, dX5_holds_25, cpX5, mT_X5_holds]
  (repeat' (first | apply And.intro | intro _)) <;> first | omega | exact hq | (rw [if_pos (by omega)] at hq; exact hq) | (rw [if_neg (by omega)] at hq; exact hq) | (repeat (first | rw [if_pos (by omega)] at hq | rw [if_neg (by omega)] at hq)) <;> exact hq | assumption | exact R32_of _
def S_X5_itemOf : MSpec := fun a σ Q => match a with
  | [.inr (.inl 1), .inl r, .inl i] => (0 ≤ r ∧ r < 8) ∧ (0 ≤ i ∧ i < 40) ∧ Q (some (.inl (σ 2 (r * 40 + i).toNat))) σ
  | _ => False
theorem rc_X5_itemOf : ∀ a σ Q, S_X5_itemOf a σ Q → ∃ (p : Nat) (r : List AV), a = .inr (.inl p) :: r ∧ p < 76 ∧ (SH p).1 = 4 ∧ (SH p).2.1 = 4 := by
  intro a σ Q h
  unfold S_X5_itemOf at h
  split at h
  · exact ⟨1, _, rfl, by decide, rfl, rfl⟩
  · exact h.elim
def mT_X5_itemOf (i : Nat) : Option (Nat × Bool × MSpec) := match i with
  | _ => none
theorem mT_X5_itemOf_ok {l : Launch} {n : Nat} (hn : 0 ≤ n) : ∀ i e, mT_X5_itemOf i = some e → mV l (rmOf n) RX5 i e := by
  intro i e h
  unfold mT_X5_itemOf at h
  split at h
  · cases h
set_option maxRecDepth 100000 in
set_option maxHeartbeats 4000000 in
theorem ok_X5_itemOf : ∀ l n, 0 ≤ n → ∀ a σ Q, S_X5_itemOf a σ Q → AM l n yX5_itemOf cX5_itemOf 3 (some .int) a σ Q := by
  intro l n hn a σ Q hS
  unfold S_X5_itemOf at hS
  split at hS
  rotate_left
  · exact hS.elim
  rename_i r i
  obtain ⟨r1, r2, hq⟩ := hS
  refine am_ofF 1 cpX5 mT_X5_itemOf (plainFor_of_name (by decide +kernel)) (rfl) (Nat.le_of_ble_eq_true rfl) (cpX5_ok) (mT_X5_itemOf_ok hn) (fun K hK => ?_)
  refine hK (fun _ => false) 200 _ _ _ _ ?_
  simp only [↓wp, ↓stp, ilen, lnth, st1, st2, nolong, nohead, rnth, ↓gfX, ↓pfX, gfV, pfV, cpF, cpP, cndZ, ↓tgo, ↓tsw, ↓lsw, ↓ldI, ↓ldA, ↓ldL, ↓stI, ↓stA, ↓stL, ↓bin, ↓binD, ↓binL, ↓binDL, ↓una, ↓acV, ↓acK, ↓acpy, ↓inv, entL, nones, SH, List.length_cons, List.length_nil, List.take, List.drop, List.reverse_cons, List.reverse_nil, List.nil_append, List.cons_append, Option.toList_some, Option.toList_none, Nat.reduceAdd, Nat.reduceSub, Nat.reduceLT, Nat.reduceEqDiff, Fin.isValue, Int.toNat_natCast, Nat.reduceBEq, beq_self_eq_true, Fin.val_zero, Fin.val_one, fin0, fin1, fin2, fin3, Nat.le_refl, Nat.reduceLeDiff, Nat.zero_le, Int.reduceAdd, Int.reduceNeg, Int.reduceLE, Int.reduceLT, Int.reduceToNat, Int.reduceMul, Int.cast_ofNat_Int, Nat.reduceMod, ↓reduceIte, if_true, if_false, and_true, true_and, or_true, true_or, false_or, or_false, and_self, not_true_eq_false, not_false_eq_true, Bool.false_eq_true, reduceCtorEq, false_implies, true_implies, implies_true, and_false, false_and, dX5_itemOf_0, dX5_itemOf_1, dX5_itemOf_4, dX5_itemOf_5, dX5_itemOf_7, dX5_itemOf_8, dX5_itemOf_9, dX5_itemOf_10, dX5_itemOf_11, cpX5, mT_X5_itemOf]
  (repeat' (first | apply And.intro | intro _)) <;> first | omega | exact hq | (rw [if_pos (by omega)] at hq; exact hq) | (rw [if_neg (by omega)] at hq; exact hq) | (repeat (first | rw [if_pos (by omega)] at hq | rw [if_neg (by omega)] at hq)) <;> exact hq | assumption | exact R32_of _
def S_X5_lose : MSpec := fun a σ Q => match a with
  | [.inr (.inl 1), .inl r] => (0 ≤ r ∧ r < 8) ∧ Q (some (.inl (σ 4 r.toNat))) (hset σ 4 r.toNat (-1))
  | _ => False
theorem rc_X5_lose : ∀ a σ Q, S_X5_lose a σ Q → ∃ (p : Nat) (r : List AV), a = .inr (.inl p) :: r ∧ p < 76 ∧ (SH p).1 = 4 ∧ (SH p).2.1 = 4 := by
  intro a σ Q h
  unfold S_X5_lose at h
  split at h
  · exact ⟨1, _, rfl, by decide, rfl, rfl⟩
  · exact h.elim
def mT_X5_lose (i : Nat) : Option (Nat × Bool × MSpec) := match i with
  | _ => none
theorem mT_X5_lose_ok {l : Launch} {n : Nat} (hn : 0 ≤ n) : ∀ i e, mT_X5_lose i = some e → mV l (rmOf n) RX5 i e := by
  intro i e h
  unfold mT_X5_lose at h
  split at h
  · cases h
set_option maxRecDepth 100000 in
set_option maxHeartbeats 4000000 in
theorem ok_X5_lose : ∀ l n, 0 ≤ n → ∀ a σ Q, S_X5_lose a σ Q → AM l n yX5_lose cX5_lose 3 (some .int) a σ Q := by
  intro l n hn a σ Q hS
  unfold S_X5_lose at hS
  split at hS
  rotate_left
  · exact hS.elim
  rename_i r
  obtain ⟨r1, hq⟩ := hS
  refine am_ofF 1 cpX5 mT_X5_lose (plainFor_of_name (by decide +kernel)) (rfl) (Nat.le_of_ble_eq_true rfl) (cpX5_ok) (mT_X5_lose_ok hn) (fun K hK => ?_)
  refine hK (fun _ => false) 200 _ _ _ _ ?_
  simp only [↓wp, ↓stp, ilen, lnth, st1, st2, nolong, nohead, rnth, ↓gfX, ↓pfX, gfV, pfV, cpF, cpP, cndZ, ↓tgo, ↓tsw, ↓lsw, ↓ldI, ↓ldA, ↓ldL, ↓stI, ↓stA, ↓stL, ↓bin, ↓binD, ↓binL, ↓binDL, ↓una, ↓acV, ↓acK, ↓acpy, ↓inv, entL, nones, SH, List.length_cons, List.length_nil, List.take, List.drop, List.reverse_cons, List.reverse_nil, List.nil_append, List.cons_append, Option.toList_some, Option.toList_none, Nat.reduceAdd, Nat.reduceSub, Nat.reduceLT, Nat.reduceEqDiff, Fin.isValue, Int.toNat_natCast, Nat.reduceBEq, beq_self_eq_true, Fin.val_zero, Fin.val_one, fin0, fin1, fin2, fin3, Nat.le_refl, Nat.reduceLeDiff, Nat.zero_le, Int.reduceAdd, Int.reduceNeg, Int.reduceLE, Int.reduceLT, Int.reduceToNat, Int.reduceMul, Int.cast_ofNat_Int, Nat.reduceMod, ↓reduceIte, if_true, if_false, and_true, true_and, or_true, true_or, false_or, or_false, and_self, not_true_eq_false, not_false_eq_true, Bool.false_eq_true, reduceCtorEq, false_implies, true_implies, implies_true, and_false, false_and, dX5_lose_0, dX5_lose_1, dX5_lose_4, dX5_lose_5, dX5_lose_6, dX5_lose_7, dX5_lose_8, dX5_lose_11, dX5_lose_12, dX5_lose_13, dX5_lose_14, dX5_lose_15, cpX5, mT_X5_lose]
  (repeat' (first | apply And.intro | intro _)) <;> first | omega | exact hq | (rw [if_pos (by omega)] at hq; exact hq) | (rw [if_neg (by omega)] at hq; exact hq) | (repeat (first | rw [if_pos (by omega)] at hq | rw [if_neg (by omega)] at hq)) <;> exact hq | assumption | exact R32_of _
def laneV (ln v : Int) : Int := if ln = 0 then zi2b v else if ln = 1 then zi2s v else v
def S_X5_put : MSpec := fun a σ Q => match a with
  | [.inr (.inl 1), .inl r, .inl i, .inl v] => (0 ≤ r ∧ r < 8) ∧ (0 ≤ i ∧ i < 40) ∧ (0 ≤ σ 3 r.toNat ∧ σ 3 r.toNat ≤ 2) ∧ Q (some (.inl (laneV (σ 3 r.toNat) v))) (hset σ 2 (r * 40 + i).toNat (laneV (σ 3 r.toNat) v))
  | _ => False
theorem rc_X5_put : ∀ a σ Q, S_X5_put a σ Q → ∃ (p : Nat) (r : List AV), a = .inr (.inl p) :: r ∧ p < 76 ∧ (SH p).1 = 4 ∧ (SH p).2.1 = 4 := by
  intro a σ Q h
  unfold S_X5_put at h
  split at h
  · exact ⟨1, _, rfl, by decide, rfl, rfl⟩
  · exact h.elim
def mT_X5_put (i : Nat) : Option (Nat × Bool × MSpec) := match i with
  | _ => none
theorem mT_X5_put_ok {l : Launch} {n : Nat} (hn : 0 ≤ n) : ∀ i e, mT_X5_put i = some e → mV l (rmOf n) RX5 i e := by
  intro i e h
  unfold mT_X5_put at h
  split at h
  · cases h
set_option maxRecDepth 100000 in
set_option maxHeartbeats 4000000 in
theorem ok_X5_put : ∀ l n, 0 ≤ n → ∀ a σ Q, S_X5_put a σ Q → AM l n yX5_put cX5_put 5 (some .int) a σ Q := by
  intro l n hn a σ Q hS
  unfold S_X5_put at hS
  split at hS
  rotate_left
  · exact hS.elim
  rename_i r i v
  obtain ⟨r1, r2, r3, hq⟩ := hS
  refine am_ofF 1 cpX5 mT_X5_put (plainFor_of_name (by decide +kernel)) (rfl) (Nat.le_of_ble_eq_true rfl) (cpX5_ok) (mT_X5_put_ok hn) (fun K hK => ?_)
  refine hK (fun _ => false) 200 _ _ _ _ ?_
  simp only [↓wp, ↓stp, ilen, lnth, st1, st2, nolong, nohead, rnth, ↓gfX, ↓pfX, gfV, pfV, cpF, cpP, cndZ, ↓tgo, ↓tsw, ↓lsw, ↓ldI, ↓ldA, ↓ldL, ↓stI, ↓stA, ↓stL, ↓bin, ↓binD, ↓binL, ↓binDL, ↓una, ↓acV, ↓acK, ↓acpy, ↓inv, entL, nones, SH, List.length_cons, List.length_nil, List.take, List.drop, List.reverse_cons, List.reverse_nil, List.nil_append, List.cons_append, Option.toList_some, Option.toList_none, Nat.reduceAdd, Nat.reduceSub, Nat.reduceLT, Nat.reduceEqDiff, Fin.isValue, Int.toNat_natCast, Nat.reduceBEq, beq_self_eq_true, Fin.val_zero, Fin.val_one, fin0, fin1, fin2, fin3, Nat.le_refl, Nat.reduceLeDiff, Nat.zero_le, Int.reduceAdd, Int.reduceNeg, Int.reduceLE, Int.reduceLT, Int.reduceToNat, Int.reduceMul, Int.cast_ofNat_Int, Nat.reduceMod, ↓reduceIte, if_true, if_false, and_true, true_and, or_true, true_or, false_or, or_false, and_self, not_true_eq_false, not_false_eq_true, Bool.false_eq_true, reduceCtorEq, false_implies, true_implies, implies_true, and_false, false_and, dX5_put_0, dX5_put_1, dX5_put_3, dX5_put_4, dX5_put_7, dX5_put_8, dX5_put_9, dX5_put_12, dX5_put_13, dX5_put_14, dX5_put_16, dX5_put_19, dX5_put_20, dX5_put_23, dX5_put_24, dX5_put_25, dX5_put_26, dX5_put_29, dX5_put_30, dX5_put_31, dX5_put_33, dX5_put_34, dX5_put_37, dX5_put_38, dX5_put_40, dX5_put_41, dX5_put_42, dX5_put_43, dX5_put_45, dX5_put_46, dX5_put_48, cpX5, mT_X5_put]
  unfold laneV at hq
  (repeat' (first | apply And.intro | intro _)) <;> first | omega | exact hq | (rw [if_pos (by omega)] at hq; exact hq) | (rw [if_neg (by omega)] at hq; exact hq) | (repeat (first | rw [if_pos (by omega)] at hq | rw [if_neg (by omega)] at hq)) <;> exact hq | assumption | exact R32_of _
def S_X5_carry : MSpec := fun a σ Q => match a with
  | [.inr (.inl 1), .inl r, .inl i, .inl s, .inl j, .inl n] => (0 ≤ r ∧ r < 8) ∧ (0 ≤ s ∧ s < 8) ∧ 0 ≤ i ∧ 0 ≤ j ∧ 0 ≤ n ∧ i + n ≤ 40 ∧ j + n ≤ 40 ∧ Q none (hcpy σ 2 (r * 40 + i) 2 (s * 40 + j) n)
  | _ => False
theorem rc_X5_carry : ∀ a σ Q, S_X5_carry a σ Q → ∃ (p : Nat) (r : List AV), a = .inr (.inl p) :: r ∧ p < 76 ∧ (SH p).1 = 4 ∧ (SH p).2.1 = 4 := by
  intro a σ Q h
  unfold S_X5_carry at h
  split at h
  · exact ⟨1, _, rfl, by decide, rfl, rfl⟩
  · exact h.elim
def mT_X5_carry (i : Nat) : Option (Nat × Bool × MSpec) := match i with
  | _ => none
theorem mT_X5_carry_ok {l : Launch} {n : Nat} (hn : 0 ≤ n) : ∀ i e, mT_X5_carry i = some e → mV l (rmOf n) RX5 i e := by
  intro i e h
  unfold mT_X5_carry at h
  split at h
  · cases h
set_option maxRecDepth 100000 in
set_option maxHeartbeats 4000000 in
theorem ok_X5_carry : ∀ l n, 0 ≤ n → ∀ a σ Q, S_X5_carry a σ Q → AM l n yX5_carry cX5_carry 6 none a σ Q := by
  intro l n hn a σ Q hS
  unfold S_X5_carry at hS
  split at hS
  rotate_left
  · exact hS.elim
  rename_i r i s j n
  obtain ⟨r1, r2, h3, h4, h5, h6, h7, hq⟩ := hS
  refine am_ofF 0 cpX5 mT_X5_carry (plainFor_of_name (by decide +kernel)) (rfl) (Nat.le_of_ble_eq_true rfl) (cpX5_ok) (mT_X5_carry_ok hn) (fun K hK => ?_)
  refine hK (fun _ => false) 200 _ _ _ _ ?_
  simp only [↓wp, ↓stp, ilen, lnth, st1, st2, nolong, nohead, rnth, ↓gfX, ↓pfX, gfV, pfV, cpF, cpP, cndZ, ↓tgo, ↓tsw, ↓lsw, ↓ldI, ↓ldA, ↓ldL, ↓stI, ↓stA, ↓stL, ↓bin, ↓binD, ↓binL, ↓binDL, ↓una, ↓acV, ↓acK, ↓acpy, ↓inv, entL, nones, SH, List.length_cons, List.length_nil, List.take, List.drop, List.reverse_cons, List.reverse_nil, List.nil_append, List.cons_append, Option.toList_some, Option.toList_none, Nat.reduceAdd, Nat.reduceSub, Nat.reduceLT, Nat.reduceEqDiff, Fin.isValue, Int.toNat_natCast, Nat.reduceBEq, beq_self_eq_true, Fin.val_zero, Fin.val_one, fin0, fin1, fin2, fin3, Nat.le_refl, Nat.reduceLeDiff, Nat.zero_le, Int.reduceAdd, Int.reduceNeg, Int.reduceLE, Int.reduceLT, Int.reduceToNat, Int.reduceMul, Int.cast_ofNat_Int, Nat.reduceMod, ↓reduceIte, if_true, if_false, and_true, true_and, or_true, true_or, false_or, or_false, and_self, not_true_eq_false, not_false_eq_true, Bool.false_eq_true, reduceCtorEq, false_implies, true_implies, implies_true, and_false, false_and, dX5_carry_0, dX5_carry_1, dX5_carry_4, dX5_carry_5, dX5_carry_7, dX5_carry_8, dX5_carry_9, dX5_carry_10, dX5_carry_11, dX5_carry_14, dX5_carry_15, dX5_carry_17, dX5_carry_18, dX5_carry_20, dX5_carry_21, dX5_carry_23, dX5_carry_26, cpX5, mT_X5_carry]
  (repeat' (first | apply And.intro | intro _)) <;> first | omega | exact hq | (rw [if_pos (by omega)] at hq; exact hq) | (rw [if_neg (by omega)] at hq; exact hq) | (repeat (first | rw [if_pos (by omega)] at hq | rw [if_neg (by omega)] at hq)) <;> exact hq | assumption | exact R32_of _
def S_X5_make : MSpec := fun a σ Q => match a with
  | [.inr (.inl 1), .inl r, .inl ln, .inl n] => (0 ≤ r ∧ r < 8) ∧ (0 ≤ n ∧ n ≤ 40) ∧ Q none (hfill (hset (hset σ 3 r.toNat ln) 4 r.toNat n) 2 (r * 40).toNat n.toNat)
  | _ => False
theorem rc_X5_make : ∀ a σ Q, S_X5_make a σ Q → ∃ (p : Nat) (r : List AV), a = .inr (.inl p) :: r ∧ p < 76 ∧ (SH p).1 = 4 ∧ (SH p).2.1 = 4 := by
  intro a σ Q h
  unfold S_X5_make at h
  split at h
  · exact ⟨1, _, rfl, by decide, rfl, rfl⟩
  · exact h.elim
def mT_X5_make (i : Nat) : Option (Nat × Bool × MSpec) := match i with
  | _ => none
theorem mT_X5_make_ok {l : Launch} {n : Nat} (hn : 0 ≤ n) : ∀ i e, mT_X5_make i = some e → mV l (rmOf n) RX5 i e := by
  intro i e h
  unfold mT_X5_make at h
  split at h
  · cases h
set_option maxHeartbeats 4000000 in
theorem ok_X5_make : ∀ l n, 0 ≤ n → ∀ a σ Q, S_X5_make a σ Q → AM l n yX5_make cX5_make 5 none a σ Q := by
  intro l n hn a σ Q hS
  unfold S_X5_make at hS
  split at hS
  rotate_left
  · exact hS.elim
  rename_i r ln n'
  obtain ⟨r1, r2, hq⟩ := hS
  obtain ⟨N, rfl⟩ : ∃ N : Nat, n' = (N : Int) := ⟨n'.toNat, by omega⟩
  refine am_ofF 0 cpX5 mT_X5_make (plainFor_of_name (by decide +kernel)) (rfl) (Nat.le_of_ble_eq_true rfl) (cpX5_ok) (mT_X5_make_ok hn) (fun K hK => ?_)
  have loop : ∀ (k i : Nat), i + k = N → K 17 [some (.inr (.inl 1)), some (.inl r), some (.inl ln), some (.inl (N : Int)), some (.inl (i : Int))] [] (hfill (hset (hset σ 3 r.toNat ln) 4 r.toNat N) 2 (r * 40).toNat i) := by
    intro k
    induction k with
    | zero =>
      intro i hi
      refine hK (fun q => q == 17) 60 _ _ _ _ ?_
      simp only [↓wp, ↓stp, ilen, lnth, st1, st2, nolong, nohead, rnth, ↓gfX, ↓pfX, gfV, pfV, cpF, cpP, cndZ, ↓tgo, ↓tsw, ↓lsw, ↓ldI, ↓ldA, ↓ldL, ↓stI, ↓stA, ↓stL, ↓bin, ↓binD, ↓binL, ↓binDL, ↓una, ↓acV, ↓acK, ↓acpy, ↓inv, entL, nones, SH, List.length_cons, List.length_nil, List.take, List.drop, List.reverse_cons, List.reverse_nil, List.nil_append, List.cons_append, Option.toList_some, Option.toList_none, Nat.reduceAdd, Nat.reduceSub, Nat.reduceLT, Nat.reduceEqDiff, Fin.isValue, Int.toNat_natCast, Nat.reduceBEq, beq_self_eq_true, Fin.val_zero, Fin.val_one, fin0, fin1, fin2, fin3, Nat.le_refl, Nat.reduceLeDiff, Nat.zero_le, Int.reduceAdd, Int.reduceNeg, Int.reduceLE, Int.reduceLT, Int.reduceToNat, Int.reduceMul, Int.cast_ofNat_Int, Nat.reduceMod, ↓reduceIte, if_true, if_false, and_true, true_and, or_true, true_or, false_or, or_false, and_self, not_true_eq_false, not_false_eq_true, Bool.false_eq_true, reduceCtorEq, false_implies, true_implies, implies_true, and_false, false_and, dX5_make_0, dX5_make_1, dX5_make_4, dX5_make_5, dX5_make_6, dX5_make_7, dX5_make_8, dX5_make_11, dX5_make_12, dX5_make_13, dX5_make_14, dX5_make_15, dX5_make_17, dX5_make_19, dX5_make_20, dX5_make_23, dX5_make_24, dX5_make_27, dX5_make_28, dX5_make_30, dX5_make_31, dX5_make_33, dX5_make_34, dX5_make_35, dX5_make_36, dX5_make_39, dX5_make_42, cpX5, mT_X5_make]
      refine ⟨⟨by omega, by omega⟩, ⟨by omega, by omega⟩, fun q => ?_, fun q => by omega⟩
      rw [show i = N by omega]
      exact hq
    | succ k ih =>
      intro i hi
      refine hK (fun q => q == 17) 60 _ _ _ _ ?_
      simp only [↓wp, ↓stp, ilen, lnth, st1, st2, nolong, nohead, rnth, ↓gfX, ↓pfX, gfV, pfV, cpF, cpP, cndZ, ↓tgo, ↓tsw, ↓lsw, ↓ldI, ↓ldA, ↓ldL, ↓stI, ↓stA, ↓stL, ↓bin, ↓binD, ↓binL, ↓binDL, ↓una, ↓acV, ↓acK, ↓acpy, ↓inv, entL, nones, SH, List.length_cons, List.length_nil, List.take, List.drop, List.reverse_cons, List.reverse_nil, List.nil_append, List.cons_append, Option.toList_some, Option.toList_none, Nat.reduceAdd, Nat.reduceSub, Nat.reduceLT, Nat.reduceEqDiff, Fin.isValue, Int.toNat_natCast, Nat.reduceBEq, beq_self_eq_true, Fin.val_zero, Fin.val_one, fin0, fin1, fin2, fin3, Nat.le_refl, Nat.reduceLeDiff, Nat.zero_le, Int.reduceAdd, Int.reduceNeg, Int.reduceLE, Int.reduceLT, Int.reduceToNat, Int.reduceMul, Int.cast_ofNat_Int, Nat.reduceMod, ↓reduceIte, if_true, if_false, and_true, true_and, or_true, true_or, false_or, or_false, and_self, not_true_eq_false, not_false_eq_true, Bool.false_eq_true, reduceCtorEq, false_implies, true_implies, implies_true, and_false, false_and, dX5_make_0, dX5_make_1, dX5_make_4, dX5_make_5, dX5_make_6, dX5_make_7, dX5_make_8, dX5_make_11, dX5_make_12, dX5_make_13, dX5_make_14, dX5_make_15, dX5_make_17, dX5_make_19, dX5_make_20, dX5_make_23, dX5_make_24, dX5_make_27, dX5_make_28, dX5_make_30, dX5_make_31, dX5_make_33, dX5_make_34, dX5_make_35, dX5_make_36, dX5_make_39, dX5_make_42, cpX5, mT_X5_make]
      refine ⟨⟨by omega, by omega⟩, ⟨by omega, by omega⟩, fun q => by omega, fun q => ⟨by omega, by omega, ?_⟩⟩
      have := ih (i + 1) (by omega)
      rw [← hfill_step, show (r * 40).toNat + i = (r * 40 + (i : Int)).toNat by omega] at this
      exact this
  refine hK (fun q => q == 17) 60 _ _ _ _ ?_
  simp only [↓wp, ↓stp, ilen, lnth, st1, st2, nolong, nohead, rnth, ↓gfX, ↓pfX, gfV, pfV, cpF, cpP, cndZ, ↓tgo, ↓tsw, ↓lsw, ↓ldI, ↓ldA, ↓ldL, ↓stI, ↓stA, ↓stL, ↓bin, ↓binD, ↓binL, ↓binDL, ↓una, ↓acV, ↓acK, ↓acpy, ↓inv, entL, nones, SH, List.length_cons, List.length_nil, List.take, List.drop, List.reverse_cons, List.reverse_nil, List.nil_append, List.cons_append, Option.toList_some, Option.toList_none, Nat.reduceAdd, Nat.reduceSub, Nat.reduceLT, Nat.reduceEqDiff, Fin.isValue, Int.toNat_natCast, Nat.reduceBEq, beq_self_eq_true, Fin.val_zero, Fin.val_one, fin0, fin1, fin2, fin3, Nat.le_refl, Nat.reduceLeDiff, Nat.zero_le, Int.reduceAdd, Int.reduceNeg, Int.reduceLE, Int.reduceLT, Int.reduceToNat, Int.reduceMul, Int.cast_ofNat_Int, Nat.reduceMod, ↓reduceIte, if_true, if_false, and_true, true_and, or_true, true_or, false_or, or_false, and_self, not_true_eq_false, not_false_eq_true, Bool.false_eq_true, reduceCtorEq, false_implies, true_implies, implies_true, and_false, false_and, dX5_make_0, dX5_make_1, dX5_make_4, dX5_make_5, dX5_make_6, dX5_make_7, dX5_make_8, dX5_make_11, dX5_make_12, dX5_make_13, dX5_make_14, dX5_make_15, dX5_make_17, dX5_make_19, dX5_make_20, dX5_make_23, dX5_make_24, dX5_make_27, dX5_make_28, dX5_make_30, dX5_make_31, dX5_make_33, dX5_make_34, dX5_make_35, dX5_make_36, dX5_make_39, dX5_make_42, cpX5, mT_X5_make]
  refine ⟨by omega, by omega, by omega, by omega, ?_⟩
  have := loop N 0 (by omega)
  rw [hfill_0] at this
  exact this
def S_X5_howMany : MSpec := fun a σ Q => match a with
  | [.inr (.inl 1)] => (∀ r, r < 8 → -1 ≤ σ 4 r ∧ σ 4 r ≤ 40) ∧ Q (some (.inl (howM (σ 4) 8))) σ
  | _ => False
theorem rc_X5_howMany : ∀ a σ Q, S_X5_howMany a σ Q → ∃ (p : Nat) (r : List AV), a = .inr (.inl p) :: r ∧ p < 76 ∧ (SH p).1 = 4 ∧ (SH p).2.1 = 4 := by
  intro a σ Q h
  unfold S_X5_howMany at h
  split at h
  · exact ⟨1, _, rfl, by decide, rfl, rfl⟩
  · exact h.elim
def mT_X5_howMany (i : Nat) : Option (Nat × Bool × MSpec) := match i with
  | _ => none
theorem mT_X5_howMany_ok {l : Launch} {n : Nat} (hn : 0 ≤ n) : ∀ i e, mT_X5_howMany i = some e → mV l (rmOf n) RX5 i e := by
  intro i e h
  unfold mT_X5_howMany at h
  split at h
  · cases h
set_option maxHeartbeats 4000000 in
theorem ok_X5_howMany : ∀ l n, 0 ≤ n → ∀ a σ Q, S_X5_howMany a σ Q → AM l n yX5_howMany cX5_howMany 3 (some .int) a σ Q := by
  intro l n hn a σ Q hS
  unfold S_X5_howMany at hS
  split at hS
  rotate_left
  · exact hS.elim
  obtain ⟨r1, hq⟩ := hS
  refine am_ofF 1 cpX5 mT_X5_howMany (plainFor_of_name (by decide +kernel)) (rfl) (Nat.le_of_ble_eq_true rfl) (cpX5_ok) (mT_X5_howMany_ok hn) (fun K hK => ?_)
  have loop : ∀ (k i : Nat), i + k = 8 → K 4 [some (.inr (.inl 1)), some (.inl (howM (σ 4) i)), some (.inl (i : Int))] [] σ := by
    intro k
    induction k with
    | zero =>
      intro i hi
      refine hK (fun q => q == 4) 60 _ _ _ _ ?_
      simp only [↓wp, ↓stp, ilen, lnth, st1, st2, nolong, nohead, rnth, ↓gfX, ↓pfX, gfV, pfV, cpF, cpP, cndZ, ↓tgo, ↓tsw, ↓lsw, ↓ldI, ↓ldA, ↓ldL, ↓stI, ↓stA, ↓stL, ↓bin, ↓binD, ↓binL, ↓binDL, ↓una, ↓acV, ↓acK, ↓acpy, ↓inv, entL, nones, SH, List.length_cons, List.length_nil, List.take, List.drop, List.reverse_cons, List.reverse_nil, List.nil_append, List.cons_append, Option.toList_some, Option.toList_none, Nat.reduceAdd, Nat.reduceSub, Nat.reduceLT, Nat.reduceEqDiff, Fin.isValue, Int.toNat_natCast, Nat.reduceBEq, beq_self_eq_true, Fin.val_zero, Fin.val_one, fin0, fin1, fin2, fin3, Nat.le_refl, Nat.reduceLeDiff, Nat.zero_le, Int.reduceAdd, Int.reduceNeg, Int.reduceLE, Int.reduceLT, Int.reduceToNat, Int.reduceMul, Int.cast_ofNat_Int, Nat.reduceMod, ↓reduceIte, if_true, if_false, and_true, true_and, or_true, true_or, false_or, or_false, and_self, not_true_eq_false, not_false_eq_true, Bool.false_eq_true, reduceCtorEq, false_implies, true_implies, implies_true, and_false, false_and, dX5_howMany_0, dX5_howMany_1, dX5_howMany_2, dX5_howMany_3, dX5_howMany_4, dX5_howMany_5, dX5_howMany_7, dX5_howMany_10, dX5_howMany_11, dX5_howMany_12, dX5_howMany_15, dX5_howMany_16, dX5_howMany_17, dX5_howMany_18, dX5_howMany_21, dX5_howMany_22, dX5_howMany_25, dX5_howMany_26, dX5_howMany_27, dX5_howMany_28, dX5_howMany_31, dX5_howMany_34, dX5_howMany_35, cpX5, mT_X5_howMany]
      refine ⟨⟨by omega, by omega⟩, ⟨by omega, by omega⟩, fun q => ?_, fun q => by omega⟩
      rw [show i = 8 by omega]
      exact hq
    | succ k ih =>
      intro i hi
      have h1 := r1 i (by omega)
      have h2 := ih (i + 1) (by omega)
      refine hK (fun q => q == 4) 60 _ _ _ _ ?_
      simp only [↓wp, ↓stp, ilen, lnth, st1, st2, nolong, nohead, rnth, ↓gfX, ↓pfX, gfV, pfV, cpF, cpP, cndZ, ↓tgo, ↓tsw, ↓lsw, ↓ldI, ↓ldA, ↓ldL, ↓stI, ↓stA, ↓stL, ↓bin, ↓binD, ↓binL, ↓binDL, ↓una, ↓acV, ↓acK, ↓acpy, ↓inv, entL, nones, SH, List.length_cons, List.length_nil, List.take, List.drop, List.reverse_cons, List.reverse_nil, List.nil_append, List.cons_append, Option.toList_some, Option.toList_none, Nat.reduceAdd, Nat.reduceSub, Nat.reduceLT, Nat.reduceEqDiff, Fin.isValue, Int.toNat_natCast, Nat.reduceBEq, beq_self_eq_true, Fin.val_zero, Fin.val_one, fin0, fin1, fin2, fin3, Nat.le_refl, Nat.reduceLeDiff, Nat.zero_le, Int.reduceAdd, Int.reduceNeg, Int.reduceLE, Int.reduceLT, Int.reduceToNat, Int.reduceMul, Int.cast_ofNat_Int, Nat.reduceMod, ↓reduceIte, if_true, if_false, and_true, true_and, or_true, true_or, false_or, or_false, and_self, not_true_eq_false, not_false_eq_true, Bool.false_eq_true, reduceCtorEq, false_implies, true_implies, implies_true, and_false, false_and, dX5_howMany_0, dX5_howMany_1, dX5_howMany_2, dX5_howMany_3, dX5_howMany_4, dX5_howMany_5, dX5_howMany_7, dX5_howMany_10, dX5_howMany_11, dX5_howMany_12, dX5_howMany_15, dX5_howMany_16, dX5_howMany_17, dX5_howMany_18, dX5_howMany_21, dX5_howMany_22, dX5_howMany_25, dX5_howMany_26, dX5_howMany_27, dX5_howMany_28, dX5_howMany_31, dX5_howMany_34, dX5_howMany_35, cpX5, mT_X5_howMany]
      unfold howM at h2
      refine ⟨⟨by omega, by omega⟩, ⟨by omega, by omega⟩, fun q => by omega, fun q => ⟨by omega, by omega, ⟨by omega, by omega⟩, ⟨by omega, by omega⟩, fun z => ?_, fun z => ?_⟩⟩
      · rw [if_neg z] at h2
        exact h2
      · rw [if_pos (by omega)] at h2
        exact h2
  refine hK (fun q => q == 4) 60 _ _ _ _ ?_
  simp only [↓wp, ↓stp, ilen, lnth, st1, st2, nolong, nohead, rnth, ↓gfX, ↓pfX, gfV, pfV, cpF, cpP, cndZ, ↓tgo, ↓tsw, ↓lsw, ↓ldI, ↓ldA, ↓ldL, ↓stI, ↓stA, ↓stL, ↓bin, ↓binD, ↓binL, ↓binDL, ↓una, ↓acV, ↓acK, ↓acpy, ↓inv, entL, nones, SH, List.length_cons, List.length_nil, List.take, List.drop, List.reverse_cons, List.reverse_nil, List.nil_append, List.cons_append, Option.toList_some, Option.toList_none, Nat.reduceAdd, Nat.reduceSub, Nat.reduceLT, Nat.reduceEqDiff, Fin.isValue, Int.toNat_natCast, Nat.reduceBEq, beq_self_eq_true, Fin.val_zero, Fin.val_one, fin0, fin1, fin2, fin3, Nat.le_refl, Nat.reduceLeDiff, Nat.zero_le, Int.reduceAdd, Int.reduceNeg, Int.reduceLE, Int.reduceLT, Int.reduceToNat, Int.reduceMul, Int.cast_ofNat_Int, Nat.reduceMod, ↓reduceIte, if_true, if_false, and_true, true_and, or_true, true_or, false_or, or_false, and_self, not_true_eq_false, not_false_eq_true, Bool.false_eq_true, reduceCtorEq, false_implies, true_implies, implies_true, and_false, false_and, dX5_howMany_0, dX5_howMany_1, dX5_howMany_2, dX5_howMany_3, dX5_howMany_4, dX5_howMany_5, dX5_howMany_7, dX5_howMany_10, dX5_howMany_11, dX5_howMany_12, dX5_howMany_15, dX5_howMany_16, dX5_howMany_17, dX5_howMany_18, dX5_howMany_21, dX5_howMany_22, dX5_howMany_25, dX5_howMany_26, dX5_howMany_27, dX5_howMany_28, dX5_howMany_31, dX5_howMany_34, dX5_howMany_35, cpX5, mT_X5_howMany]
  exact loop 8 0 (by omega)
end
section
/-! ===== the class's rows: row, set, copy, drop ===== -/
def S_X7_found : MSpec := fun a σ Q => match a with
  | [.inr (.inl 0), .inl f] => Q (some (.inl (-1000010 - f))) (hset σ 0 14 f)
  | _ => False
theorem rc_X7_found : ∀ a σ Q, S_X7_found a σ Q → ∃ (p : Nat) (r : List AV), a = .inr (.inl p) :: r ∧ p < 76 ∧ (SH p).1 = 4 ∧ (SH p).2.1 = 6 := by
  intro a σ Q h
  unfold S_X7_found at h
  split at h
  · exact ⟨0, _, rfl, by decide, rfl, rfl⟩
  · exact h.elim
def mT_X7_found (i : Nat) : Option (Nat × Bool × MSpec) := match i with
  | _ => none
theorem mT_X7_found_ok {l : Launch} {n : Nat} (hn : 0 ≤ n) : ∀ i e, mT_X7_found i = some e → mV l (rmOf n) RX7 i e := by
  intro i e h
  unfold mT_X7_found at h
  split at h
  · cases h
set_option maxRecDepth 100000 in
set_option maxHeartbeats 4000000 in
theorem ok_X7_found : ∀ l n, 0 ≤ n → ∀ a σ Q, S_X7_found a σ Q → AM l n yX7_found cX7_found 2 (some .int) a σ Q := by
  intro l n hn a σ Q hS
  unfold S_X7_found at hS
  split at hS
  rotate_left
  · exact hS.elim
  rename_i f
  obtain hq := hS
  refine am_ofF 1 cpX7 mT_X7_found (plainFor_of_name (by decide +kernel)) (rfl) (Nat.le_of_ble_eq_true rfl) (cpX7_ok) (mT_X7_found_ok hn) (fun K hK => ?_)
  refine hK (fun _ => false) 200 _ _ _ _ ?_
  simp only [↓wp, ↓stp, ilen, lnth, st1, st2, nolong, nohead, rnth, ↓gfX, ↓pfX, gfV, pfV, cpF, cpP, cndZ, ↓tgo, ↓tsw, ↓lsw, ↓ldI, ↓ldA, ↓ldL, ↓stI, ↓stA, ↓stL, ↓bin, ↓binD, ↓binL, ↓binDL, ↓una, ↓acV, ↓acK, ↓acpy, ↓inv, entL, nones, SH, List.length_cons, List.length_nil, List.take, List.drop, List.reverse_cons, List.reverse_nil, List.nil_append, List.cons_append, Option.toList_some, Option.toList_none, Nat.reduceAdd, Nat.reduceSub, Nat.reduceLT, Nat.reduceEqDiff, Fin.isValue, Int.toNat_natCast, Nat.reduceBEq, beq_self_eq_true, Fin.val_zero, Fin.val_one, fin0, fin1, fin2, fin3, Nat.le_refl, Nat.reduceLeDiff, Nat.zero_le, Int.reduceAdd, Int.reduceNeg, Int.reduceLE, Int.reduceLT, Int.reduceToNat, Int.reduceMul, Int.cast_ofNat_Int, Nat.reduceMod, ↓reduceIte, if_true, if_false, and_true, true_and, or_true, true_or, false_or, or_false, and_self, not_true_eq_false, not_false_eq_true, Bool.false_eq_true, reduceCtorEq, false_implies, true_implies, implies_true, and_false, false_and, dX7_found_0, dX7_found_1, dX7_found_2, dX7_found_5, dX7_found_8, dX7_found_9, dX7_found_10, cpX7, mT_X7_found]
  (repeat' (first | apply And.intro | intro _)) <;> first | omega | exact hq | (rw [if_pos (by omega)] at hq; exact hq) | (rw [if_neg (by omega)] at hq; exact hq) | (repeat (first | rw [if_pos (by omega)] at hq | rw [if_neg (by omega)] at hq)) <;> exact hq | assumption | exact R32_of _
def S_X7_fine : MSpec := fun a σ Q => match a with
  | [.inr (.inl 0), .inl v] => Q (some (.inl v)) (hset σ 0 14 0)
  | _ => False
theorem rc_X7_fine : ∀ a σ Q, S_X7_fine a σ Q → ∃ (p : Nat) (r : List AV), a = .inr (.inl p) :: r ∧ p < 76 ∧ (SH p).1 = 4 ∧ (SH p).2.1 = 6 := by
  intro a σ Q h
  unfold S_X7_fine at h
  split at h
  · exact ⟨0, _, rfl, by decide, rfl, rfl⟩
  · exact h.elim
def mT_X7_fine (i : Nat) : Option (Nat × Bool × MSpec) := match i with
  | _ => none
theorem mT_X7_fine_ok {l : Launch} {n : Nat} (hn : 0 ≤ n) : ∀ i e, mT_X7_fine i = some e → mV l (rmOf n) RX7 i e := by
  intro i e h
  unfold mT_X7_fine at h
  split at h
  · cases h
set_option maxRecDepth 100000 in
set_option maxHeartbeats 4000000 in
theorem ok_X7_fine : ∀ l n, 0 ≤ n → ∀ a σ Q, S_X7_fine a σ Q → AM l n yX7_fine cX7_fine 2 (some .int) a σ Q := by
  intro l n hn a σ Q hS
  unfold S_X7_fine at hS
  split at hS
  rotate_left
  · exact hS.elim
  rename_i v
  obtain hq := hS
  refine am_ofF 1 cpX7 mT_X7_fine (plainFor_of_name (by decide +kernel)) (rfl) (Nat.le_of_ble_eq_true rfl) (cpX7_ok) (mT_X7_fine_ok hn) (fun K hK => ?_)
  refine hK (fun _ => false) 200 _ _ _ _ ?_
  simp only [↓wp, ↓stp, ilen, lnth, st1, st2, nolong, nohead, rnth, ↓gfX, ↓pfX, gfV, pfV, cpF, cpP, cndZ, ↓tgo, ↓tsw, ↓lsw, ↓ldI, ↓ldA, ↓ldL, ↓stI, ↓stA, ↓stL, ↓bin, ↓binD, ↓binL, ↓binDL, ↓una, ↓acV, ↓acK, ↓acpy, ↓inv, entL, nones, SH, List.length_cons, List.length_nil, List.take, List.drop, List.reverse_cons, List.reverse_nil, List.nil_append, List.cons_append, Option.toList_some, Option.toList_none, Nat.reduceAdd, Nat.reduceSub, Nat.reduceLT, Nat.reduceEqDiff, Fin.isValue, Int.toNat_natCast, Nat.reduceBEq, beq_self_eq_true, Fin.val_zero, Fin.val_one, fin0, fin1, fin2, fin3, Nat.le_refl, Nat.reduceLeDiff, Nat.zero_le, Int.reduceAdd, Int.reduceNeg, Int.reduceLE, Int.reduceLT, Int.reduceToNat, Int.reduceMul, Int.cast_ofNat_Int, Nat.reduceMod, ↓reduceIte, if_true, if_false, and_true, true_and, or_true, true_or, false_or, or_false, and_self, not_true_eq_false, not_false_eq_true, Bool.false_eq_true, reduceCtorEq, false_implies, true_implies, implies_true, and_false, false_and, dX7_fine_0, dX7_fine_1, dX7_fine_2, dX7_fine_5, dX7_fine_6, cpX7, mT_X7_fine]
  (repeat' (first | apply And.intro | intro _)) <;> first | omega | exact hq | (rw [if_pos (by omega)] at hq; exact hq) | (rw [if_neg (by omega)] at hq; exact hq) | (repeat (first | rw [if_pos (by omega)] at hq | rw [if_neg (by omega)] at hq)) <;> exact hq | assumption | exact R32_of _
/-- what the class's rows hold: lanes, sizes, items -/
def iRow (σ : HP) : Prop := (∀ r, r < 8 → (-1 ≤ σ 4 r ∧ σ 4 r ≤ 40) ∧ (0 ≤ σ 3 r ∧ σ 3 r ≤ 2)) ∧ ∀ j, R32 (σ 2 j)
def S_X7_row : MSpec := fun a σ Q => match a with
  | [.inr (.inl 0), .inl r, .inl ln, .inl n] => R32 r ∧ R32 ln ∧ R32 n ∧ (if ¬ (0 ≤ r ∧ r < 8) ∨ ln < 0 ∨ 2 < ln ∨ 40 < n then Q (some (.inl (-1000001))) σ else if n < 0 then Q (some (.inl (-1000014))) (hset σ 0 14 4) else Q (some (.inl n)) (hset (hfill (hset (hset σ 3 r.toNat ln) 4 r.toNat n) 2 (r * 40).toNat n.toNat) 0 14 0))
  | _ => False
theorem rc_X7_row : ∀ a σ Q, S_X7_row a σ Q → ∃ (p : Nat) (r : List AV), a = .inr (.inl p) :: r ∧ p < 76 ∧ (SH p).1 = 4 ∧ (SH p).2.1 = 6 := by
  intro a σ Q h
  unfold S_X7_row at h
  split at h
  · exact ⟨0, _, rfl, by decide, rfl, rfl⟩
  · exact h.elim
def mT_X7_row (i : Nat) : Option (Nat × Bool × MSpec) := match i with
  | 81 => some (1, false, S_X5_isRow)
  | 86 => some (2, true, S_X7_found)
  | 90 => some (4, true, S_X5_make)
  | 94 => some (2, true, S_X7_fine)
  | _ => none
theorem mT_X7_row_ok {l : Launch} {n : Nat} (hn : 1 ≤ n) : ∀ i e, mT_X7_row i = some e → mV l (rmOf n) RX7 i e := by
  intro i e h
  unfold mT_X7_row at h
  split at h
  · cases h; exact mvS (lv := 0) mw_X5_isRow (by omega) (by decide) (by decide +kernel) (Or.inl (gtm 274 (by decide +kernel) (by decide +kernel))) ok_X5_isRow
  · cases h; exact mvI (lv := 0) (ci := 6) (T := TX7) (N := 15) mw_X7_found rfl (by omega) (by decide) (by decide +kernel) (gtm 278 (by decide +kernel) (by decide +kernel)) rc_X7_found ok_X7_found
  · cases h; exact mvI (lv := 0) (ci := 4) (T := TX5) (N := 3) mw_X5_make rfl (by omega) (by decide) (by decide +kernel) (gtm 283 (by decide +kernel) (by decide +kernel)) rc_X5_make ok_X5_make
  · cases h; exact mvI (lv := 0) (ci := 6) (T := TX7) (N := 15) mw_X7_fine rfl (by omega) (by decide) (by decide +kernel) (gtm 287 (by decide +kernel) (by decide +kernel)) rc_X7_fine ok_X7_fine
  · cases h
set_option maxRecDepth 100000 in
set_option maxHeartbeats 4000000 in
theorem ok_X7_row : ∀ l n, 1 ≤ n → ∀ a σ Q, S_X7_row a σ Q → AM l n yX7_row cX7_row 4 (some .int) a σ Q := by
  intro l n hn a σ Q hS
  unfold S_X7_row at hS
  split at hS
  rotate_left
  · exact hS.elim
  rename_i r ln n
  obtain ⟨⟨r1, r2⟩, ⟨l1, l2⟩, ⟨n1, n2⟩, hq⟩ := hS
  refine am_ofF 1 cpX7 mT_X7_row (plainFor_of_name (by decide +kernel)) (rfl) (Nat.le_of_ble_eq_true rfl) (cpX7_ok) (mT_X7_row_ok hn) (fun K hK => ?_)
  refine hK (fun _ => false) 200 _ _ _ _ ?_
  simp only [↓wp, ↓stp, ilen, lnth, st1, st2, nolong, nohead, rnth, ↓gfX, ↓pfX, gfV, pfV, cpF, cpP, cndZ, ↓tgo, ↓tsw, ↓lsw, ↓ldI, ↓ldA, ↓ldL, ↓stI, ↓stA, ↓stL, ↓bin, ↓binD, ↓binL, ↓binDL, ↓una, ↓acV, ↓acK, ↓acpy, ↓inv, entL, nones, SH, List.length_cons, List.length_nil, List.take, List.drop, List.reverse_cons, List.reverse_nil, List.nil_append, List.cons_append, Option.toList_some, Option.toList_none, Nat.reduceAdd, Nat.reduceSub, Nat.reduceLT, Nat.reduceEqDiff, Fin.isValue, Int.toNat_natCast, Nat.reduceBEq, beq_self_eq_true, Fin.val_zero, Fin.val_one, fin0, fin1, fin2, fin3, Nat.le_refl, Nat.reduceLeDiff, Nat.zero_le, Int.reduceAdd, Int.reduceNeg, Int.reduceLE, Int.reduceLT, Int.reduceToNat, Int.reduceMul, Int.cast_ofNat_Int, Nat.reduceMod, ↓reduceIte, if_true, if_false, and_true, true_and, or_true, true_or, false_or, or_false, and_self, not_true_eq_false, not_false_eq_true, Bool.false_eq_true, reduceCtorEq, false_implies, true_implies, implies_true, and_false, false_and, dX7_row_0, dX7_row_1, dX7_row_4, dX7_row_7, dX7_row_8, dX7_row_11, dX7_row_12, dX7_row_13, dX7_row_16, dX7_row_17, dX7_row_19, dX7_row_22, dX7_row_24, dX7_row_25, dX7_row_26, dX7_row_29, dX7_row_30, dX7_row_31, dX7_row_34, dX7_row_35, dX7_row_36, dX7_row_39, dX7_row_40, dX7_row_41, dX7_row_42, dX7_row_45, dX7_row_46, dX7_row_47, dX7_row_50, cpX7, mT_X7_row, S_X5_isRow, S_X5_make, S_X7_fine, S_X7_found]
  trace_state
  (repeat' (first | apply And.intro | intro _)) <;> first | omega | exact hq | (rw [if_pos (by omega)] at hq; exact hq) | (rw [if_neg (by omega)] at hq; exact hq) | (repeat (first | rw [if_pos (by omega)] at hq | rw [if_neg (by omega)] at hq)) <;> exact hq | assumption | exact R32_of _
end
