-- ===== PART A: goes FIRST, ahead of the names: the tables' words, and 'selects' of the private methods out of them =====
/-- a private method of a class that the tables say can be made, by its rows of tables_1 -/
def lw_okq (q : MethodName × Nat) : Prop := (q.1.cls ≠ "java/lang/invoke/MethodHandle" ∧ q.1.cls ≠ "java/lang/invoke/VarHandle") ∧ Cond.instantiable q.1.cls q.2 ∈ tables_1 ∧ Cond.privateMethod q.1 ∈ tables_1 ∧ Cond.instanceMethod q.1 ∈ tables_1
theorem lw_p0 : lw_okq (⟨"ImageReader$Bytes", "at", "(I)I"⟩, 2) := ⟨⟨by decide +kernel, by decide +kernel⟩, List.mem_of_getElem? (i := 26) (by decide +kernel), List.mem_of_getElem? (i := 178) (by decide +kernel), List.mem_of_getElem? (i := 179) (by decide +kernel)⟩
theorem lw_p1 : lw_okq (⟨"ImageReader", "spareImage", "()LImageReader$Image;"⟩, 8) := ⟨⟨by decide +kernel, by decide +kernel⟩, List.mem_of_getElem? (i := 18) (by decide +kernel), List.mem_of_getElem? (i := 186) (by decide +kernel), List.mem_of_getElem? (i := 187) (by decide +kernel)⟩
theorem lw_p2 : lw_okq (⟨"ImageReader", "placeOfRefusal", "(LImageReader$Image;)I"⟩, 8) := ⟨⟨by decide +kernel, by decide +kernel⟩, List.mem_of_getElem? (i := 18) (by decide +kernel), List.mem_of_getElem? (i := 190) (by decide +kernel), List.mem_of_getElem? (i := 191) (by decide +kernel)⟩
theorem lw_p3 : lw_okq (⟨"ImageReader$Bytes", "reaches", "(II)Z"⟩, 2) := ⟨⟨by decide +kernel, by decide +kernel⟩, List.mem_of_getElem? (i := 26) (by decide +kernel), List.mem_of_getElem? (i := 202) (by decide +kernel), List.mem_of_getElem? (i := 203) (by decide +kernel)⟩
theorem lw_p4 : lw_okq (⟨"ImageReader$Bytes", "pairAt", "(I)I"⟩, 2) := ⟨⟨by decide +kernel, by decide +kernel⟩, List.mem_of_getElem? (i := 26) (by decide +kernel), List.mem_of_getElem? (i := 206) (by decide +kernel), List.mem_of_getElem? (i := 207) (by decide +kernel)⟩
theorem lw_p5 : lw_okq (⟨"ImageReader$Image", "clear", "()V"⟩, 11) := ⟨⟨by decide +kernel, by decide +kernel⟩, List.mem_of_getElem? (i := 43) (by decide +kernel), List.mem_of_getElem? (i := 214) (by decide +kernel), List.mem_of_getElem? (i := 215) (by decide +kernel)⟩
theorem lw_p6 : lw_okq (⟨"ImageReader$Bytes", "wordAt", "(I)I"⟩, 2) := ⟨⟨by decide +kernel, by decide +kernel⟩, List.mem_of_getElem? (i := 26) (by decide +kernel), List.mem_of_getElem? (i := 221) (by decide +kernel), List.mem_of_getElem? (i := 222) (by decide +kernel)⟩
theorem lw_p7 : lw_okq (⟨"ImageReader$Image", "addObject", "(III)V"⟩, 11) := ⟨⟨by decide +kernel, by decide +kernel⟩, List.mem_of_getElem? (i := 43) (by decide +kernel), List.mem_of_getElem? (i := 234) (by decide +kernel), List.mem_of_getElem? (i := 235) (by decide +kernel)⟩
theorem lw_p8 : lw_okq (⟨"ImageReader$Image", "addPart", "(I)V"⟩, 11) := ⟨⟨by decide +kernel, by decide +kernel⟩, List.mem_of_getElem? (i := 43) (by decide +kernel), List.mem_of_getElem? (i := 257) (by decide +kernel), List.mem_of_getElem? (i := 258) (by decide +kernel)⟩
theorem lw_p9 : lw_okq (⟨"ImageReader$Image", "specialAt", "(I)I"⟩, 11) := ⟨⟨by decide +kernel, by decide +kernel⟩, List.mem_of_getElem? (i := 43) (by decide +kernel), List.mem_of_getElem? (i := 276) (by decide +kernel), List.mem_of_getElem? (i := 277) (by decide +kernel)⟩
theorem lw_p10 : lw_okq (⟨"ImageReader$Image", "objectOf", "(I)I"⟩, 11) := ⟨⟨by decide +kernel, by decide +kernel⟩, List.mem_of_getElem? (i := 43) (by decide +kernel), List.mem_of_getElem? (i := 280) (by decide +kernel), List.mem_of_getElem? (i := 281) (by decide +kernel)⟩
theorem lw_p11 : lw_okq (⟨"ImageReader$Image", "holds", "(I)Z"⟩, 11) := ⟨⟨by decide +kernel, by decide +kernel⟩, List.mem_of_getElem? (i := 43) (by decide +kernel), List.mem_of_getElem? (i := 284) (by decide +kernel), List.mem_of_getElem? (i := 285) (by decide +kernel)⟩
theorem lw_p12 : lw_okq (⟨"ImageReader$Image", "fieldAt", "(II)I"⟩, 11) := ⟨⟨by decide +kernel, by decide +kernel⟩, List.mem_of_getElem? (i := 43) (by decide +kernel), List.mem_of_getElem? (i := 294) (by decide +kernel), List.mem_of_getElem? (i := 295) (by decide +kernel)⟩
theorem lw_p13 : lw_okq (⟨"ImageReader$Image", "hasPart", "(II)Z"⟩, 11) := ⟨⟨by decide +kernel, by decide +kernel⟩, List.mem_of_getElem? (i := 43) (by decide +kernel), List.mem_of_getElem? (i := 298) (by decide +kernel), List.mem_of_getElem? (i := 299) (by decide +kernel)⟩
theorem lw_p14 : lw_okq (⟨"ImageReader$Image", "fieldCount", "(I)I"⟩, 11) := ⟨⟨by decide +kernel, by decide +kernel⟩, List.mem_of_getElem? (i := 43) (by decide +kernel), List.mem_of_getElem? (i := 302) (by decide +kernel), List.mem_of_getElem? (i := 303) (by decide +kernel)⟩
theorem lw_p15 : lw_okq (⟨"ImageReader$Image", "isContext", "(I)Z"⟩, 11) := ⟨⟨by decide +kernel, by decide +kernel⟩, List.mem_of_getElem? (i := 43) (by decide +kernel), List.mem_of_getElem? (i := 313) (by decide +kernel), List.mem_of_getElem? (i := 314) (by decide +kernel)⟩
def lw_privs_1 : List (MethodName × Nat) := [(⟨"ImageReader$Bytes", "at", "(I)I"⟩, 2), (⟨"ImageReader", "spareImage", "()LImageReader$Image;"⟩, 8), (⟨"ImageReader", "placeOfRefusal", "(LImageReader$Image;)I"⟩, 8), (⟨"ImageReader$Bytes", "reaches", "(II)Z"⟩, 2), (⟨"ImageReader$Bytes", "pairAt", "(I)I"⟩, 2), (⟨"ImageReader$Image", "clear", "()V"⟩, 11), (⟨"ImageReader$Bytes", "wordAt", "(I)I"⟩, 2), (⟨"ImageReader$Image", "addObject", "(III)V"⟩, 11), (⟨"ImageReader$Image", "addPart", "(I)V"⟩, 11), (⟨"ImageReader$Image", "specialAt", "(I)I"⟩, 11), (⟨"ImageReader$Image", "objectOf", "(I)I"⟩, 11), (⟨"ImageReader$Image", "holds", "(I)Z"⟩, 11), (⟨"ImageReader$Image", "fieldAt", "(II)I"⟩, 11), (⟨"ImageReader$Image", "hasPart", "(II)Z"⟩, 11), (⟨"ImageReader$Image", "fieldCount", "(I)I"⟩, 11), (⟨"ImageReader$Image", "isContext", "(I)Z"⟩, 11)]
theorem lw_r1 : ∀ q ∈ lw_privs_1, lw_okq q := List.forall_mem_cons.mpr ⟨lw_p0, List.forall_mem_cons.mpr ⟨lw_p1, List.forall_mem_cons.mpr ⟨lw_p2, List.forall_mem_cons.mpr ⟨lw_p3, List.forall_mem_cons.mpr ⟨lw_p4, List.forall_mem_cons.mpr ⟨lw_p5, List.forall_mem_cons.mpr ⟨lw_p6, List.forall_mem_cons.mpr ⟨lw_p7, List.forall_mem_cons.mpr ⟨lw_p8, List.forall_mem_cons.mpr ⟨lw_p9, List.forall_mem_cons.mpr ⟨lw_p10, List.forall_mem_cons.mpr ⟨lw_p11, List.forall_mem_cons.mpr ⟨lw_p12, List.forall_mem_cons.mpr ⟨lw_p13, List.forall_mem_cons.mpr ⟨lw_p14, List.forall_mem_cons.mpr ⟨lw_p15, fun _ h => absurd h List.not_mem_nil⟩⟩⟩⟩⟩⟩⟩⟩⟩⟩⟩⟩⟩⟩⟩⟩
theorem lw_p16 : lw_okq (⟨"ImageReader$Image", "isOfSpecialClass", "(II)Z"⟩, 11) := ⟨⟨by decide +kernel, by decide +kernel⟩, List.mem_of_getElem? (i := 43) (by decide +kernel), List.mem_of_getElem? (i := 317) (by decide +kernel), List.mem_of_getElem? (i := 318) (by decide +kernel)⟩
theorem lw_p17 : lw_okq (⟨"ImageReader$Image", "classAt", "(I)I"⟩, 11) := ⟨⟨by decide +kernel, by decide +kernel⟩, List.mem_of_getElem? (i := 43) (by decide +kernel), List.mem_of_getElem? (i := 327) (by decide +kernel), List.mem_of_getElem? (i := 328) (by decide +kernel)⟩
theorem lw_p18 : lw_okq (⟨"ImageReader$Image", "isOfBytes", "(I)Z"⟩, 11) := ⟨⟨by decide +kernel, by decide +kernel⟩, List.mem_of_getElem? (i := 43) (by decide +kernel), List.mem_of_getElem? (i := 331) (by decide +kernel), List.mem_of_getElem? (i := 332) (by decide +kernel)⟩
theorem lw_p19 : lw_okq (⟨"ImageReader$Image", "bodyByteAt", "(II)I"⟩, 11) := ⟨⟨by decide +kernel, by decide +kernel⟩, List.mem_of_getElem? (i := 43) (by decide +kernel), List.mem_of_getElem? (i := 417) (by decide +kernel), List.mem_of_getElem? (i := 418) (by decide +kernel)⟩
theorem lw_p20 : lw_okq (⟨"ImageReader$Walk", "reach", "(LImageReader$Image;)I"⟩, 3) := ⟨⟨by decide +kernel, by decide +kernel⟩, List.mem_of_getElem? (i := 113) (by decide +kernel), List.mem_of_getElem? (i := 425) (by decide +kernel), List.mem_of_getElem? (i := 426) (by decide +kernel)⟩
theorem lw_p21 : lw_okq (⟨"ImageReader$Walk", "clear", "(LImageReader$Image;)V"⟩, 3) := ⟨⟨by decide +kernel, by decide +kernel⟩, List.mem_of_getElem? (i := 113) (by decide +kernel), List.mem_of_getElem? (i := 429) (by decide +kernel), List.mem_of_getElem? (i := 430) (by decide +kernel)⟩
theorem lw_p22 : lw_okq (⟨"ImageReader$Walk", "visit", "(I)V"⟩, 3) := ⟨⟨by decide +kernel, by decide +kernel⟩, List.mem_of_getElem? (i := 113) (by decide +kernel), List.mem_of_getElem? (i := 437) (by decide +kernel), List.mem_of_getElem? (i := 438) (by decide +kernel)⟩
theorem lw_p23 : lw_okq (⟨"ImageReader$Walk", "numberAnew", "(LImageReader$Image;)V"⟩, 3) := ⟨⟨by decide +kernel, by decide +kernel⟩, List.mem_of_getElem? (i := 113) (by decide +kernel), List.mem_of_getElem? (i := 448) (by decide +kernel), List.mem_of_getElem? (i := 449) (by decide +kernel)⟩
theorem lw_p24 : lw_okq (⟨"ImageReader", "writeHead", "(I)V"⟩, 8) := ⟨⟨by decide +kernel, by decide +kernel⟩, List.mem_of_getElem? (i := 18) (by decide +kernel), List.mem_of_getElem? (i := 452) (by decide +kernel), List.mem_of_getElem? (i := 453) (by decide +kernel)⟩
theorem lw_p25 : lw_okq (⟨"ImageReader$Bytes", "add", "(I)V"⟩, 2) := ⟨⟨by decide +kernel, by decide +kernel⟩, List.mem_of_getElem? (i := 26) (by decide +kernel), List.mem_of_getElem? (i := 457) (by decide +kernel), List.mem_of_getElem? (i := 458) (by decide +kernel)⟩
theorem lw_p26 : lw_okq (⟨"ImageReader$Bytes", "addPair", "(I)V"⟩, 2) := ⟨⟨by decide +kernel, by decide +kernel⟩, List.mem_of_getElem? (i := 26) (by decide +kernel), List.mem_of_getElem? (i := 469) (by decide +kernel), List.mem_of_getElem? (i := 470) (by decide +kernel)⟩
theorem lw_p27 : lw_okq (⟨"ImageReader$Walk", "renumbered", "(LImageReader$Image;I)I"⟩, 3) := ⟨⟨by decide +kernel, by decide +kernel⟩, List.mem_of_getElem? (i := 113) (by decide +kernel), List.mem_of_getElem? (i := 474) (by decide +kernel), List.mem_of_getElem? (i := 475) (by decide +kernel)⟩
theorem lw_p28 : lw_okq (⟨"ImageReader$Bytes", "addWord", "(I)V"⟩, 2) := ⟨⟨by decide +kernel, by decide +kernel⟩, List.mem_of_getElem? (i := 26) (by decide +kernel), List.mem_of_getElem? (i := 478) (by decide +kernel), List.mem_of_getElem? (i := 479) (by decide +kernel)⟩
theorem lw_p29 : lw_okq (⟨"ImageReader", "writeObject", "(I)V"⟩, 8) := ⟨⟨by decide +kernel, by decide +kernel⟩, List.mem_of_getElem? (i := 18) (by decide +kernel), List.mem_of_getElem? (i := 483) (by decide +kernel), List.mem_of_getElem? (i := 484) (by decide +kernel)⟩
theorem lw_p30 : lw_okq (⟨"ImageReader$Pairing", "pairs", "(LImageReader$Image;LImageReader$Image;)Z"⟩, 4) := ⟨⟨by decide +kernel, by decide +kernel⟩, List.mem_of_getElem? (i := 130) (by decide +kernel), List.mem_of_getElem? (i := 499) (by decide +kernel), List.mem_of_getElem? (i := 500) (by decide +kernel)⟩
theorem lw_p31 : lw_okq (⟨"ImageReader$Pairing", "clear", "(LImageReader$Image;LImageReader$Image;)V"⟩, 4) := ⟨⟨by decide +kernel, by decide +kernel⟩, List.mem_of_getElem? (i := 130) (by decide +kernel), List.mem_of_getElem? (i := 503) (by decide +kernel), List.mem_of_getElem? (i := 504) (by decide +kernel)⟩
def lw_privs_2 : List (MethodName × Nat) := [(⟨"ImageReader$Image", "isOfSpecialClass", "(II)Z"⟩, 11), (⟨"ImageReader$Image", "classAt", "(I)I"⟩, 11), (⟨"ImageReader$Image", "isOfBytes", "(I)Z"⟩, 11), (⟨"ImageReader$Image", "bodyByteAt", "(II)I"⟩, 11), (⟨"ImageReader$Walk", "reach", "(LImageReader$Image;)I"⟩, 3), (⟨"ImageReader$Walk", "clear", "(LImageReader$Image;)V"⟩, 3), (⟨"ImageReader$Walk", "visit", "(I)V"⟩, 3), (⟨"ImageReader$Walk", "numberAnew", "(LImageReader$Image;)V"⟩, 3), (⟨"ImageReader", "writeHead", "(I)V"⟩, 8), (⟨"ImageReader$Bytes", "add", "(I)V"⟩, 2), (⟨"ImageReader$Bytes", "addPair", "(I)V"⟩, 2), (⟨"ImageReader$Walk", "renumbered", "(LImageReader$Image;I)I"⟩, 3), (⟨"ImageReader$Bytes", "addWord", "(I)V"⟩, 2), (⟨"ImageReader", "writeObject", "(I)V"⟩, 8), (⟨"ImageReader$Pairing", "pairs", "(LImageReader$Image;LImageReader$Image;)Z"⟩, 4), (⟨"ImageReader$Pairing", "clear", "(LImageReader$Image;LImageReader$Image;)V"⟩, 4)]
theorem lw_r2 : ∀ q ∈ lw_privs_2, lw_okq q := List.forall_mem_cons.mpr ⟨lw_p16, List.forall_mem_cons.mpr ⟨lw_p17, List.forall_mem_cons.mpr ⟨lw_p18, List.forall_mem_cons.mpr ⟨lw_p19, List.forall_mem_cons.mpr ⟨lw_p20, List.forall_mem_cons.mpr ⟨lw_p21, List.forall_mem_cons.mpr ⟨lw_p22, List.forall_mem_cons.mpr ⟨lw_p23, List.forall_mem_cons.mpr ⟨lw_p24, List.forall_mem_cons.mpr ⟨lw_p25, List.forall_mem_cons.mpr ⟨lw_p26, List.forall_mem_cons.mpr ⟨lw_p27, List.forall_mem_cons.mpr ⟨lw_p28, List.forall_mem_cons.mpr ⟨lw_p29, List.forall_mem_cons.mpr ⟨lw_p30, List.forall_mem_cons.mpr ⟨lw_p31, fun _ h => absurd h List.not_mem_nil⟩⟩⟩⟩⟩⟩⟩⟩⟩⟩⟩⟩⟩⟩⟩⟩
theorem lw_p32 : lw_okq (⟨"ImageReader$Pairing", "match", "(LImageReader$Image;ILImageReader$Image;I)Z"⟩, 4) := ⟨⟨by decide +kernel, by decide +kernel⟩, List.mem_of_getElem? (i := 130) (by decide +kernel), List.mem_of_getElem? (i := 511) (by decide +kernel), List.mem_of_getElem? (i := 512) (by decide +kernel)⟩
theorem lw_p33 : lw_okq (⟨"ImageReader$Pairing", "matchBodies", "(LImageReader$Image;ILImageReader$Image;I)Z"⟩, 4) := ⟨⟨by decide +kernel, by decide +kernel⟩, List.mem_of_getElem? (i := 130) (by decide +kernel), List.mem_of_getElem? (i := 516) (by decide +kernel), List.mem_of_getElem? (i := 517) (by decide +kernel)⟩
theorem lw_p34 : lw_okq (⟨"java/lang/Throwable", "fillInStackTrace", "(I)Ljava/lang/Throwable;"⟩, 6) := ⟨⟨by decide +kernel, by decide +kernel⟩, List.mem_of_getElem? (i := 566) (by decide +kernel), List.mem_of_getElem? (i := 564) (by decide +kernel), List.mem_of_getElem? (i := 565) (by decide +kernel)⟩
theorem lw_p35 : lw_okq (⟨"ImageReaderModel", "place", "()I"⟩, 13) := ⟨⟨by decide +kernel, by decide +kernel⟩, List.mem_of_getElem? (i := 619) (by decide +kernel), List.mem_of_getElem? (i := 690) (by decide +kernel), List.mem_of_getElem? (i := 691) (by decide +kernel)⟩
theorem lw_p36 : lw_okq (⟨"ImageReaderModel", "stepHead", "()I"⟩, 13) := ⟨⟨by decide +kernel, by decide +kernel⟩, List.mem_of_getElem? (i := 619) (by decide +kernel), List.mem_of_getElem? (i := 694) (by decide +kernel), List.mem_of_getElem? (i := 695) (by decide +kernel)⟩
theorem lw_p37 : lw_okq (⟨"ImageReaderModel", "stepValues", "()I"⟩, 13) := ⟨⟨by decide +kernel, by decide +kernel⟩, List.mem_of_getElem? (i := 619) (by decide +kernel), List.mem_of_getElem? (i := 704) (by decide +kernel), List.mem_of_getElem? (i := 705) (by decide +kernel)⟩
theorem lw_p38 : lw_okq (⟨"ImageReaderModel", "isValue", "(I)Z"⟩, 13) := ⟨⟨by decide +kernel, by decide +kernel⟩, List.mem_of_getElem? (i := 619) (by decide +kernel), List.mem_of_getElem? (i := 708) (by decide +kernel), List.mem_of_getElem? (i := 709) (by decide +kernel)⟩
theorem lw_p39 : lw_okq (⟨"ImageReaderModel", "stepRoom", "()I"⟩, 13) := ⟨⟨by decide +kernel, by decide +kernel⟩, List.mem_of_getElem? (i := 619) (by decide +kernel), List.mem_of_getElem? (i := 724) (by decide +kernel), List.mem_of_getElem? (i := 725) (by decide +kernel)⟩
theorem lw_p40 : lw_okq (⟨"ImageReaderModel", "stepSpecials", "()I"⟩, 13) := ⟨⟨by decide +kernel, by decide +kernel⟩, List.mem_of_getElem? (i := 619) (by decide +kernel), List.mem_of_getElem? (i := 731) (by decide +kernel), List.mem_of_getElem? (i := 732) (by decide +kernel)⟩
theorem lw_p41 : lw_okq (⟨"ImageReaderModel", "isClass", "(I)Z"⟩, 13) := ⟨⟨by decide +kernel, by decide +kernel⟩, List.mem_of_getElem? (i := 619) (by decide +kernel), List.mem_of_getElem? (i := 741) (by decide +kernel), List.mem_of_getElem? (i := 742) (by decide +kernel)⟩
theorem lw_p42 : lw_okq (⟨"ImageReaderModel", "hasFields", "(II)Z"⟩, 13) := ⟨⟨by decide +kernel, by decide +kernel⟩, List.mem_of_getElem? (i := 619) (by decide +kernel), List.mem_of_getElem? (i := 745) (by decide +kernel), List.mem_of_getElem? (i := 746) (by decide +kernel)⟩
theorem lw_p43 : lw_okq (⟨"ImageReaderModel", "fieldOf", "(II)I"⟩, 13) := ⟨⟨by decide +kernel, by decide +kernel⟩, List.mem_of_getElem? (i := 619) (by decide +kernel), List.mem_of_getElem? (i := 749) (by decide +kernel), List.mem_of_getElem? (i := 750) (by decide +kernel)⟩
theorem lw_p44 : lw_okq (⟨"ImageReaderModel", "isContext", "(I)Z"⟩, 13) := ⟨⟨by decide +kernel, by decide +kernel⟩, List.mem_of_getElem? (i := 619) (by decide +kernel), List.mem_of_getElem? (i := 756) (by decide +kernel), List.mem_of_getElem? (i := 757) (by decide +kernel)⟩
theorem lw_p45 : lw_okq (⟨"ImageReaderModel", "stepObjects", "()I"⟩, 13) := ⟨⟨by decide +kernel, by decide +kernel⟩, List.mem_of_getElem? (i := 619) (by decide +kernel), List.mem_of_getElem? (i := 760) (by decide +kernel), List.mem_of_getElem? (i := 761) (by decide +kernel)⟩
theorem lw_p46 : lw_okq (⟨"ImageReaderModel", "isRightObject", "(I)Z"⟩, 13) := ⟨⟨by decide +kernel, by decide +kernel⟩, List.mem_of_getElem? (i := 619) (by decide +kernel), List.mem_of_getElem? (i := 764) (by decide +kernel), List.mem_of_getElem? (i := 765) (by decide +kernel)⟩
theorem lw_p47 : lw_okq (⟨"ImageReaderModel", "isMethodContext", "(I)Z"⟩, 13) := ⟨⟨by decide +kernel, by decide +kernel⟩, List.mem_of_getElem? (i := 619) (by decide +kernel), List.mem_of_getElem? (i := 768) (by decide +kernel), List.mem_of_getElem? (i := 769) (by decide +kernel)⟩
def lw_privs_3 : List (MethodName × Nat) := [(⟨"ImageReader$Pairing", "match", "(LImageReader$Image;ILImageReader$Image;I)Z"⟩, 4), (⟨"ImageReader$Pairing", "matchBodies", "(LImageReader$Image;ILImageReader$Image;I)Z"⟩, 4), (⟨"java/lang/Throwable", "fillInStackTrace", "(I)Ljava/lang/Throwable;"⟩, 6), (⟨"ImageReaderModel", "place", "()I"⟩, 13), (⟨"ImageReaderModel", "stepHead", "()I"⟩, 13), (⟨"ImageReaderModel", "stepValues", "()I"⟩, 13), (⟨"ImageReaderModel", "isValue", "(I)Z"⟩, 13), (⟨"ImageReaderModel", "stepRoom", "()I"⟩, 13), (⟨"ImageReaderModel", "stepSpecials", "()I"⟩, 13), (⟨"ImageReaderModel", "isClass", "(I)Z"⟩, 13), (⟨"ImageReaderModel", "hasFields", "(II)Z"⟩, 13), (⟨"ImageReaderModel", "fieldOf", "(II)I"⟩, 13), (⟨"ImageReaderModel", "isContext", "(I)Z"⟩, 13), (⟨"ImageReaderModel", "stepObjects", "()I"⟩, 13), (⟨"ImageReaderModel", "isRightObject", "(I)Z"⟩, 13), (⟨"ImageReaderModel", "isMethodContext", "(I)Z"⟩, 13)]
theorem lw_r3 : ∀ q ∈ lw_privs_3, lw_okq q := List.forall_mem_cons.mpr ⟨lw_p32, List.forall_mem_cons.mpr ⟨lw_p33, List.forall_mem_cons.mpr ⟨lw_p34, List.forall_mem_cons.mpr ⟨lw_p35, List.forall_mem_cons.mpr ⟨lw_p36, List.forall_mem_cons.mpr ⟨lw_p37, List.forall_mem_cons.mpr ⟨lw_p38, List.forall_mem_cons.mpr ⟨lw_p39, List.forall_mem_cons.mpr ⟨lw_p40, List.forall_mem_cons.mpr ⟨lw_p41, List.forall_mem_cons.mpr ⟨lw_p42, List.forall_mem_cons.mpr ⟨lw_p43, List.forall_mem_cons.mpr ⟨lw_p44, List.forall_mem_cons.mpr ⟨lw_p45, List.forall_mem_cons.mpr ⟨lw_p46, List.forall_mem_cons.mpr ⟨lw_p47, fun _ h => absurd h List.not_mem_nil⟩⟩⟩⟩⟩⟩⟩⟩⟩⟩⟩⟩⟩⟩⟩⟩
theorem lw_p48 : lw_okq (⟨"ImageReaderModel", "isMethod", "(I)Z"⟩, 13) := ⟨⟨by decide +kernel, by decide +kernel⟩, List.mem_of_getElem? (i := 619) (by decide +kernel), List.mem_of_getElem? (i := 772) (by decide +kernel), List.mem_of_getElem? (i := 773) (by decide +kernel)⟩
theorem lw_p49 : lw_okq (⟨"ImageReaderModel", "temporaries", "(I)I"⟩, 13) := ⟨⟨by decide +kernel, by decide +kernel⟩, List.mem_of_getElem? (i := 619) (by decide +kernel), List.mem_of_getElem? (i := 777) (by decide +kernel), List.mem_of_getElem? (i := 778) (by decide +kernel)⟩
theorem lw_p50 : lw_okq (⟨"ImageReaderModel", "depth", "(I)I"⟩, 13) := ⟨⟨by decide +kernel, by decide +kernel⟩, List.mem_of_getElem? (i := 619) (by decide +kernel), List.mem_of_getElem? (i := 781) (by decide +kernel), List.mem_of_getElem? (i := 782) (by decide +kernel)⟩
theorem lw_p51 : lw_okq (⟨"ImageReaderModel", "isNumberFrom", "(III)Z"⟩, 13) := ⟨⟨by decide +kernel, by decide +kernel⟩, List.mem_of_getElem? (i := 619) (by decide +kernel), List.mem_of_getElem? (i := 785) (by decide +kernel), List.mem_of_getElem? (i := 786) (by decide +kernel)⟩
theorem lw_p52 : lw_okq (⟨"ImageReaderModel", "isCommon", "(II)Z"⟩, 13) := ⟨⟨by decide +kernel, by decide +kernel⟩, List.mem_of_getElem? (i := 619) (by decide +kernel), List.mem_of_getElem? (i := 789) (by decide +kernel), List.mem_of_getElem? (i := 790) (by decide +kernel)⟩
theorem lw_p53 : lw_okq (⟨"ImageReaderModel", "isBlockContext", "(I)Z"⟩, 13) := ⟨⟨by decide +kernel, by decide +kernel⟩, List.mem_of_getElem? (i := 619) (by decide +kernel), List.mem_of_getElem? (i := 794) (by decide +kernel), List.mem_of_getElem? (i := 795) (by decide +kernel)⟩
theorem lw_p54 : lw_okq (⟨"ImageReaderModel", "stepProcess", "()I"⟩, 13) := ⟨⟨by decide +kernel, by decide +kernel⟩, List.mem_of_getElem? (i := 619) (by decide +kernel), List.mem_of_getElem? (i := 798) (by decide +kernel), List.mem_of_getElem? (i := 799) (by decide +kernel)⟩
theorem lw_p55 : lw_okq (⟨"ImageReaderModel", "isThere", "(I)Z"⟩, 13) := ⟨⟨by decide +kernel, by decide +kernel⟩, List.mem_of_getElem? (i := 619) (by decide +kernel), List.mem_of_getElem? (i := 824) (by decide +kernel), List.mem_of_getElem? (i := 825) (by decide +kernel)⟩
theorem lw_p56 : lw_okq (⟨"ImageReaderModel", "reachAll", "()V"⟩, 13) := ⟨⟨by decide +kernel, by decide +kernel⟩, List.mem_of_getElem? (i := 619) (by decide +kernel), List.mem_of_getElem? (i := 848) (by decide +kernel), List.mem_of_getElem? (i := 849) (by decide +kernel)⟩
theorem lw_p57 : lw_okq (⟨"ImageReaderModel", "reach", "(I)V"⟩, 13) := ⟨⟨by decide +kernel, by decide +kernel⟩, List.mem_of_getElem? (i := 619) (by decide +kernel), List.mem_of_getElem? (i := 852) (by decide +kernel), List.mem_of_getElem? (i := 853) (by decide +kernel)⟩
theorem lw_p58 : lw_okq (⟨"ImageReaderModel", "put", "(II)V"⟩, 13) := ⟨⟨by decide +kernel, by decide +kernel⟩, List.mem_of_getElem? (i := 619) (by decide +kernel), List.mem_of_getElem? (i := 860) (by decide +kernel), List.mem_of_getElem? (i := 861) (by decide +kernel)⟩
theorem lw_p59 : lw_okq (⟨"ImageReaderModel", "renumbered", "(I)I"⟩, 13) := ⟨⟨by decide +kernel, by decide +kernel⟩, List.mem_of_getElem? (i := 619) (by decide +kernel), List.mem_of_getElem? (i := 864) (by decide +kernel), List.mem_of_getElem? (i := 865) (by decide +kernel)⟩
theorem lw_p60 : lw_okq (⟨"ImageReaderModel", "goes", "(II)Z"⟩, 13) := ⟨⟨by decide +kernel, by decide +kernel⟩, List.mem_of_getElem? (i := 619) (by decide +kernel), List.mem_of_getElem? (i := 876) (by decide +kernel), List.mem_of_getElem? (i := 877) (by decide +kernel)⟩
theorem lw_p61 : lw_okq (⟨"ImageReaderModel", "goTogether", "(I)Z"⟩, 13) := ⟨⟨by decide +kernel, by decide +kernel⟩, List.mem_of_getElem? (i := 619) (by decide +kernel), List.mem_of_getElem? (i := 880) (by decide +kernel), List.mem_of_getElem? (i := 881) (by decide +kernel)⟩
def lw_privs_4 : List (MethodName × Nat) := [(⟨"ImageReaderModel", "isMethod", "(I)Z"⟩, 13), (⟨"ImageReaderModel", "temporaries", "(I)I"⟩, 13), (⟨"ImageReaderModel", "depth", "(I)I"⟩, 13), (⟨"ImageReaderModel", "isNumberFrom", "(III)Z"⟩, 13), (⟨"ImageReaderModel", "isCommon", "(II)Z"⟩, 13), (⟨"ImageReaderModel", "isBlockContext", "(I)Z"⟩, 13), (⟨"ImageReaderModel", "stepProcess", "()I"⟩, 13), (⟨"ImageReaderModel", "isThere", "(I)Z"⟩, 13), (⟨"ImageReaderModel", "reachAll", "()V"⟩, 13), (⟨"ImageReaderModel", "reach", "(I)V"⟩, 13), (⟨"ImageReaderModel", "put", "(II)V"⟩, 13), (⟨"ImageReaderModel", "renumbered", "(I)I"⟩, 13), (⟨"ImageReaderModel", "goes", "(II)Z"⟩, 13), (⟨"ImageReaderModel", "goTogether", "(I)Z"⟩, 13)]
theorem lw_r4 : ∀ q ∈ lw_privs_4, lw_okq q := List.forall_mem_cons.mpr ⟨lw_p48, List.forall_mem_cons.mpr ⟨lw_p49, List.forall_mem_cons.mpr ⟨lw_p50, List.forall_mem_cons.mpr ⟨lw_p51, List.forall_mem_cons.mpr ⟨lw_p52, List.forall_mem_cons.mpr ⟨lw_p53, List.forall_mem_cons.mpr ⟨lw_p54, List.forall_mem_cons.mpr ⟨lw_p55, List.forall_mem_cons.mpr ⟨lw_p56, List.forall_mem_cons.mpr ⟨lw_p57, List.forall_mem_cons.mpr ⟨lw_p58, List.forall_mem_cons.mpr ⟨lw_p59, List.forall_mem_cons.mpr ⟨lw_p60, List.forall_mem_cons.mpr ⟨lw_p61, fun _ h => absurd h List.not_mem_nil⟩⟩⟩⟩⟩⟩⟩⟩⟩⟩⟩⟩⟩⟩
def lw_privs : List (MethodName × Nat) := lw_privs_1 ++ (lw_privs_2 ++ (lw_privs_3 ++ (lw_privs_4)))
def lw_tbl : List Cond := k2_sels lw_privs ++ tables_1
theorem lw_privs_ok : ∀ q ∈ lw_privs, lw_okq q := by
  show ∀ q ∈ lw_privs_1 ++ (lw_privs_2 ++ (lw_privs_3 ++ (lw_privs_4))), lw_okq q
  exact List.forall_mem_append.mpr ⟨lw_r1, List.forall_mem_append.mpr ⟨lw_r2, List.forall_mem_append.mpr ⟨lw_r3, lw_r4⟩⟩⟩

/-! ===== names ===== -/
def F_R : u_T := fun k => match k with
  | 0 => ("ImageReader", "incoming", "LImageReader$Bytes;", true)
  | 1 => ("ImageReader", "first", "LImageReader$Image;", true)
  | 2 => ("ImageReader", "second", "LImageReader$Image;", true)
  | 3 => ("ImageReader", "third", "LImageReader$Image;", true)
  | 4 => ("ImageReader", "walk", "LImageReader$Walk;", true)
  | 5 => ("ImageReader", "pairing", "LImageReader$Pairing;", true)
  | 6 => ("ImageReader", "hand", "LImageReader$Image;", false)
  | _ => ("ImageReader", "kept", "LImageReader$Image;", false)
def t_R : Nat → FieldType := fun k => match k with
  | 0 => .object "ImageReader$Bytes"
  | 1 => .object "ImageReader$Image"
  | 2 => .object "ImageReader$Image"
  | 3 => .object "ImageReader$Image"
  | 4 => .object "ImageReader$Walk"
  | 5 => .object "ImageReader$Pairing"
  | 6 => .object "ImageReader$Image"
  | _ => .object "ImageReader$Image"
theorem n_R : ∀ a, a < 8 → ∀ b, b < 8 → a ≠ b → (F_R a).2.1 ≠ (F_R b).2.1 := by decide +kernel
theorem t_R_ok : ∀ k, k < 8 → parseFieldDescriptor (F_R k).2.2.1 = some (t_R k) := by decide +kernel
def F_B : u_T := fun k => match k with
  | 0 => ("ImageReader$Bytes", "row", "[B", false)
  | _ => ("ImageReader$Bytes", "length", "I", false)
def t_B : Nat → FieldType := fun k => match k with
  | 0 => .array .byte
  | _ => .int
theorem n_B : ∀ a, a < 2 → ∀ b, b < 2 → a ≠ b → (F_B a).2.1 ≠ (F_B b).2.1 := by decide +kernel
theorem t_B_ok : ∀ k, k < 2 → parseFieldDescriptor (F_B k).2.2.1 = some (t_B k) := by decide +kernel
def F_I : u_T := fun k => match k with
  | 0 => ("ImageReader$Image", "specials", "[I", true)
  | 1 => ("ImageReader$Image", "classes", "[I", false)
  | 2 => ("ImageReader$Image", "kinds", "[I", false)
  | 3 => ("ImageReader$Image", "sizes", "[I", false)
  | 4 => ("ImageReader$Image", "starts", "[I", false)
  | 5 => ("ImageReader$Image", "parts", "[I", false)
  | 6 => ("ImageReader$Image", "used", "I", false)
  | 7 => ("ImageReader$Image", "count", "I", false)
  | 8 => ("ImageReader$Image", "words", "I", false)
  | 9 => ("ImageReader$Image", "wordsPower", "I", false)
  | _ => ("ImageReader$Image", "countPower", "I", false)
def t_I : Nat → FieldType := fun k => match k with
  | 0 => .array .int
  | 1 => .array .int
  | 2 => .array .int
  | 3 => .array .int
  | 4 => .array .int
  | 5 => .array .int
  | 6 => .int
  | 7 => .int
  | 8 => .int
  | 9 => .int
  | _ => .int
theorem n_I : ∀ a, a < 11 → ∀ b, b < 11 → a ≠ b → (F_I a).2.1 ≠ (F_I b).2.1 := by decide +kernel
theorem t_I_ok : ∀ k, k < 11 → parseFieldDescriptor (F_I k).2.2.1 = some (t_I k) := by decide +kernel
def F_W : u_T := fun k => match k with
  | 0 => ("ImageReader$Walk", "numbers", "[I", false)
  | 1 => ("ImageReader$Walk", "queue", "[I", false)
  | _ => ("ImageReader$Walk", "reached", "I", false)
def t_W : Nat → FieldType := fun k => match k with
  | 0 => .array .int
  | 1 => .array .int
  | _ => .int
theorem n_W : ∀ a, a < 3 → ∀ b, b < 3 → a ≠ b → (F_W a).2.1 ≠ (F_W b).2.1 := by decide +kernel
theorem t_W_ok : ∀ k, k < 3 → parseFieldDescriptor (F_W k).2.2.1 = some (t_W k) := by decide +kernel
def F_P : u_T := fun k => match k with
  | 0 => ("ImageReader$Pairing", "partners", "[I", false)
  | 1 => ("ImageReader$Pairing", "partnersBack", "[I", false)
  | 2 => ("ImageReader$Pairing", "queue", "[I", false)
  | _ => ("ImageReader$Pairing", "paired", "I", false)
def t_P : Nat → FieldType := fun k => match k with
  | 0 => .array .int
  | 1 => .array .int
  | 2 => .array .int
  | _ => .int
theorem n_P : ∀ a, a < 4 → ∀ b, b < 4 → a ≠ b → (F_P a).2.1 ≠ (F_P b).2.1 := by decide +kernel
theorem t_P_ok : ∀ k, k < 4 → parseFieldDescriptor (F_P k).2.2.1 = some (t_P k) := by decide +kernel
def F_M : u_T := fun k => match k with
  | 0 => ("ImageReaderModel", "code", "I", false)
  | 1 => ("ImageReaderModel", "in", "[B", true)
  | 2 => ("ImageReaderModel", "count", "I", false)
  | 3 => ("ImageReaderModel", "image", "[B", true)
  | 4 => ("ImageReaderModel", "length", "I", false)
  | 5 => ("ImageReaderModel", "kept", "[B", true)
  | 6 => ("ImageReaderModel", "keptLength", "I", false)
  | 7 => ("ImageReaderModel", "starts", "[I", true)
  | 8 => ("ImageReaderModel", "keptStarts", "[I", true)
  | 9 => ("ImageReaderModel", "reached", "[I", true)
  | 10 => ("ImageReaderModel", "number", "[I", true)
  | 11 => ("ImageReaderModel", "back", "[I", true)
  | _ => ("ImageReaderModel", "many", "I", false)
def t_M : Nat → FieldType := fun k => match k with
  | 0 => .int
  | 1 => .array .byte
  | 2 => .int
  | 3 => .array .byte
  | 4 => .int
  | 5 => .array .byte
  | 6 => .int
  | 7 => .array .int
  | 8 => .array .int
  | 9 => .array .int
  | 10 => .array .int
  | 11 => .array .int
  | _ => .int
theorem n_M : ∀ a, a < 13 → ∀ b, b < 13 → a ≠ b → (F_M a).2.1 ≠ (F_M b).2.1 := by decide +kernel
theorem t_M_ok : ∀ k, k < 13 → parseFieldDescriptor (F_M k).2.2.1 = some (t_M k) := by decide +kernel
abbrev classes : List vw_C := [("ImageReader", F_R, 8), ("ImageReader$Bytes", F_B, 2), ("ImageReader$Image", F_I, 11), ("ImageReader$Walk", F_W, 3), ("ImageReader$Pairing", F_P, 4), ("ImageReaderModel", F_M, 13)]
def av_okw (w : Cond) : Bool := (w.onTables && w.keeps) || (match w with | .arrayClass _ => true | _ => false)
def av_isn (w : Cond) : Bool := match w with | .fieldLinkNest _ _ _ _ _ _ => true | .methodLinkNest _ _ _ _ => true | _ => false
def av_tb : List Cond := lw_tbl.filter av_okw
def av_nw : List Cond := lw_tbl.filter av_isn
theorem av_tb_ok : ∀ w ∈ av_tb, (w.onTables && w.keeps) = true ∨ ∃ ty, w = .arrayClass ty := by
  intro w hw
  have h := (List.mem_filter.mp hw).2
  unfold av_okw at h
  rw [Bool.or_eq_true] at h
  rcases h with h | h
  · exact Or.inl h
  · split at h
    · exact Or.inr ⟨_, rfl⟩
    · cases h
theorem av_nw_ok : ∀ w ∈ av_nw, (∃ (a : String) (i : Nat) (b n d x : String), w = .fieldLinkNest a i b n d x) ∨ ∃ (a : String) (i : Nat) (y : MethodName) (x : String), w = .methodLinkNest a i y x := by
  intro w hw
  have h := (List.mem_filter.mp hw).2
  unfold av_isn at h
  split at h
  · exact Or.inl ⟨_, _, _, _, _, _, rfl⟩
  · exact Or.inr ⟨_, _, _, _, rfl⟩
  · cases h
def av_tys (dA : Nat → ClassId) : List (ClassId × FieldType) := [(dA 0, .int), (dA 1, .byte), (dA 2, .long)]
def av_t (t : Nat) : FieldType := match t with
  | 0 => .int
  | 1 => .byte
  | _ => .long
def hd_lo (j : Nat) : Int32 := match j with
  | 0 => 77
  | 1 => 77
  | 2 => 1
  | 3 => 0
  | 4 => 12
  | _ => 10
def hd_hi (j : Nat) : Int32 := match j with
  | 0 => 77
  | 1 => 77
  | 2 => 1
  | 3 => 0
  | 4 => 18
  | _ => 14
/-- the two static tables, at tb 0 and tb 1 -/
def av_St (tb : Nat → Nat) (A : Nat → Prop) (U : State) (H : Heap) : Prop :=
  (va_Z "ImageReader" "HEAD_LOWEST" "[I" (.ref (tb 0)) A U H ∧ va_T .int (tb 0) 6 (fun j => .int (hd_lo j)) A U H) ∧ (va_Z "ImageReader" "HEAD_HIGHEST" "[I" (.ref (tb 1)) A U H ∧ va_T .int (tb 1) 6 (fun j => .int (hd_hi j)) A U H)
theorem av_St.moved {tb : Nat → Nat} {A : Nat → Prop} {u U : State} {H : Heap} (hvm : u.vm.Alike U.vm) (h : av_St tb A u H) : av_St tb A U H := ⟨⟨h.1.1.moved hvm, h.1.2.moved hvm⟩, ⟨h.2.1.moved hvm, h.2.2.moved hvm⟩⟩
theorem av_St.kept {tb : Nat → Nat} {A : Nat → Prop} {U : State} {H H1 : Heap} (h : av_St tb A U H) (hq : ∀ a : Nat, a < H.size → ¬ A a → H1[a]? = H[a]?) : av_St tb A U H1 := ⟨⟨h.1.1.kept hq, h.1.2.kept hq⟩, ⟨h.2.1.kept hq, h.2.2.kept hq⟩⟩
theorem av_St.narrow {tb : Nat → Nat} {A B : Nat → Prop} {U : State} {H : Heap} (h : av_St tb A U H) (hAB : ∀ q, B q → A q) : av_St tb B U H := ⟨⟨h.1.1.narrow hAB, h.1.2.narrow hAB⟩, ⟨h.2.1.narrow hAB, h.2.2.narrow hAB⟩⟩
theorem i_R : ∀ w ∈ u_ws "ImageReader" F_R 8, w ∈ av_tb := by decide +kernel
theorem i_B : ∀ w ∈ u_ws "ImageReader$Bytes" F_B 2, w ∈ av_tb := by decide +kernel
theorem i_I : ∀ w ∈ u_ws "ImageReader$Image" F_I 11, w ∈ av_tb := by decide +kernel
theorem i_W : ∀ w ∈ u_ws "ImageReader$Walk" F_W 3, w ∈ av_tb := by decide +kernel
theorem i_P : ∀ w ∈ u_ws "ImageReader$Pairing" F_P 4, w ∈ av_tb := by decide +kernel
theorem i_M : ∀ w ∈ u_ws "ImageReaderModel" F_M 13, w ∈ av_tb := by decide +kernel
abbrev b_R_init : ByteArray := prog_1_method_1_code
abbrev y_R_init : MethodName := ⟨"ImageReader", "<init>", "()V"⟩
abbrev b_B_init : ByteArray := prog_2_method_1_code
abbrev y_B_init : MethodName := ⟨"ImageReader$Bytes", "<init>", "()V"⟩
abbrev b_I_init : ByteArray := prog_4_method_1_code
abbrev y_I_init : MethodName := ⟨"ImageReader$Image", "<init>", "()V"⟩
abbrev b_W_init : ByteArray := prog_7_method_1_code
abbrev y_W_init : MethodName := ⟨"ImageReader$Walk", "<init>", "()V"⟩
abbrev b_P_init : ByteArray := prog_6_method_1_code
abbrev y_P_init : MethodName := ⟨"ImageReader$Pairing", "<init>", "()V"⟩
abbrev b_R_change : ByteArray := prog_1_method_4_code
abbrev y_R_change : MethodName := ⟨"ImageReader", "change", "(II)I"⟩
abbrev b_B_at : ByteArray := prog_2_method_2_code
abbrev y_B_at : MethodName := ⟨"ImageReader$Bytes", "at", "(I)I"⟩
abbrev b_R_read : ByteArray := prog_1_method_5_code
abbrev y_R_read : MethodName := ⟨"ImageReader", "read", "()I"⟩
abbrev b_R_spareImage : ByteArray := prog_1_method_19_code
abbrev y_R_spareImage : MethodName := ⟨"ImageReader", "spareImage", "()LImageReader$Image;"⟩
abbrev b_R_placeOfRefusal : ByteArray := prog_1_method_20_code
abbrev y_R_placeOfRefusal : MethodName := ⟨"ImageReader", "placeOfRefusal", "(LImageReader$Image;)I"⟩
abbrev b_L_headPlace : ByteArray := prog_5_method_2_code
abbrev y_L_headPlace : MethodName := ⟨"ImageReader$Layout", "headPlace", "(LImageReader$Bytes;)I"⟩
abbrev b_B_reaches : ByteArray := prog_2_method_3_code
abbrev y_B_reaches : MethodName := ⟨"ImageReader$Bytes", "reaches", "(II)Z"⟩
abbrev b_B_pairAt : ByteArray := prog_2_method_4_code
abbrev y_B_pairAt : MethodName := ⟨"ImageReader$Bytes", "pairAt", "(I)I"⟩
abbrev b_L_takeSpecials : ByteArray := prog_5_method_3_code
abbrev y_L_takeSpecials : MethodName := ⟨"ImageReader$Layout", "takeSpecials", "(LImageReader$Bytes;LImageReader$Image;)I"⟩
abbrev b_I_clear : ByteArray := prog_4_method_2_code
abbrev y_I_clear : MethodName := ⟨"ImageReader$Image", "clear", "()V"⟩
abbrev b_L_isValueAt : ByteArray := prog_5_method_9_code
abbrev y_L_isValueAt : MethodName := ⟨"ImageReader$Layout", "isValueAt", "(LImageReader$Bytes;II)Z"⟩
abbrev b_B_wordAt : ByteArray := prog_2_method_5_code
abbrev y_B_wordAt : MethodName := ⟨"ImageReader$Bytes", "wordAt", "(I)I"⟩
abbrev b_R_isNumber : ByteArray := prog_1_method_23_code
abbrev y_R_isNumber : MethodName := ⟨"ImageReader", "isNumber", "(I)Z"⟩
abbrev b_L_takeObjects : ByteArray := prog_5_method_4_code
abbrev y_L_takeObjects : MethodName := ⟨"ImageReader$Layout", "takeObjects", "(LImageReader$Bytes;LImageReader$Image;)I"⟩
abbrev b_L_objectHeadPlace : ByteArray := prog_5_method_5_code
abbrev y_L_objectHeadPlace : MethodName := ⟨"ImageReader$Layout", "objectHeadPlace", "(LImageReader$Bytes;II)I"⟩
abbrev b_I_addObject : ByteArray := prog_4_method_3_code
abbrev y_I_addObject : MethodName := ⟨"ImageReader$Image", "addObject", "(III)V"⟩
abbrev b_A_copyOf_aII : ByteArray := prog_19_method_123_code
abbrev y_A_copyOf_aII : MethodName := ⟨"java/util/Arrays", "copyOf", "([II)[I"⟩
abbrev b_Mt_min : ByteArray := prog_14_method_69_code
abbrev y_Mt_min : MethodName := ⟨"java/lang/Math", "min", "(II)I"⟩
abbrev b_L_takeBytes : ByteArray := prog_5_method_6_code
abbrev y_L_takeBytes : MethodName := ⟨"ImageReader$Layout", "takeBytes", "(LImageReader$Bytes;IILImageReader$Image;)I"⟩
abbrev b_I_addPart : ByteArray := prog_4_method_4_code
abbrev y_I_addPart : MethodName := ⟨"ImageReader$Image", "addPart", "(I)V"⟩
abbrev b_L_takeFields : ByteArray := prog_5_method_7_code
abbrev y_L_takeFields : MethodName := ⟨"ImageReader$Layout", "takeFields", "(LImageReader$Bytes;IIILImageReader$Image;)I"⟩
abbrev b_L_bodyLength : ByteArray := prog_5_method_8_code
abbrev y_L_bodyLength : MethodName := ⟨"ImageReader$Layout", "bodyLength", "(II)I"⟩
abbrev b_F_roomPlace : ByteArray := prog_3_method_2_code
abbrev y_F_roomPlace : MethodName := ⟨"ImageReader$Form", "roomPlace", "(LImageReader$Image;)I"⟩
abbrev b_F_specialsPlace : ByteArray := prog_3_method_3_code
abbrev y_F_specialsPlace : MethodName := ⟨"ImageReader$Form", "specialsPlace", "(LImageReader$Image;)I"⟩
abbrev b_F_isSpecialFit : ByteArray := prog_3_method_4_code
abbrev y_F_isSpecialFit : MethodName := ⟨"ImageReader$Form", "isSpecialFit", "(LImageReader$Image;I)Z"⟩
abbrev b_I_specialAt : ByteArray := prog_4_method_7_code
abbrev y_I_specialAt : MethodName := ⟨"ImageReader$Image", "specialAt", "(I)I"⟩
abbrev b_I_objectOf : ByteArray := prog_4_method_6_code
abbrev y_I_objectOf : MethodName := ⟨"ImageReader$Image", "objectOf", "(I)I"⟩
abbrev b_I_holds : ByteArray := prog_4_method_5_code
abbrev y_I_holds : MethodName := ⟨"ImageReader$Image", "holds", "(I)Z"⟩
abbrev b_F_isNewSince : ByteArray := prog_3_method_5_code
abbrev y_F_isNewSince : MethodName := ⟨"ImageReader$Form", "isNewSince", "(LImageReader$Image;II)Z"⟩
abbrev b_F_isClass : ByteArray := prog_3_method_13_code
abbrev y_F_isClass : MethodName := ⟨"ImageReader$Form", "isClass", "(LImageReader$Image;I)Z"⟩
abbrev b_I_fieldAt : ByteArray := prog_4_method_11_code
abbrev y_I_fieldAt : MethodName := ⟨"ImageReader$Image", "fieldAt", "(II)I"⟩
abbrev b_I_hasPart : ByteArray := prog_4_method_13_code
abbrev y_I_hasPart : MethodName := ⟨"ImageReader$Image", "hasPart", "(II)Z"⟩
abbrev b_I_fieldCount : ByteArray := prog_4_method_10_code
abbrev y_I_fieldCount : MethodName := ⟨"ImageReader$Image", "fieldCount", "(I)I"⟩
abbrev b_R_numberOf : ByteArray := prog_1_method_25_code
abbrev y_R_numberOf : MethodName := ⟨"ImageReader", "numberOf", "(I)I"⟩
abbrev b_F_isPlain : ByteArray := prog_3_method_18_code
abbrev y_F_isPlain : MethodName := ⟨"ImageReader$Form", "isPlain", "(LImageReader$Image;II)Z"⟩
abbrev b_I_isContext : ByteArray := prog_4_method_15_code
abbrev y_I_isContext : MethodName := ⟨"ImageReader$Image", "isContext", "(I)Z"⟩
abbrev b_I_isOfSpecialClass : ByteArray := prog_4_method_14_code
abbrev y_I_isOfSpecialClass : MethodName := ⟨"ImageReader$Image", "isOfSpecialClass", "(II)Z"⟩
abbrev b_F_objectsPlace : ByteArray := prog_3_method_6_code
abbrev y_F_objectsPlace : MethodName := ⟨"ImageReader$Form", "objectsPlace", "(LImageReader$Image;)I"⟩
abbrev b_F_hasFitClass : ByteArray := prog_3_method_7_code
abbrev y_F_hasFitClass : MethodName := ⟨"ImageReader$Form", "hasFitClass", "(LImageReader$Image;I)Z"⟩
abbrev b_I_classAt : ByteArray := prog_4_method_8_code
abbrev y_I_classAt : MethodName := ⟨"ImageReader$Image", "classAt", "(I)I"⟩
abbrev b_I_isOfBytes : ByteArray := prog_4_method_9_code
abbrev y_I_isOfBytes : MethodName := ⟨"ImageReader$Image", "isOfBytes", "(I)Z"⟩
abbrev b_F_isMethodContext : ByteArray := prog_3_method_8_code
abbrev y_F_isMethodContext : MethodName := ⟨"ImageReader$Form", "isMethodContext", "(LImageReader$Image;I)Z"⟩
abbrev b_F_isMethod : ByteArray := prog_3_method_14_code
abbrev y_F_isMethod : MethodName := ⟨"ImageReader$Form", "isMethod", "(LImageReader$Image;I)Z"⟩
abbrev b_R_isNumberWithin : ByteArray := prog_1_method_24_code
abbrev y_R_isNumberWithin : MethodName := ⟨"ImageReader", "isNumberWithin", "(III)Z"⟩
abbrev b_F_temporariesOf : ByteArray := prog_3_method_16_code
abbrev y_F_temporariesOf : MethodName := ⟨"ImageReader$Form", "temporariesOf", "(I)I"⟩
abbrev b_F_argumentsOf : ByteArray := prog_3_method_15_code
abbrev y_F_argumentsOf : MethodName := ⟨"ImageReader$Form", "argumentsOf", "(I)I"⟩
abbrev b_F_depthOf : ByteArray := prog_3_method_17_code
abbrev y_F_depthOf : MethodName := ⟨"ImageReader$Form", "depthOf", "(I)I"⟩
abbrev b_F_areLinksFit : ByteArray := prog_3_method_10_code
abbrev y_F_areLinksFit : MethodName := ⟨"ImageReader$Form", "areLinksFit", "(LImageReader$Image;I)Z"⟩
abbrev b_F_isNilOrCounting : ByteArray := prog_3_method_11_code
abbrev y_F_isNilOrCounting : MethodName := ⟨"ImageReader$Form", "isNilOrCounting", "(I)Z"⟩
abbrev b_F_isNilFrom : ByteArray := prog_3_method_12_code
abbrev y_F_isNilFrom : MethodName := ⟨"ImageReader$Form", "isNilFrom", "(LImageReader$Image;II)Z"⟩
abbrev b_F_isBlockContext : ByteArray := prog_3_method_9_code
abbrev y_F_isBlockContext : MethodName := ⟨"ImageReader$Form", "isBlockContext", "(LImageReader$Image;I)Z"⟩
abbrev b_F_schedulerPlace : ByteArray := prog_3_method_19_code
abbrev y_F_schedulerPlace : MethodName := ⟨"ImageReader$Form", "schedulerPlace", "(LImageReader$Image;)I"⟩
abbrev b_F_areListsFit : ByteArray := prog_3_method_20_code
abbrev y_F_areListsFit : MethodName := ⟨"ImageReader$Form", "areListsFit", "(LImageReader$Image;I)Z"⟩
abbrev b_F_isProcessFit : ByteArray := prog_3_method_21_code
abbrev y_F_isProcessFit : MethodName := ⟨"ImageReader$Form", "isProcessFit", "(LImageReader$Image;I)Z"⟩
abbrev b_R_objects : ByteArray := prog_1_method_6_code
abbrev y_R_objects : MethodName := ⟨"ImageReader", "objects", "()I"⟩
abbrev b_R_words : ByteArray := prog_1_method_7_code
abbrev y_R_words : MethodName := ⟨"ImageReader", "words", "()I"⟩
abbrev b_R_special : ByteArray := prog_1_method_8_code
abbrev y_R_special : MethodName := ⟨"ImageReader", "special", "(I)I"⟩
abbrev b_R_kind : ByteArray := prog_1_method_9_code
abbrev y_R_kind : MethodName := ⟨"ImageReader", "kind", "(I)I"⟩
abbrev b_R_classOf : ByteArray := prog_1_method_10_code
abbrev y_R_classOf : MethodName := ⟨"ImageReader", "classOf", "(I)I"⟩
abbrev b_R_size : ByteArray := prog_1_method_11_code
abbrev y_R_size : MethodName := ⟨"ImageReader", "size", "(I)I"⟩
abbrev b_R_field : ByteArray := prog_1_method_12_code
abbrev y_R_field : MethodName := ⟨"ImageReader", "field", "(II)I"⟩
abbrev b_R_byteAt : ByteArray := prog_1_method_13_code
abbrev y_R_byteAt : MethodName := ⟨"ImageReader", "byteAt", "(II)I"⟩
abbrev b_I_bodyByteAt : ByteArray := prog_4_method_12_code
abbrev y_I_bodyByteAt : MethodName := ⟨"ImageReader$Image", "bodyByteAt", "(II)I"⟩
abbrev b_R_reachable : ByteArray := prog_1_method_14_code
abbrev y_R_reachable : MethodName := ⟨"ImageReader", "reachable", "()I"⟩
abbrev b_W_reach : ByteArray := prog_7_method_2_code
abbrev y_W_reach : MethodName := ⟨"ImageReader$Walk", "reach", "(LImageReader$Image;)I"⟩
abbrev b_W_clear : ByteArray := prog_7_method_3_code
abbrev y_W_clear : MethodName := ⟨"ImageReader$Walk", "clear", "(LImageReader$Image;)V"⟩
abbrev b_A_fill : ByteArray := prog_19_method_103_code
abbrev y_A_fill : MethodName := ⟨"java/util/Arrays", "fill", "([II)V"⟩
abbrev b_W_visit : ByteArray := prog_7_method_4_code
abbrev y_W_visit : MethodName := ⟨"ImageReader$Walk", "visit", "(I)V"⟩
abbrev b_R_write : ByteArray := prog_1_method_15_code
abbrev y_R_write : MethodName := ⟨"ImageReader", "write", "()I"⟩
abbrev b_W_numberAnew : ByteArray := prog_7_method_5_code
abbrev y_W_numberAnew : MethodName := ⟨"ImageReader$Walk", "numberAnew", "(LImageReader$Image;)V"⟩
abbrev b_R_writeHead : ByteArray := prog_1_method_21_code
abbrev y_R_writeHead : MethodName := ⟨"ImageReader", "writeHead", "(I)V"⟩
abbrev b_B_add : ByteArray := prog_2_method_6_code
abbrev y_B_add : MethodName := ⟨"ImageReader$Bytes", "add", "(I)V"⟩
abbrev b_A_copyOf_aBI : ByteArray := prog_19_method_121_code
abbrev y_A_copyOf_aBI : MethodName := ⟨"java/util/Arrays", "copyOf", "([BI)[B"⟩
abbrev b_B_addPair : ByteArray := prog_2_method_7_code
abbrev y_B_addPair : MethodName := ⟨"ImageReader$Bytes", "addPair", "(I)V"⟩
abbrev b_W_renumbered : ByteArray := prog_7_method_6_code
abbrev y_W_renumbered : MethodName := ⟨"ImageReader$Walk", "renumbered", "(LImageReader$Image;I)I"⟩
abbrev b_B_addWord : ByteArray := prog_2_method_8_code
abbrev y_B_addWord : MethodName := ⟨"ImageReader$Bytes", "addWord", "(I)V"⟩
abbrev b_R_writeObject : ByteArray := prog_1_method_22_code
abbrev y_R_writeObject : MethodName := ⟨"ImageReader", "writeObject", "(I)V"⟩
abbrev b_R_came : ByteArray := prog_1_method_16_code
abbrev y_R_came : MethodName := ⟨"ImageReader", "came", "(I)I"⟩
abbrev b_R_keep : ByteArray := prog_1_method_17_code
abbrev y_R_keep : MethodName := ⟨"ImageReader", "keep", "()Z"⟩
abbrev b_R_same : ByteArray := prog_1_method_18_code
abbrev y_R_same : MethodName := ⟨"ImageReader", "same", "()Z"⟩
abbrev b_P_pairs : ByteArray := prog_6_method_2_code
abbrev y_P_pairs : MethodName := ⟨"ImageReader$Pairing", "pairs", "(LImageReader$Image;LImageReader$Image;)Z"⟩
abbrev b_P_clear : ByteArray := prog_6_method_3_code
abbrev y_P_clear : MethodName := ⟨"ImageReader$Pairing", "clear", "(LImageReader$Image;LImageReader$Image;)V"⟩
abbrev b_Mt_max : ByteArray := prog_14_method_65_code
abbrev y_Mt_max : MethodName := ⟨"java/lang/Math", "max", "(II)I"⟩
abbrev b_P_match : ByteArray := prog_6_method_4_code
abbrev y_P_match : MethodName := ⟨"ImageReader$Pairing", "match", "(LImageReader$Image;ILImageReader$Image;I)Z"⟩
abbrev b_P_matchBodies : ByteArray := prog_6_method_5_code
abbrev y_P_matchBodies : MethodName := ⟨"ImageReader$Pairing", "matchBodies", "(LImageReader$Image;ILImageReader$Image;I)Z"⟩
abbrev b_Law_feed : ByteArray := method_3_code
abbrev y_Law_feed : MethodName := ⟨"ImageReaderLaw", "feed", "(LImageReader;IIIII)I"⟩
abbrev b_R_feed : ByteArray := prog_1_method_2_code
abbrev y_R_feed : MethodName := ⟨"ImageReader", "feed", "(IIIII)V"⟩
abbrev b_Law_end : ByteArray := method_4_code
abbrev y_Law_end : MethodName := ⟨"ImageReaderLaw", "end", "(LImageReader;I[J)I"⟩
abbrev b_R_end : ByteArray := prog_1_method_3_code
abbrev y_R_end : MethodName := ⟨"ImageReader", "end", "(I)I"⟩
abbrev b_M_init : ByteArray := prog_9_method_1_code
abbrev y_M_init : MethodName := ⟨"ImageReaderModel", "<init>", "()V"⟩
abbrev b_M_thrown : ByteArray := prog_9_method_2_code
abbrev y_M_thrown : MethodName := ⟨"ImageReaderModel", "thrown", "()I"⟩
abbrev b_M_feed : ByteArray := prog_9_method_5_code
abbrev y_M_feed : MethodName := ⟨"ImageReaderModel", "feed", "(IIIII)V"⟩
abbrev b_M_end : ByteArray := prog_9_method_6_code
abbrev y_M_end : MethodName := ⟨"ImageReaderModel", "end", "(I)I"⟩
abbrev b_M_change : ByteArray := prog_9_method_7_code
abbrev y_M_change : MethodName := ⟨"ImageReaderModel", "change", "(II)I"⟩
abbrev b_M_came : ByteArray := prog_9_method_8_code
abbrev y_M_came : MethodName := ⟨"ImageReaderModel", "came", "(I)I"⟩
abbrev b_M_read : ByteArray := prog_9_method_39_code
abbrev y_M_read : MethodName := ⟨"ImageReaderModel", "read", "()I"⟩
abbrev b_M_place : ByteArray := prog_9_method_37_code
abbrev y_M_place : MethodName := ⟨"ImageReaderModel", "place", "()I"⟩
abbrev b_M_stepHead : ByteArray := prog_9_method_28_code
abbrev y_M_stepHead : MethodName := ⟨"ImageReaderModel", "stepHead", "()I"⟩
abbrev b_M_objects_aB : ByteArray := prog_9_method_9_code
abbrev y_M_objects_aB : MethodName := ⟨"ImageReaderModel", "objects", "([B)I"⟩
abbrev b_M_half : ByteArray := prog_9_method_4_code
abbrev y_M_half : MethodName := ⟨"ImageReaderModel", "half", "([BI)I"⟩
abbrev b_M_stepValues : ByteArray := prog_9_method_30_code
abbrev y_M_stepValues : MethodName := ⟨"ImageReaderModel", "stepValues", "()I"⟩
abbrev b_M_isValue : ByteArray := prog_9_method_29_code
abbrev y_M_isValue : MethodName := ⟨"ImageReaderModel", "isValue", "(I)Z"⟩
abbrev b_M_word : ByteArray := prog_9_method_3_code
abbrev y_M_word : MethodName := ⟨"ImageReaderModel", "word", "([BI)I"⟩
abbrev b_M_isNumber : ByteArray := prog_9_method_12_code
abbrev y_M_isNumber : MethodName := ⟨"ImageReaderModel", "isNumber", "(I)Z"⟩
abbrev b_M_sizeAt : ByteArray := prog_9_method_14_code
abbrev y_M_sizeAt : MethodName := ⟨"ImageReaderModel", "sizeAt", "([BI)I"⟩
abbrev b_M_isOfBytes : ByteArray := prog_9_method_13_code
abbrev y_M_isOfBytes : MethodName := ⟨"ImageReaderModel", "isOfBytes", "([BI)Z"⟩
abbrev b_M_stepRoom : ByteArray := prog_9_method_32_code
abbrev y_M_stepRoom : MethodName := ⟨"ImageReaderModel", "stepRoom", "()I"⟩
abbrev b_M_wordsOf : ByteArray := prog_9_method_31_code
abbrev y_M_wordsOf : MethodName := ⟨"ImageReaderModel", "wordsOf", "([B[I)I"⟩
abbrev b_M_stepSpecials : ByteArray := prog_9_method_33_code
abbrev y_M_stepSpecials : MethodName := ⟨"ImageReaderModel", "stepSpecials", "()I"⟩
abbrev b_M_special_aBI : ByteArray := prog_9_method_10_code
abbrev y_M_special_aBI : MethodName := ⟨"ImageReaderModel", "special", "([BI)I"⟩
abbrev b_M_isObject : ByteArray := prog_9_method_11_code
abbrev y_M_isObject : MethodName := ⟨"ImageReaderModel", "isObject", "(I)Z"⟩
abbrev b_M_isClass : ByteArray := prog_9_method_20_code
abbrev y_M_isClass : MethodName := ⟨"ImageReaderModel", "isClass", "(I)Z"⟩
abbrev b_M_hasFields : ByteArray := prog_9_method_17_code
abbrev y_M_hasFields : MethodName := ⟨"ImageReaderModel", "hasFields", "(II)Z"⟩
abbrev b_M_fieldOf : ByteArray := prog_9_method_18_code
abbrev y_M_fieldOf : MethodName := ⟨"ImageReaderModel", "fieldOf", "(II)I"⟩
abbrev b_M_fieldAt : ByteArray := prog_9_method_15_code
abbrev y_M_fieldAt : MethodName := ⟨"ImageReaderModel", "fieldAt", "([BII)I"⟩
abbrev b_M_isContext : ByteArray := prog_9_method_19_code
abbrev y_M_isContext : MethodName := ⟨"ImageReaderModel", "isContext", "(I)Z"⟩
abbrev b_M_stepObjects : ByteArray := prog_9_method_35_code
abbrev y_M_stepObjects : MethodName := ⟨"ImageReaderModel", "stepObjects", "()I"⟩
abbrev b_M_isRightObject : ByteArray := prog_9_method_34_code
abbrev y_M_isRightObject : MethodName := ⟨"ImageReaderModel", "isRightObject", "(I)Z"⟩
abbrev b_M_isMethodContext : ByteArray := prog_9_method_26_code
abbrev y_M_isMethodContext : MethodName := ⟨"ImageReaderModel", "isMethodContext", "(I)Z"⟩
abbrev b_M_isMethod : ByteArray := prog_9_method_21_code
abbrev y_M_isMethod : MethodName := ⟨"ImageReaderModel", "isMethod", "(I)Z"⟩
abbrev b_M_temporaries : ByteArray := prog_9_method_22_code
abbrev y_M_temporaries : MethodName := ⟨"ImageReaderModel", "temporaries", "(I)I"⟩
abbrev b_M_depth : ByteArray := prog_9_method_23_code
abbrev y_M_depth : MethodName := ⟨"ImageReaderModel", "depth", "(I)I"⟩
abbrev b_M_isNumberFrom : ByteArray := prog_9_method_24_code
abbrev y_M_isNumberFrom : MethodName := ⟨"ImageReaderModel", "isNumberFrom", "(III)Z"⟩
abbrev b_M_isCommon : ByteArray := prog_9_method_25_code
abbrev y_M_isCommon : MethodName := ⟨"ImageReaderModel", "isCommon", "(II)Z"⟩
abbrev b_M_isBlockContext : ByteArray := prog_9_method_27_code
abbrev y_M_isBlockContext : MethodName := ⟨"ImageReaderModel", "isBlockContext", "(I)Z"⟩
abbrev b_M_stepProcess : ByteArray := prog_9_method_36_code
abbrev y_M_stepProcess : MethodName := ⟨"ImageReaderModel", "stepProcess", "()I"⟩
abbrev b_M_note : ByteArray := prog_9_method_38_code
abbrev y_M_note : MethodName := ⟨"ImageReaderModel", "note", "([B[I)V"⟩
abbrev b_M_endAt : ByteArray := prog_9_method_16_code
abbrev y_M_endAt : MethodName := ⟨"ImageReaderModel", "endAt", "([BI)I"⟩
abbrev b_M_objects_ : ByteArray := prog_9_method_41_code
abbrev y_M_objects_ : MethodName := ⟨"ImageReaderModel", "objects", "()I"⟩
abbrev b_M_words : ByteArray := prog_9_method_42_code
abbrev y_M_words : MethodName := ⟨"ImageReaderModel", "words", "()I"⟩
abbrev b_M_special_I : ByteArray := prog_9_method_43_code
abbrev y_M_special_I : MethodName := ⟨"ImageReaderModel", "special", "(I)I"⟩
abbrev b_M_kind : ByteArray := prog_9_method_44_code
abbrev y_M_kind : MethodName := ⟨"ImageReaderModel", "kind", "(I)I"⟩
abbrev b_M_isThere : ByteArray := prog_9_method_40_code
abbrev y_M_isThere : MethodName := ⟨"ImageReaderModel", "isThere", "(I)Z"⟩
abbrev b_M_classOf : ByteArray := prog_9_method_45_code
abbrev y_M_classOf : MethodName := ⟨"ImageReaderModel", "classOf", "(I)I"⟩
abbrev b_M_size : ByteArray := prog_9_method_46_code
abbrev y_M_size : MethodName := ⟨"ImageReaderModel", "size", "(I)I"⟩
abbrev b_M_field : ByteArray := prog_9_method_47_code
abbrev y_M_field : MethodName := ⟨"ImageReaderModel", "field", "(II)I"⟩
abbrev b_M_byteAt : ByteArray := prog_9_method_48_code
abbrev y_M_byteAt : MethodName := ⟨"ImageReaderModel", "byteAt", "(II)I"⟩
abbrev b_M_reachable : ByteArray := prog_9_method_51_code
abbrev y_M_reachable : MethodName := ⟨"ImageReaderModel", "reachable", "()I"⟩
abbrev b_M_reachAll : ByteArray := prog_9_method_50_code
abbrev y_M_reachAll : MethodName := ⟨"ImageReaderModel", "reachAll", "()V"⟩
abbrev b_M_reach : ByteArray := prog_9_method_49_code
abbrev y_M_reach : MethodName := ⟨"ImageReaderModel", "reach", "(I)V"⟩
abbrev b_M_write : ByteArray := prog_9_method_54_code
abbrev y_M_write : MethodName := ⟨"ImageReaderModel", "write", "()I"⟩
abbrev b_M_put : ByteArray := prog_9_method_52_code
abbrev y_M_put : MethodName := ⟨"ImageReaderModel", "put", "(II)V"⟩
abbrev b_M_renumbered : ByteArray := prog_9_method_53_code
abbrev y_M_renumbered : MethodName := ⟨"ImageReaderModel", "renumbered", "(I)I"⟩
abbrev b_M_keep : ByteArray := prog_9_method_55_code
abbrev y_M_keep : MethodName := ⟨"ImageReaderModel", "keep", "()Z"⟩
abbrev b_M_same : ByteArray := prog_9_method_58_code
abbrev y_M_same : MethodName := ⟨"ImageReaderModel", "same", "()Z"⟩
abbrev b_M_goes : ByteArray := prog_9_method_56_code
abbrev y_M_goes : MethodName := ⟨"ImageReaderModel", "goes", "(II)Z"⟩
abbrev b_M_goTogether : ByteArray := prog_9_method_57_code
abbrev y_M_goTogether : MethodName := ⟨"ImageReaderModel", "goTogether", "(I)Z"⟩
