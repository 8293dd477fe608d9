section
-- ===== PART A: goes FIRST, ahead of the names: the tables' words, and 'selects' of the private methods out of them =====
/-- a private method of a class that the tables say can be made, by its rows of tables_1 -/
def lw_okq (q : MethodName × Nat) : Prop := (q.1.cls ≠ "java/lang/invoke/MethodHandle" ∧ q.1.cls ≠ "java/lang/invoke/VarHandle") ∧ Cond.instantiable q.1.cls q.2 ∈ tables_1 ∧ Cond.privateMethod q.1 ∈ tables_1 ∧ Cond.instanceMethod q.1 ∈ tables_1
theorem lw_p0 : lw_okq (⟨"ImageReader$Bytes", "at", "(I)I"⟩, 2) := ⟨⟨by decide +kernel, by decide +kernel⟩, List.mem_of_getElem? (i := 26) (by decide +kernel), List.mem_of_getElem? (i := 178) (by decide +kernel), List.mem_of_getElem? (i := 179) (by decide +kernel)⟩
theorem lw_p1 : lw_okq (⟨"ImageReader", "spareImage", "()LImageReader$Image;"⟩, 8) := ⟨⟨by decide +kernel, by decide +kernel⟩, List.mem_of_getElem? (i := 18) (by decide +kernel), List.mem_of_getElem? (i := 186) (by decide +kernel), List.mem_of_getElem? (i := 187) (by decide +kernel)⟩
theorem lw_p2 : lw_okq (⟨"ImageReader", "placeOfRefusal", "(LImageReader$Image;)I"⟩, 8) := ⟨⟨by decide +kernel, by decide +kernel⟩, List.mem_of_getElem? (i := 18) (by decide +kernel), List.mem_of_getElem? (i := 190) (by decide +kernel), List.mem_of_getElem? (i := 191) (by decide +kernel)⟩
theorem lw_p3 : lw_okq (⟨"ImageReader$Bytes", "reaches", "(II)Z"⟩, 2) := ⟨⟨by decide +kernel, by decide +kernel⟩, List.mem_of_getElem? (i := 26) (by decide +kernel), List.mem_of_getElem? (i := 202) (by decide +kernel), List.mem_of_getElem? (i := 203) (by decide +kernel)⟩
theorem lw_p4 : lw_okq (⟨"ImageReader$Bytes", "pairAt", "(I)I"⟩, 2) := ⟨⟨by decide +kernel, by decide +kernel⟩, List.mem_of_getElem? (i := 26) (by decide +kernel), List.mem_of_getElem? (i := 206) (by decide +kernel), List.mem_of_getElem? (i := 207) (by decide +kernel)⟩
theorem lw_p5 : lw_okq (⟨"ImageReader$Image", "clear", "()V"⟩, 11) := ⟨⟨by decide +kernel, by decide +kernel⟩, List.mem_of_getElem? (i := 43) (by decide +kernel), List.mem_of_getElem? (i := 214) (by decide +kernel), List.mem_of_getElem? (i := 215) (by decide +kernel)⟩
theorem lw_p6 : lw_okq (⟨"ImageReader$Bytes", "wordAt", "(I)I"⟩, 2) := ⟨⟨by decide +kernel, by decide +kernel⟩, List.mem_of_getElem? (i := 26) (by decide +kernel), List.mem_of_getElem? (i := 221) (by decide +kernel), List.mem_of_getElem? (i := 222) (by decide +kernel)⟩
theorem lw_p7 : lw_okq (⟨"ImageReader$Image", "addObject", "(III)V"⟩, 11) := ⟨⟨by decide +kernel, by decide +kernel⟩, List.mem_of_getElem? (i := 43) (by decide +kernel), List.mem_of_getElem? (i := 234) (by decide +kernel), List.mem_of_getElem? (i := 235) (by decide +kernel)⟩
theorem lw_p8 : lw_okq (⟨"ImageReader$Image", "addPart", "(I)V"⟩, 11) := ⟨⟨by decide +kernel, by decide +kernel⟩, List.mem_of_getElem? (i := 43) (by decide +kernel), List.mem_of_getElem? (i := 257) (by decide +kernel), List.mem_of_getElem? (i := 258) (by decide +kernel)⟩
theorem lw_p9 : lw_okq (⟨"ImageReader$Image", "specialAt", "(I)I"⟩, 11) := ⟨⟨by decide +kernel, by decide +kernel⟩, List.mem_of_getElem? (i := 43) (by decide +kernel), List.mem_of_getElem? (i := 276) (by decide +kernel), List.mem_of_getElem? (i := 277) (by decide +kernel)⟩
theorem lw_p10 : lw_okq (⟨"ImageReader$Image", "objectOf", "(I)I"⟩, 11) := ⟨⟨by decide +kernel, by decide +kernel⟩, List.mem_of_getElem? (i := 43) (by decide +kernel), List.mem_of_getElem? (i := 280) (by decide +kernel), List.mem_of_getElem? (i := 281) (by decide +kernel)⟩
theorem lw_p11 : lw_okq (⟨"ImageReader$Image", "holds", "(I)Z"⟩, 11) := ⟨⟨by decide +kernel, by decide +kernel⟩, List.mem_of_getElem? (i := 43) (by decide +kernel), List.mem_of_getElem? (i := 284) (by decide +kernel), List.mem_of_getElem? (i := 285) (by decide +kernel)⟩
theorem lw_p12 : lw_okq (⟨"ImageReader$Image", "fieldAt", "(II)I"⟩, 11) := ⟨⟨by decide +kernel, by decide +kernel⟩, List.mem_of_getElem? (i := 43) (by decide +kernel), List.mem_of_getElem? (i := 294) (by decide +kernel), List.mem_of_getElem? (i := 295) (by decide +kernel)⟩
theorem lw_p13 : lw_okq (⟨"ImageReader$Image", "hasPart", "(II)Z"⟩, 11) := ⟨⟨by decide +kernel, by decide +kernel⟩, List.mem_of_getElem? (i := 43) (by decide +kernel), List.mem_of_getElem? (i := 298) (by decide +kernel), List.mem_of_getElem? (i := 299) (by decide +kernel)⟩
theorem lw_p14 : lw_okq (⟨"ImageReader$Image", "fieldCount", "(I)I"⟩, 11) := ⟨⟨by decide +kernel, by decide +kernel⟩, List.mem_of_getElem? (i := 43) (by decide +kernel), List.mem_of_getElem? (i := 302) (by decide +kernel), List.mem_of_getElem? (i := 303) (by decide +kernel)⟩
theorem lw_p15 : lw_okq (⟨"ImageReader$Image", "isContext", "(I)Z"⟩, 11) := ⟨⟨by decide +kernel, by decide +kernel⟩, List.mem_of_getElem? (i := 43) (by decide +kernel), List.mem_of_getElem? (i := 313) (by decide +kernel), List.mem_of_getElem? (i := 314) (by decide +kernel)⟩
def lw_privs_1 : List (MethodName × Nat) := [(⟨"ImageReader$Bytes", "at", "(I)I"⟩, 2), (⟨"ImageReader", "spareImage", "()LImageReader$Image;"⟩, 8), (⟨"ImageReader", "placeOfRefusal", "(LImageReader$Image;)I"⟩, 8), (⟨"ImageReader$Bytes", "reaches", "(II)Z"⟩, 2), (⟨"ImageReader$Bytes", "pairAt", "(I)I"⟩, 2), (⟨"ImageReader$Image", "clear", "()V"⟩, 11), (⟨"ImageReader$Bytes", "wordAt", "(I)I"⟩, 2), (⟨"ImageReader$Image", "addObject", "(III)V"⟩, 11), (⟨"ImageReader$Image", "addPart", "(I)V"⟩, 11), (⟨"ImageReader$Image", "specialAt", "(I)I"⟩, 11), (⟨"ImageReader$Image", "objectOf", "(I)I"⟩, 11), (⟨"ImageReader$Image", "holds", "(I)Z"⟩, 11), (⟨"ImageReader$Image", "fieldAt", "(II)I"⟩, 11), (⟨"ImageReader$Image", "hasPart", "(II)Z"⟩, 11), (⟨"ImageReader$Image", "fieldCount", "(I)I"⟩, 11), (⟨"ImageReader$Image", "isContext", "(I)Z"⟩, 11)]
theorem lw_r1 : ∀ q ∈ lw_privs_1, lw_okq q := List.forall_mem_cons.mpr ⟨lw_p0, List.forall_mem_cons.mpr ⟨lw_p1, List.forall_mem_cons.mpr ⟨lw_p2, List.forall_mem_cons.mpr ⟨lw_p3, List.forall_mem_cons.mpr ⟨lw_p4, List.forall_mem_cons.mpr ⟨lw_p5, List.forall_mem_cons.mpr ⟨lw_p6, List.forall_mem_cons.mpr ⟨lw_p7, List.forall_mem_cons.mpr ⟨lw_p8, List.forall_mem_cons.mpr ⟨lw_p9, List.forall_mem_cons.mpr ⟨lw_p10, List.forall_mem_cons.mpr ⟨lw_p11, List.forall_mem_cons.mpr ⟨lw_p12, List.forall_mem_cons.mpr ⟨lw_p13, List.forall_mem_cons.mpr ⟨lw_p14, List.forall_mem_cons.mpr ⟨lw_p15, fun _ h => absurd h List.not_mem_nil⟩⟩⟩⟩⟩⟩⟩⟩⟩⟩⟩⟩⟩⟩⟩⟩
theorem lw_p16 : lw_okq (⟨"ImageReader$Image", "isOfSpecialClass", "(II)Z"⟩, 11) := ⟨⟨by decide +kernel, by decide +kernel⟩, List.mem_of_getElem? (i := 43) (by decide +kernel), List.mem_of_getElem? (i := 317) (by decide +kernel), List.mem_of_getElem? (i := 318) (by decide +kernel)⟩
theorem lw_p17 : lw_okq (⟨"ImageReader$Image", "classAt", "(I)I"⟩, 11) := ⟨⟨by decide +kernel, by decide +kernel⟩, List.mem_of_getElem? (i := 43) (by decide +kernel), List.mem_of_getElem? (i := 327) (by decide +kernel), List.mem_of_getElem? (i := 328) (by decide +kernel)⟩
theorem lw_p18 : lw_okq (⟨"ImageReader$Image", "isOfBytes", "(I)Z"⟩, 11) := ⟨⟨by decide +kernel, by decide +kernel⟩, List.mem_of_getElem? (i := 43) (by decide +kernel), List.mem_of_getElem? (i := 331) (by decide +kernel), List.mem_of_getElem? (i := 332) (by decide +kernel)⟩
theorem lw_p19 : lw_okq (⟨"ImageReader$Image", "bodyByteAt", "(II)I"⟩, 11) := ⟨⟨by decide +kernel, by decide +kernel⟩, List.mem_of_getElem? (i := 43) (by decide +kernel), List.mem_of_getElem? (i := 417) (by decide +kernel), List.mem_of_getElem? (i := 418) (by decide +kernel)⟩
theorem lw_p20 : lw_okq (⟨"ImageReader$Walk", "reach", "(LImageReader$Image;)I"⟩, 3) := ⟨⟨by decide +kernel, by decide +kernel⟩, List.mem_of_getElem? (i := 113) (by decide +kernel), List.mem_of_getElem? (i := 425) (by decide +kernel), List.mem_of_getElem? (i := 426) (by decide +kernel)⟩
theorem lw_p21 : lw_okq (⟨"ImageReader$Walk", "clear", "(LImageReader$Image;)V"⟩, 3) := ⟨⟨by decide +kernel, by decide +kernel⟩, List.mem_of_getElem? (i := 113) (by decide +kernel), List.mem_of_getElem? (i := 429) (by decide +kernel), List.mem_of_getElem? (i := 430) (by decide +kernel)⟩
theorem lw_p22 : lw_okq (⟨"ImageReader$Walk", "visit", "(I)V"⟩, 3) := ⟨⟨by decide +kernel, by decide +kernel⟩, List.mem_of_getElem? (i := 113) (by decide +kernel), List.mem_of_getElem? (i := 437) (by decide +kernel), List.mem_of_getElem? (i := 438) (by decide +kernel)⟩
theorem lw_p23 : lw_okq (⟨"ImageReader$Walk", "numberAnew", "(LImageReader$Image;)V"⟩, 3) := ⟨⟨by decide +kernel, by decide +kernel⟩, List.mem_of_getElem? (i := 113) (by decide +kernel), List.mem_of_getElem? (i := 448) (by decide +kernel), List.mem_of_getElem? (i := 449) (by decide +kernel)⟩
theorem lw_p24 : lw_okq (⟨"ImageReader", "writeHead", "(I)V"⟩, 8) := ⟨⟨by decide +kernel, by decide +kernel⟩, List.mem_of_getElem? (i := 18) (by decide +kernel), List.mem_of_getElem? (i := 452) (by decide +kernel), List.mem_of_getElem? (i := 453) (by decide +kernel)⟩
theorem lw_p25 : lw_okq (⟨"ImageReader$Bytes", "add", "(I)V"⟩, 2) := ⟨⟨by decide +kernel, by decide +kernel⟩, List.mem_of_getElem? (i := 26) (by decide +kernel), List.mem_of_getElem? (i := 457) (by decide +kernel), List.mem_of_getElem? (i := 458) (by decide +kernel)⟩
theorem lw_p26 : lw_okq (⟨"ImageReader$Bytes", "addPair", "(I)V"⟩, 2) := ⟨⟨by decide +kernel, by decide +kernel⟩, List.mem_of_getElem? (i := 26) (by decide +kernel), List.mem_of_getElem? (i := 469) (by decide +kernel), List.mem_of_getElem? (i := 470) (by decide +kernel)⟩
theorem lw_p27 : lw_okq (⟨"ImageReader$Walk", "renumbered", "(LImageReader$Image;I)I"⟩, 3) := ⟨⟨by decide +kernel, by decide +kernel⟩, List.mem_of_getElem? (i := 113) (by decide +kernel), List.mem_of_getElem? (i := 474) (by decide +kernel), List.mem_of_getElem? (i := 475) (by decide +kernel)⟩
theorem lw_p28 : lw_okq (⟨"ImageReader$Bytes", "addWord", "(I)V"⟩, 2) := ⟨⟨by decide +kernel, by decide +kernel⟩, List.mem_of_getElem? (i := 26) (by decide +kernel), List.mem_of_getElem? (i := 478) (by decide +kernel), List.mem_of_getElem? (i := 479) (by decide +kernel)⟩
theorem lw_p29 : lw_okq (⟨"ImageReader", "writeObject", "(I)V"⟩, 8) := ⟨⟨by decide +kernel, by decide +kernel⟩, List.mem_of_getElem? (i := 18) (by decide +kernel), List.mem_of_getElem? (i := 483) (by decide +kernel), List.mem_of_getElem? (i := 484) (by decide +kernel)⟩
theorem lw_p30 : lw_okq (⟨"ImageReader$Pairing", "pairs", "(LImageReader$Image;LImageReader$Image;)Z"⟩, 4) := ⟨⟨by decide +kernel, by decide +kernel⟩, List.mem_of_getElem? (i := 130) (by decide +kernel), List.mem_of_getElem? (i := 499) (by decide +kernel), List.mem_of_getElem? (i := 500) (by decide +kernel)⟩
theorem lw_p31 : lw_okq (⟨"ImageReader$Pairing", "clear", "(LImageReader$Image;LImageReader$Image;)V"⟩, 4) := ⟨⟨by decide +kernel, by decide +kernel⟩, List.mem_of_getElem? (i := 130) (by decide +kernel), List.mem_of_getElem? (i := 503) (by decide +kernel), List.mem_of_getElem? (i := 504) (by decide +kernel)⟩
def lw_privs_2 : List (MethodName × Nat) := [(⟨"ImageReader$Image", "isOfSpecialClass", "(II)Z"⟩, 11), (⟨"ImageReader$Image", "classAt", "(I)I"⟩, 11), (⟨"ImageReader$Image", "isOfBytes", "(I)Z"⟩, 11), (⟨"ImageReader$Image", "bodyByteAt", "(II)I"⟩, 11), (⟨"ImageReader$Walk", "reach", "(LImageReader$Image;)I"⟩, 3), (⟨"ImageReader$Walk", "clear", "(LImageReader$Image;)V"⟩, 3), (⟨"ImageReader$Walk", "visit", "(I)V"⟩, 3), (⟨"ImageReader$Walk", "numberAnew", "(LImageReader$Image;)V"⟩, 3), (⟨"ImageReader", "writeHead", "(I)V"⟩, 8), (⟨"ImageReader$Bytes", "add", "(I)V"⟩, 2), (⟨"ImageReader$Bytes", "addPair", "(I)V"⟩, 2), (⟨"ImageReader$Walk", "renumbered", "(LImageReader$Image;I)I"⟩, 3), (⟨"ImageReader$Bytes", "addWord", "(I)V"⟩, 2), (⟨"ImageReader", "writeObject", "(I)V"⟩, 8), (⟨"ImageReader$Pairing", "pairs", "(LImageReader$Image;LImageReader$Image;)Z"⟩, 4), (⟨"ImageReader$Pairing", "clear", "(LImageReader$Image;LImageReader$Image;)V"⟩, 4)]
theorem lw_r2 : ∀ q ∈ lw_privs_2, lw_okq q := List.forall_mem_cons.mpr ⟨lw_p16, List.forall_mem_cons.mpr ⟨lw_p17, List.forall_mem_cons.mpr ⟨lw_p18, List.forall_mem_cons.mpr ⟨lw_p19, List.forall_mem_cons.mpr ⟨lw_p20, List.forall_mem_cons.mpr ⟨lw_p21, List.forall_mem_cons.mpr ⟨lw_p22, List.forall_mem_cons.mpr ⟨lw_p23, List.forall_mem_cons.mpr ⟨lw_p24, List.forall_mem_cons.mpr ⟨lw_p25, List.forall_mem_cons.mpr ⟨lw_p26, List.forall_mem_cons.mpr ⟨lw_p27, List.forall_mem_cons.mpr ⟨lw_p28, List.forall_mem_cons.mpr ⟨lw_p29, List.forall_mem_cons.mpr ⟨lw_p30, List.forall_mem_cons.mpr ⟨lw_p31, fun _ h => absurd h List.not_mem_nil⟩⟩⟩⟩⟩⟩⟩⟩⟩⟩⟩⟩⟩⟩⟩⟩
theorem lw_p32 : lw_okq (⟨"ImageReader$Pairing", "match", "(LImageReader$Image;ILImageReader$Image;I)Z"⟩, 4) := ⟨⟨by decide +kernel, by decide +kernel⟩, List.mem_of_getElem? (i := 130) (by decide +kernel), List.mem_of_getElem? (i := 511) (by decide +kernel), List.mem_of_getElem? (i := 512) (by decide +kernel)⟩
theorem lw_p33 : lw_okq (⟨"ImageReader$Pairing", "matchBodies", "(LImageReader$Image;ILImageReader$Image;I)Z"⟩, 4) := ⟨⟨by decide +kernel, by decide +kernel⟩, List.mem_of_getElem? (i := 130) (by decide +kernel), List.mem_of_getElem? (i := 516) (by decide +kernel), List.mem_of_getElem? (i := 517) (by decide +kernel)⟩
theorem lw_p34 : lw_okq (⟨"java/lang/Throwable", "fillInStackTrace", "(I)Ljava/lang/Throwable;"⟩, 6) := ⟨⟨by decide +kernel, by decide +kernel⟩, List.mem_of_getElem? (i := 566) (by decide +kernel), List.mem_of_getElem? (i := 564) (by decide +kernel), List.mem_of_getElem? (i := 565) (by decide +kernel)⟩
theorem lw_p35 : lw_okq (⟨"ImageReaderModel", "place", "()I"⟩, 13) := ⟨⟨by decide +kernel, by decide +kernel⟩, List.mem_of_getElem? (i := 619) (by decide +kernel), List.mem_of_getElem? (i := 690) (by decide +kernel), List.mem_of_getElem? (i := 691) (by decide +kernel)⟩
theorem lw_p36 : lw_okq (⟨"ImageReaderModel", "stepHead", "()I"⟩, 13) := ⟨⟨by decide +kernel, by decide +kernel⟩, List.mem_of_getElem? (i := 619) (by decide +kernel), List.mem_of_getElem? (i := 694) (by decide +kernel), List.mem_of_getElem? (i := 695) (by decide +kernel)⟩
theorem lw_p37 : lw_okq (⟨"ImageReaderModel", "stepValues", "()I"⟩, 13) := ⟨⟨by decide +kernel, by decide +kernel⟩, List.mem_of_getElem? (i := 619) (by decide +kernel), List.mem_of_getElem? (i := 704) (by decide +kernel), List.mem_of_getElem? (i := 705) (by decide +kernel)⟩
theorem lw_p38 : lw_okq (⟨"ImageReaderModel", "isValue", "(I)Z"⟩, 13) := ⟨⟨by decide +kernel, by decide +kernel⟩, List.mem_of_getElem? (i := 619) (by decide +kernel), List.mem_of_getElem? (i := 708) (by decide +kernel), List.mem_of_getElem? (i := 709) (by decide +kernel)⟩
theorem lw_p39 : lw_okq (⟨"ImageReaderModel", "stepRoom", "()I"⟩, 13) := ⟨⟨by decide +kernel, by decide +kernel⟩, List.mem_of_getElem? (i := 619) (by decide +kernel), List.mem_of_getElem? (i := 724) (by decide +kernel), List.mem_of_getElem? (i := 725) (by decide +kernel)⟩
theorem lw_p40 : lw_okq (⟨"ImageReaderModel", "stepSpecials", "()I"⟩, 13) := ⟨⟨by decide +kernel, by decide +kernel⟩, List.mem_of_getElem? (i := 619) (by decide +kernel), List.mem_of_getElem? (i := 731) (by decide +kernel), List.mem_of_getElem? (i := 732) (by decide +kernel)⟩
theorem lw_p41 : lw_okq (⟨"ImageReaderModel", "isClass", "(I)Z"⟩, 13) := ⟨⟨by decide +kernel, by decide +kernel⟩, List.mem_of_getElem? (i := 619) (by decide +kernel), List.mem_of_getElem? (i := 741) (by decide +kernel), List.mem_of_getElem? (i := 742) (by decide +kernel)⟩
theorem lw_p42 : lw_okq (⟨"ImageReaderModel", "hasFields", "(II)Z"⟩, 13) := ⟨⟨by decide +kernel, by decide +kernel⟩, List.mem_of_getElem? (i := 619) (by decide +kernel), List.mem_of_getElem? (i := 745) (by decide +kernel), List.mem_of_getElem? (i := 746) (by decide +kernel)⟩
theorem lw_p43 : lw_okq (⟨"ImageReaderModel", "fieldOf", "(II)I"⟩, 13) := ⟨⟨by decide +kernel, by decide +kernel⟩, List.mem_of_getElem? (i := 619) (by decide +kernel), List.mem_of_getElem? (i := 749) (by decide +kernel), List.mem_of_getElem? (i := 750) (by decide +kernel)⟩
theorem lw_p44 : lw_okq (⟨"ImageReaderModel", "isContext", "(I)Z"⟩, 13) := ⟨⟨by decide +kernel, by decide +kernel⟩, List.mem_of_getElem? (i := 619) (by decide +kernel), List.mem_of_getElem? (i := 756) (by decide +kernel), List.mem_of_getElem? (i := 757) (by decide +kernel)⟩
theorem lw_p45 : lw_okq (⟨"ImageReaderModel", "stepObjects", "()I"⟩, 13) := ⟨⟨by decide +kernel, by decide +kernel⟩, List.mem_of_getElem? (i := 619) (by decide +kernel), List.mem_of_getElem? (i := 760) (by decide +kernel), List.mem_of_getElem? (i := 761) (by decide +kernel)⟩
theorem lw_p46 : lw_okq (⟨"ImageReaderModel", "isRightObject", "(I)Z"⟩, 13) := ⟨⟨by decide +kernel, by decide +kernel⟩, List.mem_of_getElem? (i := 619) (by decide +kernel), List.mem_of_getElem? (i := 764) (by decide +kernel), List.mem_of_getElem? (i := 765) (by decide +kernel)⟩
theorem lw_p47 : lw_okq (⟨"ImageReaderModel", "isMethodContext", "(I)Z"⟩, 13) := ⟨⟨by decide +kernel, by decide +kernel⟩, List.mem_of_getElem? (i := 619) (by decide +kernel), List.mem_of_getElem? (i := 768) (by decide +kernel), List.mem_of_getElem? (i := 769) (by decide +kernel)⟩
def lw_privs_3 : List (MethodName × Nat) := [(⟨"ImageReader$Pairing", "match", "(LImageReader$Image;ILImageReader$Image;I)Z"⟩, 4), (⟨"ImageReader$Pairing", "matchBodies", "(LImageReader$Image;ILImageReader$Image;I)Z"⟩, 4), (⟨"java/lang/Throwable", "fillInStackTrace", "(I)Ljava/lang/Throwable;"⟩, 6), (⟨"ImageReaderModel", "place", "()I"⟩, 13), (⟨"ImageReaderModel", "stepHead", "()I"⟩, 13), (⟨"ImageReaderModel", "stepValues", "()I"⟩, 13), (⟨"ImageReaderModel", "isValue", "(I)Z"⟩, 13), (⟨"ImageReaderModel", "stepRoom", "()I"⟩, 13), (⟨"ImageReaderModel", "stepSpecials", "()I"⟩, 13), (⟨"ImageReaderModel", "isClass", "(I)Z"⟩, 13), (⟨"ImageReaderModel", "hasFields", "(II)Z"⟩, 13), (⟨"ImageReaderModel", "fieldOf", "(II)I"⟩, 13), (⟨"ImageReaderModel", "isContext", "(I)Z"⟩, 13), (⟨"ImageReaderModel", "stepObjects", "()I"⟩, 13), (⟨"ImageReaderModel", "isRightObject", "(I)Z"⟩, 13), (⟨"ImageReaderModel", "isMethodContext", "(I)Z"⟩, 13)]
theorem lw_r3 : ∀ q ∈ lw_privs_3, lw_okq q := List.forall_mem_cons.mpr ⟨lw_p32, List.forall_mem_cons.mpr ⟨lw_p33, List.forall_mem_cons.mpr ⟨lw_p34, List.forall_mem_cons.mpr ⟨lw_p35, List.forall_mem_cons.mpr ⟨lw_p36, List.forall_mem_cons.mpr ⟨lw_p37, List.forall_mem_cons.mpr ⟨lw_p38, List.forall_mem_cons.mpr ⟨lw_p39, List.forall_mem_cons.mpr ⟨lw_p40, List.forall_mem_cons.mpr ⟨lw_p41, List.forall_mem_cons.mpr ⟨lw_p42, List.forall_mem_cons.mpr ⟨lw_p43, List.forall_mem_cons.mpr ⟨lw_p44, List.forall_mem_cons.mpr ⟨lw_p45, List.forall_mem_cons.mpr ⟨lw_p46, List.forall_mem_cons.mpr ⟨lw_p47, fun _ h => absurd h List.not_mem_nil⟩⟩⟩⟩⟩⟩⟩⟩⟩⟩⟩⟩⟩⟩⟩⟩
theorem lw_p48 : lw_okq (⟨"ImageReaderModel", "isMethod", "(I)Z"⟩, 13) := ⟨⟨by decide +kernel, by decide +kernel⟩, List.mem_of_getElem? (i := 619) (by decide +kernel), List.mem_of_getElem? (i := 772) (by decide +kernel), List.mem_of_getElem? (i := 773) (by decide +kernel)⟩
theorem lw_p49 : lw_okq (⟨"ImageReaderModel", "temporaries", "(I)I"⟩, 13) := ⟨⟨by decide +kernel, by decide +kernel⟩, List.mem_of_getElem? (i := 619) (by decide +kernel), List.mem_of_getElem? (i := 777) (by decide +kernel), List.mem_of_getElem? (i := 778) (by decide +kernel)⟩
theorem lw_p50 : lw_okq (⟨"ImageReaderModel", "depth", "(I)I"⟩, 13) := ⟨⟨by decide +kernel, by decide +kernel⟩, List.mem_of_getElem? (i := 619) (by decide +kernel), List.mem_of_getElem? (i := 781) (by decide +kernel), List.mem_of_getElem? (i := 782) (by decide +kernel)⟩
theorem lw_p51 : lw_okq (⟨"ImageReaderModel", "isNumberFrom", "(III)Z"⟩, 13) := ⟨⟨by decide +kernel, by decide +kernel⟩, List.mem_of_getElem? (i := 619) (by decide +kernel), List.mem_of_getElem? (i := 785) (by decide +kernel), List.mem_of_getElem? (i := 786) (by decide +kernel)⟩
theorem lw_p52 : lw_okq (⟨"ImageReaderModel", "isCommon", "(II)Z"⟩, 13) := ⟨⟨by decide +kernel, by decide +kernel⟩, List.mem_of_getElem? (i := 619) (by decide +kernel), List.mem_of_getElem? (i := 789) (by decide +kernel), List.mem_of_getElem? (i := 790) (by decide +kernel)⟩
theorem lw_p53 : lw_okq (⟨"ImageReaderModel", "isBlockContext", "(I)Z"⟩, 13) := ⟨⟨by decide +kernel, by decide +kernel⟩, List.mem_of_getElem? (i := 619) (by decide +kernel), List.mem_of_getElem? (i := 794) (by decide +kernel), List.mem_of_getElem? (i := 795) (by decide +kernel)⟩
theorem lw_p54 : lw_okq (⟨"ImageReaderModel", "stepProcess", "()I"⟩, 13) := ⟨⟨by decide +kernel, by decide +kernel⟩, List.mem_of_getElem? (i := 619) (by decide +kernel), List.mem_of_getElem? (i := 798) (by decide +kernel), List.mem_of_getElem? (i := 799) (by decide +kernel)⟩
theorem lw_p55 : lw_okq (⟨"ImageReaderModel", "isThere", "(I)Z"⟩, 13) := ⟨⟨by decide +kernel, by decide +kernel⟩, List.mem_of_getElem? (i := 619) (by decide +kernel), List.mem_of_getElem? (i := 824) (by decide +kernel), List.mem_of_getElem? (i := 825) (by decide +kernel)⟩
theorem lw_p56 : lw_okq (⟨"ImageReaderModel", "reachAll", "()V"⟩, 13) := ⟨⟨by decide +kernel, by decide +kernel⟩, List.mem_of_getElem? (i := 619) (by decide +kernel), List.mem_of_getElem? (i := 848) (by decide +kernel), List.mem_of_getElem? (i := 849) (by decide +kernel)⟩
theorem lw_p57 : lw_okq (⟨"ImageReaderModel", "reach", "(I)V"⟩, 13) := ⟨⟨by decide +kernel, by decide +kernel⟩, List.mem_of_getElem? (i := 619) (by decide +kernel), List.mem_of_getElem? (i := 852) (by decide +kernel), List.mem_of_getElem? (i := 853) (by decide +kernel)⟩
theorem lw_p58 : lw_okq (⟨"ImageReaderModel", "put", "(II)V"⟩, 13) := ⟨⟨by decide +kernel, by decide +kernel⟩, List.mem_of_getElem? (i := 619) (by decide +kernel), List.mem_of_getElem? (i := 860) (by decide +kernel), List.mem_of_getElem? (i := 861) (by decide +kernel)⟩
theorem lw_p59 : lw_okq (⟨"ImageReaderModel", "renumbered", "(I)I"⟩, 13) := ⟨⟨by decide +kernel, by decide +kernel⟩, List.mem_of_getElem? (i := 619) (by decide +kernel), List.mem_of_getElem? (i := 864) (by decide +kernel), List.mem_of_getElem? (i := 865) (by decide +kernel)⟩
theorem lw_p60 : lw_okq (⟨"ImageReaderModel", "goes", "(II)Z"⟩, 13) := ⟨⟨by decide +kernel, by decide +kernel⟩, List.mem_of_getElem? (i := 619) (by decide +kernel), List.mem_of_getElem? (i := 876) (by decide +kernel), List.mem_of_getElem? (i := 877) (by decide +kernel)⟩
theorem lw_p61 : lw_okq (⟨"ImageReaderModel", "goTogether", "(I)Z"⟩, 13) := ⟨⟨by decide +kernel, by decide +kernel⟩, List.mem_of_getElem? (i := 619) (by decide +kernel), List.mem_of_getElem? (i := 880) (by decide +kernel), List.mem_of_getElem? (i := 881) (by decide +kernel)⟩
def lw_privs_4 : List (MethodName × Nat) := [(⟨"ImageReaderModel", "isMethod", "(I)Z"⟩, 13), (⟨"ImageReaderModel", "temporaries", "(I)I"⟩, 13), (⟨"ImageReaderModel", "depth", "(I)I"⟩, 13), (⟨"ImageReaderModel", "isNumberFrom", "(III)Z"⟩, 13), (⟨"ImageReaderModel", "isCommon", "(II)Z"⟩, 13), (⟨"ImageReaderModel", "isBlockContext", "(I)Z"⟩, 13), (⟨"ImageReaderModel", "stepProcess", "()I"⟩, 13), (⟨"ImageReaderModel", "isThere", "(I)Z"⟩, 13), (⟨"ImageReaderModel", "reachAll", "()V"⟩, 13), (⟨"ImageReaderModel", "reach", "(I)V"⟩, 13), (⟨"ImageReaderModel", "put", "(II)V"⟩, 13), (⟨"ImageReaderModel", "renumbered", "(I)I"⟩, 13), (⟨"ImageReaderModel", "goes", "(II)Z"⟩, 13), (⟨"ImageReaderModel", "goTogether", "(I)Z"⟩, 13)]
theorem lw_r4 : ∀ q ∈ lw_privs_4, lw_okq q := List.forall_mem_cons.mpr ⟨lw_p48, List.forall_mem_cons.mpr ⟨lw_p49, List.forall_mem_cons.mpr ⟨lw_p50, List.forall_mem_cons.mpr ⟨lw_p51, List.forall_mem_cons.mpr ⟨lw_p52, List.forall_mem_cons.mpr ⟨lw_p53, List.forall_mem_cons.mpr ⟨lw_p54, List.forall_mem_cons.mpr ⟨lw_p55, List.forall_mem_cons.mpr ⟨lw_p56, List.forall_mem_cons.mpr ⟨lw_p57, List.forall_mem_cons.mpr ⟨lw_p58, List.forall_mem_cons.mpr ⟨lw_p59, List.forall_mem_cons.mpr ⟨lw_p60, List.forall_mem_cons.mpr ⟨lw_p61, fun _ h => absurd h List.not_mem_nil⟩⟩⟩⟩⟩⟩⟩⟩⟩⟩⟩⟩⟩⟩
def lw_privs : List (MethodName × Nat) := lw_privs_1 ++ (lw_privs_2 ++ (lw_privs_3 ++ (lw_privs_4)))
def lw_tbl : List Cond := k2_sels lw_privs ++ tables_1
theorem lw_privs_ok : ∀ q ∈ lw_privs, lw_okq q := by
  show ∀ q ∈ lw_privs_1 ++ (lw_privs_2 ++ (lw_privs_3 ++ (lw_privs_4))), lw_okq q
  exact List.forall_mem_append.mpr ⟨lw_r1, List.forall_mem_append.mpr ⟨lw_r2, List.forall_mem_append.mpr ⟨lw_r3, lw_r4⟩⟩⟩

/-! ===== names ===== -/
def F_R : u_T := fun k => match k with
  | 0 => ("ImageReader", "incoming", "LImageReader$Bytes;", true)
  | 1 => ("ImageReader", "first", "LImageReader$Image;", true)
  | 2 => ("ImageReader", "second", "LImageReader$Image;", true)
  | 3 => ("ImageReader", "third", "LImageReader$Image;", true)
  | 4 => ("ImageReader", "walk", "LImageReader$Walk;", true)
  | 5 => ("ImageReader", "pairing", "LImageReader$Pairing;", true)
  | 6 => ("ImageReader", "hand", "LImageReader$Image;", false)
  | _ => ("ImageReader", "kept", "LImageReader$Image;", false)
def t_R : Nat → FieldType := fun k => match k with
  | 0 => .object "ImageReader$Bytes"
  | 1 => .object "ImageReader$Image"
  | 2 => .object "ImageReader$Image"
  | 3 => .object "ImageReader$Image"
  | 4 => .object "ImageReader$Walk"
  | 5 => .object "ImageReader$Pairing"
  | 6 => .object "ImageReader$Image"
  | _ => .object "ImageReader$Image"
theorem n_R : ∀ a, a < 8 → ∀ b, b < 8 → a ≠ b → (F_R a).2.1 ≠ (F_R b).2.1 := by decide +kernel
theorem t_R_ok : ∀ k, k < 8 → parseFieldDescriptor (F_R k).2.2.1 = some (t_R k) := by decide +kernel
def F_B : u_T := fun k => match k with
  | 0 => ("ImageReader$Bytes", "row", "[B", false)
  | _ => ("ImageReader$Bytes", "length", "I", false)
def t_B : Nat → FieldType := fun k => match k with
  | 0 => .array .byte
  | _ => .int
theorem n_B : ∀ a, a < 2 → ∀ b, b < 2 → a ≠ b → (F_B a).2.1 ≠ (F_B b).2.1 := by decide +kernel
theorem t_B_ok : ∀ k, k < 2 → parseFieldDescriptor (F_B k).2.2.1 = some (t_B k) := by decide +kernel
def F_I : u_T := fun k => match k with
  | 0 => ("ImageReader$Image", "specials", "[I", true)
  | 1 => ("ImageReader$Image", "classes", "[I", false)
  | 2 => ("ImageReader$Image", "kinds", "[I", false)
  | 3 => ("ImageReader$Image", "sizes", "[I", false)
  | 4 => ("ImageReader$Image", "starts", "[I", false)
  | 5 => ("ImageReader$Image", "parts", "[I", false)
  | 6 => ("ImageReader$Image", "used", "I", false)
  | 7 => ("ImageReader$Image", "count", "I", false)
  | 8 => ("ImageReader$Image", "words", "I", false)
  | 9 => ("ImageReader$Image", "wordsPower", "I", false)
  | _ => ("ImageReader$Image", "countPower", "I", false)
def t_I : Nat → FieldType := fun k => match k with
  | 0 => .array .int
  | 1 => .array .int
  | 2 => .array .int
  | 3 => .array .int
  | 4 => .array .int
  | 5 => .array .int
  | 6 => .int
  | 7 => .int
  | 8 => .int
  | 9 => .int
  | _ => .int
theorem n_I : ∀ a, a < 11 → ∀ b, b < 11 → a ≠ b → (F_I a).2.1 ≠ (F_I b).2.1 := by decide +kernel
theorem t_I_ok : ∀ k, k < 11 → parseFieldDescriptor (F_I k).2.2.1 = some (t_I k) := by decide +kernel
def F_W : u_T := fun k => match k with
  | 0 => ("ImageReader$Walk", "numbers", "[I", false)
  | 1 => ("ImageReader$Walk", "queue", "[I", false)
  | _ => ("ImageReader$Walk", "reached", "I", false)
def t_W : Nat → FieldType := fun k => match k with
  | 0 => .array .int
  | 1 => .array .int
  | _ => .int
theorem n_W : ∀ a, a < 3 → ∀ b, b < 3 → a ≠ b → (F_W a).2.1 ≠ (F_W b).2.1 := by decide +kernel
theorem t_W_ok : ∀ k, k < 3 → parseFieldDescriptor (F_W k).2.2.1 = some (t_W k) := by decide +kernel
def F_P : u_T := fun k => match k with
  | 0 => ("ImageReader$Pairing", "partners", "[I", false)
  | 1 => ("ImageReader$Pairing", "partnersBack", "[I", false)
  | 2 => ("ImageReader$Pairing", "queue", "[I", false)
  | _ => ("ImageReader$Pairing", "paired", "I", false)
def t_P : Nat → FieldType := fun k => match k with
  | 0 => .array .int
  | 1 => .array .int
  | 2 => .array .int
  | _ => .int
theorem n_P : ∀ a, a < 4 → ∀ b, b < 4 → a ≠ b → (F_P a).2.1 ≠ (F_P b).2.1 := by decide +kernel
theorem t_P_ok : ∀ k, k < 4 → parseFieldDescriptor (F_P k).2.2.1 = some (t_P k) := by decide +kernel
def F_M : u_T := fun k => match k with
  | 0 => ("ImageReaderModel", "code", "I", false)
  | 1 => ("ImageReaderModel", "in", "[B", true)
  | 2 => ("ImageReaderModel", "count", "I", false)
  | 3 => ("ImageReaderModel", "image", "[B", true)
  | 4 => ("ImageReaderModel", "length", "I", false)
  | 5 => ("ImageReaderModel", "kept", "[B", true)
  | 6 => ("ImageReaderModel", "keptLength", "I", false)
  | 7 => ("ImageReaderModel", "starts", "[I", true)
  | 8 => ("ImageReaderModel", "keptStarts", "[I", true)
  | 9 => ("ImageReaderModel", "reached", "[I", true)
  | 10 => ("ImageReaderModel", "number", "[I", true)
  | 11 => ("ImageReaderModel", "back", "[I", true)
  | _ => ("ImageReaderModel", "many", "I", false)
def t_M : Nat → FieldType := fun k => match k with
  | 0 => .int
  | 1 => .array .byte
  | 2 => .int
  | 3 => .array .byte
  | 4 => .int
  | 5 => .array .byte
  | 6 => .int
  | 7 => .array .int
  | 8 => .array .int
  | 9 => .array .int
  | 10 => .array .int
  | 11 => .array .int
  | _ => .int
theorem n_M : ∀ a, a < 13 → ∀ b, b < 13 → a ≠ b → (F_M a).2.1 ≠ (F_M b).2.1 := by decide +kernel
theorem t_M_ok : ∀ k, k < 13 → parseFieldDescriptor (F_M k).2.2.1 = some (t_M k) := by decide +kernel
abbrev classes : List vw_C := [("ImageReader", F_R, 8), ("ImageReader$Bytes", F_B, 2), ("ImageReader$Image", F_I, 11), ("ImageReader$Walk", F_W, 3), ("ImageReader$Pairing", F_P, 4), ("ImageReaderModel", F_M, 13)]
def av_okw (w : Cond) : Bool := (w.onTables && w.keeps) || (match w with | .arrayClass _ => true | _ => false)
def av_isn (w : Cond) : Bool := match w with | .fieldLinkNest _ _ _ _ _ _ => true | .methodLinkNest _ _ _ _ => true | _ => false
def av_tb : List Cond := lw_tbl.filter av_okw
def av_nw : List Cond := lw_tbl.filter av_isn
theorem av_tb_ok : ∀ w ∈ av_tb, (w.onTables && w.keeps) = true ∨ ∃ ty, w = .arrayClass ty := by
  intro w hw
  have h := (List.mem_filter.mp hw).2
  unfold av_okw at h
  rw [Bool.or_eq_true] at h
  rcases h with h | h
  · exact Or.inl h
  · split at h
    · exact Or.inr ⟨_, rfl⟩
    · cases h
theorem av_nw_ok : ∀ w ∈ av_nw, (∃ (a : String) (i : Nat) (b n d x : String), w = .fieldLinkNest a i b n d x) ∨ ∃ (a : String) (i : Nat) (y : MethodName) (x : String), w = .methodLinkNest a i y x := by
  intro w hw
  have h := (List.mem_filter.mp hw).2
  unfold av_isn at h
  split at h
  · exact Or.inl ⟨_, _, _, _, _, _, rfl⟩
  · exact Or.inr ⟨_, _, _, _, rfl⟩
  · cases h
def av_tys (dA : Nat → ClassId) : List (ClassId × FieldType) := [(dA 0, .int), (dA 1, .byte), (dA 2, .long)]
def av_t (t : Nat) : FieldType := match t with
  | 0 => .int
  | 1 => .byte
  | _ => .long
def hd_lo (j : Nat) : Int32 := match j with
  | 0 => 77
  | 1 => 77
  | 2 => 1
  | 3 => 0
  | 4 => 12
  | _ => 10
def hd_hi (j : Nat) : Int32 := match j with
  | 0 => 77
  | 1 => 77
  | 2 => 1
  | 3 => 0
  | 4 => 18
  | _ => 14
/-- the two static tables, at tb 0 and tb 1 -/
def av_St (tb : Nat → Nat) (A : Nat → Prop) (U : State) (H : Heap) : Prop :=
  (va_Z "ImageReader" "HEAD_LOWEST" "[I" (.ref (tb 0)) A U H ∧ va_T .int (tb 0) 6 (fun j => .int (hd_lo j)) A U H) ∧ (va_Z "ImageReader" "HEAD_HIGHEST" "[I" (.ref (tb 1)) A U H ∧ va_T .int (tb 1) 6 (fun j => .int (hd_hi j)) A U H)
theorem av_St.moved {tb : Nat → Nat} {A : Nat → Prop} {u U : State} {H : Heap} (hvm : u.vm.Alike U.vm) (h : av_St tb A u H) : av_St tb A U H := ⟨⟨h.1.1.moved hvm, h.1.2.moved hvm⟩, ⟨h.2.1.moved hvm, h.2.2.moved hvm⟩⟩
theorem av_St.kept {tb : Nat → Nat} {A : Nat → Prop} {U : State} {H H1 : Heap} (h : av_St tb A U H) (hq : ∀ a : Nat, a < H.size → ¬ A a → H1[a]? = H[a]?) : av_St tb A U H1 := ⟨⟨h.1.1.kept hq, h.1.2.kept hq⟩, ⟨h.2.1.kept hq, h.2.2.kept hq⟩⟩
theorem av_St.narrow {tb : Nat → Nat} {A B : Nat → Prop} {U : State} {H : Heap} (h : av_St tb A U H) (hAB : ∀ q, B q → A q) : av_St tb B U H := ⟨⟨h.1.1.narrow hAB, h.1.2.narrow hAB⟩, ⟨h.2.1.narrow hAB, h.2.2.narrow hAB⟩⟩
theorem i_R : ∀ w ∈ u_ws "ImageReader" F_R 8, w ∈ av_tb := by decide +kernel
theorem i_B : ∀ w ∈ u_ws "ImageReader$Bytes" F_B 2, w ∈ av_tb := by decide +kernel
theorem i_I : ∀ w ∈ u_ws "ImageReader$Image" F_I 11, w ∈ av_tb := by decide +kernel
theorem i_W : ∀ w ∈ u_ws "ImageReader$Walk" F_W 3, w ∈ av_tb := by decide +kernel
theorem i_P : ∀ w ∈ u_ws "ImageReader$Pairing" F_P 4, w ∈ av_tb := by decide +kernel
theorem i_M : ∀ w ∈ u_ws "ImageReaderModel" F_M 13, w ∈ av_tb := by decide +kernel
abbrev b_R_init : ByteArray := prog_1_method_1_code
abbrev y_R_init : MethodName := ⟨"ImageReader", "<init>", "()V"⟩
abbrev b_B_init : ByteArray := prog_2_method_1_code
abbrev y_B_init : MethodName := ⟨"ImageReader$Bytes", "<init>", "()V"⟩
abbrev b_I_init : ByteArray := prog_4_method_1_code
abbrev y_I_init : MethodName := ⟨"ImageReader$Image", "<init>", "()V"⟩
abbrev b_W_init : ByteArray := prog_7_method_1_code
abbrev y_W_init : MethodName := ⟨"ImageReader$Walk", "<init>", "()V"⟩
abbrev b_P_init : ByteArray := prog_6_method_1_code
abbrev y_P_init : MethodName := ⟨"ImageReader$Pairing", "<init>", "()V"⟩
abbrev b_R_change : ByteArray := prog_1_method_4_code
abbrev y_R_change : MethodName := ⟨"ImageReader", "change", "(II)I"⟩
abbrev b_B_at : ByteArray := prog_2_method_2_code
abbrev y_B_at : MethodName := ⟨"ImageReader$Bytes", "at", "(I)I"⟩
abbrev b_R_read : ByteArray := prog_1_method_5_code
abbrev y_R_read : MethodName := ⟨"ImageReader", "read", "()I"⟩
abbrev b_R_spareImage : ByteArray := prog_1_method_19_code
abbrev y_R_spareImage : MethodName := ⟨"ImageReader", "spareImage", "()LImageReader$Image;"⟩
abbrev b_R_placeOfRefusal : ByteArray := prog_1_method_20_code
abbrev y_R_placeOfRefusal : MethodName := ⟨"ImageReader", "placeOfRefusal", "(LImageReader$Image;)I"⟩
abbrev b_L_headPlace : ByteArray := prog_5_method_2_code
abbrev y_L_headPlace : MethodName := ⟨"ImageReader$Layout", "headPlace", "(LImageReader$Bytes;)I"⟩
abbrev b_B_reaches : ByteArray := prog_2_method_3_code
abbrev y_B_reaches : MethodName := ⟨"ImageReader$Bytes", "reaches", "(II)Z"⟩
abbrev b_B_pairAt : ByteArray := prog_2_method_4_code
abbrev y_B_pairAt : MethodName := ⟨"ImageReader$Bytes", "pairAt", "(I)I"⟩
abbrev b_L_takeSpecials : ByteArray := prog_5_method_3_code
abbrev y_L_takeSpecials : MethodName := ⟨"ImageReader$Layout", "takeSpecials", "(LImageReader$Bytes;LImageReader$Image;)I"⟩
abbrev b_I_clear : ByteArray := prog_4_method_2_code
abbrev y_I_clear : MethodName := ⟨"ImageReader$Image", "clear", "()V"⟩
abbrev b_L_isValueAt : ByteArray := prog_5_method_9_code
abbrev y_L_isValueAt : MethodName := ⟨"ImageReader$Layout", "isValueAt", "(LImageReader$Bytes;II)Z"⟩
abbrev b_B_wordAt : ByteArray := prog_2_method_5_code
abbrev y_B_wordAt : MethodName := ⟨"ImageReader$Bytes", "wordAt", "(I)I"⟩
abbrev b_R_isNumber : ByteArray := prog_1_method_23_code
abbrev y_R_isNumber : MethodName := ⟨"ImageReader", "isNumber", "(I)Z"⟩
abbrev b_L_takeObjects : ByteArray := prog_5_method_4_code
abbrev y_L_takeObjects : MethodName := ⟨"ImageReader$Layout", "takeObjects", "(LImageReader$Bytes;LImageReader$Image;)I"⟩
abbrev b_L_objectHeadPlace : ByteArray := prog_5_method_5_code
abbrev y_L_objectHeadPlace : MethodName := ⟨"ImageReader$Layout", "objectHeadPlace", "(LImageReader$Bytes;II)I"⟩
abbrev b_I_addObject : ByteArray := prog_4_method_3_code
abbrev y_I_addObject : MethodName := ⟨"ImageReader$Image", "addObject", "(III)V"⟩
abbrev b_A_copyOf_aII : ByteArray := prog_19_method_123_code
abbrev y_A_copyOf_aII : MethodName := ⟨"java/util/Arrays", "copyOf", "([II)[I"⟩
abbrev b_Mt_min : ByteArray := prog_14_method_69_code
abbrev y_Mt_min : MethodName := ⟨"java/lang/Math", "min", "(II)I"⟩
abbrev b_L_takeBytes : ByteArray := prog_5_method_6_code
abbrev y_L_takeBytes : MethodName := ⟨"ImageReader$Layout", "takeBytes", "(LImageReader$Bytes;IILImageReader$Image;)I"⟩
abbrev b_I_addPart : ByteArray := prog_4_method_4_code
abbrev y_I_addPart : MethodName := ⟨"ImageReader$Image", "addPart", "(I)V"⟩
abbrev b_L_takeFields : ByteArray := prog_5_method_7_code
abbrev y_L_takeFields : MethodName := ⟨"ImageReader$Layout", "takeFields", "(LImageReader$Bytes;IIILImageReader$Image;)I"⟩
abbrev b_L_bodyLength : ByteArray := prog_5_method_8_code
abbrev y_L_bodyLength : MethodName := ⟨"ImageReader$Layout", "bodyLength", "(II)I"⟩
abbrev b_F_roomPlace : ByteArray := prog_3_method_2_code
abbrev y_F_roomPlace : MethodName := ⟨"ImageReader$Form", "roomPlace", "(LImageReader$Image;)I"⟩
abbrev b_F_specialsPlace : ByteArray := prog_3_method_3_code
abbrev y_F_specialsPlace : MethodName := ⟨"ImageReader$Form", "specialsPlace", "(LImageReader$Image;)I"⟩
abbrev b_F_isSpecialFit : ByteArray := prog_3_method_4_code
abbrev y_F_isSpecialFit : MethodName := ⟨"ImageReader$Form", "isSpecialFit", "(LImageReader$Image;I)Z"⟩
abbrev b_I_specialAt : ByteArray := prog_4_method_7_code
abbrev y_I_specialAt : MethodName := ⟨"ImageReader$Image", "specialAt", "(I)I"⟩
abbrev b_I_objectOf : ByteArray := prog_4_method_6_code
abbrev y_I_objectOf : MethodName := ⟨"ImageReader$Image", "objectOf", "(I)I"⟩
abbrev b_I_holds : ByteArray := prog_4_method_5_code
abbrev y_I_holds : MethodName := ⟨"ImageReader$Image", "holds", "(I)Z"⟩
abbrev b_F_isNewSince : ByteArray := prog_3_method_5_code
abbrev y_F_isNewSince : MethodName := ⟨"ImageReader$Form", "isNewSince", "(LImageReader$Image;II)Z"⟩
abbrev b_F_isClass : ByteArray := prog_3_method_13_code
abbrev y_F_isClass : MethodName := ⟨"ImageReader$Form", "isClass", "(LImageReader$Image;I)Z"⟩
abbrev b_I_fieldAt : ByteArray := prog_4_method_11_code
abbrev y_I_fieldAt : MethodName := ⟨"ImageReader$Image", "fieldAt", "(II)I"⟩
abbrev b_I_hasPart : ByteArray := prog_4_method_13_code
abbrev y_I_hasPart : MethodName := ⟨"ImageReader$Image", "hasPart", "(II)Z"⟩
abbrev b_I_fieldCount : ByteArray := prog_4_method_10_code
abbrev y_I_fieldCount : MethodName := ⟨"ImageReader$Image", "fieldCount", "(I)I"⟩
abbrev b_R_numberOf : ByteArray := prog_1_method_25_code
abbrev y_R_numberOf : MethodName := ⟨"ImageReader", "numberOf", "(I)I"⟩
abbrev b_F_isPlain : ByteArray := prog_3_method_18_code
abbrev y_F_isPlain : MethodName := ⟨"ImageReader$Form", "isPlain", "(LImageReader$Image;II)Z"⟩
abbrev b_I_isContext : ByteArray := prog_4_method_15_code
abbrev y_I_isContext : MethodName := ⟨"ImageReader$Image", "isContext", "(I)Z"⟩
abbrev b_I_isOfSpecialClass : ByteArray := prog_4_method_14_code
abbrev y_I_isOfSpecialClass : MethodName := ⟨"ImageReader$Image", "isOfSpecialClass", "(II)Z"⟩
abbrev b_F_objectsPlace : ByteArray := prog_3_method_6_code
abbrev y_F_objectsPlace : MethodName := ⟨"ImageReader$Form", "objectsPlace", "(LImageReader$Image;)I"⟩
abbrev b_F_hasFitClass : ByteArray := prog_3_method_7_code
abbrev y_F_hasFitClass : MethodName := ⟨"ImageReader$Form", "hasFitClass", "(LImageReader$Image;I)Z"⟩
abbrev b_I_classAt : ByteArray := prog_4_method_8_code
abbrev y_I_classAt : MethodName := ⟨"ImageReader$Image", "classAt", "(I)I"⟩
abbrev b_I_isOfBytes : ByteArray := prog_4_method_9_code
abbrev y_I_isOfBytes : MethodName := ⟨"ImageReader$Image", "isOfBytes", "(I)Z"⟩
abbrev b_F_isMethodContext : ByteArray := prog_3_method_8_code
abbrev y_F_isMethodContext : MethodName := ⟨"ImageReader$Form", "isMethodContext", "(LImageReader$Image;I)Z"⟩
abbrev b_F_isMethod : ByteArray := prog_3_method_14_code
abbrev y_F_isMethod : MethodName := ⟨"ImageReader$Form", "isMethod", "(LImageReader$Image;I)Z"⟩
abbrev b_R_isNumberWithin : ByteArray := prog_1_method_24_code
abbrev y_R_isNumberWithin : MethodName := ⟨"ImageReader", "isNumberWithin", "(III)Z"⟩
abbrev b_F_temporariesOf : ByteArray := prog_3_method_16_code
abbrev y_F_temporariesOf : MethodName := ⟨"ImageReader$Form", "temporariesOf", "(I)I"⟩
abbrev b_F_argumentsOf : ByteArray := prog_3_method_15_code
abbrev y_F_argumentsOf : MethodName := ⟨"ImageReader$Form", "argumentsOf", "(I)I"⟩
abbrev b_F_depthOf : ByteArray := prog_3_method_17_code
abbrev y_F_depthOf : MethodName := ⟨"ImageReader$Form", "depthOf", "(I)I"⟩
abbrev b_F_areLinksFit : ByteArray := prog_3_method_10_code
abbrev y_F_areLinksFit : MethodName := ⟨"ImageReader$Form", "areLinksFit", "(LImageReader$Image;I)Z"⟩
abbrev b_F_isNilOrCounting : ByteArray := prog_3_method_11_code
abbrev y_F_isNilOrCounting : MethodName := ⟨"ImageReader$Form", "isNilOrCounting", "(I)Z"⟩
abbrev b_F_isNilFrom : ByteArray := prog_3_method_12_code
abbrev y_F_isNilFrom : MethodName := ⟨"ImageReader$Form", "isNilFrom", "(LImageReader$Image;II)Z"⟩
abbrev b_F_isBlockContext : ByteArray := prog_3_method_9_code
abbrev y_F_isBlockContext : MethodName := ⟨"ImageReader$Form", "isBlockContext", "(LImageReader$Image;I)Z"⟩
abbrev b_F_schedulerPlace : ByteArray := prog_3_method_19_code
abbrev y_F_schedulerPlace : MethodName := ⟨"ImageReader$Form", "schedulerPlace", "(LImageReader$Image;)I"⟩
abbrev b_F_areListsFit : ByteArray := prog_3_method_20_code
abbrev y_F_areListsFit : MethodName := ⟨"ImageReader$Form", "areListsFit", "(LImageReader$Image;I)Z"⟩
abbrev b_F_isProcessFit : ByteArray := prog_3_method_21_code
abbrev y_F_isProcessFit : MethodName := ⟨"ImageReader$Form", "isProcessFit", "(LImageReader$Image;I)Z"⟩
abbrev b_R_objects : ByteArray := prog_1_method_6_code
abbrev y_R_objects : MethodName := ⟨"ImageReader", "objects", "()I"⟩
abbrev b_R_words : ByteArray := prog_1_method_7_code
abbrev y_R_words : MethodName := ⟨"ImageReader", "words", "()I"⟩
abbrev b_R_special : ByteArray := prog_1_method_8_code
abbrev y_R_special : MethodName := ⟨"ImageReader", "special", "(I)I"⟩
abbrev b_R_kind : ByteArray := prog_1_method_9_code
abbrev y_R_kind : MethodName := ⟨"ImageReader", "kind", "(I)I"⟩
abbrev b_R_classOf : ByteArray := prog_1_method_10_code
abbrev y_R_classOf : MethodName := ⟨"ImageReader", "classOf", "(I)I"⟩
abbrev b_R_size : ByteArray := prog_1_method_11_code
abbrev y_R_size : MethodName := ⟨"ImageReader", "size", "(I)I"⟩
abbrev b_R_field : ByteArray := prog_1_method_12_code
abbrev y_R_field : MethodName := ⟨"ImageReader", "field", "(II)I"⟩
abbrev b_R_byteAt : ByteArray := prog_1_method_13_code
abbrev y_R_byteAt : MethodName := ⟨"ImageReader", "byteAt", "(II)I"⟩
abbrev b_I_bodyByteAt : ByteArray := prog_4_method_12_code
abbrev y_I_bodyByteAt : MethodName := ⟨"ImageReader$Image", "bodyByteAt", "(II)I"⟩
abbrev b_R_reachable : ByteArray := prog_1_method_14_code
abbrev y_R_reachable : MethodName := ⟨"ImageReader", "reachable", "()I"⟩
abbrev b_W_reach : ByteArray := prog_7_method_2_code
abbrev y_W_reach : MethodName := ⟨"ImageReader$Walk", "reach", "(LImageReader$Image;)I"⟩
abbrev b_W_clear : ByteArray := prog_7_method_3_code
abbrev y_W_clear : MethodName := ⟨"ImageReader$Walk", "clear", "(LImageReader$Image;)V"⟩
abbrev b_A_fill : ByteArray := prog_19_method_103_code
abbrev y_A_fill : MethodName := ⟨"java/util/Arrays", "fill", "([II)V"⟩
abbrev b_W_visit : ByteArray := prog_7_method_4_code
abbrev y_W_visit : MethodName := ⟨"ImageReader$Walk", "visit", "(I)V"⟩
abbrev b_R_write : ByteArray := prog_1_method_15_code
abbrev y_R_write : MethodName := ⟨"ImageReader", "write", "()I"⟩
abbrev b_W_numberAnew : ByteArray := prog_7_method_5_code
abbrev y_W_numberAnew : MethodName := ⟨"ImageReader$Walk", "numberAnew", "(LImageReader$Image;)V"⟩
abbrev b_R_writeHead : ByteArray := prog_1_method_21_code
abbrev y_R_writeHead : MethodName := ⟨"ImageReader", "writeHead", "(I)V"⟩
abbrev b_B_add : ByteArray := prog_2_method_6_code
abbrev y_B_add : MethodName := ⟨"ImageReader$Bytes", "add", "(I)V"⟩
abbrev b_A_copyOf_aBI : ByteArray := prog_19_method_121_code
abbrev y_A_copyOf_aBI : MethodName := ⟨"java/util/Arrays", "copyOf", "([BI)[B"⟩
abbrev b_B_addPair : ByteArray := prog_2_method_7_code
abbrev y_B_addPair : MethodName := ⟨"ImageReader$Bytes", "addPair", "(I)V"⟩
abbrev b_W_renumbered : ByteArray := prog_7_method_6_code
abbrev y_W_renumbered : MethodName := ⟨"ImageReader$Walk", "renumbered", "(LImageReader$Image;I)I"⟩
abbrev b_B_addWord : ByteArray := prog_2_method_8_code
abbrev y_B_addWord : MethodName := ⟨"ImageReader$Bytes", "addWord", "(I)V"⟩
abbrev b_R_writeObject : ByteArray := prog_1_method_22_code
abbrev y_R_writeObject : MethodName := ⟨"ImageReader", "writeObject", "(I)V"⟩
abbrev b_R_came : ByteArray := prog_1_method_16_code
abbrev y_R_came : MethodName := ⟨"ImageReader", "came", "(I)I"⟩
abbrev b_R_keep : ByteArray := prog_1_method_17_code
abbrev y_R_keep : MethodName := ⟨"ImageReader", "keep", "()Z"⟩
abbrev b_R_same : ByteArray := prog_1_method_18_code
abbrev y_R_same : MethodName := ⟨"ImageReader", "same", "()Z"⟩
abbrev b_P_pairs : ByteArray := prog_6_method_2_code
abbrev y_P_pairs : MethodName := ⟨"ImageReader$Pairing", "pairs", "(LImageReader$Image;LImageReader$Image;)Z"⟩
abbrev b_P_clear : ByteArray := prog_6_method_3_code
abbrev y_P_clear : MethodName := ⟨"ImageReader$Pairing", "clear", "(LImageReader$Image;LImageReader$Image;)V"⟩
abbrev b_Mt_max : ByteArray := prog_14_method_65_code
abbrev y_Mt_max : MethodName := ⟨"java/lang/Math", "max", "(II)I"⟩
abbrev b_P_match : ByteArray := prog_6_method_4_code
abbrev y_P_match : MethodName := ⟨"ImageReader$Pairing", "match", "(LImageReader$Image;ILImageReader$Image;I)Z"⟩
abbrev b_P_matchBodies : ByteArray := prog_6_method_5_code
abbrev y_P_matchBodies : MethodName := ⟨"ImageReader$Pairing", "matchBodies", "(LImageReader$Image;ILImageReader$Image;I)Z"⟩
abbrev b_Law_feed : ByteArray := method_3_code
abbrev y_Law_feed : MethodName := ⟨"ImageReaderLaw", "feed", "(LImageReader;IIIII)I"⟩
abbrev b_R_feed : ByteArray := prog_1_method_2_code
abbrev y_R_feed : MethodName := ⟨"ImageReader", "feed", "(IIIII)V"⟩
abbrev b_Law_end : ByteArray := method_4_code
abbrev y_Law_end : MethodName := ⟨"ImageReaderLaw", "end", "(LImageReader;I[J)I"⟩
abbrev b_R_end : ByteArray := prog_1_method_3_code
abbrev y_R_end : MethodName := ⟨"ImageReader", "end", "(I)I"⟩
abbrev b_M_init : ByteArray := prog_9_method_1_code
abbrev y_M_init : MethodName := ⟨"ImageReaderModel", "<init>", "()V"⟩
abbrev b_M_thrown : ByteArray := prog_9_method_2_code
abbrev y_M_thrown : MethodName := ⟨"ImageReaderModel", "thrown", "()I"⟩
abbrev b_M_feed : ByteArray := prog_9_method_5_code
abbrev y_M_feed : MethodName := ⟨"ImageReaderModel", "feed", "(IIIII)V"⟩
abbrev b_M_end : ByteArray := prog_9_method_6_code
abbrev y_M_end : MethodName := ⟨"ImageReaderModel", "end", "(I)I"⟩
abbrev b_M_change : ByteArray := prog_9_method_7_code
abbrev y_M_change : MethodName := ⟨"ImageReaderModel", "change", "(II)I"⟩
abbrev b_M_came : ByteArray := prog_9_method_8_code
abbrev y_M_came : MethodName := ⟨"ImageReaderModel", "came", "(I)I"⟩
abbrev b_M_read : ByteArray := prog_9_method_39_code
abbrev y_M_read : MethodName := ⟨"ImageReaderModel", "read", "()I"⟩
abbrev b_M_place : ByteArray := prog_9_method_37_code
abbrev y_M_place : MethodName := ⟨"ImageReaderModel", "place", "()I"⟩
abbrev b_M_stepHead : ByteArray := prog_9_method_28_code
abbrev y_M_stepHead : MethodName := ⟨"ImageReaderModel", "stepHead", "()I"⟩
abbrev b_M_objects_aB : ByteArray := prog_9_method_9_code
abbrev y_M_objects_aB : MethodName := ⟨"ImageReaderModel", "objects", "([B)I"⟩
abbrev b_M_half : ByteArray := prog_9_method_4_code
abbrev y_M_half : MethodName := ⟨"ImageReaderModel", "half", "([BI)I"⟩
abbrev b_M_stepValues : ByteArray := prog_9_method_30_code
abbrev y_M_stepValues : MethodName := ⟨"ImageReaderModel", "stepValues", "()I"⟩
abbrev b_M_isValue : ByteArray := prog_9_method_29_code
abbrev y_M_isValue : MethodName := ⟨"ImageReaderModel", "isValue", "(I)Z"⟩
abbrev b_M_word : ByteArray := prog_9_method_3_code
abbrev y_M_word : MethodName := ⟨"ImageReaderModel", "word", "([BI)I"⟩
abbrev b_M_isNumber : ByteArray := prog_9_method_12_code
abbrev y_M_isNumber : MethodName := ⟨"ImageReaderModel", "isNumber", "(I)Z"⟩
abbrev b_M_sizeAt : ByteArray := prog_9_method_14_code
abbrev y_M_sizeAt : MethodName := ⟨"ImageReaderModel", "sizeAt", "([BI)I"⟩
abbrev b_M_isOfBytes : ByteArray := prog_9_method_13_code
abbrev y_M_isOfBytes : MethodName := ⟨"ImageReaderModel", "isOfBytes", "([BI)Z"⟩
abbrev b_M_stepRoom : ByteArray := prog_9_method_32_code
abbrev y_M_stepRoom : MethodName := ⟨"ImageReaderModel", "stepRoom", "()I"⟩
abbrev b_M_wordsOf : ByteArray := prog_9_method_31_code
abbrev y_M_wordsOf : MethodName := ⟨"ImageReaderModel", "wordsOf", "([B[I)I"⟩
abbrev b_M_stepSpecials : ByteArray := prog_9_method_33_code
abbrev y_M_stepSpecials : MethodName := ⟨"ImageReaderModel", "stepSpecials", "()I"⟩
abbrev b_M_special_aBI : ByteArray := prog_9_method_10_code
abbrev y_M_special_aBI : MethodName := ⟨"ImageReaderModel", "special", "([BI)I"⟩
abbrev b_M_isObject : ByteArray := prog_9_method_11_code
abbrev y_M_isObject : MethodName := ⟨"ImageReaderModel", "isObject", "(I)Z"⟩
abbrev b_M_isClass : ByteArray := prog_9_method_20_code
abbrev y_M_isClass : MethodName := ⟨"ImageReaderModel", "isClass", "(I)Z"⟩
abbrev b_M_hasFields : ByteArray := prog_9_method_17_code
abbrev y_M_hasFields : MethodName := ⟨"ImageReaderModel", "hasFields", "(II)Z"⟩
abbrev b_M_fieldOf : ByteArray := prog_9_method_18_code
abbrev y_M_fieldOf : MethodName := ⟨"ImageReaderModel", "fieldOf", "(II)I"⟩
abbrev b_M_fieldAt : ByteArray := prog_9_method_15_code
abbrev y_M_fieldAt : MethodName := ⟨"ImageReaderModel", "fieldAt", "([BII)I"⟩
abbrev b_M_isContext : ByteArray := prog_9_method_19_code
abbrev y_M_isContext : MethodName := ⟨"ImageReaderModel", "isContext", "(I)Z"⟩
abbrev b_M_stepObjects : ByteArray := prog_9_method_35_code
abbrev y_M_stepObjects : MethodName := ⟨"ImageReaderModel", "stepObjects", "()I"⟩
abbrev b_M_isRightObject : ByteArray := prog_9_method_34_code
abbrev y_M_isRightObject : MethodName := ⟨"ImageReaderModel", "isRightObject", "(I)Z"⟩
abbrev b_M_isMethodContext : ByteArray := prog_9_method_26_code
abbrev y_M_isMethodContext : MethodName := ⟨"ImageReaderModel", "isMethodContext", "(I)Z"⟩
abbrev b_M_isMethod : ByteArray := prog_9_method_21_code
abbrev y_M_isMethod : MethodName := ⟨"ImageReaderModel", "isMethod", "(I)Z"⟩
abbrev b_M_temporaries : ByteArray := prog_9_method_22_code
abbrev y_M_temporaries : MethodName := ⟨"ImageReaderModel", "temporaries", "(I)I"⟩
abbrev b_M_depth : ByteArray := prog_9_method_23_code
abbrev y_M_depth : MethodName := ⟨"ImageReaderModel", "depth", "(I)I"⟩
abbrev b_M_isNumberFrom : ByteArray := prog_9_method_24_code
abbrev y_M_isNumberFrom : MethodName := ⟨"ImageReaderModel", "isNumberFrom", "(III)Z"⟩
abbrev b_M_isCommon : ByteArray := prog_9_method_25_code
abbrev y_M_isCommon : MethodName := ⟨"ImageReaderModel", "isCommon", "(II)Z"⟩
abbrev b_M_isBlockContext : ByteArray := prog_9_method_27_code
abbrev y_M_isBlockContext : MethodName := ⟨"ImageReaderModel", "isBlockContext", "(I)Z"⟩
abbrev b_M_stepProcess : ByteArray := prog_9_method_36_code
abbrev y_M_stepProcess : MethodName := ⟨"ImageReaderModel", "stepProcess", "()I"⟩
abbrev b_M_note : ByteArray := prog_9_method_38_code
abbrev y_M_note : MethodName := ⟨"ImageReaderModel", "note", "([B[I)V"⟩
abbrev b_M_endAt : ByteArray := prog_9_method_16_code
abbrev y_M_endAt : MethodName := ⟨"ImageReaderModel", "endAt", "([BI)I"⟩
abbrev b_M_objects_ : ByteArray := prog_9_method_41_code
abbrev y_M_objects_ : MethodName := ⟨"ImageReaderModel", "objects", "()I"⟩
abbrev b_M_words : ByteArray := prog_9_method_42_code
abbrev y_M_words : MethodName := ⟨"ImageReaderModel", "words", "()I"⟩
abbrev b_M_special_I : ByteArray := prog_9_method_43_code
abbrev y_M_special_I : MethodName := ⟨"ImageReaderModel", "special", "(I)I"⟩
abbrev b_M_kind : ByteArray := prog_9_method_44_code
abbrev y_M_kind : MethodName := ⟨"ImageReaderModel", "kind", "(I)I"⟩
abbrev b_M_isThere : ByteArray := prog_9_method_40_code
abbrev y_M_isThere : MethodName := ⟨"ImageReaderModel", "isThere", "(I)Z"⟩
abbrev b_M_classOf : ByteArray := prog_9_method_45_code
abbrev y_M_classOf : MethodName := ⟨"ImageReaderModel", "classOf", "(I)I"⟩
abbrev b_M_size : ByteArray := prog_9_method_46_code
abbrev y_M_size : MethodName := ⟨"ImageReaderModel", "size", "(I)I"⟩
abbrev b_M_field : ByteArray := prog_9_method_47_code
abbrev y_M_field : MethodName := ⟨"ImageReaderModel", "field", "(II)I"⟩
abbrev b_M_byteAt : ByteArray := prog_9_method_48_code
abbrev y_M_byteAt : MethodName := ⟨"ImageReaderModel", "byteAt", "(II)I"⟩
abbrev b_M_reachable : ByteArray := prog_9_method_51_code
abbrev y_M_reachable : MethodName := ⟨"ImageReaderModel", "reachable", "()I"⟩
abbrev b_M_reachAll : ByteArray := prog_9_method_50_code
abbrev y_M_reachAll : MethodName := ⟨"ImageReaderModel", "reachAll", "()V"⟩
abbrev b_M_reach : ByteArray := prog_9_method_49_code
abbrev y_M_reach : MethodName := ⟨"ImageReaderModel", "reach", "(I)V"⟩
abbrev b_M_write : ByteArray := prog_9_method_54_code
abbrev y_M_write : MethodName := ⟨"ImageReaderModel", "write", "()I"⟩
abbrev b_M_put : ByteArray := prog_9_method_52_code
abbrev y_M_put : MethodName := ⟨"ImageReaderModel", "put", "(II)V"⟩
abbrev b_M_renumbered : ByteArray := prog_9_method_53_code
abbrev y_M_renumbered : MethodName := ⟨"ImageReaderModel", "renumbered", "(I)I"⟩
abbrev b_M_keep : ByteArray := prog_9_method_55_code
abbrev y_M_keep : MethodName := ⟨"ImageReaderModel", "keep", "()Z"⟩
abbrev b_M_same : ByteArray := prog_9_method_58_code
abbrev y_M_same : MethodName := ⟨"ImageReaderModel", "same", "()Z"⟩
abbrev b_M_goes : ByteArray := prog_9_method_56_code
abbrev y_M_goes : MethodName := ⟨"ImageReaderModel", "goes", "(II)Z"⟩
abbrev b_M_goTogether : ByteArray := prog_9_method_57_code
abbrev y_M_goTogether : MethodName := ⟨"ImageReaderModel", "goTogether", "(I)Z"⟩
end
section
/-! ===== the light layer: AW, AM ===== -/
abbrev AE : Type := (Nat × vp_A) ⊕ (Nat × List Value)
abbrev AH : Type := Nat → Option AE
def av_e (dA : Nat → ClassId) (e : AE) : va_E := match e with
  | .inl a => .inl (dA a.1, a.2)
  | .inr o => .inr o
def av_up (h : AH) (a : Nat) (e : AE) : AH := fun q => if q = a then some e else h q
theorem av_up_self (h : AH) (a : Nat) (e : AE) : av_up h a e a = some e := by simp [av_up]
theorem av_up_ne {h : AH} {a q : Nat} {e : AE} (hq : q ≠ a) : av_up h a e q = h q := by simp [av_up, hq]
/-- the list of cells is the abstract heap -/
def av_rep (dA : Nat → ClassId) (h : AH) (ws : va_W) : Prop :=
  (∀ (a : Nat) (e : AE), h a = some e → ∃ k : Nat, ws[k]? = some (a, av_e dA e)) ∧ ∀ (k : Nat) (q : Nat × va_E), ws[k]? = some q → ∃ e : AE, h q.1 = some e
theorem av_rep.set {dA : Nat → ClassId} {h : AH} {ws : va_W} (hr : av_rep dA h ws) {k a : Nat} {e0 : va_E} {e : AE} (hk : ws[k]? = some (a, e0)) : av_rep dA (av_up h a e) (ws.set k (a, av_e dA e)) := by
  have hl := (List.getElem?_eq_some_iff.mp hk).1
  refine ⟨fun b e' hb => ?_, fun j q hj => ?_⟩
  · by_cases hba : b = a
    · subst hba
      rw [av_up_self] at hb
      cases hb
      exact ⟨k, List.getElem?_set_self hl⟩
    · rw [av_up_ne hba] at hb
      obtain ⟨j, hj⟩ := hr.1 b e' hb
      have hjk : k ≠ j := fun z => by
        subst z
        rw [hk] at hj
        cases hj
        exact hba rfl
      exact ⟨j, by rw [List.getElem?_set_ne hjk]; exact hj⟩
  · by_cases hq : q.1 = a
    · exact ⟨e, by rw [hq]; exact av_up_self h a e⟩
    · by_cases hjk : k = j
      · subst hjk
        rw [List.getElem?_set_self hl] at hj
        cases hj
        exact absurd rfl hq
      · rw [List.getElem?_set_ne hjk] at hj
        obtain ⟨e', he'⟩ := hr.2 j q hj
        exact ⟨e', by rw [av_up_ne hq]; exact he'⟩
theorem av_rep.push {dA : Nat → ClassId} {h : AH} {ws : va_W} (hr : av_rep dA h ws) {q : Nat} {e : AE} (hf : h q = none) : av_rep dA (av_up h q e) (ws ++ [(q, av_e dA e)]) := by
  refine ⟨fun b e' hb => ?_, fun j x hj => ?_⟩
  · by_cases hba : b = q
    · subst hba
      rw [av_up_self] at hb
      cases hb
      exact ⟨ws.length, by simp⟩
    · rw [av_up_ne hba] at hb
      obtain ⟨j, hj⟩ := hr.1 b e' hb
      exact ⟨j, by rw [List.getElem?_append_left (List.getElem?_eq_some_iff.mp hj).1]; exact hj⟩
  · by_cases hq : x.1 = q
    · exact ⟨e, by rw [hq]; exact av_up_self h q e⟩
    · by_cases hl : j < ws.length
      · rw [List.getElem?_append_left hl] at hj
        obtain ⟨e', he'⟩ := hr.2 j x hj
        exact ⟨e', by rw [av_up_ne hq]; exact he'⟩
      · rw [List.getElem?_append_right (by omega)] at hj
        have hz : j - ws.length < 1 := (List.getElem?_eq_some_iff.mp hj).1
        rw [show j - ws.length = 0 by omega] at hj
        cases hj
        exact absurd rfl hq
theorem av_fresh {dA : Nat → ClassId} {h : AH} {ws : va_W} {A : Nat → Prop} {q : Nat} {e : va_E} (hr : av_rep dA h ws) (hD : va_D A (ws ++ [(q, e)])) : h q = none := by
  cases hq : h q with
  | none => rfl
  | some e' =>
    obtain ⟨k, hk⟩ := hr.1 q e' hq
    have hl := (List.getElem?_eq_some_iff.mp hk).1
    have h1 : (ws ++ [(q, e)])[k]? = some (q, av_e dA e') := by rw [List.getElem?_append_left hl]; exact hk
    have h2 : (ws ++ [(q, e)])[ws.length]? = some (q, e) := by simp
    have h3 := hD.1 _ _ _ _ h1 h2 rfl
    omega
/-- locals: what is known of each -/
def av_prs : Nat → List (Option Value) → List (Nat × Value)
  | _, [] => []
  | k, none :: r => av_prs (k + 1) r
  | k, some v :: r => (k, v) :: av_prs (k + 1) r
theorem av_prs_mem : ∀ (L : List (Option Value)) (k : Nat) (q : Nat × Value), q ∈ av_prs k L ↔ ∃ j : Nat, q.1 = k + j ∧ L[j]? = some (some q.2)
  | [], k, q => by simp [av_prs]
  | none :: r, k, q => by
    rw [av_prs, av_prs_mem r (k + 1) q]
    constructor
    · rintro ⟨j, h1, h2⟩
      exact ⟨j + 1, by omega, by simpa using h2⟩
    · rintro ⟨j, h1, h2⟩
      cases j with
      | zero => simp at h2
      | succ j => exact ⟨j, by omega, by simpa using h2⟩
  | some v :: r, k, q => by
    rw [av_prs, List.mem_cons, av_prs_mem r (k + 1) q]
    constructor
    · rintro (rfl | ⟨j, h1, h2⟩)
      · exact ⟨0, by simp, by simp⟩
      · exact ⟨j + 1, by omega, by simpa using h2⟩
    · rintro ⟨j, h1, h2⟩
      cases j with
      | zero =>
        left
        have h3 : v = q.2 := by simpa using h2
        have h4 : q.1 = k := by simpa using h1
        exact Prod.ext h4 h3.symm
      | succ j => exact Or.inr ⟨j, by omega, by simpa using h2⟩
def av_has (ls : Array Slot) (nL : Nat) (L : List (Option Value)) : Prop := lv_has ls nL (av_prs 0 L)
theorem av_at {ls : Array Slot} {nL i : Nat} {L : List (Option Value)} {v : Value} (hl : av_has ls nL L) (hi : L[i]? = some (some v)) : ls[i]? = some (.val v) := hl.2.2 (i, v) ((av_prs_mem L 0 (i, v)).mpr ⟨i, (Nat.zero_add i).symm, hi⟩)
def av_c1 (L : List (Option Value)) : Bool := L.all (fun o => match o with | none => true | some v => v.category == 1)
theorem av_stored {ls' : Array Slot} {nL i : Nat} {L L' : List (Option Value)} {v : Value} (h : lv_has ls' nL ((i, v) :: (av_prs 0 L).filter (fun q => !(q.1 == i) && !(q.1 + 1 == i && q.2.category == 2)))) (hc : av_c1 L = true) (hL : L.set i (some v) = L') : av_has ls' nL L' := by
  subst hL
  refine ⟨h.1, h.2.1, fun q hq => ?_⟩
  obtain ⟨j, h1, h2⟩ := (av_prs_mem _ _ _).mp hq
  have h1 : q.1 = j := by omega
  by_cases hji : j = i
  · subst hji
    have hlt : j < L.length := by
      have := (List.getElem?_eq_some_iff.mp h2).1
      simpa using this
    rw [List.getElem?_set_self hlt] at h2
    have h3 : v = q.2 := by simpa using h2
    have h4 : q = (j, v) := Prod.ext h1 h3.symm
    rw [h4]
    exact h.2.2 _ List.mem_cons_self
  · rw [List.getElem?_set_ne (fun z => hji z.symm)] at h2
    refine h.2.2 q (List.mem_cons_of_mem _ (List.mem_filter.mpr ⟨(av_prs_mem L 0 q).mpr ⟨j, by omega, h2⟩, ?_⟩))
    have h5 : (some q.2) ∈ L := List.mem_of_getElem? h2
    have h6 := List.all_eq_true.mp hc _ h5
    have h7 : q.2.category = 1 := by simpa using h6
    simp [h1, hji, h7]
/-- what every method may lean on: the classes, the array classes, the nest's links, the static tables (at tb) -/
def av_K (tb : Nat → Nat) (D : va_G) (dA : Nat → ClassId) (A : Nat → Prop) (U : State) : Prop := va_K D classes (av_tys dA) U ∧ (∀ w ∈ av_nw, va_Nw w U) ∧ av_St tb A U U.heap
theorem av_nw_on {w : Cond} (h : w ∈ av_nw) : w.onTables = true := by
  rcases av_nw_ok w h with ⟨a, i, b, n, d, x, rfl⟩ | ⟨a, i, y, x, rfl⟩ <;> rfl
theorem av_nw_warm {w : Cond} (h : w ∈ av_nw) {s U : State} (hW : s.WarmedH U.vm) (hz : va_Nw w s) : va_Nw w U := by
  rcases av_nw_ok w h with ⟨a, i, b, n, d, x, rfl⟩ | ⟨a, i, y, x, rfl⟩
  · exact va_Nw.warmF hW hz
  · exact va_Nw.warmM hW hz
theorem av_K.calling {tb : Nat → Nat} {D : va_G} {dA : Nat → ClassId} {A : Nat → Prop} {U : State} {g : JFrame} {mk : MethodId} {a : Array Value} (h : av_K tb D dA A U) : av_K tb D dA A (U.calling g mk a) :=
  ⟨va_K.moved (u := U) (U := U.calling g mk a) (Vm.Alike.refl U.vm) h.1, fun w hw => va_Nw.same (u := U) (U := U.calling g mk a) (av_nw_on hw) rfl (h.2.1 w hw), av_St.moved (Vm.Alike.refl U.vm) h.2.2⟩
theorem av_K.call {tb : Nat → Nat} {D : va_G} {dA : Nat → ClassId} {A B : Nat → Prop} {s U : State} {H : Heap} {locs : List Loc} (h : av_K tb D dA A s) (hS : va_S A s.heap H locs) (hAB : ∀ q, B q → A q) (hU : U.heap = H) (hW : s.WarmedH U.vm) : av_K tb D dA B U := by
  refine ⟨va_K.moved hW.alike h.1, fun w hw => av_nw_warm hw hW (h.2.1 w hw), ?_⟩
  rw [hU]
  exact av_St.narrow (av_St.kept (av_St.moved hW.alike h.2.2) (fun a h1 h2 => hS.2.1 a h1 h2)) hAB
def av_Ret (cc : ByteArray) (ret : Option FieldType) (Post : Option Value → AH → Prop) (p : Program) (l : Launch) (e : Env) (R : Room) (s : State) (m : MethodId) (args : Array Value) (below : List Frame) (meth : Method) (c : Code) (D : va_G) (dA : Nat → ClassId) (A : Nat → Prop) (Q : State → Prop) : Prop :=
  ∀ (H : Heap) (locs : List Loc) (ls : Array Slot) (ws : va_W) (pc : Nat) (v : Option Value) (h : AH) (i : ClassFile.Instr), Post v h → av_rep dA h ws → va_P D classes ws H → va_D A ws → va_S A s.heap H locs → decode cc pc = .ok (i, 1) →
    ((i = .ireturn ∧ ∃ (x : Int32) (rt : FieldType), v = some (.int x) ∧ ret = some rt ∧ narrow rt (.int x) = .int x) ∨ (i = .areturn ∧ ∃ (a : Nat) (rt : FieldType), v = some (.ref a) ∧ ret = some rt ∧ ((∃ n, rt = .object n) ∨ ∃ t, rt = .array t)) ∨ (i = .return_ ∧ v = none ∧ ret = none)) →
    W p l e R s m args below meth c H locs R.cells R.slots Q (F0 m pc ls v.toList)
def av_Fix (tb : Nat → Nat) (own : String) (cc : ByteArray) (nL : Nat) (ret : Option FieldType) (ini : Bool) (sc : Option (Nat × Nat × (Nat → Int32))) (fr lo : Nat) (Post : Option Value → AH → Prop) (p : Program) (l : Launch) (e : Env) (R : Room) (s : State) (m : MethodId) (args : Array Value) (below : List Frame) (meth : Method) (c : Code) (D : va_G) (dA : Nat → ClassId) (A : Nat → Prop) (Q : State → Prop) : Prop :=
  p.tables.exec = Jvm.exec ∧ c.code = cc ∧ c.maxLocals = nL ∧ s.vm.findClass own = some m.cls ∧ (∀ w ∈ av_tb, w.before args s = true) ∧ av_K tb D dA A s ∧ (∀ q, s.heap.size ≤ q → A q) ∧ (ini = true → meth.name = "<init>") ∧ fr ≤ R.frames ∧ lo ≤ R.locals ∧
  (∀ x, sc = some x → va_X x.1 x.2.1 x.2.2 s s.heap ∧ x.1 < s.heap.size ∧ ¬ A x.1) ∧ av_Ret cc ret Post p l e R s m args below meth c D dA A Q
/-- FROM HERE THE METHOD RETURNS, with an answer and a heap that Post allows -/
def AW (tb : Nat → Nat) (own : String) (cc : ByteArray) (nL : Nat) (ret : Option FieldType) (ini : Bool) (sc : Option (Nat × Nat × (Nat → Int32))) (fr lo : Nat) (Post : Option Value → AH → Prop) (pc : Nat) (L : List (Option Value)) (st : List Value) (h : AH) (mc ms : Nat) : Prop :=
  ∀ (p : Program) (l : Launch) (e : Env) (R : Room) (s : State) (m : MethodId) (args : Array Value) (below : List Frame) (meth : Method) (c : Code) (D : va_G) (dA : Nat → ClassId) (A : Nat → Prop) (H : Heap) (locs : List Loc) (cells slots : Nat) (Q : State → Prop) (ls : Array Slot) (ws : va_W),
    av_Fix tb own cc nL ret ini sc fr lo Post p l e R s m args below meth c D dA A Q → av_rep dA h ws → va_P D classes ws H → va_D A ws → va_S A s.heap H locs → av_has ls nL L → cells + mc ≤ R.cells → slots + ms ≤ R.slots →
    W p l e R s m args below meth c H locs cells slots Q (F0 m pc ls st)
def av_AA (h : AH) (sz : Nat) : Nat → Prop := fun q => (∃ e : AE, h q = some e) ∨ sz ≤ q
def av_Pre (tb : Nat → Nat) (D : va_G) (dA : Nat → ClassId) (av : List Value) (h : AH) (sz : Nat) : Array Value → State → Prop := fun v U =>
  v = av.toArray ∧ U.heap.size = sz ∧ (∃ ws : va_W, av_rep dA h ws ∧ va_P D classes ws U.heap ∧ va_D (av_AA h sz) ws) ∧ av_K tb D dA (av_AA h sz) U
def av_QQ (D : va_G) (dA : Nat → ClassId) (A : Nat → Prop) (Post : Option Value → AH → Prop) : Array Value → State → Outcome → State → Prop := fun _ s oc t =>
  (∃ (v : Option Value) (h' : AH) (ws' : va_W), oc = .returned v ∧ Post v h' ∧ av_rep dA h' ws' ∧ va_P D classes ws' t.heap ∧ va_D A ws') ∧ va_F A s t
abbrev av_ws (y : MethodName) (cc : ByteArray) (nL : Nat) (ret : Option FieldType) : List Cond := Cond.code y cc nL ret :: av_tb
/-- A METHOD'S CONTRACT: called with av on the heap h it returns, with an answer and a heap that Post allows; at most mc cells of ms slots are new -/
def AM (tb : Nat → Nat) (y : MethodName) (cc : ByteArray) (nL : Nat) (ret : Option FieldType) (fr lo : Nat) (av : List Value) (h : AH) (mc ms : Nat) (Post : Option Value → AH → Prop) : Prop :=
  ∀ (l : Launch) (D : va_G) (dA : Nat → ClassId) (sz : Nat), Met l y (av_ws y cc nL ret) { frames := fr, cells := mc, slots := ms, locals := lo } (av_Pre tb D dA av h sz) (av_QQ D dA (av_AA h sz) Post) mc ms (av_AA h sz)
theorem am_of {tb : Nat → Nat} {y : MethodName} {cc : ByteArray} {nL : Nat} {ret : Option FieldType} {ini : Bool} {fr lo : Nat} {av : List Value} {h : AH} {mc ms : Nat} {Post : Option Value → AH → Prop} (L : List (Option Value)) (hy : plainName y.cls = true) (hn : ini = true → y.name = "<init>") (hlen : (lg_sl av).length ≤ nL) (hL : av_prs 0 L = lv_args 0 av)
    (body : AW tb y.cls cc nL ret ini none fr lo Post 0 L [] h mc ms) : AM tb y cc nL ret fr lo av h mc ms Post := by
  intro l D dA sz
  refine Met.ofW (cc := cc) (maxL := nL) (ret := ret) hy rfl ?_
  intro p e s m args below meth c s₁ B hml hv
  obtain ⟨rfl, hsz, ⟨ws, hr, hP, hD⟩, hK⟩ := hv
  subst hsz
  have hl := lv_entry av (n := nL) hlen
  rw [lg_entry_eq]
  rw [← hL] at hl
  have hts := atoms_spec (ws := av_ws y cc nL ret) B.pre
  refine body p l e _ s m _ below meth c D dA (av_AA h s.heap.size) s.heap [] 0 0 _ _ ws ⟨B.exec, B.bytes, hml, findClass_of_methodNamed B.named, fun w hw => hts w (List.mem_cons_of_mem _ hw), hK, fun q hq => Or.inr hq, fun hi => (name_of_methodNamed B.named B.method).1.trans (hn hi), Nat.le_refl _, Nat.le_refl _, (fun x hx => by cases hx), ?_⟩ hr hP hD va_S.rf hl (Nat.le_of_eq (Nat.zero_add mc)) (Nat.le_of_eq (Nat.zero_add ms))
  intro H locs ls ws pc v h' i hpost hrep hP hD hS hdec hi
  rcases hi with ⟨rfl, x, rt, rfl, hret, hnw⟩ | ⟨rfl, a, rt, rfl, hret, hrt⟩ | ⟨rfl, rfl, hret⟩
  · exact W.zret B.exec B.bytes (B.returns.trans hret) hnw (fun t ht hW => ⟨⟨_, h', ws, rfl, hpost, hrep, by rw [ht]; exact hP, hD⟩, hS.F ht⟩) hS.2.2 hdec (hlocks := B.notSynchronized)
  · exact W.aret B.exec B.bytes (B.returns.trans hret) hrt (Or.inr ⟨a, rfl⟩) (fun t ht hW => ⟨⟨_, h', ws, rfl, hpost, hrep, by rw [ht]; exact hP, hD⟩, hS.F ht⟩) hS.2.2 hdec (hlocks := B.notSynchronized)
  · exact W.vret B.exec B.bytes (B.returns.trans hret) (fun t ht hW => ⟨⟨_, h', ws, rfl, hpost, hrep, by rw [ht]; exact hP, hD⟩, hS.F ht⟩) hS.2.2 hdec (hlocks := B.notSynchronized)
theorem av_sub {dA : Nat → ClassId} {h : AH} {ws : va_W} {A : Nat → Prop} {H0 H : Heap} {locs : List Loc} (hr : av_rep dA h ws) (hD : va_D A ws) (hS : va_S A H0 H locs) (hA : ∀ q, H0.size ≤ q → A q) : ∀ q, av_AA h H.size q → A q := by
  intro q hq
  rcases hq with ⟨e, he⟩ | hq
  · obtain ⟨k, hk⟩ := hr.1 q e he
    exact hD.2 k _ hk
  · exact hA q (Nat.le_trans hS.1 hq)
theorem av_blind {tb : Nat → Nat} {D : va_G} {dA : Nat → ClassId} {av : List Value} {h : AH} {sz : Nat} : FrameBlind (av_Pre tb D dA av h sz) := fun _ _ _ _ q => ⟨q.1, q.2.1, q.2.2.1, q.2.2.2.calling⟩
theorem av_pre {tb : Nat → Nat} {D : va_G} {dA : Nat → ClassId} {av : List Value} {h : AH} {ws : va_W} {A : Nat → Prop} {s : State} {H : Heap} {locs : List Loc} (hK : av_K tb D dA A s) (hr : av_rep dA h ws) (hP : va_P D classes ws H) (hD : va_D A ws) (hS : va_S A s.heap H locs) (hA : ∀ q, s.heap.size ≤ q → A q) : ∀ U : State, U.heap = H → s.WarmedH U.vm → av_Pre tb D dA av h H.size av.toArray U := by
  intro U hU hW
  refine ⟨rfl, by rw [hU], ⟨ws, hr, by rw [hU]; exact hP, hD.weaken (fun k q hk _ => Or.inl (hr.2 k q hk))⟩, hK.call hS (av_sub hr hD hS hA) hU hW⟩
theorem av_after {p : Program} {l : Launch} {e : Env} {R : Room} {s : State} {m : MethodId} {args : Array Value} {below : List Frame} {meth : Method} {c : Code} {H : Heap} {locs : List Loc} {cells slots : Nat} {Q : State → Prop} {D : va_G} {dA : Nat → ClassId} {A : Nat → Prop} {ws : va_W} {h : AH} {pc : Nat} {ls : Array Slot} {st0 rest : List Value} {a : Array Value} {mc ms : Nat} {Post : Option Value → AH → Prop}
    (hrn : va_Run p l e R s m args below meth c H locs cells slots mc ms (F0 m pc ls st0) rest (av_QQ D dA (av_AA h H.size) Post a) (av_AA h H.size)) (hr : av_rep dA h ws) (hD : va_D A ws) (hS : va_S A s.heap H locs) (hA : ∀ q, s.heap.size ≤ q → A q)
    (kk : ∀ (v : Option Value) (h' : AH) (ws' : va_W) (H1 : Heap) (locs1 : List Loc), Post v h' → av_rep dA h' ws' → va_P D classes ws' H1 → va_D A ws' → va_S A s.heap H1 locs1 → W p l e R s m args below meth c H1 locs1 (cells + mc) (slots + ms) Q (F0 m (pc + 3) ls (v.toList ++ rest))) : W p l e R s m args below meth c H locs cells slots Q (F0 m pc ls st0) := by
  intro T hT X
  obtain ⟨v, st₀, t, T', L, h0, X', hL, e1, e2, ⟨⟨v', h', ws', hv, hp, hrep', hP', hD'⟩, hz, hk⟩, stp⟩ := hrn T hT X
  cases hv
  rw [h0] at hz hk
  have hsub := av_sub hr hD hS hA
  obtain ⟨t2, a1, b1⟩ := kk v h' ws' T'.heap (locs ++ L) hp hrep' (by rw [e1]; exact hP') (hD'.weaken (fun _ q _ hq => hsub _ hq))
    ⟨Nat.le_trans hS.1 (by rw [e1]; exact hz), fun q h1 h2 => by rw [e1, hk q (Nat.lt_of_lt_of_le h1 hS.1) (fun z => h2 (hsub q z))]; exact hS.2.1 q h1 h2, fun q hq => by
      rcases List.mem_append.mp hq with h | h
      · exact hS.2.2 q h
      · exact hsub _ (hL q h)⟩ T' rfl X'
  exact ⟨t2, stp t2 a1, b1⟩
theorem av_good {X : List Cond} (h : ∀ w ∈ X, w ∈ av_tb) : GoodIn av_tb X := fun w hw => ⟨h w hw, av_tb_ok w (h w hw)⟩

section AWrows
variable {tb : Nat → Nat} {own : String} {cc : ByteArray} {nL : Nat} {ret : Option FieldType} {ini : Bool} {sc : Option (Nat × Nat × (Nat → Int32))} {fr lo : Nat} {Post : Option Value → AH → Prop} {pc : Nat} {L : List (Option Value)} {st : List Value} {h : AH} {mc ms : Nat}
theorem aw_iconst {n : Int} {v : Int32} (hd : decode cc pc = .ok (.iconst n, 1)) (hv : Int32.ofInt n = v) (k : AW tb own cc nL ret ini sc fr lo Post (pc + 1) L (.int v :: st) h mc ms) : AW tb own cc nL ret ini sc fr lo Post pc L (st) h mc ms := by
  intro p l e R s m args below meth c D dA A H locs cells slots Q ls ws F hr hP hD hS hl hc hs
  exact lv_iconst F.1 F.2.1 hd hv (k p l e R s m args below meth c D dA A H locs cells slots Q ls ws F hr hP hD hS hl hc hs)
theorem aw_bipush {n : Int} {v : Int32} (hd : decode cc pc = .ok (.bipush n, 2)) (hv : (Int8.ofInt n).toInt32 = v) (k : AW tb own cc nL ret ini sc fr lo Post (pc + 2) L (.int v :: st) h mc ms) : AW tb own cc nL ret ini sc fr lo Post pc L (st) h mc ms := by
  intro p l e R s m args below meth c D dA A H locs cells slots Q ls ws F hr hP hD hS hl hc hs
  exact lv_bipush F.1 F.2.1 hd hv (k p l e R s m args below meth c D dA A H locs cells slots Q ls ws F hr hP hD hS hl hc hs)
theorem aw_sipush {n : Int} {v : Int32} (hd : decode cc pc = .ok (.sipush n, 3)) (hv : (Int16.ofInt n).toInt32 = v) (k : AW tb own cc nL ret ini sc fr lo Post (pc + 3) L (.int v :: st) h mc ms) : AW tb own cc nL ret ini sc fr lo Post pc L (st) h mc ms := by
  intro p l e R s m args below meth c D dA A H locs cells slots Q ls ws F hr hP hD hS hl hc hs
  exact lv_sipush F.1 F.2.1 hd hv (k p l e R s m args below meth c D dA A H locs cells slots Q ls ws F hr hP hD hS hl hc hs)
theorem aw_ldc {n : Nat} {v : Int32} (hd : decode cc pc = .ok (.ldc n, 2)) (hw : Cond.constant own n v ∈ av_tb) (k : AW tb own cc nL ret ini sc fr lo Post (pc + 2) L (.int v :: st) h mc ms) : AW tb own cc nL ret ini sc fr lo Post pc L (st) h mc ms := by
  intro p l e R s m args below meth c D dA A H locs cells slots Q ls ws F hr hP hD hS hl hc hs
  exact lv_ldc F.1 F.2.1 F.2.2.2.1 (F.2.2.2.2.1 _ hw) hd (k p l e R s m args below meth c D dA A H locs cells slots Q ls ws F hr hP hD hS hl hc hs)
theorem aw_null  (hd : decode cc pc = .ok (.aconst_null, 1))  (k : AW tb own cc nL ret ini sc fr lo Post (pc + 1) L (.null :: st) h mc ms) : AW tb own cc nL ret ini sc fr lo Post pc L (st) h mc ms := by
  intro p l e R s m args below meth c D dA A H locs cells slots Q ls ws F hr hP hD hS hl hc hs
  exact lv_null F.1 F.2.1 hd (k p l e R s m args below meth c D dA A H locs cells slots Q ls ws F hr hP hD hS hl hc hs)
theorem aw_iload_n {i : Fin 4} {x : Int32} (hd : decode cc pc = .ok (.iload_n i, 1)) (hv : L[(i : Nat)]? = some (some (.int x))) (k : AW tb own cc nL ret ini sc fr lo Post (pc + 1) L (.int x :: st) h mc ms) : AW tb own cc nL ret ini sc fr lo Post pc L (st) h mc ms := by
  intro p l e R s m args below meth c D dA A H locs cells slots Q ls ws F hr hP hD hS hl hc hs
  exact lv_iload_n F.1 F.2.1 hd rfl (av_at hl hv) (k p l e R s m args below meth c D dA A H locs cells slots Q ls ws F hr hP hD hS hl hc hs)
theorem aw_iload {i : Nat} {x : Int32} (hd : decode cc pc = .ok (.iload i, 2)) (hv : L[i]? = some (some (.int x))) (k : AW tb own cc nL ret ini sc fr lo Post (pc + 2) L (.int x :: st) h mc ms) : AW tb own cc nL ret ini sc fr lo Post pc L (st) h mc ms := by
  intro p l e R s m args below meth c D dA A H locs cells slots Q ls ws F hr hP hD hS hl hc hs
  exact lv_iload F.1 F.2.1 hd (av_at hl hv) (k p l e R s m args below meth c D dA A H locs cells slots Q ls ws F hr hP hD hS hl hc hs)
theorem aw_aload_n {i : Fin 4} {x : Nat} (hd : decode cc pc = .ok (.aload_n i, 1)) (hv : L[(i : Nat)]? = some (some (.ref x))) (k : AW tb own cc nL ret ini sc fr lo Post (pc + 1) L (.ref x :: st) h mc ms) : AW tb own cc nL ret ini sc fr lo Post pc L (st) h mc ms := by
  intro p l e R s m args below meth c D dA A H locs cells slots Q ls ws F hr hP hD hS hl hc hs
  exact lv_aload_n F.1 F.2.1 hd rfl (av_at hl hv) (k p l e R s m args below meth c D dA A H locs cells slots Q ls ws F hr hP hD hS hl hc hs)
theorem aw_aload {i : Nat} {x : Nat} (hd : decode cc pc = .ok (.aload i, 2)) (hv : L[i]? = some (some (.ref x))) (k : AW tb own cc nL ret ini sc fr lo Post (pc + 2) L (.ref x :: st) h mc ms) : AW tb own cc nL ret ini sc fr lo Post pc L (st) h mc ms := by
  intro p l e R s m args below meth c D dA A H locs cells slots Q ls ws F hr hP hD hS hl hc hs
  exact lv_aload F.1 F.2.1 hd (av_at hl hv) (k p l e R s m args below meth c D dA A H locs cells slots Q ls ws F hr hP hD hS hl hc hs)
theorem aw_iadd {x y v : Int32} (hd : decode cc pc = .ok (.iadd, 1)) (hv : x + y = v) (k : AW tb own cc nL ret ini sc fr lo Post (pc + 1) L (.int v :: st) h mc ms) : AW tb own cc nL ret ini sc fr lo Post pc L (.int y :: .int x :: st) h mc ms := by
  intro p l e R s m args below meth c D dA A H locs cells slots Q ls ws F hr hP hD hS hl hc hs
  exact lv_iadd F.1 F.2.1 hd <| by subst hv; exact (k p l e R s m args below meth c D dA A H locs cells slots Q ls ws F hr hP hD hS hl hc hs)
theorem aw_isub {x y v : Int32} (hd : decode cc pc = .ok (.isub, 1)) (hv : x - y = v) (k : AW tb own cc nL ret ini sc fr lo Post (pc + 1) L (.int v :: st) h mc ms) : AW tb own cc nL ret ini sc fr lo Post pc L (.int y :: .int x :: st) h mc ms := by
  intro p l e R s m args below meth c D dA A H locs cells slots Q ls ws F hr hP hD hS hl hc hs
  exact lv_isub F.1 F.2.1 hd <| by subst hv; exact (k p l e R s m args below meth c D dA A H locs cells slots Q ls ws F hr hP hD hS hl hc hs)
theorem aw_imul {x y v : Int32} (hd : decode cc pc = .ok (.imul, 1)) (hv : x * y = v) (k : AW tb own cc nL ret ini sc fr lo Post (pc + 1) L (.int v :: st) h mc ms) : AW tb own cc nL ret ini sc fr lo Post pc L (.int y :: .int x :: st) h mc ms := by
  intro p l e R s m args below meth c D dA A H locs cells slots Q ls ws F hr hP hD hS hl hc hs
  exact lv_imul F.1 F.2.1 hd <| by subst hv; exact (k p l e R s m args below meth c D dA A H locs cells slots Q ls ws F hr hP hD hS hl hc hs)
theorem aw_iand {x y v : Int32} (hd : decode cc pc = .ok (.iand, 1)) (hv : x &&& y = v) (k : AW tb own cc nL ret ini sc fr lo Post (pc + 1) L (.int v :: st) h mc ms) : AW tb own cc nL ret ini sc fr lo Post pc L (.int y :: .int x :: st) h mc ms := by
  intro p l e R s m args below meth c D dA A H locs cells slots Q ls ws F hr hP hD hS hl hc hs
  exact lv_iand F.1 F.2.1 hd <| by subst hv; exact (k p l e R s m args below meth c D dA A H locs cells slots Q ls ws F hr hP hD hS hl hc hs)
theorem aw_ior {x y v : Int32} (hd : decode cc pc = .ok (.ior, 1)) (hv : x ||| y = v) (k : AW tb own cc nL ret ini sc fr lo Post (pc + 1) L (.int v :: st) h mc ms) : AW tb own cc nL ret ini sc fr lo Post pc L (.int y :: .int x :: st) h mc ms := by
  intro p l e R s m args below meth c D dA A H locs cells slots Q ls ws F hr hP hD hS hl hc hs
  exact lv_ior F.1 F.2.1 hd <| by subst hv; exact (k p l e R s m args below meth c D dA A H locs cells slots Q ls ws F hr hP hD hS hl hc hs)
theorem aw_ixor {x y v : Int32} (hd : decode cc pc = .ok (.ixor, 1)) (hv : x ^^^ y = v) (k : AW tb own cc nL ret ini sc fr lo Post (pc + 1) L (.int v :: st) h mc ms) : AW tb own cc nL ret ini sc fr lo Post pc L (.int y :: .int x :: st) h mc ms := by
  intro p l e R s m args below meth c D dA A H locs cells slots Q ls ws F hr hP hD hS hl hc hs
  exact lv_ixor F.1 F.2.1 hd <| by subst hv; exact (k p l e R s m args below meth c D dA A H locs cells slots Q ls ws F hr hP hD hS hl hc hs)
theorem aw_ishl {x y v : Int32} (hd : decode cc pc = .ok (.ishl, 1)) (hv : x <<< (y &&& 31) = v) (k : AW tb own cc nL ret ini sc fr lo Post (pc + 1) L (.int v :: st) h mc ms) : AW tb own cc nL ret ini sc fr lo Post pc L (.int y :: .int x :: st) h mc ms := by
  intro p l e R s m args below meth c D dA A H locs cells slots Q ls ws F hr hP hD hS hl hc hs
  exact lv_ishl F.1 F.2.1 hd <| by subst hv; exact (k p l e R s m args below meth c D dA A H locs cells slots Q ls ws F hr hP hD hS hl hc hs)
theorem aw_ishr {x y v : Int32} (hd : decode cc pc = .ok (.ishr, 1)) (hv : x >>> (y &&& 31) = v) (k : AW tb own cc nL ret ini sc fr lo Post (pc + 1) L (.int v :: st) h mc ms) : AW tb own cc nL ret ini sc fr lo Post pc L (.int y :: .int x :: st) h mc ms := by
  intro p l e R s m args below meth c D dA A H locs cells slots Q ls ws F hr hP hD hS hl hc hs
  exact lv_ishr F.1 F.2.1 hd <| by subst hv; exact (k p l e R s m args below meth c D dA A H locs cells slots Q ls ws F hr hP hD hS hl hc hs)
theorem aw_iushr {x y v : Int32} (hd : decode cc pc = .ok (.iushr, 1)) (hv : (x.toUInt32 >>> (y.toUInt32 &&& Int32.toUInt32 31)).toInt32 = v) (k : AW tb own cc nL ret ini sc fr lo Post (pc + 1) L (.int v :: st) h mc ms) : AW tb own cc nL ret ini sc fr lo Post pc L (.int y :: .int x :: st) h mc ms := by
  intro p l e R s m args below meth c D dA A H locs cells slots Q ls ws F hr hP hD hS hl hc hs
  exact lv_iushr F.1 F.2.1 hd hv (k p l e R s m args below meth c D dA A H locs cells slots Q ls ws F hr hP hD hS hl hc hs)
theorem aw_idiv {x y v : Int32} (hd : decode cc pc = .ok (.idiv, 1)) (hne : ¬ y = 0) (hv : x / y = v) (k : AW tb own cc nL ret ini sc fr lo Post (pc + 1) L (.int v :: st) h mc ms) : AW tb own cc nL ret ini sc fr lo Post pc L (.int y :: .int x :: st) h mc ms := by
  intro p l e R s m args below meth c D dA A H locs cells slots Q ls ws F hr hP hD hS hl hc hs
  exact lv_idiv F.1 F.2.1 hd hne <| by subst hv; exact (k p l e R s m args below meth c D dA A H locs cells slots Q ls ws F hr hP hD hS hl hc hs)
theorem aw_irem {x y v : Int32} (hd : decode cc pc = .ok (.irem, 1)) (hne : ¬ y = 0) (hv : x - x / y * y = v) (k : AW tb own cc nL ret ini sc fr lo Post (pc + 1) L (.int v :: st) h mc ms) : AW tb own cc nL ret ini sc fr lo Post pc L (.int y :: .int x :: st) h mc ms := by
  intro p l e R s m args below meth c D dA A H locs cells slots Q ls ws F hr hP hD hS hl hc hs
  exact lv_irem F.1 F.2.1 hd hne <| by subst hv; exact (k p l e R s m args below meth c D dA A H locs cells slots Q ls ws F hr hP hD hS hl hc hs)
theorem aw_ineg {x v : Int32} (hd : decode cc pc = .ok (.ineg, 1)) (hv : -x = v) (k : AW tb own cc nL ret ini sc fr lo Post (pc + 1) L (.int v :: st) h mc ms) : AW tb own cc nL ret ini sc fr lo Post pc L (.int x :: st) h mc ms := by
  intro p l e R s m args below meth c D dA A H locs cells slots Q ls ws F hr hP hD hS hl hc hs
  exact lv_ineg F.1 F.2.1 hd <| by subst hv; exact (k p l e R s m args below meth c D dA A H locs cells slots Q ls ws F hr hP hD hS hl hc hs)
theorem aw_i2b {x v : Int32} (hd : decode cc pc = .ok (.i2b, 1)) (hv : x.toInt8.toInt32 = v) (k : AW tb own cc nL ret ini sc fr lo Post (pc + 1) L (.int v :: st) h mc ms) : AW tb own cc nL ret ini sc fr lo Post pc L (.int x :: st) h mc ms := by
  intro p l e R s m args below meth c D dA A H locs cells slots Q ls ws F hr hP hD hS hl hc hs
  exact lv_i2b F.1 F.2.1 hd hv (k p l e R s m args below meth c D dA A H locs cells slots Q ls ws F hr hP hD hS hl hc hs)
theorem aw_i2l {x : Int32} {v : Int64} (hd : decode cc pc = .ok (.i2l, 1)) (hv : x.toInt64 = v) (k : AW tb own cc nL ret ini sc fr lo Post (pc + 1) L (.long v :: st) h mc ms) : AW tb own cc nL ret ini sc fr lo Post pc L (.int x :: st) h mc ms := by
  intro p l e R s m args below meth c D dA A H locs cells slots Q ls ws F hr hP hD hS hl hc hs
  exact lv_i2l F.1 F.2.1 hd hv (k p l e R s m args below meth c D dA A H locs cells slots Q ls ws F hr hP hD hS hl hc hs)
theorem aw_l2i {x : Int64} {v : Int32} (hd : decode cc pc = .ok (.l2i, 1)) (hv : x.toInt32 = v) (k : AW tb own cc nL ret ini sc fr lo Post (pc + 1) L (.int v :: st) h mc ms) : AW tb own cc nL ret ini sc fr lo Post pc L (.long x :: st) h mc ms := by
  intro p l e R s m args below meth c D dA A H locs cells slots Q ls ws F hr hP hD hS hl hc hs
  exact lv_l2i F.1 F.2.1 hd hv (k p l e R s m args below meth c D dA A H locs cells slots Q ls ws F hr hP hD hS hl hc hs)
theorem aw_dup {va : Value} (hd : decode cc pc = .ok (.dup, 1)) (h1 : va.category = 1) (k : AW tb own cc nL ret ini sc fr lo Post (pc + 1) L (va :: va :: st) h mc ms) : AW tb own cc nL ret ini sc fr lo Post pc L (va :: st) h mc ms := by
  intro p l e R s m args below meth c D dA A H locs cells slots Q ls ws F hr hP hD hS hl hc hs
  exact lv_dup F.1 F.2.1 hd h1 (k p l e R s m args below meth c D dA A H locs cells slots Q ls ws F hr hP hD hS hl hc hs)
theorem aw_pop {va : Value} (hd : decode cc pc = .ok (.pop, 1)) (h1 : va.category = 1) (k : AW tb own cc nL ret ini sc fr lo Post (pc + 1) L (st) h mc ms) : AW tb own cc nL ret ini sc fr lo Post pc L (va :: st) h mc ms := by
  intro p l e R s m args below meth c D dA A H locs cells slots Q ls ws F hr hP hD hS hl hc hs
  exact lv_pop F.1 F.2.1 hd h1 (k p l e R s m args below meth c D dA A H locs cells slots Q ls ws F hr hP hD hS hl hc hs)
theorem aw_dup_x1 {va vb : Value} (hd : decode cc pc = .ok (.dup_x1, 1)) (h1 : va.category = 1) (h2 : vb.category = 1) (k : AW tb own cc nL ret ini sc fr lo Post (pc + 1) L (va :: vb :: va :: st) h mc ms) : AW tb own cc nL ret ini sc fr lo Post pc L (va :: vb :: st) h mc ms := by
  intro p l e R s m args below meth c D dA A H locs cells slots Q ls ws F hr hP hD hS hl hc hs
  exact lv_dup_x1 F.1 F.2.1 hd h1 h2 (k p l e R s m args below meth c D dA A H locs cells slots Q ls ws F hr hP hD hS hl hc hs)
theorem aw_dup_x2 {va vb vd : Value} (hd : decode cc pc = .ok (.dup_x2, 1)) (h1 : va.category = 1) (h2 : vb.category = 1) (h3 : vd.category = 1) (k : AW tb own cc nL ret ini sc fr lo Post (pc + 1) L (va :: vb :: vd :: va :: st) h mc ms) : AW tb own cc nL ret ini sc fr lo Post pc L (va :: vb :: vd :: st) h mc ms := by
  intro p l e R s m args below meth c D dA A H locs cells slots Q ls ws F hr hP hD hS hl hc hs
  exact lv_dup_x2 F.1 F.2.1 hd h1 h2 h3 (k p l e R s m args below meth c D dA A H locs cells slots Q ls ws F hr hP hD hS hl hc hs)
theorem aw_dup2 {va vb : Value} (hd : decode cc pc = .ok (.dup2, 1)) (h1 : va.category = 1) (h2 : vb.category = 1) (k : AW tb own cc nL ret ini sc fr lo Post (pc + 1) L (va :: vb :: va :: vb :: st) h mc ms) : AW tb own cc nL ret ini sc fr lo Post pc L (va :: vb :: st) h mc ms := by
  intro p l e R s m args below meth c D dA A H locs cells slots Q ls ws F hr hP hD hS hl hc hs
  exact lv_dup2_11 F.1 F.2.1 hd h1 h2 (k p l e R s m args below meth c D dA A H locs cells slots Q ls ws F hr hP hD hS hl hc hs)
theorem aw_istore_n {i : Fin 4} {x : Int32} {L' : List (Option Value)} (hd : decode cc pc = .ok (.istore_n i, 1)) (hn : (i : Nat) < nL) (h1 : av_c1 L = true) (hL : L.set (i : Nat) (some (Value.int x)) = L') (k : AW tb own cc nL ret ini sc fr lo Post (pc + 1) L' st h mc ms) : AW tb own cc nL ret ini sc fr lo Post pc L (Value.int x :: st) h mc ms := by
  intro p l e R s m args below meth c D dA A H locs cells slots Q ls ws F hr hP hD hS hl hc hs
  exact lv_istore_n F.1 F.2.1 hd rfl hl hn rfl (fun ls' hl' => k p l e R s m args below meth c D dA A H locs cells slots Q ls' ws F hr hP hD hS (av_stored hl' h1 hL) hc hs)
theorem aw_istore {i : Nat} {x : Int32} {L' : List (Option Value)} (hd : decode cc pc = .ok (.istore i, 2)) (hn : i < nL) (h1 : av_c1 L = true) (hL : L.set i (some (Value.int x)) = L') (k : AW tb own cc nL ret ini sc fr lo Post (pc + 2) L' st h mc ms) : AW tb own cc nL ret ini sc fr lo Post pc L (Value.int x :: st) h mc ms := by
  intro p l e R s m args below meth c D dA A H locs cells slots Q ls ws F hr hP hD hS hl hc hs
  exact lv_istore F.1 F.2.1 hd hl hn rfl (fun ls' hl' => k p l e R s m args below meth c D dA A H locs cells slots Q ls' ws F hr hP hD hS (av_stored hl' h1 hL) hc hs)
theorem aw_astore_n {i : Fin 4} {x : Nat} {L' : List (Option Value)} (hd : decode cc pc = .ok (.astore_n i, 1)) (hn : (i : Nat) < nL) (h1 : av_c1 L = true) (hL : L.set (i : Nat) (some (Value.ref x)) = L') (k : AW tb own cc nL ret ini sc fr lo Post (pc + 1) L' st h mc ms) : AW tb own cc nL ret ini sc fr lo Post pc L (Value.ref x :: st) h mc ms := by
  intro p l e R s m args below meth c D dA A H locs cells slots Q ls ws F hr hP hD hS hl hc hs
  exact lv_astore_n F.1 F.2.1 hd rfl hl hn rfl (fun ls' hl' => k p l e R s m args below meth c D dA A H locs cells slots Q ls' ws F hr hP hD hS (av_stored hl' h1 hL) hc hs)
theorem aw_astore {i : Nat} {x : Nat} {L' : List (Option Value)} (hd : decode cc pc = .ok (.astore i, 2)) (hn : i < nL) (h1 : av_c1 L = true) (hL : L.set i (some (Value.ref x)) = L') (k : AW tb own cc nL ret ini sc fr lo Post (pc + 2) L' st h mc ms) : AW tb own cc nL ret ini sc fr lo Post pc L (Value.ref x :: st) h mc ms := by
  intro p l e R s m args below meth c D dA A H locs cells slots Q ls ws F hr hP hD hS hl hc hs
  exact lv_astore F.1 F.2.1 hd hl hn rfl (fun ls' hl' => k p l e R s m args below meth c D dA A H locs cells slots Q ls' ws F hr hP hD hS (av_stored hl' h1 hL) hc hs)
theorem aw_iinc {i : Nat} {n : Int} {x v : Int32} {L' : List (Option Value)} (hd : decode cc pc = .ok (.iinc i n, 3)) (hv : L[i]? = some (some (.int x))) (he : x + Int32.ofInt n = v) (hn : i < nL) (h1 : av_c1 L = true) (hL : L.set i (some (.int v)) = L') (k : AW tb own cc nL ret ini sc fr lo Post (pc + 3) L' st h mc ms) : AW tb own cc nL ret ini sc fr lo Post pc L st h mc ms := by
  intro p l e R s m args below meth c D dA A H locs cells slots Q ls ws F hr hP hD hS hl hc hs
  have hm : (i, Value.int x) ∈ av_prs 0 L := (av_prs_mem L 0 (i, .int x)).mpr ⟨i, (Nat.zero_add i).symm, hv⟩
  obtain ⟨j, hj⟩ := List.getElem?_of_mem hm
  exact lv_iinc F.1 F.2.1 hd hl hj he hn rfl (fun ls' hl' => k p l e R s m args below meth c D dA A H locs cells slots Q ls' ws F hr hP hD hS (av_stored hl' h1 hL) hc hs)
theorem aw_if_eq {x : Int32} {off : Int} {tgt : Nat} (hd : decode cc pc = .ok (.ifCond .eq off, 3)) (ht : (pc : Int) + off = (tgt : Int)) (kt : x = 0 → AW tb own cc nL ret ini sc fr lo Post tgt L st h mc ms) (kf : ¬ x = 0 → AW tb own cc nL ret ini sc fr lo Post (pc + 3) L st h mc ms) : AW tb own cc nL ret ini sc fr lo Post pc L (.int x :: st) h mc ms := by
  intro p l e R s m args below meth c D dA A H locs cells slots Q ls ws F hr hP hD hS hl hc hs
  exact lv_if_eq F.1 F.2.1 hd ht (fun q => kt q p l e R s m args below meth c D dA A H locs cells slots Q ls ws F hr hP hD hS hl hc hs) (fun q => kf q p l e R s m args below meth c D dA A H locs cells slots Q ls ws F hr hP hD hS hl hc hs)
theorem aw_if_ne {x : Int32} {off : Int} {tgt : Nat} (hd : decode cc pc = .ok (.ifCond .ne off, 3)) (ht : (pc : Int) + off = (tgt : Int)) (kt : ¬ x = 0 → AW tb own cc nL ret ini sc fr lo Post tgt L st h mc ms) (kf : x = 0 → AW tb own cc nL ret ini sc fr lo Post (pc + 3) L st h mc ms) : AW tb own cc nL ret ini sc fr lo Post pc L (.int x :: st) h mc ms := by
  intro p l e R s m args below meth c D dA A H locs cells slots Q ls ws F hr hP hD hS hl hc hs
  exact lv_if_ne F.1 F.2.1 hd ht (fun q => kt q p l e R s m args below meth c D dA A H locs cells slots Q ls ws F hr hP hD hS hl hc hs) (fun q => kf q p l e R s m args below meth c D dA A H locs cells slots Q ls ws F hr hP hD hS hl hc hs)
theorem aw_if_lt {x : Int32} {off : Int} {tgt : Nat} (hd : decode cc pc = .ok (.ifCond .lt off, 3)) (ht : (pc : Int) + off = (tgt : Int)) (kt : x < 0 → AW tb own cc nL ret ini sc fr lo Post tgt L st h mc ms) (kf : ¬ x < 0 → AW tb own cc nL ret ini sc fr lo Post (pc + 3) L st h mc ms) : AW tb own cc nL ret ini sc fr lo Post pc L (.int x :: st) h mc ms := by
  intro p l e R s m args below meth c D dA A H locs cells slots Q ls ws F hr hP hD hS hl hc hs
  exact lv_if_lt F.1 F.2.1 hd ht (fun q => kt q p l e R s m args below meth c D dA A H locs cells slots Q ls ws F hr hP hD hS hl hc hs) (fun q => kf q p l e R s m args below meth c D dA A H locs cells slots Q ls ws F hr hP hD hS hl hc hs)
theorem aw_if_ge {x : Int32} {off : Int} {tgt : Nat} (hd : decode cc pc = .ok (.ifCond .ge off, 3)) (ht : (pc : Int) + off = (tgt : Int)) (kt : 0 ≤ x → AW tb own cc nL ret ini sc fr lo Post tgt L st h mc ms) (kf : ¬ 0 ≤ x → AW tb own cc nL ret ini sc fr lo Post (pc + 3) L st h mc ms) : AW tb own cc nL ret ini sc fr lo Post pc L (.int x :: st) h mc ms := by
  intro p l e R s m args below meth c D dA A H locs cells slots Q ls ws F hr hP hD hS hl hc hs
  exact lv_if_ge F.1 F.2.1 hd ht (fun q => kt q p l e R s m args below meth c D dA A H locs cells slots Q ls ws F hr hP hD hS hl hc hs) (fun q => kf q p l e R s m args below meth c D dA A H locs cells slots Q ls ws F hr hP hD hS hl hc hs)
theorem aw_if_gt {x : Int32} {off : Int} {tgt : Nat} (hd : decode cc pc = .ok (.ifCond .gt off, 3)) (ht : (pc : Int) + off = (tgt : Int)) (kt : 0 < x → AW tb own cc nL ret ini sc fr lo Post tgt L st h mc ms) (kf : ¬ 0 < x → AW tb own cc nL ret ini sc fr lo Post (pc + 3) L st h mc ms) : AW tb own cc nL ret ini sc fr lo Post pc L (.int x :: st) h mc ms := by
  intro p l e R s m args below meth c D dA A H locs cells slots Q ls ws F hr hP hD hS hl hc hs
  exact lv_if_gt F.1 F.2.1 hd ht (fun q => kt q p l e R s m args below meth c D dA A H locs cells slots Q ls ws F hr hP hD hS hl hc hs) (fun q => kf q p l e R s m args below meth c D dA A H locs cells slots Q ls ws F hr hP hD hS hl hc hs)
theorem aw_if_le {x : Int32} {off : Int} {tgt : Nat} (hd : decode cc pc = .ok (.ifCond .le off, 3)) (ht : (pc : Int) + off = (tgt : Int)) (kt : x ≤ 0 → AW tb own cc nL ret ini sc fr lo Post tgt L st h mc ms) (kf : ¬ x ≤ 0 → AW tb own cc nL ret ini sc fr lo Post (pc + 3) L st h mc ms) : AW tb own cc nL ret ini sc fr lo Post pc L (.int x :: st) h mc ms := by
  intro p l e R s m args below meth c D dA A H locs cells slots Q ls ws F hr hP hD hS hl hc hs
  exact lv_if_le F.1 F.2.1 hd ht (fun q => kt q p l e R s m args below meth c D dA A H locs cells slots Q ls ws F hr hP hD hS hl hc hs) (fun q => kf q p l e R s m args below meth c D dA A H locs cells slots Q ls ws F hr hP hD hS hl hc hs)
theorem aw_icmp_eq {x y : Int32} {off : Int} {tgt : Nat} (hd : decode cc pc = .ok (.if_icmp .eq off, 3)) (ht : (pc : Int) + off = (tgt : Int)) (kt : x = y → AW tb own cc nL ret ini sc fr lo Post tgt L st h mc ms) (kf : ¬ x = y → AW tb own cc nL ret ini sc fr lo Post (pc + 3) L st h mc ms) : AW tb own cc nL ret ini sc fr lo Post pc L (.int y :: .int x :: st) h mc ms := by
  intro p l e R s m args below meth c D dA A H locs cells slots Q ls ws F hr hP hD hS hl hc hs
  exact lv_icmp_eq F.1 F.2.1 hd ht (fun q => kt q p l e R s m args below meth c D dA A H locs cells slots Q ls ws F hr hP hD hS hl hc hs) (fun q => kf q p l e R s m args below meth c D dA A H locs cells slots Q ls ws F hr hP hD hS hl hc hs)
theorem aw_icmp_ne {x y : Int32} {off : Int} {tgt : Nat} (hd : decode cc pc = .ok (.if_icmp .ne off, 3)) (ht : (pc : Int) + off = (tgt : Int)) (kt : ¬ x = y → AW tb own cc nL ret ini sc fr lo Post tgt L st h mc ms) (kf : x = y → AW tb own cc nL ret ini sc fr lo Post (pc + 3) L st h mc ms) : AW tb own cc nL ret ini sc fr lo Post pc L (.int y :: .int x :: st) h mc ms := by
  intro p l e R s m args below meth c D dA A H locs cells slots Q ls ws F hr hP hD hS hl hc hs
  exact lv_icmp_ne F.1 F.2.1 hd ht (fun q => kt q p l e R s m args below meth c D dA A H locs cells slots Q ls ws F hr hP hD hS hl hc hs) (fun q => kf q p l e R s m args below meth c D dA A H locs cells slots Q ls ws F hr hP hD hS hl hc hs)
theorem aw_icmp_lt {x y : Int32} {off : Int} {tgt : Nat} (hd : decode cc pc = .ok (.if_icmp .lt off, 3)) (ht : (pc : Int) + off = (tgt : Int)) (kt : x < y → AW tb own cc nL ret ini sc fr lo Post tgt L st h mc ms) (kf : ¬ x < y → AW tb own cc nL ret ini sc fr lo Post (pc + 3) L st h mc ms) : AW tb own cc nL ret ini sc fr lo Post pc L (.int y :: .int x :: st) h mc ms := by
  intro p l e R s m args below meth c D dA A H locs cells slots Q ls ws F hr hP hD hS hl hc hs
  exact lv_icmp_lt F.1 F.2.1 hd ht (fun q => kt q p l e R s m args below meth c D dA A H locs cells slots Q ls ws F hr hP hD hS hl hc hs) (fun q => kf q p l e R s m args below meth c D dA A H locs cells slots Q ls ws F hr hP hD hS hl hc hs)
theorem aw_icmp_ge {x y : Int32} {off : Int} {tgt : Nat} (hd : decode cc pc = .ok (.if_icmp .ge off, 3)) (ht : (pc : Int) + off = (tgt : Int)) (kt : y ≤ x → AW tb own cc nL ret ini sc fr lo Post tgt L st h mc ms) (kf : ¬ y ≤ x → AW tb own cc nL ret ini sc fr lo Post (pc + 3) L st h mc ms) : AW tb own cc nL ret ini sc fr lo Post pc L (.int y :: .int x :: st) h mc ms := by
  intro p l e R s m args below meth c D dA A H locs cells slots Q ls ws F hr hP hD hS hl hc hs
  exact lv_icmp_ge F.1 F.2.1 hd ht (fun q => kt q p l e R s m args below meth c D dA A H locs cells slots Q ls ws F hr hP hD hS hl hc hs) (fun q => kf q p l e R s m args below meth c D dA A H locs cells slots Q ls ws F hr hP hD hS hl hc hs)
theorem aw_icmp_gt {x y : Int32} {off : Int} {tgt : Nat} (hd : decode cc pc = .ok (.if_icmp .gt off, 3)) (ht : (pc : Int) + off = (tgt : Int)) (kt : y < x → AW tb own cc nL ret ini sc fr lo Post tgt L st h mc ms) (kf : ¬ y < x → AW tb own cc nL ret ini sc fr lo Post (pc + 3) L st h mc ms) : AW tb own cc nL ret ini sc fr lo Post pc L (.int y :: .int x :: st) h mc ms := by
  intro p l e R s m args below meth c D dA A H locs cells slots Q ls ws F hr hP hD hS hl hc hs
  exact lv_icmp_gt F.1 F.2.1 hd ht (fun q => kt q p l e R s m args below meth c D dA A H locs cells slots Q ls ws F hr hP hD hS hl hc hs) (fun q => kf q p l e R s m args below meth c D dA A H locs cells slots Q ls ws F hr hP hD hS hl hc hs)
theorem aw_icmp_le {x y : Int32} {off : Int} {tgt : Nat} (hd : decode cc pc = .ok (.if_icmp .le off, 3)) (ht : (pc : Int) + off = (tgt : Int)) (kt : x ≤ y → AW tb own cc nL ret ini sc fr lo Post tgt L st h mc ms) (kf : ¬ x ≤ y → AW tb own cc nL ret ini sc fr lo Post (pc + 3) L st h mc ms) : AW tb own cc nL ret ini sc fr lo Post pc L (.int y :: .int x :: st) h mc ms := by
  intro p l e R s m args below meth c D dA A H locs cells slots Q ls ws F hr hP hD hS hl hc hs
  exact lv_icmp_le F.1 F.2.1 hd ht (fun q => kt q p l e R s m args below meth c D dA A H locs cells slots Q ls ws F hr hP hD hS hl hc hs) (fun q => kf q p l e R s m args below meth c D dA A H locs cells slots Q ls ws F hr hP hD hS hl hc hs)
theorem aw_acmp_eq {x y : Nat} {off : Int} {tgt : Nat} (hd : decode cc pc = .ok (.if_acmp .eq off, 3)) (ht : (pc : Int) + off = (tgt : Int)) (kt : x = y → AW tb own cc nL ret ini sc fr lo Post tgt L st h mc ms) (kf : ¬ x = y → AW tb own cc nL ret ini sc fr lo Post (pc + 3) L st h mc ms) : AW tb own cc nL ret ini sc fr lo Post pc L (.ref y :: .ref x :: st) h mc ms := by
  intro p l e R s m args below meth c D dA A H locs cells slots Q ls ws F hr hP hD hS hl hc hs
  exact lv_acmp_eq (rx := some x) (ry := some y) F.1 F.2.1 hd ht (fun q => kt (by simpa using q) p l e R s m args below meth c D dA A H locs cells slots Q ls ws F hr hP hD hS hl hc hs) (fun q => kf (by simpa using q) p l e R s m args below meth c D dA A H locs cells slots Q ls ws F hr hP hD hS hl hc hs)
theorem aw_acmp_ne {x y : Nat} {off : Int} {tgt : Nat} (hd : decode cc pc = .ok (.if_acmp .ne off, 3)) (ht : (pc : Int) + off = (tgt : Int)) (kt : ¬ x = y → AW tb own cc nL ret ini sc fr lo Post tgt L st h mc ms) (kf : x = y → AW tb own cc nL ret ini sc fr lo Post (pc + 3) L st h mc ms) : AW tb own cc nL ret ini sc fr lo Post pc L (.ref y :: .ref x :: st) h mc ms := by
  intro p l e R s m args below meth c D dA A H locs cells slots Q ls ws F hr hP hD hS hl hc hs
  exact lv_acmp_ne (rx := some x) (ry := some y) F.1 F.2.1 hd ht (fun q => kt (by simpa using q) p l e R s m args below meth c D dA A H locs cells slots Q ls ws F hr hP hD hS hl hc hs) (fun q => kf (by simpa using q) p l e R s m args below meth c D dA A H locs cells slots Q ls ws F hr hP hD hS hl hc hs)
theorem aw_goto {off : Int} {tgt : Nat} (hd : decode cc pc = .ok (.goto off, 3)) (ht : (pc : Int) + off = (tgt : Int)) (k : AW tb own cc nL ret ini sc fr lo Post tgt L st h mc ms) : AW tb own cc nL ret ini sc fr lo Post pc L st h mc ms := by
  intro p l e R s m args below meth c D dA A H locs cells slots Q ls ws F hr hP hD hS hl hc hs
  exact lv_goto F.1 F.2.1 hd ht (k p l e R s m args below meth c D dA A H locs cells slots Q ls ws F hr hP hD hS hl hc hs)
theorem aw_ifnonnull {x : Nat} {off : Int} {tgt : Nat} (hd : decode cc pc = .ok (.ifnonnull off, 3)) (ht : (pc : Int) + off = (tgt : Int)) (k : AW tb own cc nL ret ini sc fr lo Post tgt L st h mc ms) : AW tb own cc nL ret ini sc fr lo Post pc L (.ref x :: st) h mc ms := by
  intro p l e R s m args below meth c D dA A H locs cells slots Q ls ws F hr hP hD hS hl hc hs
  exact lv_ifnonnull F.1 F.2.1 hd ht (k p l e R s m args below meth c D dA A H locs cells slots Q ls ws F hr hP hD hS hl hc hs)
theorem aw_ifnull {x : Nat} {off : Int} (hd : decode cc pc = .ok (.ifnull off, 3)) (k : AW tb own cc nL ret ini sc fr lo Post (pc + 3) L st h mc ms) : AW tb own cc nL ret ini sc fr lo Post pc L (.ref x :: st) h mc ms := by
  intro p l e R s m args below meth c D dA A H locs cells slots Q ls ws F hr hP hD hS hl hc hs
  exact lv_ifnull F.1 F.2.1 hd (k p l e R s m args below meth c D dA A H locs cells slots Q ls ws F hr hP hD hS hl hc hs)
theorem aw_iret {x : Int32} {rt : FieldType} (hd : decode cc pc = .ok (.ireturn, 1)) (hr0 : ret = some rt) (hn : narrow rt (.int x) = .int x) (hp : Post (some (.int x)) h) : AW tb own cc nL ret ini sc fr lo Post pc L [.int x] h mc ms := by
  intro p l e R s m args below meth c D dA A H locs cells slots Q ls ws F hr hP hD hS hl hc hs
  refine W.widen (k := R.cells) (n := R.slots) (by omega) (by omega) ?_
  exact F.2.2.2.2.2.2.2.2.2.2.2 H locs ls ws pc (some (.int x)) h _ hp hr hP hD hS hd (Or.inl ⟨rfl, x, rt, rfl, hr0, hn⟩)
theorem aw_aret {x : Nat} {rt : FieldType} (hd : decode cc pc = .ok (.areturn, 1)) (hr0 : ret = some rt) (hn : (∃ n, rt = .object n) ∨ ∃ t, rt = .array t) (hp : Post (some (.ref x)) h) : AW tb own cc nL ret ini sc fr lo Post pc L [.ref x] h mc ms := by
  intro p l e R s m args below meth c D dA A H locs cells slots Q ls ws F hr hP hD hS hl hc hs
  refine W.widen (k := R.cells) (n := R.slots) (by omega) (by omega) ?_
  exact F.2.2.2.2.2.2.2.2.2.2.2 H locs ls ws pc (some (.ref x)) h _ hp hr hP hD hS hd (Or.inr (Or.inl ⟨rfl, x, rt, rfl, hr0, hn⟩))
theorem aw_vret (hd : decode cc pc = .ok (.return_, 1)) (hr0 : ret = none) (hp : Post none h) : AW tb own cc nL ret ini sc fr lo Post pc L [] h mc ms := by
  intro p l e R s m args below meth c D dA A H locs cells slots Q ls ws F hr hP hD hS hl hc hs
  refine W.widen (k := R.cells) (n := R.slots) (by omega) (by omega) ?_
  exact F.2.2.2.2.2.2.2.2.2.2.2 H locs ls ws pc none h _ hp hr hP hD hS hd (Or.inr (Or.inr ⟨rfl, rfl, hr0⟩))
theorem aw_less {mc' ms' : Nat} (h1 : mc' ≤ mc) (h2 : ms' ≤ ms) (k : AW tb own cc nL ret ini sc fr lo Post pc L st h mc' ms') : AW tb own cc nL ret ini sc fr lo Post pc L st h mc ms := by
  intro p l e R s m args below meth c D dA A H locs cells slots Q ls ws F hr hP hD hS hl hc hs
  exact k p l e R s m args below meth c D dA A H locs cells slots Q ls ws F hr hP hD hS hl (by omega) (by omega)
theorem aw_post {Post' : Option Value → AH → Prop} (hp : ∀ v h, Post' v h → Post v h) (k : AW tb own cc nL ret ini sc fr lo Post' pc L st h mc ms) : AW tb own cc nL ret ini sc fr lo Post pc L st h mc ms := by
  intro p l e R s m args below meth c D dA A H locs cells slots Q ls ws F hr hP hD hS hl hc hs
  obtain ⟨f1, f2, f3, f4, f5, f6, f7, f8, f9, f10, f11, f12⟩ := F
  exact k p l e R s m args below meth c D dA A H locs cells slots Q ls ws ⟨f1, f2, f3, f4, f5, f6, f7, f8, f9, f10, f11, fun H locs ls ws pc v h i a b c d e f g => f12 H locs ls ws pc v h i (hp v h a) b c d e f g⟩ hr hP hD hS hl hc hs
/-- fewer known locals -/
theorem aw_loc {L' : List (Option Value)} (hsub : ∀ (i : Nat) (v : Value), L'[i]? = some (some v) → L[i]? = some (some v)) (k : AW tb own cc nL ret ini sc fr lo Post pc L' st h mc ms) : AW tb own cc nL ret ini sc fr lo Post pc L st h mc ms := by
  intro p l e R s m args below meth c D dA A H locs cells slots Q ls ws F hr hP hD hS hl hc hs
  refine k p l e R s m args below meth c D dA A H locs cells slots Q ls ws F hr hP hD hS ⟨hl.1, hl.2.1, fun q hq => ?_⟩ hc hs
  obtain ⟨j, h1, h2⟩ := (av_prs_mem L' 0 q).mp hq
  exact hl.2.2 q ((av_prs_mem L 0 q).mpr ⟨j, h1, hsub j _ h2⟩)
/-- a field by its place in the constant pool: class ci of 'classes', slot k -/
def av_fld (own : String) (idx ci k : Nat) : Prop := ∃ (C : String) (T : u_T) (N : Nat), classes[ci]? = some (C, T, N) ∧ (∀ w ∈ u_ws C T N, w ∈ av_tb) ∧ k < N ∧
  (Cond.fieldLink own idx (T k).1 (T k).2.1 (T k).2.2.1 ∈ av_tb ∨ ∃ host : String, Cond.fieldLinkNest own idx (T k).1 (T k).2.1 (T k).2.2.1 host ∈ av_nw)
def av_put (own : String) (idx ci k : Nat) (ini : Bool) (ty : FieldType) : Prop := ∃ (C : String) (T : u_T) (N : Nat) (ty0 : Nat → FieldType), classes[ci]? = some (C, T, N) ∧ (∀ w ∈ u_ws C T N, w ∈ av_tb) ∧ k < N ∧ (∀ j, j < N → parseFieldDescriptor (T j).2.2.1 = some (ty0 j)) ∧ (∀ a, a < N → ∀ b, b < N → a ≠ b → (T a).2.1 ≠ (T b).2.1) ∧ ty0 k = ty ∧
  ((T k).2.2.2 = false ∨ (ini = true ∧ (T k).1 = own)) ∧ (Cond.fieldLink own idx (T k).1 (T k).2.1 (T k).2.2.1 ∈ av_tb ∨ ((T k).2.2.2 = false ∧ ∃ host : String, Cond.fieldLinkNest own idx (T k).1 (T k).2.1 (T k).2.2.1 host ∈ av_nw))
theorem aw_get {idx ci k a : Nat} {fs : List Value} {v : Value} (hf : av_fld own idx ci k) (hd : decode cc pc = .ok (.getfield idx, 3)) (ha : h a = some (.inr (ci, fs))) (hv : fs[k]? = some v) (kk : AW tb own cc nL ret ini sc fr lo Post (pc + 3) L (v :: st) h mc ms) : AW tb own cc nL ret ini sc fr lo Post pc L (.ref a :: st) h mc ms := by
  intro p l e R s m args below meth c D dA A H locs cells slots Q ls ws F hr hP hD hS hl hc hs
  obtain ⟨C, T, N, h1, h2, h3, h4⟩ := hf
  obtain ⟨j, hj⟩ := hr.1 a _ ha
  rcases h4 with h4 | ⟨host, h4⟩
  · exact va_get F.1 F.2.1 F.2.2.2.2.1 h2 F.2.2.2.1 F.2.2.2.2.2.1.1 hP j hj h1 k h3 (F.2.2.2.2.1 _ h4) (fun _ q => q) hv hd (kk p l e R s m args below meth c D dA A H locs cells slots Q ls ws F hr hP hD hS hl hc hs)
  · exact va_getN F.1 F.2.1 F.2.2.2.2.1 h2 F.2.2.2.1 F.2.2.2.2.2.1.1 hP j hj h1 k h3 (va_Nw.use rfl (F.2.2.2.2.2.1.2.1 _ h4)) (fun _ q => q) hv hd (kk p l e R s m args below meth c D dA A H locs cells slots Q ls ws F hr hP hD hS hl hc hs)
theorem aw_put {idx ci k a : Nat} {fs fs' : List Value} {v : Value} {ty : FieldType} (hf : av_put own idx ci k ini ty) (hd : decode cc pc = .ok (.putfield idx, 3)) (ha : h a = some (.inr (ci, fs))) (hn : narrow ty v = v) (hfit : fits ty v = true) (hk : k < fs.length) (hfs : fs.set k v = fs') (kk : AW tb own cc nL ret ini sc fr lo Post (pc + 3) L st (av_up h a (.inr (ci, fs'))) mc ms) : AW tb own cc nL ret ini sc fr lo Post pc L (v :: .ref a :: st) h mc ms := by
  intro p l e R s m args below meth c D dA A H locs cells slots Q ls ws F hr hP hD hS hl hc hs
  obtain ⟨C, T, N, ty0, h1, h2, h3, h4, h5, h6, h7, h8⟩ := hf
  obtain ⟨j, hj⟩ := hr.1 a _ ha
  subst hfs
  have hty : parseFieldDescriptor (T k).2.2.1 = some ty := by rw [h4 k h3, h6]
  rcases h8 with h8 | ⟨h9, host, h8⟩
  · rcases h7 with h7 | ⟨h7, h10⟩
    · exact va_put F.1 F.2.1 F.2.2.2.2.1 h2 ty0 h4 h5 F.2.2.2.1 F.2.2.2.2.2.1.1 hP hD hS j hj h1 k h3 (F.2.2.2.2.1 _ h8) (fun _ q => q) h7 hty hn hfit hk hd (fun H1 locs1 hP1 hD1 hS1 => kk p l e R s m args below meth c D dA A H1 locs1 cells slots Q ls _ F (hr.set (e := .inr (ci, fs.set k v)) hj) hP1 hD1 hS1 hl hc hs)
    · cases hq : (T k).2.2.2 with
      | false => exact va_put F.1 F.2.1 F.2.2.2.2.1 h2 ty0 h4 h5 F.2.2.2.1 F.2.2.2.2.2.1.1 hP hD hS j hj h1 k h3 (F.2.2.2.2.1 _ h8) (fun _ q => q) hq hty hn hfit hk hd (fun H1 locs1 hP1 hD1 hS1 => kk p l e R s m args below meth c D dA A H1 locs1 cells slots Q ls _ F (hr.set (e := .inr (ci, fs.set k v)) hj) hP1 hD1 hS1 hl hc hs)
      | true => exact va_putF F.1 F.2.1 F.2.2.2.2.1 h2 ty0 h4 h5 F.2.2.2.1 F.2.2.2.2.2.1.1 hP hD hS j hj h1 k h3 (F.2.2.2.2.1 _ h8) (fun _ q => q) hq (F.2.2.2.2.2.2.2.1 h7) h10 hty hn hfit hk hd (fun H1 locs1 hP1 hD1 hS1 => kk p l e R s m args below meth c D dA A H1 locs1 cells slots Q ls _ F (hr.set (e := .inr (ci, fs.set k v)) hj) hP1 hD1 hS1 hl hc hs)
  · exact va_putN F.1 F.2.1 F.2.2.2.2.1 h2 ty0 h4 h5 F.2.2.2.1 F.2.2.2.2.2.1.1 hP hD hS j hj h1 k h3 (va_Nw.use rfl (F.2.2.2.2.2.1.2.1 _ h8)) (fun _ q => q) h9 hty hn hfit hk hd (fun H1 locs1 hP1 hD1 hS1 => kk p l e R s m args below meth c D dA A H1 locs1 cells slots Q ls _ F (hr.set (e := .inr (ci, fs.set k v)) hj) hP1 hD1 hS1 hl hc hs)
theorem aw_iald {a n : Nat} {f : Nat → Int32} {i x : Int32} (hd : decode cc pc = .ok (.iaload, 1)) (ha : h a = some (.inl (0, n, .inl f))) (hin : vp_in i n) (hx : f i.toNatClampNeg = x) (k : AW tb own cc nL ret ini sc fr lo Post (pc + 1) L (.int x :: st) h mc ms) : AW tb own cc nL ret ini sc fr lo Post pc L (.int i :: .ref a :: st) h mc ms := by
  intro p l e R s m args below meth c D dA A H locs cells slots Q ls ws F hr hP hD hS hl hc hs
  obtain ⟨j, hj⟩ := hr.1 a _ ha
  subst hx
  exact va_iald F.1 F.2.1 F.2.2.2.2.2.1.1 hP j 0 hj rfl hin hd (k p l e R s m args below meth c D dA A H locs cells slots Q ls ws F hr hP hD hS hl hc hs)
theorem aw_bald {a n : Nat} {f : Nat → Int32} {i x : Int32} (hd : decode cc pc = .ok (.baload, 1)) (ha : h a = some (.inl (1, n, .inl f))) (hin : vp_in i n) (hx : f i.toNatClampNeg = x) (k : AW tb own cc nL ret ini sc fr lo Post (pc + 1) L (.int x :: st) h mc ms) : AW tb own cc nL ret ini sc fr lo Post pc L (.int i :: .ref a :: st) h mc ms := by
  intro p l e R s m args below meth c D dA A H locs cells slots Q ls ws F hr hP hD hS hl hc hs
  obtain ⟨j, hj⟩ := hr.1 a _ ha
  subst hx
  exact va_bald F.1 F.2.1 F.2.2.2.2.2.1.1 hP j 1 hj rfl hin hd (k p l e R s m args below meth c D dA A H locs cells slots Q ls ws F hr hP hD hS hl hc hs)
theorem aw_iast {a n : Nat} {f f' : Nat → Int32} {i x : Int32} (hd : decode cc pc = .ok (.iastore, 1)) (ha : h a = some (.inl (0, n, .inl f))) (hin : vp_in i n) (hx : upd f i.toNatClampNeg x = f') (k : AW tb own cc nL ret ini sc fr lo Post (pc + 1) L st (av_up h a (.inl (0, n, .inl f'))) mc ms) : AW tb own cc nL ret ini sc fr lo Post pc L (.int x :: .int i :: .ref a :: st) h mc ms := by
  intro p l e R s m args below meth c D dA A H locs cells slots Q ls ws F hr hP hD hS hl hc hs
  obtain ⟨j, hj⟩ := hr.1 a _ ha
  subst hx
  exact va_iast F.1 F.2.1 F.2.2.2.2.2.1.1 hP hD hS j 0 hj rfl hin hd (fun H1 locs1 hP1 hD1 hS1 => k p l e R s m args below meth c D dA A H1 locs1 cells slots Q ls _ F (hr.set (e := .inl (0, n, .inl (upd f i.toNatClampNeg x))) hj) hP1 hD1 hS1 hl hc hs)
theorem aw_bast {a n : Nat} {f f' : Nat → Int32} {i x : Int32} (hd : decode cc pc = .ok (.bastore, 1)) (ha : h a = some (.inl (1, n, .inl f))) (hin : vp_in i n) (hx : upd f i.toNatClampNeg (vp_nar .byte x) = f') (k : AW tb own cc nL ret ini sc fr lo Post (pc + 1) L st (av_up h a (.inl (1, n, .inl f'))) mc ms) : AW tb own cc nL ret ini sc fr lo Post pc L (.int x :: .int i :: .ref a :: st) h mc ms := by
  intro p l e R s m args below meth c D dA A H locs cells slots Q ls ws F hr hP hD hS hl hc hs
  obtain ⟨j, hj⟩ := hr.1 a _ ha
  subst hx
  exact va_bast F.1 F.2.1 F.2.2.2.2.2.1.1 hP hD hS j 1 hj rfl hin hd (fun H1 locs1 hP1 hD1 hS1 => k p l e R s m args below meth c D dA A H1 locs1 cells slots Q ls _ F (hr.set (e := .inl (1, n, .inl (upd f i.toNatClampNeg (vp_nar .byte x)))) hj) hP1 hD1 hS1 hl hc hs)
theorem aw_alen {a t : Nat} {x : vp_A} {v : Int32} (hd : decode cc pc = .ok (.arraylength, 1)) (ha : h a = some (.inl (t, x))) (ht : ∀ dA : Nat → ClassId, (av_tys dA)[t]? = some (dA t, av_t t)) (hv : nI x.1 = v) (k : AW tb own cc nL ret ini sc fr lo Post (pc + 1) L (.int v :: st) h mc ms) : AW tb own cc nL ret ini sc fr lo Post pc L (.ref a :: st) h mc ms := by
  intro p l e R s m args below meth c D dA A H locs cells slots Q ls ws F hr hP hD hS hl hc hs
  obtain ⟨j, hj⟩ := hr.1 a _ ha
  exact va_alen F.1 F.2.1 F.2.2.2.2.2.1.1 hP j t hj (ht dA) hv hd (k p l e R s m args below meth c D dA A H locs cells slots Q ls ws F hr hP hD hS hl hc hs)
theorem aw_newa {t N mc2 ms2 : Nat} {n : Int32} {at0 : ClassFile.ArrayType} {z : vp_A} (hd : decode cc pc = .ok (.newarray at0, 2)) (hw : Cond.arrayClass (newarray.typeOf at0) ∈ av_tb) (ht : ∀ dA : Nat → ClassId, (av_tys dA)[t]? = some (dA t, newarray.typeOf at0)) (hp : ∀ (U : State) (cA : ClassId), va_RA U cA (newarray.typeOf at0) → U.vm.findClass ("[" ++ (newarray.typeOf at0).toString) = some cA) (hz : ∀ cA : ClassId, vp_cell cA z = arrV cA N (fun _ => defaultValue (newarray.typeOf at0))) (hn : ¬ n < 0) (hN : n.toNatClampNeg = N) (hby : N * componentBytes (newarray.typeOf at0) ≤ 536870912) (h1 : mc2 + 1 ≤ mc) (h2 : ms2 + N ≤ ms)
    (k : ∀ q : Nat, h q = none → AW tb own cc nL ret ini sc fr lo Post (pc + 2) L (.ref q :: st) (av_up h q (.inl (t, z))) mc2 ms2) : AW tb own cc nL ret ini sc fr lo Post pc L (.int n :: st) h mc ms := by
  intro p l e R s m args below meth c D dA A H locs cells slots Q ls ws F hr hP hD hS hl hc hs
  refine va_newa F.1 F.2.1 (F.2.2.2.2.1 _ hw) rfl F.2.2.2.2.2.1.1 hP hD hS F.2.2.2.2.2.2.1 hz hn hN hby (by omega) (by omega) hd (fun q cA H1 hK1 hP1 hD1 hS1 => ?_)
  have hc1 : cA = dA t := by
    have e1 := (hK1.2 (av_tys dA).length (cA, newarray.typeOf at0) (by simp)).2
    have e2 := (F.2.2.2.2.2.1.1.2 t _ (ht dA)).2
    exact Option.some.inj ((hp s cA e1).symm.trans (hp s (dA t) e2))
  subst hc1
  have hf := av_fresh hr hD1
  exact k q hf p l e R s m args below meth c D dA A H1 locs (cells + 1) (slots + N) Q ls _ F (hr.push (e := .inl (t, z)) hf) hP1 hD1 hS1 hl (by omega) (by omega)
/-- a class by its place in the constant pool: new objects of it, with all fields at their first values fs -/
def av_cls (own : String) (idx ci : Nat) (fs : List Value) (N : Nat) : Prop := ∃ (C : String) (T : u_T) (ty : Nat → FieldType), classes[ci]? = some (C, T, N) ∧ (∀ w ∈ u_ws C T N, w ∈ av_tb) ∧ (∀ j, j < N → parseFieldDescriptor (T j).2.2.1 = some (ty j)) ∧ Cond.classLink own idx C ∈ av_tb ∧ Cond.instantiable C N ∈ av_tb ∧ Cond.initialized C ∈ av_tb ∧ (∀ j, j < N → defaultValue (ty j) = vp_V fs j)
theorem aw_new {idx ci N mc2 ms2 : Nat} {fs : List Value} (hf : av_cls own idx ci fs N) (hd : decode cc pc = .ok (.new idx, 3)) (h1 : mc2 + 1 ≤ mc) (h2 : ms2 + N ≤ ms) (k : ∀ q : Nat, h q = none → AW tb own cc nL ret ini sc fr lo Post (pc + 3) L (.ref q :: st) (av_up h q (.inr (ci, fs))) mc2 ms2) : AW tb own cc nL ret ini sc fr lo Post pc L st h mc ms := by
  intro p l e R s m args below meth c D dA A H locs cells slots Q ls ws F hr hP hD hS hl hc hs
  obtain ⟨C, T, ty, g1, g2, g3, g4, g5, g6, g7⟩ := hf
  refine va_new F.1 F.2.1 F.2.2.2.2.1 g2 ty g3 F.2.2.2.1 (F.2.2.2.2.1 _ g4) (F.2.2.2.2.1 _ g5) (F.2.2.2.2.1 _ g6) F.2.2.2.2.2.1.1 hP hD hS F.2.2.2.2.2.2.1 g1 g7 (by omega) (by omega) hd (fun q H1 hP1 hD1 hS1 => ?_)
  have hf := av_fresh hr hD1
  exact k q hf p l e R s m args below meth c D dA A H1 locs (cells + 1) (slots + N) Q ls _ F (hr.push (e := .inr (ci, fs)) hf) hP1 hD1 hS1 hl (by omega) (by omega)
theorem aw_objInit {idx a : Nat} (hd : decode cc pc = .ok (.invokespecial idx, 3)) (h1 : Cond.methodLink own idx Lib.objectInit ∈ av_tb) (h2 : Cond.instanceMethod Lib.objectInit ∈ av_tb) (h3 : Cond.code Lib.objectInit ⟨#[0xb1]⟩ 1 none ∈ av_tb) (h4 : 1 ≤ fr) (h5 : 20 ≤ lo) (hW : (st.map fun v => v.category).sum ≤ 8) (k : AW tb own cc nL ret ini sc fr lo Post (pc + 3) L st h mc ms) : AW tb own cc nL ret ini sc fr lo Post pc L (.ref a :: st) h mc ms := by
  intro p l e R s m args below meth c D dA A H locs cells slots Q ls ws F hr hP hD hS hl hc hs
  obtain ⟨hx, hb, hml, hown, hts, hK, hA, hini, hfr, hlo, hsc, hret⟩ := id F
  refine W.objInit hx hb hown (hts _ h1) (hts _ h2) (hts _ h3) rfl (by rw [hml]; exact hl.1) rfl hd (Nat.le_trans h4 hfr) ?_ ?_
  · have := lv_room (m := m) (pc := pc) (ls := ls) (rest := .ref a :: st) hW
    omega
  · exact k p l e R s m args below meth c D dA A H locs cells slots Q ls ws F hr hP hD hS hl hc hs
theorem aw_sld {b N : Nat} {xs : Nat → Int32} {i x : Int32} (hsc : sc = some (b, N, xs)) (hd : decode cc pc = .ok (.iaload, 1)) (hin : vp_in i N) (hx : xs i.toNatClampNeg = x) (k : AW tb own cc nL ret ini sc fr lo Post (pc + 1) L (.int x :: st) h mc ms) : AW tb own cc nL ret ini sc fr lo Post pc L (.int i :: .ref b :: st) h mc ms := by
  intro p l e R s m args below meth c D dA A H locs cells slots Q ls ws F hr hP hD hS hl hc hs
  obtain ⟨q1, q2, q3⟩ := F.2.2.2.2.2.2.2.2.2.2.1 _ hsc
  subst hx
  exact va_sld F.1 F.2.1 q1 q2 q3 hS hin hd (k p l e R s m args below meth c D dA A H locs cells slots Q ls ws F hr hP hD hS hl hc hs)
theorem aw_slen {b N : Nat} {xs : Nat → Int32} (hsc : sc = some (b, N, xs)) (hd : decode cc pc = .ok (.arraylength, 1)) (k : AW tb own cc nL ret ini sc fr lo Post (pc + 1) L (.int (nI N) :: st) h mc ms) : AW tb own cc nL ret ini sc fr lo Post pc L (.ref b :: st) h mc ms := by
  intro p l e R s m args below meth c D dA A H locs cells slots Q ls ws F hr hP hD hS hl hc hs
  obtain ⟨q1, q2, q3⟩ := F.2.2.2.2.2.2.2.2.2.2.1 _ hsc
  exact va_slen F.1 F.2.1 q1 q2 q3 hS hd (k p l e R s m args below meth c D dA A H locs cells slots Q ls ws F hr hP hD hS hl hc hs)
def av_nm (y : MethodName) (n : Nat) : Prop := y.cls ≠ "java/lang/invoke/MethodHandle" ∧ y.cls ≠ "java/lang/invoke/VarHandle" ∧ (parseMethodDescriptor y.desc).map (fun d => d.parameters.length) = some n
def av_cV (own : String) (idx : Nat) (y : MethodName) (cc : ByteArray) (nL : Nat) (ret : Option FieldType) (n : Nat) : Prop := (Cond.instanceMethod y ∈ av_tb ∧ Cond.selects y.cls y y ∈ av_tb ∧ Cond.initialized y.cls ∈ av_tb ∧ Cond.code y cc nL ret ∈ av_tb) ∧ av_nm y n ∧ (Cond.methodLink own idx y ∈ av_tb ∨ ∃ host : String, Cond.methodLinkNest own idx y host ∈ av_nw)
def av_cS (own : String) (idx : Nat) (y : MethodName) (cc : ByteArray) (nL : Nat) (ret : Option FieldType) (n : Nat) : Prop := (Cond.static y ∈ av_tb ∧ Cond.initialized y.cls ∈ av_tb ∧ Cond.code y cc nL ret ∈ av_tb) ∧ av_nm y n ∧ (Cond.methodLink own idx y ∈ av_tb ∨ ∃ host : String, Cond.methodLinkNest own idx y host ∈ av_nw)
def av_cI (own : String) (idx : Nat) (y : MethodName) (cc : ByteArray) (nL : Nat) (n : Nat) : Prop := (Cond.instanceMethod y ∈ av_tb ∧ Cond.initialized y.cls ∈ av_tb ∧ Cond.code y cc nL none ∈ av_tb ∧ y.name = "<init>") ∧ av_nm y n ∧ (Cond.methodLink own idx y ∈ av_tb ∨ ∃ host : String, Cond.methodLinkNest own idx y host ∈ av_nw)
theorem av_ws_in {y : MethodName} {cc : ByteArray} {nL : Nat} {ret : Option FieldType} (h : Cond.code y cc nL ret ∈ av_tb) : ∀ w ∈ av_ws y cc nL ret, w ∈ av_tb := fun w hw => by
  rcases List.mem_cons.mp hw with rfl | hw
  · exact h
  · exact hw
theorem aw_callV {y : MethodName} {cc' : ByteArray} {nL' : Nat} {ret' : Option FieldType} {fr' lo' mc' ms' mc2 ms2 : Nat} {Post' : Option Value → AH → Prop} {idx n b ci : Nat} {fs As rest : List Value} (hM : AM tb y cc' nL' ret' fr' lo' (.ref b :: As) h mc' ms' Post') (hcs : av_cV own idx y cc' nL' ret' n) (hd : decode cc pc = .ok (.invokevirtual idx, 3)) (hb0 : h b = some (.inr (ci, fs))) (hci : (classes[ci]?).map (fun x => x.1) = some y.cls) (hn : As.length = n) (hst : st = As.reverse ++ .ref b :: rest) (hW : (rest.map fun v => v.category).sum ≤ 8) (h1 : fr' + 1 ≤ fr) (h2 : 8 + (nL' + 11) + lo' ≤ lo) (h3 : mc' + mc2 ≤ mc) (h4 : ms' + ms2 ≤ ms)
    (kk : ∀ (v : Option Value) (h' : AH), Post' v h' → AW tb own cc nL ret ini sc fr lo Post (pc + 3) L (v.toList ++ rest) h' mc2 ms2) : AW tb own cc nL ret ini sc fr lo Post pc L st h mc ms := by
  intro p l e R s m args below meth c D dA A H locs cells slots Q ls ws F hr hP hD hS hl hc hs
  obtain ⟨hx, hb, hml, hown, hts, hK, hA, hini, hfr, hlo, hsc, hret⟩ := id F
  obtain ⟨⟨g1, g2, g3, g4⟩, gn, g5⟩ := hcs
  subst hst
  obtain ⟨j, hj⟩ := hr.1 b _ hb0
  obtain ⟨q, hq, hqc⟩ : ∃ q, classes[ci]? = some q ∧ q.1 = y.cls := by
    cases hz : classes[ci]? with
    | none => rw [hz] at hci; cases hci
    | some q => rw [hz] at hci; exact ⟨q, rfl, Option.some.inj hci⟩
  have hrec := va_recv hK.1 hP hq hj
  rw [hqc] at hrec
  have hpre : PreV s H y.cls b (av_Pre tb D dA (.ref b :: As) h H.size) As := ⟨av_blind, hrec, av_pre (av := .ref b :: As) hK hr hP hD hS hA⟩
  have hgood : GoodIn av_tb (av_ws y cc' nL' ret') := av_good (av_ws_in g4)
  have hrm : ({ frames := fr', cells := mc', slots := ms', locals := lo' } : Room).frames + 1 ≤ R.frames ∧ 8 + (nL' + 11) + ({ frames := fr', cells := mc', slots := ms', locals := lo' } : Room).locals ≤ R.locals := ⟨Nat.le_trans h1 hfr, Nat.le_trans h2 hlo⟩
  have hfit : cells + mc' ≤ R.cells ∧ slots + ms' ≤ R.slots := ⟨by omega, by omega⟩
  rcases g5 with g5 | ⟨host, g5⟩
  · refine av_after (va_runV (As := As) (rest := rest) ⟨hx, hb, hml, hown, hts⟩ (hM l D dA H.size) ⟨callB_of n hts hgood rfl rfl rfl (hts _ g3) (hts _ g5) gn hrm, hts _ g1, hts _ g2⟩ hpre rfl hn hl.1 rfl (lv_room hW) hd hfit) hr hD hS hA ?_
    intro v h' ws' H1 locs1 hp hr1 hP1 hD1 hS1
    exact kk v h' hp p l e R s m args below meth c D dA A H1 locs1 _ _ Q ls ws' F hr1 hP1 hD1 hS1 hl (by omega) (by omega)
  · refine av_after (va_runVN (As := As) (rest := rest) ⟨hx, hb, hml, hown, hts⟩ (hM l D dA H.size) ⟨va_cnB n hts hgood rfl rfl rfl (hK.2.1 _ g5) (hts _ g3) gn hrm, hts _ g1, hts _ g2⟩ hpre rfl hn hl.1 rfl (lv_room hW) hd hfit) hr hD hS hA ?_
    intro v h' ws' H1 locs1 hp hr1 hP1 hD1 hS1
    exact kk v h' hp p l e R s m args below meth c D dA A H1 locs1 _ _ Q ls ws' F hr1 hP1 hD1 hS1 hl (by omega) (by omega)
theorem aw_callS {y : MethodName} {cc' : ByteArray} {nL' : Nat} {ret' : Option FieldType} {fr' lo' mc' ms' mc2 ms2 : Nat} {Post' : Option Value → AH → Prop} {idx n : Nat} {As rest : List Value} (hM : AM tb y cc' nL' ret' fr' lo' As h mc' ms' Post') (hcs : av_cS own idx y cc' nL' ret' n) (hd : decode cc pc = .ok (.invokestatic idx, 3)) (hn : As.length = n) (hst : st = As.reverse ++ rest) (hW : (rest.map fun v => v.category).sum ≤ 8) (h1 : fr' + 1 ≤ fr) (h2 : 8 + (nL' + 11) + lo' ≤ lo) (h3 : mc' + mc2 ≤ mc) (h4 : ms' + ms2 ≤ ms)
    (kk : ∀ (v : Option Value) (h' : AH), Post' v h' → AW tb own cc nL ret ini sc fr lo Post (pc + 3) L (v.toList ++ rest) h' mc2 ms2) : AW tb own cc nL ret ini sc fr lo Post pc L st h mc ms := by
  intro p l e R s m args below meth c D dA A H locs cells slots Q ls ws F hr hP hD hS hl hc hs
  obtain ⟨hx, hb, hml, hown, hts, hK, hA, hini, hfr, hlo, hsc, hret⟩ := id F
  obtain ⟨⟨g1, g3, g4⟩, gn, g5⟩ := hcs
  subst hst
  have hpre : PreS s H (av_Pre tb D dA As h H.size) As := ⟨av_blind, av_pre (av := As) hK hr hP hD hS hA⟩
  have hgood : GoodIn av_tb (av_ws y cc' nL' ret') := av_good (av_ws_in g4)
  have hrm : ({ frames := fr', cells := mc', slots := ms', locals := lo' } : Room).frames + 1 ≤ R.frames ∧ 8 + (nL' + 11) + ({ frames := fr', cells := mc', slots := ms', locals := lo' } : Room).locals ≤ R.locals := ⟨Nat.le_trans h1 hfr, Nat.le_trans h2 hlo⟩
  have hfit : cells + mc' ≤ R.cells ∧ slots + ms' ≤ R.slots := ⟨by omega, by omega⟩
  rcases g5 with g5 | ⟨host, g5⟩
  · refine av_after (va_runS (As := As) (rest := rest) ⟨hx, hb, hml, hown, hts⟩ (hM l D dA H.size) ⟨callB_of n hts hgood rfl rfl rfl (hts _ g3) (hts _ g5) gn hrm, hts _ g1⟩ hpre rfl hn hl.1 rfl (lv_room hW) hd hfit) hr hD hS hA ?_
    intro v h' ws' H1 locs1 hp hr1 hP1 hD1 hS1
    exact kk v h' hp p l e R s m args below meth c D dA A H1 locs1 _ _ Q ls ws' F hr1 hP1 hD1 hS1 hl (by omega) (by omega)
  · refine av_after (va_runSN (As := As) (rest := rest) ⟨hx, hb, hml, hown, hts⟩ (hM l D dA H.size) ⟨va_cnB n hts hgood rfl rfl rfl (hK.2.1 _ g5) (hts _ g3) gn hrm, hts _ g1, trivial⟩ hpre rfl hn hl.1 rfl (lv_room hW) hd hfit) hr hD hS hA ?_
    intro v h' ws' H1 locs1 hp hr1 hP1 hD1 hS1
    exact kk v h' hp p l e R s m args below meth c D dA A H1 locs1 _ _ Q ls ws' F hr1 hP1 hD1 hS1 hl (by omega) (by omega)
theorem aw_callI {y : MethodName} {cc' : ByteArray} {nL' : Nat} {fr' lo' mc' ms' mc2 ms2 : Nat} {Post' : Option Value → AH → Prop} {idx n b : Nat} {As rest : List Value} (hM : AM tb y cc' nL' none fr' lo' (.ref b :: As) h mc' ms' Post') (hcs : av_cI own idx y cc' nL' n) (hd : decode cc pc = .ok (.invokespecial idx, 3)) (hn : As.length = n) (hst : st = As.reverse ++ .ref b :: rest) (hW : (rest.map fun v => v.category).sum ≤ 8) (h1 : fr' + 1 ≤ fr) (h2 : 8 + (nL' + 11) + lo' ≤ lo) (h3 : mc' + mc2 ≤ mc) (h4 : ms' + ms2 ≤ ms)
    (kk : ∀ (v : Option Value) (h' : AH), Post' v h' → AW tb own cc nL ret ini sc fr lo Post (pc + 3) L (v.toList ++ rest) h' mc2 ms2) : AW tb own cc nL ret ini sc fr lo Post pc L st h mc ms := by
  intro p l e R s m args below meth c D dA A H locs cells slots Q ls ws F hr hP hD hS hl hc hs
  obtain ⟨hx, hb, hml, hown, hts, hK, hA, hini, hfr, hlo, hsc, hret⟩ := id F
  obtain ⟨⟨g1, g3, g4, g6⟩, gn, g5⟩ := hcs
  subst hst
  have hpre : PreS s H (av_Pre tb D dA (.ref b :: As) h H.size) (.ref b :: As) := ⟨av_blind, av_pre (av := .ref b :: As) hK hr hP hD hS hA⟩
  have hgood : GoodIn av_tb (av_ws y cc' nL' none) := av_good (av_ws_in g4)
  have hrm : ({ frames := fr', cells := mc', slots := ms', locals := lo' } : Room).frames + 1 ≤ R.frames ∧ 8 + (nL' + 11) + ({ frames := fr', cells := mc', slots := ms', locals := lo' } : Room).locals ≤ R.locals := ⟨Nat.le_trans h1 hfr, Nat.le_trans h2 hlo⟩
  have hfit : cells + mc' ≤ R.cells ∧ slots + ms' ≤ R.slots := ⟨by omega, by omega⟩
  rcases g5 with g5 | ⟨host, g5⟩
  · refine av_after (va_runI (As := As) (rest := rest) ⟨hx, hb, hml, hown, hts⟩ (hM l D dA H.size) ⟨callB_of n hts hgood rfl rfl rfl (hts _ g3) (hts _ g5) gn hrm, g6, hts _ g1⟩ hpre rfl hn hl.1 rfl (lv_room hW) hd hfit) hr hD hS hA ?_
    intro v h' ws' H1 locs1 hp hr1 hP1 hD1 hS1
    exact kk v h' hp p l e R s m args below meth c D dA A H1 locs1 _ _ Q ls ws' F hr1 hP1 hD1 hS1 hl (by omega) (by omega)
  · refine av_after (va_runIN (As := As) (rest := rest) ⟨hx, hb, hml, hown, hts⟩ (hM l D dA H.size) ⟨va_cnB n hts hgood rfl rfl rfl (hK.2.1 _ g5) (hts _ g3) gn hrm, g6, hts _ g1⟩ hpre rfl hn hl.1 rfl (lv_room hW) hd hfit) hr hD hS hA ?_
    intro v h' ws' H1 locs1 hp hr1 hP1 hD1 hS1
    exact kk v h' hp p l e R s m args below meth c D dA A H1 locs1 _ _ Q ls ws' F hr1 hP1 hD1 hS1 hl (by omega) (by omega)
/-- the answer is r, the heap is as it was -/
def av_Pi (r : Int32) (h : AH) : Option Value → AH → Prop := fun v h' => v = some (.int r) ∧ h' = h
def av_Pr (r : Nat) (h : AH) : Option Value → AH → Prop := fun v h' => v = some (.ref r) ∧ h' = h
theorem aw_callVi {y : MethodName} {cc' : ByteArray} {nL' : Nat} {ret' : Option FieldType} {fr' lo' mc' ms' mc2 ms2 : Nat} {r : Int32} {idx n b ci : Nat} {fs As rest : List Value} (hM : AM tb y cc' nL' ret' fr' lo' (.ref b :: As) h mc' ms' (av_Pi r h)) (hcs : av_cV own idx y cc' nL' ret' n) (hd : decode cc pc = .ok (.invokevirtual idx, 3)) (hb0 : h b = some (.inr (ci, fs))) (hci : (classes[ci]?).map (fun x => x.1) = some y.cls) (hn : As.length = n) (hst : st = As.reverse ++ .ref b :: rest) (hW : (rest.map fun v => v.category).sum ≤ 8) (h1 : fr' + 1 ≤ fr) (h2 : 8 + (nL' + 11) + lo' ≤ lo) (h3 : mc' + mc2 ≤ mc) (h4 : ms' + ms2 ≤ ms)
    (kk : AW tb own cc nL ret ini sc fr lo Post (pc + 3) L (Value.int r :: rest) h mc2 ms2) : AW tb own cc nL ret ini sc fr lo Post pc L st h mc ms :=
  aw_callV hM hcs hd hb0 hci hn hst hW h1 h2 h3 h4 (fun v h' q => by
    obtain ⟨q1, q2⟩ := q
    rw [q1, q2]
    exact kk)
theorem aw_callSi {y : MethodName} {cc' : ByteArray} {nL' : Nat} {ret' : Option FieldType} {fr' lo' mc' ms' mc2 ms2 : Nat} {r : Int32} {idx n : Nat} {As rest : List Value} (hM : AM tb y cc' nL' ret' fr' lo' As h mc' ms' (av_Pi r h)) (hcs : av_cS own idx y cc' nL' ret' n) (hd : decode cc pc = .ok (.invokestatic idx, 3)) (hn : As.length = n) (hst : st = As.reverse ++ rest) (hW : (rest.map fun v => v.category).sum ≤ 8) (h1 : fr' + 1 ≤ fr) (h2 : 8 + (nL' + 11) + lo' ≤ lo) (h3 : mc' + mc2 ≤ mc) (h4 : ms' + ms2 ≤ ms)
    (kk : AW tb own cc nL ret ini sc fr lo Post (pc + 3) L (Value.int r :: rest) h mc2 ms2) : AW tb own cc nL ret ini sc fr lo Post pc L st h mc ms :=
  aw_callS hM hcs hd hn hst hW h1 h2 h3 h4 (fun v h' q => by
    obtain ⟨q1, q2⟩ := q
    rw [q1, q2]
    exact kk)
theorem aw_callVr {y : MethodName} {cc' : ByteArray} {nL' : Nat} {ret' : Option FieldType} {fr' lo' mc' ms' mc2 ms2 : Nat} {r : Nat} {idx n b ci : Nat} {fs As rest : List Value} (hM : AM tb y cc' nL' ret' fr' lo' (.ref b :: As) h mc' ms' (av_Pr r h)) (hcs : av_cV own idx y cc' nL' ret' n) (hd : decode cc pc = .ok (.invokevirtual idx, 3)) (hb0 : h b = some (.inr (ci, fs))) (hci : (classes[ci]?).map (fun x => x.1) = some y.cls) (hn : As.length = n) (hst : st = As.reverse ++ .ref b :: rest) (hW : (rest.map fun v => v.category).sum ≤ 8) (h1 : fr' + 1 ≤ fr) (h2 : 8 + (nL' + 11) + lo' ≤ lo) (h3 : mc' + mc2 ≤ mc) (h4 : ms' + ms2 ≤ ms)
    (kk : AW tb own cc nL ret ini sc fr lo Post (pc + 3) L (Value.ref r :: rest) h mc2 ms2) : AW tb own cc nL ret ini sc fr lo Post pc L st h mc ms :=
  aw_callV hM hcs hd hb0 hci hn hst hW h1 h2 h3 h4 (fun v h' q => by
    obtain ⟨q1, q2⟩ := q
    rw [q1, q2]
    exact kk)
theorem aw_callSr {y : MethodName} {cc' : ByteArray} {nL' : Nat} {ret' : Option FieldType} {fr' lo' mc' ms' mc2 ms2 : Nat} {r : Nat} {idx n : Nat} {As rest : List Value} (hM : AM tb y cc' nL' ret' fr' lo' As h mc' ms' (av_Pr r h)) (hcs : av_cS own idx y cc' nL' ret' n) (hd : decode cc pc = .ok (.invokestatic idx, 3)) (hn : As.length = n) (hst : st = As.reverse ++ rest) (hW : (rest.map fun v => v.category).sum ≤ 8) (h1 : fr' + 1 ≤ fr) (h2 : 8 + (nL' + 11) + lo' ≤ lo) (h3 : mc' + mc2 ≤ mc) (h4 : ms' + ms2 ≤ ms)
    (kk : AW tb own cc nL ret ini sc fr lo Post (pc + 3) L (Value.ref r :: rest) h mc2 ms2) : AW tb own cc nL ret ini sc fr lo Post pc L st h mc ms :=
  aw_callS hM hcs hd hn hst hW h1 h2 h3 h4 (fun v h' q => by
    obtain ⟨q1, q2⟩ := q
    rw [q1, q2]
    exact kk)
end AWrows
end
section
/-! ===== words by their places, fields, classes, calls ===== -/
theorem tw_1 : (Jvm.Cond.initialized "ImageReader") ∈ av_tb := List.mem_filter.mpr ⟨List.mem_append_right _ (List.mem_of_getElem? (i := 1) (by decide +kernel)), by decide +kernel⟩
theorem tw_2 : (Jvm.Cond.initialized "ImageReader$Bytes") ∈ av_tb := List.mem_filter.mpr ⟨List.mem_append_right _ (List.mem_of_getElem? (i := 2) (by decide +kernel)), by decide +kernel⟩
theorem tw_3 : (Jvm.Cond.initialized "ImageReader$Image") ∈ av_tb := List.mem_filter.mpr ⟨List.mem_append_right _ (List.mem_of_getElem? (i := 3) (by decide +kernel)), by decide +kernel⟩
theorem tw_4 : (Jvm.Cond.initialized "ImageReader$Walk") ∈ av_tb := List.mem_filter.mpr ⟨List.mem_append_right _ (List.mem_of_getElem? (i := 4) (by decide +kernel)), by decide +kernel⟩
theorem tw_5 : (Jvm.Cond.initialized "ImageReader$Pairing") ∈ av_tb := List.mem_filter.mpr ⟨List.mem_append_right _ (List.mem_of_getElem? (i := 5) (by decide +kernel)), by decide +kernel⟩
theorem tw_6 : (Jvm.Cond.initialized "ImageReaderModel") ∈ av_tb := List.mem_filter.mpr ⟨List.mem_append_right _ (List.mem_of_getElem? (i := 6) (by decide +kernel)), by decide +kernel⟩
theorem tw_11 : (Jvm.Cond.initialized "java/util/Arrays") ∈ av_tb := List.mem_filter.mpr ⟨List.mem_append_right _ (List.mem_of_getElem? (i := 11) (by decide +kernel)), by decide +kernel⟩
theorem tw_12 : (Jvm.Cond.initialized "java/lang/Math") ∈ av_tb := List.mem_filter.mpr ⟨List.mem_append_right _ (List.mem_of_getElem? (i := 12) (by decide +kernel)), by decide +kernel⟩
theorem tw_13 : (Jvm.Cond.initialized "java/lang/System") ∈ av_tb := List.mem_filter.mpr ⟨List.mem_append_right _ (List.mem_of_getElem? (i := 13) (by decide +kernel)), by decide +kernel⟩
theorem tw_15 : (Jvm.Cond.initialized "ImageReader$Layout") ∈ av_tb := List.mem_filter.mpr ⟨List.mem_append_right _ (List.mem_of_getElem? (i := 15) (by decide +kernel)), by decide +kernel⟩
theorem tw_16 : (Jvm.Cond.initialized "ImageReader$Form") ∈ av_tb := List.mem_filter.mpr ⟨List.mem_append_right _ (List.mem_of_getElem? (i := 16) (by decide +kernel)), by decide +kernel⟩
theorem tw_17 : (Jvm.Cond.classLink "ImageReaderLaw" (8 : Nat) "ImageReader") ∈ av_tb := List.mem_filter.mpr ⟨List.mem_append_right _ (List.mem_of_getElem? (i := 17) (by decide +kernel)), by decide +kernel⟩
theorem tw_18 : (Jvm.Cond.instantiable "ImageReader" (8 : Nat)) ∈ av_tb := List.mem_filter.mpr ⟨List.mem_append_right _ (List.mem_of_getElem? (i := 18) (by decide +kernel)), by decide +kernel⟩
theorem tw_19 : (Jvm.Cond.methodLink "ImageReaderLaw" (21 : Nat) ({ cls := "ImageReader", name := "<init>", desc := "()V" } : Jvm.MethodName)) ∈ av_tb := List.mem_filter.mpr ⟨List.mem_append_right _ (List.mem_of_getElem? (i := 19) (by decide +kernel)), by decide +kernel⟩
theorem tw_20 : (Jvm.Cond.instanceMethod ({ cls := "ImageReader", name := "<init>", desc := "()V" } : Jvm.MethodName)) ∈ av_tb := List.mem_filter.mpr ⟨List.mem_append_right _ (List.mem_of_getElem? (i := 20) (by decide +kernel)), by decide +kernel⟩
theorem tw_21 : (Jvm.Cond.code ({ cls := "ImageReader", name := "<init>", desc := "()V" } : Jvm.MethodName) prog_1_method_1_code (1 : Nat) (Option.none : Option Jvm.ClassFile.FieldType)) ∈ av_tb := List.mem_filter.mpr ⟨List.mem_append_right _ (List.mem_of_getElem? (i := 21) (by decide +kernel)), by decide +kernel⟩
theorem tw_22 : (Jvm.Cond.methodLink "ImageReader" (1 : Nat) ({ cls := "java/lang/Object", name := "<init>", desc := "()V" } : Jvm.MethodName)) ∈ av_tb := List.mem_filter.mpr ⟨List.mem_append_right _ (List.mem_of_getElem? (i := 22) (by decide +kernel)), by decide +kernel⟩
theorem tw_23 : (Jvm.Cond.instanceMethod ({ cls := "java/lang/Object", name := "<init>", desc := "()V" } : Jvm.MethodName)) ∈ av_tb := List.mem_filter.mpr ⟨List.mem_append_right _ (List.mem_of_getElem? (i := 23) (by decide +kernel)), by decide +kernel⟩
theorem tw_24 : (Jvm.Cond.code ({ cls := "java/lang/Object", name := "<init>", desc := "()V" } : Jvm.MethodName) object_method_1_code (1 : Nat) (Option.none : Option Jvm.ClassFile.FieldType)) ∈ av_tb := List.mem_filter.mpr ⟨List.mem_append_right _ (List.mem_of_getElem? (i := 24) (by decide +kernel)), by decide +kernel⟩
theorem tw_25 : (Jvm.Cond.classLink "ImageReader" (7 : Nat) "ImageReader$Bytes") ∈ av_tb := List.mem_filter.mpr ⟨List.mem_append_right _ (List.mem_of_getElem? (i := 25) (by decide +kernel)), by decide +kernel⟩
theorem tw_26 : (Jvm.Cond.instantiable "ImageReader$Bytes" (2 : Nat)) ∈ av_tb := List.mem_filter.mpr ⟨List.mem_append_right _ (List.mem_of_getElem? (i := 26) (by decide +kernel)), by decide +kernel⟩
theorem nw_27 : (Jvm.Cond.methodLinkNest "ImageReader" (9 : Nat) ({ cls := "ImageReader$Bytes", name := "<init>", desc := "()V" } : Jvm.MethodName) "ImageReader") ∈ av_nw := List.mem_filter.mpr ⟨List.mem_append_right _ (List.mem_of_getElem? (i := 27) (by decide +kernel)), by decide +kernel⟩
theorem tw_28 : (Jvm.Cond.instanceMethod ({ cls := "ImageReader$Bytes", name := "<init>", desc := "()V" } : Jvm.MethodName)) ∈ av_tb := List.mem_filter.mpr ⟨List.mem_append_right _ (List.mem_of_getElem? (i := 28) (by decide +kernel)), by decide +kernel⟩
theorem tw_29 : (Jvm.Cond.code ({ cls := "ImageReader$Bytes", name := "<init>", desc := "()V" } : Jvm.MethodName) prog_2_method_1_code (1 : Nat) (Option.none : Option Jvm.ClassFile.FieldType)) ∈ av_tb := List.mem_filter.mpr ⟨List.mem_append_right _ (List.mem_of_getElem? (i := 29) (by decide +kernel)), by decide +kernel⟩
theorem tw_30 : (Jvm.Cond.methodLink "ImageReader$Bytes" (3 : Nat) ({ cls := "java/lang/Object", name := "<init>", desc := "()V" } : Jvm.MethodName)) ∈ av_tb := List.mem_filter.mpr ⟨List.mem_append_right _ (List.mem_of_getElem? (i := 30) (by decide +kernel)), by decide +kernel⟩
theorem tw_31 : (Jvm.Cond.fieldLink "ImageReader$Bytes" (9 : Nat) "ImageReader$Bytes" "row" "[B") ∈ av_tb := List.mem_filter.mpr ⟨List.mem_append_right _ (List.mem_of_getElem? (i := 31) (by decide +kernel)), by decide +kernel⟩
theorem nw_32 : (Jvm.Cond.fieldLinkNest "ImageReader" (74 : Nat) "ImageReader$Bytes" "row" "[B" "ImageReader") ∈ av_nw := List.mem_filter.mpr ⟨List.mem_append_right _ (List.mem_of_getElem? (i := 32) (by decide +kernel)), by decide +kernel⟩
theorem nw_33 : (Jvm.Cond.fieldLinkNest "ImageReader" (49 : Nat) "ImageReader$Bytes" "length" "I" "ImageReader") ∈ av_nw := List.mem_filter.mpr ⟨List.mem_append_right _ (List.mem_of_getElem? (i := 33) (by decide +kernel)), by decide +kernel⟩
theorem tw_34 : (Jvm.Cond.fieldLink "ImageReader$Bytes" (15 : Nat) "ImageReader$Bytes" "length" "I") ∈ av_tb := List.mem_filter.mpr ⟨List.mem_append_right _ (List.mem_of_getElem? (i := 34) (by decide +kernel)), by decide +kernel⟩
theorem nw_35 : (Jvm.Cond.fieldLinkNest "ImageReader$Layout" (26 : Nat) "ImageReader$Bytes" "length" "I" "ImageReader") ∈ av_nw := List.mem_filter.mpr ⟨List.mem_append_right _ (List.mem_of_getElem? (i := 35) (by decide +kernel)), by decide +kernel⟩
theorem tw_41 : (Jvm.Cond.arrayClass Jvm.ClassFile.FieldType.byte) ∈ av_tb := List.mem_filter.mpr ⟨List.mem_append_right _ (List.mem_of_getElem? (i := 41) (by decide +kernel)), by decide +kernel⟩
theorem tw_42 : (Jvm.Cond.classLink "ImageReader" (16 : Nat) "ImageReader$Image") ∈ av_tb := List.mem_filter.mpr ⟨List.mem_append_right _ (List.mem_of_getElem? (i := 42) (by decide +kernel)), by decide +kernel⟩
theorem tw_43 : (Jvm.Cond.instantiable "ImageReader$Image" (11 : Nat)) ∈ av_tb := List.mem_filter.mpr ⟨List.mem_append_right _ (List.mem_of_getElem? (i := 43) (by decide +kernel)), by decide +kernel⟩
theorem nw_44 : (Jvm.Cond.methodLinkNest "ImageReader" (18 : Nat) ({ cls := "ImageReader$Image", name := "<init>", desc := "()V" } : Jvm.MethodName) "ImageReader") ∈ av_nw := List.mem_filter.mpr ⟨List.mem_append_right _ (List.mem_of_getElem? (i := 44) (by decide +kernel)), by decide +kernel⟩
theorem tw_45 : (Jvm.Cond.instanceMethod ({ cls := "ImageReader$Image", name := "<init>", desc := "()V" } : Jvm.MethodName)) ∈ av_tb := List.mem_filter.mpr ⟨List.mem_append_right _ (List.mem_of_getElem? (i := 45) (by decide +kernel)), by decide +kernel⟩
theorem tw_46 : (Jvm.Cond.code ({ cls := "ImageReader$Image", name := "<init>", desc := "()V" } : Jvm.MethodName) prog_4_method_1_code (1 : Nat) (Option.none : Option Jvm.ClassFile.FieldType)) ∈ av_tb := List.mem_filter.mpr ⟨List.mem_append_right _ (List.mem_of_getElem? (i := 46) (by decide +kernel)), by decide +kernel⟩
theorem tw_47 : (Jvm.Cond.methodLink "ImageReader$Image" (3 : Nat) ({ cls := "java/lang/Object", name := "<init>", desc := "()V" } : Jvm.MethodName)) ∈ av_tb := List.mem_filter.mpr ⟨List.mem_append_right _ (List.mem_of_getElem? (i := 47) (by decide +kernel)), by decide +kernel⟩
theorem tw_48 : (Jvm.Cond.fieldLink "ImageReader$Image" (9 : Nat) "ImageReader$Image" "specials" "[I") ∈ av_tb := List.mem_filter.mpr ⟨List.mem_append_right _ (List.mem_of_getElem? (i := 48) (by decide +kernel)), by decide +kernel⟩
theorem nw_49 : (Jvm.Cond.fieldLinkNest "ImageReader$Walk" (22 : Nat) "ImageReader$Image" "specials" "[I" "ImageReader") ∈ av_nw := List.mem_filter.mpr ⟨List.mem_append_right _ (List.mem_of_getElem? (i := 49) (by decide +kernel)), by decide +kernel⟩
theorem nw_50 : (Jvm.Cond.fieldLinkNest "ImageReader$Pairing" (34 : Nat) "ImageReader$Image" "specials" "[I" "ImageReader") ∈ av_nw := List.mem_filter.mpr ⟨List.mem_append_right _ (List.mem_of_getElem? (i := 50) (by decide +kernel)), by decide +kernel⟩
theorem nw_51 : (Jvm.Cond.fieldLinkNest "ImageReader$Layout" (50 : Nat) "ImageReader$Image" "specials" "[I" "ImageReader") ∈ av_nw := List.mem_filter.mpr ⟨List.mem_append_right _ (List.mem_of_getElem? (i := 51) (by decide +kernel)), by decide +kernel⟩
theorem nw_52 : (Jvm.Cond.fieldLinkNest "ImageReader" (130 : Nat) "ImageReader$Image" "specials" "[I" "ImageReader") ∈ av_nw := List.mem_filter.mpr ⟨List.mem_append_right _ (List.mem_of_getElem? (i := 52) (by decide +kernel)), by decide +kernel⟩
theorem tw_53 : (Jvm.Cond.fieldLink "ImageReader$Image" (15 : Nat) "ImageReader$Image" "classes" "[I") ∈ av_tb := List.mem_filter.mpr ⟨List.mem_append_right _ (List.mem_of_getElem? (i := 53) (by decide +kernel)), by decide +kernel⟩
theorem nw_54 : (Jvm.Cond.fieldLinkNest "ImageReader$Pairing" (50 : Nat) "ImageReader$Image" "classes" "[I" "ImageReader") ∈ av_nw := List.mem_filter.mpr ⟨List.mem_append_right _ (List.mem_of_getElem? (i := 54) (by decide +kernel)), by decide +kernel⟩
theorem nw_55 : (Jvm.Cond.fieldLinkNest "ImageReader$Walk" (52 : Nat) "ImageReader$Image" "classes" "[I" "ImageReader") ∈ av_nw := List.mem_filter.mpr ⟨List.mem_append_right _ (List.mem_of_getElem? (i := 55) (by decide +kernel)), by decide +kernel⟩
theorem nw_56 : (Jvm.Cond.fieldLinkNest "ImageReader" (189 : Nat) "ImageReader$Image" "classes" "[I" "ImageReader") ∈ av_nw := List.mem_filter.mpr ⟨List.mem_append_right _ (List.mem_of_getElem? (i := 56) (by decide +kernel)), by decide +kernel⟩
theorem tw_57 : (Jvm.Cond.fieldLink "ImageReader$Image" (18 : Nat) "ImageReader$Image" "kinds" "[I") ∈ av_tb := List.mem_filter.mpr ⟨List.mem_append_right _ (List.mem_of_getElem? (i := 57) (by decide +kernel)), by decide +kernel⟩
theorem nw_58 : (Jvm.Cond.fieldLinkNest "ImageReader$Pairing" (69 : Nat) "ImageReader$Image" "kinds" "[I" "ImageReader") ∈ av_nw := List.mem_filter.mpr ⟨List.mem_append_right _ (List.mem_of_getElem? (i := 58) (by decide +kernel)), by decide +kernel⟩
theorem nw_59 : (Jvm.Cond.fieldLinkNest "ImageReader$Form" (63 : Nat) "ImageReader$Image" "kinds" "[I" "ImageReader") ∈ av_nw := List.mem_filter.mpr ⟨List.mem_append_right _ (List.mem_of_getElem? (i := 59) (by decide +kernel)), by decide +kernel⟩
theorem nw_60 : (Jvm.Cond.fieldLinkNest "ImageReader" (103 : Nat) "ImageReader$Image" "kinds" "[I" "ImageReader") ∈ av_nw := List.mem_filter.mpr ⟨List.mem_append_right _ (List.mem_of_getElem? (i := 60) (by decide +kernel)), by decide +kernel⟩
theorem tw_61 : (Jvm.Cond.fieldLink "ImageReader$Image" (21 : Nat) "ImageReader$Image" "sizes" "[I") ∈ av_tb := List.mem_filter.mpr ⟨List.mem_append_right _ (List.mem_of_getElem? (i := 61) (by decide +kernel)), by decide +kernel⟩
theorem nw_62 : (Jvm.Cond.fieldLinkNest "ImageReader$Pairing" (72 : Nat) "ImageReader$Image" "sizes" "[I" "ImageReader") ∈ av_nw := List.mem_filter.mpr ⟨List.mem_append_right _ (List.mem_of_getElem? (i := 62) (by decide +kernel)), by decide +kernel⟩
theorem nw_63 : (Jvm.Cond.fieldLinkNest "ImageReader$Form" (67 : Nat) "ImageReader$Image" "sizes" "[I" "ImageReader") ∈ av_nw := List.mem_filter.mpr ⟨List.mem_append_right _ (List.mem_of_getElem? (i := 63) (by decide +kernel)), by decide +kernel⟩
theorem nw_64 : (Jvm.Cond.fieldLinkNest "ImageReader" (110 : Nat) "ImageReader$Image" "sizes" "[I" "ImageReader") ∈ av_nw := List.mem_filter.mpr ⟨List.mem_append_right _ (List.mem_of_getElem? (i := 64) (by decide +kernel)), by decide +kernel⟩
theorem tw_65 : (Jvm.Cond.fieldLink "ImageReader$Image" (24 : Nat) "ImageReader$Image" "starts" "[I") ∈ av_tb := List.mem_filter.mpr ⟨List.mem_append_right _ (List.mem_of_getElem? (i := 65) (by decide +kernel)), by decide +kernel⟩
theorem nw_66 : (Jvm.Cond.fieldLinkNest "ImageReader$Pairing" (78 : Nat) "ImageReader$Image" "starts" "[I" "ImageReader") ∈ av_nw := List.mem_filter.mpr ⟨List.mem_append_right _ (List.mem_of_getElem? (i := 66) (by decide +kernel)), by decide +kernel⟩
theorem nw_67 : (Jvm.Cond.fieldLinkNest "ImageReader" (195 : Nat) "ImageReader$Image" "starts" "[I" "ImageReader") ∈ av_nw := List.mem_filter.mpr ⟨List.mem_append_right _ (List.mem_of_getElem? (i := 67) (by decide +kernel)), by decide +kernel⟩
theorem tw_68 : (Jvm.Cond.fieldLink "ImageReader$Image" (27 : Nat) "ImageReader$Image" "parts" "[I") ∈ av_tb := List.mem_filter.mpr ⟨List.mem_append_right _ (List.mem_of_getElem? (i := 68) (by decide +kernel)), by decide +kernel⟩
theorem nw_69 : (Jvm.Cond.fieldLinkNest "ImageReader$Pairing" (75 : Nat) "ImageReader$Image" "parts" "[I" "ImageReader") ∈ av_nw := List.mem_filter.mpr ⟨List.mem_append_right _ (List.mem_of_getElem? (i := 69) (by decide +kernel)), by decide +kernel⟩
theorem nw_70 : (Jvm.Cond.fieldLinkNest "ImageReader" (192 : Nat) "ImageReader$Image" "parts" "[I" "ImageReader") ∈ av_nw := List.mem_filter.mpr ⟨List.mem_append_right _ (List.mem_of_getElem? (i := 70) (by decide +kernel)), by decide +kernel⟩
theorem tw_71 : (Jvm.Cond.fieldLink "ImageReader$Image" (30 : Nat) "ImageReader$Image" "used" "I") ∈ av_tb := List.mem_filter.mpr ⟨List.mem_append_right _ (List.mem_of_getElem? (i := 71) (by decide +kernel)), by decide +kernel⟩
theorem tw_72 : (Jvm.Cond.fieldLink "ImageReader$Image" (34 : Nat) "ImageReader$Image" "count" "I") ∈ av_tb := List.mem_filter.mpr ⟨List.mem_append_right _ (List.mem_of_getElem? (i := 72) (by decide +kernel)), by decide +kernel⟩
theorem nw_73 : (Jvm.Cond.fieldLinkNest "ImageReader$Form" (18 : Nat) "ImageReader$Image" "count" "I" "ImageReader") ∈ av_nw := List.mem_filter.mpr ⟨List.mem_append_right _ (List.mem_of_getElem? (i := 73) (by decide +kernel)), by decide +kernel⟩
theorem nw_74 : (Jvm.Cond.fieldLinkNest "ImageReader$Walk" (39 : Nat) "ImageReader$Image" "count" "I" "ImageReader") ∈ av_nw := List.mem_filter.mpr ⟨List.mem_append_right _ (List.mem_of_getElem? (i := 74) (by decide +kernel)), by decide +kernel⟩
theorem nw_75 : (Jvm.Cond.fieldLinkNest "ImageReader$Pairing" (44 : Nat) "ImageReader$Image" "count" "I" "ImageReader") ∈ av_nw := List.mem_filter.mpr ⟨List.mem_append_right _ (List.mem_of_getElem? (i := 75) (by decide +kernel)), by decide +kernel⟩
theorem nw_76 : (Jvm.Cond.fieldLinkNest "ImageReader" (86 : Nat) "ImageReader$Image" "count" "I" "ImageReader") ∈ av_nw := List.mem_filter.mpr ⟨List.mem_append_right _ (List.mem_of_getElem? (i := 76) (by decide +kernel)), by decide +kernel⟩
theorem nw_77 : (Jvm.Cond.fieldLinkNest "ImageReader$Form" (9 : Nat) "ImageReader$Image" "words" "I" "ImageReader") ∈ av_nw := List.mem_filter.mpr ⟨List.mem_append_right _ (List.mem_of_getElem? (i := 77) (by decide +kernel)), by decide +kernel⟩
theorem tw_78 : (Jvm.Cond.fieldLink "ImageReader$Image" (37 : Nat) "ImageReader$Image" "words" "I") ∈ av_tb := List.mem_filter.mpr ⟨List.mem_append_right _ (List.mem_of_getElem? (i := 78) (by decide +kernel)), by decide +kernel⟩
theorem nw_79 : (Jvm.Cond.fieldLinkNest "ImageReader" (89 : Nat) "ImageReader$Image" "words" "I" "ImageReader") ∈ av_nw := List.mem_filter.mpr ⟨List.mem_append_right _ (List.mem_of_getElem? (i := 79) (by decide +kernel)), by decide +kernel⟩
theorem nw_80 : (Jvm.Cond.fieldLinkNest "ImageReader$Form" (15 : Nat) "ImageReader$Image" "wordsPower" "I" "ImageReader") ∈ av_nw := List.mem_filter.mpr ⟨List.mem_append_right _ (List.mem_of_getElem? (i := 80) (by decide +kernel)), by decide +kernel⟩
theorem nw_81 : (Jvm.Cond.fieldLinkNest "ImageReader$Pairing" (25 : Nat) "ImageReader$Image" "wordsPower" "I" "ImageReader") ∈ av_nw := List.mem_filter.mpr ⟨List.mem_append_right _ (List.mem_of_getElem? (i := 81) (by decide +kernel)), by decide +kernel⟩
theorem nw_82 : (Jvm.Cond.fieldLinkNest "ImageReader$Layout" (38 : Nat) "ImageReader$Image" "wordsPower" "I" "ImageReader") ∈ av_nw := List.mem_filter.mpr ⟨List.mem_append_right _ (List.mem_of_getElem? (i := 82) (by decide +kernel)), by decide +kernel⟩
theorem nw_83 : (Jvm.Cond.fieldLinkNest "ImageReader" (180 : Nat) "ImageReader$Image" "wordsPower" "I" "ImageReader") ∈ av_nw := List.mem_filter.mpr ⟨List.mem_append_right _ (List.mem_of_getElem? (i := 83) (by decide +kernel)), by decide +kernel⟩
theorem nw_84 : (Jvm.Cond.fieldLinkNest "ImageReader$Pairing" (31 : Nat) "ImageReader$Image" "countPower" "I" "ImageReader") ∈ av_nw := List.mem_filter.mpr ⟨List.mem_append_right _ (List.mem_of_getElem? (i := 84) (by decide +kernel)), by decide +kernel⟩
theorem nw_85 : (Jvm.Cond.fieldLinkNest "ImageReader$Form" (21 : Nat) "ImageReader$Image" "countPower" "I" "ImageReader") ∈ av_nw := List.mem_filter.mpr ⟨List.mem_append_right _ (List.mem_of_getElem? (i := 85) (by decide +kernel)), by decide +kernel⟩
theorem nw_86 : (Jvm.Cond.fieldLinkNest "ImageReader$Layout" (41 : Nat) "ImageReader$Image" "countPower" "I" "ImageReader") ∈ av_nw := List.mem_filter.mpr ⟨List.mem_append_right _ (List.mem_of_getElem? (i := 86) (by decide +kernel)), by decide +kernel⟩
theorem nw_87 : (Jvm.Cond.fieldLinkNest "ImageReader" (183 : Nat) "ImageReader$Image" "countPower" "I" "ImageReader") ∈ av_nw := List.mem_filter.mpr ⟨List.mem_append_right _ (List.mem_of_getElem? (i := 87) (by decide +kernel)), by decide +kernel⟩
theorem tw_111 : (Jvm.Cond.arrayClass Jvm.ClassFile.FieldType.int) ∈ av_tb := List.mem_filter.mpr ⟨List.mem_append_right _ (List.mem_of_getElem? (i := 111) (by decide +kernel)), by decide +kernel⟩
theorem tw_112 : (Jvm.Cond.classLink "ImageReader" (29 : Nat) "ImageReader$Walk") ∈ av_tb := List.mem_filter.mpr ⟨List.mem_append_right _ (List.mem_of_getElem? (i := 112) (by decide +kernel)), by decide +kernel⟩
theorem tw_113 : (Jvm.Cond.instantiable "ImageReader$Walk" (3 : Nat)) ∈ av_tb := List.mem_filter.mpr ⟨List.mem_append_right _ (List.mem_of_getElem? (i := 113) (by decide +kernel)), by decide +kernel⟩
theorem nw_114 : (Jvm.Cond.methodLinkNest "ImageReader" (31 : Nat) ({ cls := "ImageReader$Walk", name := "<init>", desc := "()V" } : Jvm.MethodName) "ImageReader") ∈ av_nw := List.mem_filter.mpr ⟨List.mem_append_right _ (List.mem_of_getElem? (i := 114) (by decide +kernel)), by decide +kernel⟩
theorem tw_115 : (Jvm.Cond.instanceMethod ({ cls := "ImageReader$Walk", name := "<init>", desc := "()V" } : Jvm.MethodName)) ∈ av_tb := List.mem_filter.mpr ⟨List.mem_append_right _ (List.mem_of_getElem? (i := 115) (by decide +kernel)), by decide +kernel⟩
theorem tw_116 : (Jvm.Cond.code ({ cls := "ImageReader$Walk", name := "<init>", desc := "()V" } : Jvm.MethodName) prog_7_method_1_code (1 : Nat) (Option.none : Option Jvm.ClassFile.FieldType)) ∈ av_tb := List.mem_filter.mpr ⟨List.mem_append_right _ (List.mem_of_getElem? (i := 116) (by decide +kernel)), by decide +kernel⟩
theorem tw_117 : (Jvm.Cond.methodLink "ImageReader$Walk" (3 : Nat) ({ cls := "java/lang/Object", name := "<init>", desc := "()V" } : Jvm.MethodName)) ∈ av_tb := List.mem_filter.mpr ⟨List.mem_append_right _ (List.mem_of_getElem? (i := 117) (by decide +kernel)), by decide +kernel⟩
theorem tw_118 : (Jvm.Cond.fieldLink "ImageReader$Walk" (9 : Nat) "ImageReader$Walk" "numbers" "[I") ∈ av_tb := List.mem_filter.mpr ⟨List.mem_append_right _ (List.mem_of_getElem? (i := 118) (by decide +kernel)), by decide +kernel⟩
theorem nw_119 : (Jvm.Cond.fieldLinkNest "ImageReader" (137 : Nat) "ImageReader$Walk" "numbers" "[I" "ImageReader") ∈ av_nw := List.mem_filter.mpr ⟨List.mem_append_right _ (List.mem_of_getElem? (i := 119) (by decide +kernel)), by decide +kernel⟩
theorem tw_120 : (Jvm.Cond.fieldLink "ImageReader$Walk" (15 : Nat) "ImageReader$Walk" "queue" "[I") ∈ av_tb := List.mem_filter.mpr ⟨List.mem_append_right _ (List.mem_of_getElem? (i := 120) (by decide +kernel)), by decide +kernel⟩
theorem tw_121 : (Jvm.Cond.fieldLink "ImageReader$Walk" (35 : Nat) "ImageReader$Walk" "reached" "I") ∈ av_tb := List.mem_filter.mpr ⟨List.mem_append_right _ (List.mem_of_getElem? (i := 121) (by decide +kernel)), by decide +kernel⟩
theorem tw_129 : (Jvm.Cond.classLink "ImageReader" (36 : Nat) "ImageReader$Pairing") ∈ av_tb := List.mem_filter.mpr ⟨List.mem_append_right _ (List.mem_of_getElem? (i := 129) (by decide +kernel)), by decide +kernel⟩
theorem tw_130 : (Jvm.Cond.instantiable "ImageReader$Pairing" (4 : Nat)) ∈ av_tb := List.mem_filter.mpr ⟨List.mem_append_right _ (List.mem_of_getElem? (i := 130) (by decide +kernel)), by decide +kernel⟩
theorem nw_131 : (Jvm.Cond.methodLinkNest "ImageReader" (38 : Nat) ({ cls := "ImageReader$Pairing", name := "<init>", desc := "()V" } : Jvm.MethodName) "ImageReader") ∈ av_nw := List.mem_filter.mpr ⟨List.mem_append_right _ (List.mem_of_getElem? (i := 131) (by decide +kernel)), by decide +kernel⟩
theorem tw_132 : (Jvm.Cond.instanceMethod ({ cls := "ImageReader$Pairing", name := "<init>", desc := "()V" } : Jvm.MethodName)) ∈ av_tb := List.mem_filter.mpr ⟨List.mem_append_right _ (List.mem_of_getElem? (i := 132) (by decide +kernel)), by decide +kernel⟩
theorem tw_133 : (Jvm.Cond.code ({ cls := "ImageReader$Pairing", name := "<init>", desc := "()V" } : Jvm.MethodName) prog_6_method_1_code (1 : Nat) (Option.none : Option Jvm.ClassFile.FieldType)) ∈ av_tb := List.mem_filter.mpr ⟨List.mem_append_right _ (List.mem_of_getElem? (i := 133) (by decide +kernel)), by decide +kernel⟩
theorem tw_134 : (Jvm.Cond.methodLink "ImageReader$Pairing" (3 : Nat) ({ cls := "java/lang/Object", name := "<init>", desc := "()V" } : Jvm.MethodName)) ∈ av_tb := List.mem_filter.mpr ⟨List.mem_append_right _ (List.mem_of_getElem? (i := 134) (by decide +kernel)), by decide +kernel⟩
theorem tw_135 : (Jvm.Cond.fieldLink "ImageReader$Pairing" (9 : Nat) "ImageReader$Pairing" "partners" "[I") ∈ av_tb := List.mem_filter.mpr ⟨List.mem_append_right _ (List.mem_of_getElem? (i := 135) (by decide +kernel)), by decide +kernel⟩
theorem tw_136 : (Jvm.Cond.fieldLink "ImageReader$Pairing" (15 : Nat) "ImageReader$Pairing" "partnersBack" "[I") ∈ av_tb := List.mem_filter.mpr ⟨List.mem_append_right _ (List.mem_of_getElem? (i := 136) (by decide +kernel)), by decide +kernel⟩
theorem tw_137 : (Jvm.Cond.fieldLink "ImageReader$Pairing" (18 : Nat) "ImageReader$Pairing" "queue" "[I") ∈ av_tb := List.mem_filter.mpr ⟨List.mem_append_right _ (List.mem_of_getElem? (i := 137) (by decide +kernel)), by decide +kernel⟩
theorem tw_138 : (Jvm.Cond.fieldLink "ImageReader$Pairing" (41 : Nat) "ImageReader$Pairing" "paired" "I") ∈ av_tb := List.mem_filter.mpr ⟨List.mem_append_right _ (List.mem_of_getElem? (i := 138) (by decide +kernel)), by decide +kernel⟩
theorem tw_148 : (Jvm.Cond.fieldLink "ImageReader" (10 : Nat) "ImageReader" "incoming" "LImageReader$Bytes;") ∈ av_tb := List.mem_filter.mpr ⟨List.mem_append_right _ (List.mem_of_getElem? (i := 148) (by decide +kernel)), by decide +kernel⟩
theorem tw_149 : (Jvm.Cond.fieldLink "ImageReader" (19 : Nat) "ImageReader" "first" "LImageReader$Image;") ∈ av_tb := List.mem_filter.mpr ⟨List.mem_append_right _ (List.mem_of_getElem? (i := 149) (by decide +kernel)), by decide +kernel⟩
theorem tw_150 : (Jvm.Cond.fieldLink "ImageReader" (23 : Nat) "ImageReader" "second" "LImageReader$Image;") ∈ av_tb := List.mem_filter.mpr ⟨List.mem_append_right _ (List.mem_of_getElem? (i := 150) (by decide +kernel)), by decide +kernel⟩
theorem tw_151 : (Jvm.Cond.fieldLink "ImageReader" (26 : Nat) "ImageReader" "third" "LImageReader$Image;") ∈ av_tb := List.mem_filter.mpr ⟨List.mem_append_right _ (List.mem_of_getElem? (i := 151) (by decide +kernel)), by decide +kernel⟩
theorem tw_152 : (Jvm.Cond.fieldLink "ImageReader" (32 : Nat) "ImageReader" "walk" "LImageReader$Walk;") ∈ av_tb := List.mem_filter.mpr ⟨List.mem_append_right _ (List.mem_of_getElem? (i := 152) (by decide +kernel)), by decide +kernel⟩
theorem tw_153 : (Jvm.Cond.fieldLink "ImageReader" (39 : Nat) "ImageReader" "pairing" "LImageReader$Pairing;") ∈ av_tb := List.mem_filter.mpr ⟨List.mem_append_right _ (List.mem_of_getElem? (i := 153) (by decide +kernel)), by decide +kernel⟩
theorem tw_154 : (Jvm.Cond.fieldLink "ImageReader" (43 : Nat) "ImageReader" "hand" "LImageReader$Image;") ∈ av_tb := List.mem_filter.mpr ⟨List.mem_append_right _ (List.mem_of_getElem? (i := 154) (by decide +kernel)), by decide +kernel⟩
theorem tw_155 : (Jvm.Cond.fieldLink "ImageReader" (46 : Nat) "ImageReader" "kept" "LImageReader$Image;") ∈ av_tb := List.mem_filter.mpr ⟨List.mem_append_right _ (List.mem_of_getElem? (i := 155) (by decide +kernel)), by decide +kernel⟩
theorem tw_173 : (Jvm.Cond.methodLink "ImageReaderLaw" (39 : Nat) ({ cls := "ImageReader", name := "change", desc := "(II)I" } : Jvm.MethodName)) ∈ av_tb := List.mem_filter.mpr ⟨List.mem_append_right _ (List.mem_of_getElem? (i := 173) (by decide +kernel)), by decide +kernel⟩
theorem tw_174 : (Jvm.Cond.instanceMethod ({ cls := "ImageReader", name := "change", desc := "(II)I" } : Jvm.MethodName)) ∈ av_tb := List.mem_filter.mpr ⟨List.mem_append_right _ (List.mem_of_getElem? (i := 174) (by decide +kernel)), by decide +kernel⟩
theorem tw_175 : (Jvm.Cond.selects "ImageReader" ({ cls := "ImageReader", name := "change", desc := "(II)I" } : Jvm.MethodName) ({ cls := "ImageReader", name := "change", desc := "(II)I" } : Jvm.MethodName)) ∈ av_tb := List.mem_filter.mpr ⟨List.mem_append_right _ (List.mem_of_getElem? (i := 175) (by decide +kernel)), by decide +kernel⟩
theorem tw_176 : (Jvm.Cond.code ({ cls := "ImageReader", name := "change", desc := "(II)I" } : Jvm.MethodName) prog_1_method_4_code (4 : Nat) (Option.some Jvm.ClassFile.FieldType.int)) ∈ av_tb := List.mem_filter.mpr ⟨List.mem_append_right _ (List.mem_of_getElem? (i := 176) (by decide +kernel)), by decide +kernel⟩
theorem nw_177 : (Jvm.Cond.methodLinkNest "ImageReader" (70 : Nat) ({ cls := "ImageReader$Bytes", name := "at", desc := "(I)I" } : Jvm.MethodName) "ImageReader") ∈ av_nw := List.mem_filter.mpr ⟨List.mem_append_right _ (List.mem_of_getElem? (i := 177) (by decide +kernel)), by decide +kernel⟩
theorem tw_179 : (Jvm.Cond.instanceMethod ({ cls := "ImageReader$Bytes", name := "at", desc := "(I)I" } : Jvm.MethodName)) ∈ av_tb := List.mem_filter.mpr ⟨List.mem_append_right _ (List.mem_of_getElem? (i := 179) (by decide +kernel)), by decide +kernel⟩
theorem tw_180 : (Jvm.Cond.code ({ cls := "ImageReader$Bytes", name := "at", desc := "(I)I" } : Jvm.MethodName) prog_2_method_2_code (2 : Nat) (Option.some Jvm.ClassFile.FieldType.int)) ∈ av_tb := List.mem_filter.mpr ⟨List.mem_append_right _ (List.mem_of_getElem? (i := 180) (by decide +kernel)), by decide +kernel⟩
theorem tw_181 : (Jvm.Cond.methodLink "ImageReaderLaw" (44 : Nat) ({ cls := "ImageReader", name := "read", desc := "()I" } : Jvm.MethodName)) ∈ av_tb := List.mem_filter.mpr ⟨List.mem_append_right _ (List.mem_of_getElem? (i := 181) (by decide +kernel)), by decide +kernel⟩
theorem tw_182 : (Jvm.Cond.instanceMethod ({ cls := "ImageReader", name := "read", desc := "()I" } : Jvm.MethodName)) ∈ av_tb := List.mem_filter.mpr ⟨List.mem_append_right _ (List.mem_of_getElem? (i := 182) (by decide +kernel)), by decide +kernel⟩
theorem tw_183 : (Jvm.Cond.selects "ImageReader" ({ cls := "ImageReader", name := "read", desc := "()I" } : Jvm.MethodName) ({ cls := "ImageReader", name := "read", desc := "()I" } : Jvm.MethodName)) ∈ av_tb := List.mem_filter.mpr ⟨List.mem_append_right _ (List.mem_of_getElem? (i := 183) (by decide +kernel)), by decide +kernel⟩
theorem tw_184 : (Jvm.Cond.code ({ cls := "ImageReader", name := "read", desc := "()I" } : Jvm.MethodName) prog_1_method_5_code (3 : Nat) (Option.some Jvm.ClassFile.FieldType.int)) ∈ av_tb := List.mem_filter.mpr ⟨List.mem_append_right _ (List.mem_of_getElem? (i := 184) (by decide +kernel)), by decide +kernel⟩
theorem tw_185 : (Jvm.Cond.methodLink "ImageReader" (78 : Nat) ({ cls := "ImageReader", name := "spareImage", desc := "()LImageReader$Image;" } : Jvm.MethodName)) ∈ av_tb := List.mem_filter.mpr ⟨List.mem_append_right _ (List.mem_of_getElem? (i := 185) (by decide +kernel)), by decide +kernel⟩
theorem tw_187 : (Jvm.Cond.instanceMethod ({ cls := "ImageReader", name := "spareImage", desc := "()LImageReader$Image;" } : Jvm.MethodName)) ∈ av_tb := List.mem_filter.mpr ⟨List.mem_append_right _ (List.mem_of_getElem? (i := 187) (by decide +kernel)), by decide +kernel⟩
theorem tw_188 : (Jvm.Cond.code ({ cls := "ImageReader", name := "spareImage", desc := "()LImageReader$Image;" } : Jvm.MethodName) prog_1_method_19_code (1 : Nat) (Option.some (Jvm.ClassFile.FieldType.object "ImageReader$Image"))) ∈ av_tb := List.mem_filter.mpr ⟨List.mem_append_right _ (List.mem_of_getElem? (i := 188) (by decide +kernel)), by decide +kernel⟩
theorem tw_189 : (Jvm.Cond.methodLink "ImageReader" (82 : Nat) ({ cls := "ImageReader", name := "placeOfRefusal", desc := "(LImageReader$Image;)I" } : Jvm.MethodName)) ∈ av_tb := List.mem_filter.mpr ⟨List.mem_append_right _ (List.mem_of_getElem? (i := 189) (by decide +kernel)), by decide +kernel⟩
theorem tw_191 : (Jvm.Cond.instanceMethod ({ cls := "ImageReader", name := "placeOfRefusal", desc := "(LImageReader$Image;)I" } : Jvm.MethodName)) ∈ av_tb := List.mem_filter.mpr ⟨List.mem_append_right _ (List.mem_of_getElem? (i := 191) (by decide +kernel)), by decide +kernel⟩
theorem tw_192 : (Jvm.Cond.code ({ cls := "ImageReader", name := "placeOfRefusal", desc := "(LImageReader$Image;)I" } : Jvm.MethodName) prog_1_method_20_code (3 : Nat) (Option.some Jvm.ClassFile.FieldType.int)) ∈ av_tb := List.mem_filter.mpr ⟨List.mem_append_right _ (List.mem_of_getElem? (i := 192) (by decide +kernel)), by decide +kernel⟩
theorem nw_193 : (Jvm.Cond.methodLinkNest "ImageReader" (147 : Nat) ({ cls := "ImageReader$Layout", name := "headPlace", desc := "(LImageReader$Bytes;)I" } : Jvm.MethodName) "ImageReader") ∈ av_nw := List.mem_filter.mpr ⟨List.mem_append_right _ (List.mem_of_getElem? (i := 193) (by decide +kernel)), by decide +kernel⟩
theorem tw_194 : (Jvm.Cond.static ({ cls := "ImageReader$Layout", name := "headPlace", desc := "(LImageReader$Bytes;)I" } : Jvm.MethodName)) ∈ av_tb := List.mem_filter.mpr ⟨List.mem_append_right _ (List.mem_of_getElem? (i := 194) (by decide +kernel)), by decide +kernel⟩
theorem tw_195 : (Jvm.Cond.code ({ cls := "ImageReader$Layout", name := "headPlace", desc := "(LImageReader$Bytes;)I" } : Jvm.MethodName) prog_5_method_2_code (3 : Nat) (Option.some Jvm.ClassFile.FieldType.int)) ∈ av_tb := List.mem_filter.mpr ⟨List.mem_append_right _ (List.mem_of_getElem? (i := 195) (by decide +kernel)), by decide +kernel⟩
theorem nw_198 : (Jvm.Cond.methodLinkNest "ImageReader$Layout" (13 : Nat) ({ cls := "ImageReader$Bytes", name := "at", desc := "(I)I" } : Jvm.MethodName) "ImageReader") ∈ av_nw := List.mem_filter.mpr ⟨List.mem_append_right _ (List.mem_of_getElem? (i := 198) (by decide +kernel)), by decide +kernel⟩
theorem nw_201 : (Jvm.Cond.methodLinkNest "ImageReader$Layout" (22 : Nat) ({ cls := "ImageReader$Bytes", name := "reaches", desc := "(II)Z" } : Jvm.MethodName) "ImageReader") ∈ av_nw := List.mem_filter.mpr ⟨List.mem_append_right _ (List.mem_of_getElem? (i := 201) (by decide +kernel)), by decide +kernel⟩
theorem tw_203 : (Jvm.Cond.instanceMethod ({ cls := "ImageReader$Bytes", name := "reaches", desc := "(II)Z" } : Jvm.MethodName)) ∈ av_tb := List.mem_filter.mpr ⟨List.mem_append_right _ (List.mem_of_getElem? (i := 203) (by decide +kernel)), by decide +kernel⟩
theorem tw_204 : (Jvm.Cond.code ({ cls := "ImageReader$Bytes", name := "reaches", desc := "(II)Z" } : Jvm.MethodName) prog_2_method_3_code (3 : Nat) (Option.some Jvm.ClassFile.FieldType.boolean)) ∈ av_tb := List.mem_filter.mpr ⟨List.mem_append_right _ (List.mem_of_getElem? (i := 204) (by decide +kernel)), by decide +kernel⟩
theorem nw_205 : (Jvm.Cond.methodLinkNest "ImageReader$Layout" (30 : Nat) ({ cls := "ImageReader$Bytes", name := "pairAt", desc := "(I)I" } : Jvm.MethodName) "ImageReader") ∈ av_nw := List.mem_filter.mpr ⟨List.mem_append_right _ (List.mem_of_getElem? (i := 205) (by decide +kernel)), by decide +kernel⟩
theorem tw_207 : (Jvm.Cond.instanceMethod ({ cls := "ImageReader$Bytes", name := "pairAt", desc := "(I)I" } : Jvm.MethodName)) ∈ av_tb := List.mem_filter.mpr ⟨List.mem_append_right _ (List.mem_of_getElem? (i := 207) (by decide +kernel)), by decide +kernel⟩
theorem tw_208 : (Jvm.Cond.code ({ cls := "ImageReader$Bytes", name := "pairAt", desc := "(I)I" } : Jvm.MethodName) prog_2_method_4_code (2 : Nat) (Option.some Jvm.ClassFile.FieldType.int)) ∈ av_tb := List.mem_filter.mpr ⟨List.mem_append_right _ (List.mem_of_getElem? (i := 208) (by decide +kernel)), by decide +kernel⟩
theorem tw_209 : (Jvm.Cond.methodLink "ImageReader$Bytes" (19 : Nat) ({ cls := "ImageReader$Bytes", name := "at", desc := "(I)I" } : Jvm.MethodName)) ∈ av_tb := List.mem_filter.mpr ⟨List.mem_append_right _ (List.mem_of_getElem? (i := 209) (by decide +kernel)), by decide +kernel⟩
theorem nw_210 : (Jvm.Cond.methodLinkNest "ImageReader" (153 : Nat) ({ cls := "ImageReader$Layout", name := "takeSpecials", desc := "(LImageReader$Bytes;LImageReader$Image;)I" } : Jvm.MethodName) "ImageReader") ∈ av_nw := List.mem_filter.mpr ⟨List.mem_append_right _ (List.mem_of_getElem? (i := 210) (by decide +kernel)), by decide +kernel⟩
theorem tw_211 : (Jvm.Cond.static ({ cls := "ImageReader$Layout", name := "takeSpecials", desc := "(LImageReader$Bytes;LImageReader$Image;)I" } : Jvm.MethodName)) ∈ av_tb := List.mem_filter.mpr ⟨List.mem_append_right _ (List.mem_of_getElem? (i := 211) (by decide +kernel)), by decide +kernel⟩
theorem tw_212 : (Jvm.Cond.code ({ cls := "ImageReader$Layout", name := "takeSpecials", desc := "(LImageReader$Bytes;LImageReader$Image;)I" } : Jvm.MethodName) prog_5_method_3_code (5 : Nat) (Option.some Jvm.ClassFile.FieldType.int)) ∈ av_tb := List.mem_filter.mpr ⟨List.mem_append_right _ (List.mem_of_getElem? (i := 212) (by decide +kernel)), by decide +kernel⟩
theorem nw_213 : (Jvm.Cond.methodLinkNest "ImageReader$Layout" (33 : Nat) ({ cls := "ImageReader$Image", name := "clear", desc := "()V" } : Jvm.MethodName) "ImageReader") ∈ av_nw := List.mem_filter.mpr ⟨List.mem_append_right _ (List.mem_of_getElem? (i := 213) (by decide +kernel)), by decide +kernel⟩
theorem tw_215 : (Jvm.Cond.instanceMethod ({ cls := "ImageReader$Image", name := "clear", desc := "()V" } : Jvm.MethodName)) ∈ av_tb := List.mem_filter.mpr ⟨List.mem_append_right _ (List.mem_of_getElem? (i := 215) (by decide +kernel)), by decide +kernel⟩
theorem tw_216 : (Jvm.Cond.code ({ cls := "ImageReader$Image", name := "clear", desc := "()V" } : Jvm.MethodName) prog_4_method_2_code (1 : Nat) (Option.none : Option Jvm.ClassFile.FieldType)) ∈ av_tb := List.mem_filter.mpr ⟨List.mem_append_right _ (List.mem_of_getElem? (i := 216) (by decide +kernel)), by decide +kernel⟩
theorem tw_217 : (Jvm.Cond.methodLink "ImageReader$Layout" (44 : Nat) ({ cls := "ImageReader$Layout", name := "isValueAt", desc := "(LImageReader$Bytes;II)Z" } : Jvm.MethodName)) ∈ av_tb := List.mem_filter.mpr ⟨List.mem_append_right _ (List.mem_of_getElem? (i := 217) (by decide +kernel)), by decide +kernel⟩
theorem tw_218 : (Jvm.Cond.static ({ cls := "ImageReader$Layout", name := "isValueAt", desc := "(LImageReader$Bytes;II)Z" } : Jvm.MethodName)) ∈ av_tb := List.mem_filter.mpr ⟨List.mem_append_right _ (List.mem_of_getElem? (i := 218) (by decide +kernel)), by decide +kernel⟩
theorem tw_219 : (Jvm.Cond.code ({ cls := "ImageReader$Layout", name := "isValueAt", desc := "(LImageReader$Bytes;II)Z" } : Jvm.MethodName) prog_5_method_9_code (4 : Nat) (Option.some Jvm.ClassFile.FieldType.boolean)) ∈ av_tb := List.mem_filter.mpr ⟨List.mem_append_right _ (List.mem_of_getElem? (i := 219) (by decide +kernel)), by decide +kernel⟩
theorem nw_220 : (Jvm.Cond.methodLinkNest "ImageReader$Layout" (53 : Nat) ({ cls := "ImageReader$Bytes", name := "wordAt", desc := "(I)I" } : Jvm.MethodName) "ImageReader") ∈ av_nw := List.mem_filter.mpr ⟨List.mem_append_right _ (List.mem_of_getElem? (i := 220) (by decide +kernel)), by decide +kernel⟩
theorem tw_222 : (Jvm.Cond.instanceMethod ({ cls := "ImageReader$Bytes", name := "wordAt", desc := "(I)I" } : Jvm.MethodName)) ∈ av_tb := List.mem_filter.mpr ⟨List.mem_append_right _ (List.mem_of_getElem? (i := 222) (by decide +kernel)), by decide +kernel⟩
theorem tw_223 : (Jvm.Cond.code ({ cls := "ImageReader$Bytes", name := "wordAt", desc := "(I)I" } : Jvm.MethodName) prog_2_method_5_code (2 : Nat) (Option.some Jvm.ClassFile.FieldType.int)) ∈ av_tb := List.mem_filter.mpr ⟨List.mem_append_right _ (List.mem_of_getElem? (i := 223) (by decide +kernel)), by decide +kernel⟩
theorem nw_224 : (Jvm.Cond.methodLinkNest "ImageReader$Layout" (80 : Nat) ({ cls := "ImageReader", name := "isNumber", desc := "(I)Z" } : Jvm.MethodName) "ImageReader") ∈ av_nw := List.mem_filter.mpr ⟨List.mem_append_right _ (List.mem_of_getElem? (i := 224) (by decide +kernel)), by decide +kernel⟩
theorem tw_225 : (Jvm.Cond.static ({ cls := "ImageReader", name := "isNumber", desc := "(I)Z" } : Jvm.MethodName)) ∈ av_tb := List.mem_filter.mpr ⟨List.mem_append_right _ (List.mem_of_getElem? (i := 225) (by decide +kernel)), by decide +kernel⟩
theorem tw_226 : (Jvm.Cond.code ({ cls := "ImageReader", name := "isNumber", desc := "(I)Z" } : Jvm.MethodName) prog_1_method_23_code (1 : Nat) (Option.some Jvm.ClassFile.FieldType.boolean)) ∈ av_tb := List.mem_filter.mpr ⟨List.mem_append_right _ (List.mem_of_getElem? (i := 226) (by decide +kernel)), by decide +kernel⟩
theorem nw_227 : (Jvm.Cond.methodLinkNest "ImageReader" (157 : Nat) ({ cls := "ImageReader$Layout", name := "takeObjects", desc := "(LImageReader$Bytes;LImageReader$Image;)I" } : Jvm.MethodName) "ImageReader") ∈ av_nw := List.mem_filter.mpr ⟨List.mem_append_right _ (List.mem_of_getElem? (i := 227) (by decide +kernel)), by decide +kernel⟩
theorem tw_228 : (Jvm.Cond.static ({ cls := "ImageReader$Layout", name := "takeObjects", desc := "(LImageReader$Bytes;LImageReader$Image;)I" } : Jvm.MethodName)) ∈ av_tb := List.mem_filter.mpr ⟨List.mem_append_right _ (List.mem_of_getElem? (i := 228) (by decide +kernel)), by decide +kernel⟩
theorem tw_229 : (Jvm.Cond.code ({ cls := "ImageReader$Layout", name := "takeObjects", desc := "(LImageReader$Bytes;LImageReader$Image;)I" } : Jvm.MethodName) prog_5_method_4_code (8 : Nat) (Option.some Jvm.ClassFile.FieldType.int)) ∈ av_tb := List.mem_filter.mpr ⟨List.mem_append_right _ (List.mem_of_getElem? (i := 229) (by decide +kernel)), by decide +kernel⟩
theorem tw_230 : (Jvm.Cond.methodLink "ImageReader$Layout" (56 : Nat) ({ cls := "ImageReader$Layout", name := "objectHeadPlace", desc := "(LImageReader$Bytes;II)I" } : Jvm.MethodName)) ∈ av_tb := List.mem_filter.mpr ⟨List.mem_append_right _ (List.mem_of_getElem? (i := 230) (by decide +kernel)), by decide +kernel⟩
theorem tw_231 : (Jvm.Cond.static ({ cls := "ImageReader$Layout", name := "objectHeadPlace", desc := "(LImageReader$Bytes;II)I" } : Jvm.MethodName)) ∈ av_tb := List.mem_filter.mpr ⟨List.mem_append_right _ (List.mem_of_getElem? (i := 231) (by decide +kernel)), by decide +kernel⟩
theorem tw_232 : (Jvm.Cond.code ({ cls := "ImageReader$Layout", name := "objectHeadPlace", desc := "(LImageReader$Bytes;II)I" } : Jvm.MethodName) prog_5_method_5_code (4 : Nat) (Option.some Jvm.ClassFile.FieldType.int)) ∈ av_tb := List.mem_filter.mpr ⟨List.mem_append_right _ (List.mem_of_getElem? (i := 232) (by decide +kernel)), by decide +kernel⟩
theorem nw_233 : (Jvm.Cond.methodLinkNest "ImageReader$Layout" (60 : Nat) ({ cls := "ImageReader$Image", name := "addObject", desc := "(III)V" } : Jvm.MethodName) "ImageReader") ∈ av_nw := List.mem_filter.mpr ⟨List.mem_append_right _ (List.mem_of_getElem? (i := 233) (by decide +kernel)), by decide +kernel⟩
theorem tw_235 : (Jvm.Cond.instanceMethod ({ cls := "ImageReader$Image", name := "addObject", desc := "(III)V" } : Jvm.MethodName)) ∈ av_tb := List.mem_filter.mpr ⟨List.mem_append_right _ (List.mem_of_getElem? (i := 235) (by decide +kernel)), by decide +kernel⟩
theorem tw_236 : (Jvm.Cond.code ({ cls := "ImageReader$Image", name := "addObject", desc := "(III)V" } : Jvm.MethodName) prog_4_method_3_code (5 : Nat) (Option.none : Option Jvm.ClassFile.FieldType)) ∈ av_tb := List.mem_filter.mpr ⟨List.mem_append_right _ (List.mem_of_getElem? (i := 236) (by decide +kernel)), by decide +kernel⟩
theorem tw_237 : (Jvm.Cond.methodLink "ImageReader$Image" (40 : Nat) ({ cls := "java/util/Arrays", name := "copyOf", desc := "([II)[I" } : Jvm.MethodName)) ∈ av_tb := List.mem_filter.mpr ⟨List.mem_append_right _ (List.mem_of_getElem? (i := 237) (by decide +kernel)), by decide +kernel⟩
theorem tw_238 : (Jvm.Cond.static ({ cls := "java/util/Arrays", name := "copyOf", desc := "([II)[I" } : Jvm.MethodName)) ∈ av_tb := List.mem_filter.mpr ⟨List.mem_append_right _ (List.mem_of_getElem? (i := 238) (by decide +kernel)), by decide +kernel⟩
theorem tw_239 : (Jvm.Cond.code ({ cls := "java/util/Arrays", name := "copyOf", desc := "([II)[I" } : Jvm.MethodName) prog_19_method_123_code (3 : Nat) (Option.some (Jvm.ClassFile.FieldType.array Jvm.ClassFile.FieldType.int))) ∈ av_tb := List.mem_filter.mpr ⟨List.mem_append_right _ (List.mem_of_getElem? (i := 239) (by decide +kernel)), by decide +kernel⟩
theorem tw_242 : (Jvm.Cond.native ({ cls := "java/lang/Object", name := "clone", desc := "()Ljava/lang/Object;" } : Jvm.MethodName)) ∈ av_tb := List.mem_filter.mpr ⟨List.mem_append_right _ (List.mem_of_getElem? (i := 242) (by decide +kernel)), by decide +kernel⟩
theorem tw_247 : (Jvm.Cond.methodLink "java/util/Arrays" (304 : Nat) ({ cls := "java/lang/Math", name := "min", desc := "(II)I" } : Jvm.MethodName)) ∈ av_tb := List.mem_filter.mpr ⟨List.mem_append_right _ (List.mem_of_getElem? (i := 247) (by decide +kernel)), by decide +kernel⟩
theorem tw_248 : (Jvm.Cond.static ({ cls := "java/lang/Math", name := "min", desc := "(II)I" } : Jvm.MethodName)) ∈ av_tb := List.mem_filter.mpr ⟨List.mem_append_right _ (List.mem_of_getElem? (i := 248) (by decide +kernel)), by decide +kernel⟩
theorem tw_249 : (Jvm.Cond.code ({ cls := "java/lang/Math", name := "min", desc := "(II)I" } : Jvm.MethodName) prog_14_method_69_code (2 : Nat) (Option.some Jvm.ClassFile.FieldType.int)) ∈ av_tb := List.mem_filter.mpr ⟨List.mem_append_right _ (List.mem_of_getElem? (i := 249) (by decide +kernel)), by decide +kernel⟩
theorem tw_251 : (Jvm.Cond.static ({ cls := "java/lang/System", name := "arraycopy", desc := "(Ljava/lang/Object;ILjava/lang/Object;II)V" } : Jvm.MethodName)) ∈ av_tb := List.mem_filter.mpr ⟨List.mem_append_right _ (List.mem_of_getElem? (i := 251) (by decide +kernel)), by decide +kernel⟩
theorem tw_252 : (Jvm.Cond.native ({ cls := "java/lang/System", name := "arraycopy", desc := "(Ljava/lang/Object;ILjava/lang/Object;II)V" } : Jvm.MethodName)) ∈ av_tb := List.mem_filter.mpr ⟨List.mem_append_right _ (List.mem_of_getElem? (i := 252) (by decide +kernel)), by decide +kernel⟩
theorem tw_253 : (Jvm.Cond.methodLink "ImageReader$Layout" (64 : Nat) ({ cls := "ImageReader$Layout", name := "takeBytes", desc := "(LImageReader$Bytes;IILImageReader$Image;)I" } : Jvm.MethodName)) ∈ av_tb := List.mem_filter.mpr ⟨List.mem_append_right _ (List.mem_of_getElem? (i := 253) (by decide +kernel)), by decide +kernel⟩
theorem tw_254 : (Jvm.Cond.static ({ cls := "ImageReader$Layout", name := "takeBytes", desc := "(LImageReader$Bytes;IILImageReader$Image;)I" } : Jvm.MethodName)) ∈ av_tb := List.mem_filter.mpr ⟨List.mem_append_right _ (List.mem_of_getElem? (i := 254) (by decide +kernel)), by decide +kernel⟩
theorem tw_255 : (Jvm.Cond.code ({ cls := "ImageReader$Layout", name := "takeBytes", desc := "(LImageReader$Bytes;IILImageReader$Image;)I" } : Jvm.MethodName) prog_5_method_6_code (5 : Nat) (Option.some Jvm.ClassFile.FieldType.int)) ∈ av_tb := List.mem_filter.mpr ⟨List.mem_append_right _ (List.mem_of_getElem? (i := 255) (by decide +kernel)), by decide +kernel⟩
theorem nw_256 : (Jvm.Cond.methodLinkNest "ImageReader$Layout" (76 : Nat) ({ cls := "ImageReader$Image", name := "addPart", desc := "(I)V" } : Jvm.MethodName) "ImageReader") ∈ av_nw := List.mem_filter.mpr ⟨List.mem_append_right _ (List.mem_of_getElem? (i := 256) (by decide +kernel)), by decide +kernel⟩
theorem tw_258 : (Jvm.Cond.instanceMethod ({ cls := "ImageReader$Image", name := "addPart", desc := "(I)V" } : Jvm.MethodName)) ∈ av_tb := List.mem_filter.mpr ⟨List.mem_append_right _ (List.mem_of_getElem? (i := 258) (by decide +kernel)), by decide +kernel⟩
theorem tw_259 : (Jvm.Cond.code ({ cls := "ImageReader$Image", name := "addPart", desc := "(I)V" } : Jvm.MethodName) prog_4_method_4_code (2 : Nat) (Option.none : Option Jvm.ClassFile.FieldType)) ∈ av_tb := List.mem_filter.mpr ⟨List.mem_append_right _ (List.mem_of_getElem? (i := 259) (by decide +kernel)), by decide +kernel⟩
theorem tw_260 : (Jvm.Cond.methodLink "ImageReader$Layout" (68 : Nat) ({ cls := "ImageReader$Layout", name := "takeFields", desc := "(LImageReader$Bytes;IIILImageReader$Image;)I" } : Jvm.MethodName)) ∈ av_tb := List.mem_filter.mpr ⟨List.mem_append_right _ (List.mem_of_getElem? (i := 260) (by decide +kernel)), by decide +kernel⟩
theorem tw_261 : (Jvm.Cond.static ({ cls := "ImageReader$Layout", name := "takeFields", desc := "(LImageReader$Bytes;IIILImageReader$Image;)I" } : Jvm.MethodName)) ∈ av_tb := List.mem_filter.mpr ⟨List.mem_append_right _ (List.mem_of_getElem? (i := 261) (by decide +kernel)), by decide +kernel⟩
theorem tw_262 : (Jvm.Cond.code ({ cls := "ImageReader$Layout", name := "takeFields", desc := "(LImageReader$Bytes;IIILImageReader$Image;)I" } : Jvm.MethodName) prog_5_method_7_code (7 : Nat) (Option.some Jvm.ClassFile.FieldType.int)) ∈ av_tb := List.mem_filter.mpr ⟨List.mem_append_right _ (List.mem_of_getElem? (i := 262) (by decide +kernel)), by decide +kernel⟩
theorem tw_263 : (Jvm.Cond.methodLink "ImageReader$Layout" (72 : Nat) ({ cls := "ImageReader$Layout", name := "bodyLength", desc := "(II)I" } : Jvm.MethodName)) ∈ av_tb := List.mem_filter.mpr ⟨List.mem_append_right _ (List.mem_of_getElem? (i := 263) (by decide +kernel)), by decide +kernel⟩
theorem tw_264 : (Jvm.Cond.static ({ cls := "ImageReader$Layout", name := "bodyLength", desc := "(II)I" } : Jvm.MethodName)) ∈ av_tb := List.mem_filter.mpr ⟨List.mem_append_right _ (List.mem_of_getElem? (i := 264) (by decide +kernel)), by decide +kernel⟩
theorem tw_265 : (Jvm.Cond.code ({ cls := "ImageReader$Layout", name := "bodyLength", desc := "(II)I" } : Jvm.MethodName) prog_5_method_8_code (2 : Nat) (Option.some Jvm.ClassFile.FieldType.int)) ∈ av_tb := List.mem_filter.mpr ⟨List.mem_append_right _ (List.mem_of_getElem? (i := 265) (by decide +kernel)), by decide +kernel⟩
theorem nw_266 : (Jvm.Cond.methodLinkNest "ImageReader" (160 : Nat) ({ cls := "ImageReader$Form", name := "roomPlace", desc := "(LImageReader$Image;)I" } : Jvm.MethodName) "ImageReader") ∈ av_nw := List.mem_filter.mpr ⟨List.mem_append_right _ (List.mem_of_getElem? (i := 266) (by decide +kernel)), by decide +kernel⟩
theorem tw_267 : (Jvm.Cond.static ({ cls := "ImageReader$Form", name := "roomPlace", desc := "(LImageReader$Image;)I" } : Jvm.MethodName)) ∈ av_tb := List.mem_filter.mpr ⟨List.mem_append_right _ (List.mem_of_getElem? (i := 267) (by decide +kernel)), by decide +kernel⟩
theorem tw_268 : (Jvm.Cond.code ({ cls := "ImageReader$Form", name := "roomPlace", desc := "(LImageReader$Image;)I" } : Jvm.MethodName) prog_3_method_2_code (1 : Nat) (Option.some Jvm.ClassFile.FieldType.int)) ∈ av_tb := List.mem_filter.mpr ⟨List.mem_append_right _ (List.mem_of_getElem? (i := 268) (by decide +kernel)), by decide +kernel⟩
theorem nw_269 : (Jvm.Cond.methodLinkNest "ImageReader" (165 : Nat) ({ cls := "ImageReader$Form", name := "specialsPlace", desc := "(LImageReader$Image;)I" } : Jvm.MethodName) "ImageReader") ∈ av_nw := List.mem_filter.mpr ⟨List.mem_append_right _ (List.mem_of_getElem? (i := 269) (by decide +kernel)), by decide +kernel⟩
theorem tw_270 : (Jvm.Cond.static ({ cls := "ImageReader$Form", name := "specialsPlace", desc := "(LImageReader$Image;)I" } : Jvm.MethodName)) ∈ av_tb := List.mem_filter.mpr ⟨List.mem_append_right _ (List.mem_of_getElem? (i := 270) (by decide +kernel)), by decide +kernel⟩
theorem tw_271 : (Jvm.Cond.code ({ cls := "ImageReader$Form", name := "specialsPlace", desc := "(LImageReader$Image;)I" } : Jvm.MethodName) prog_3_method_3_code (2 : Nat) (Option.some Jvm.ClassFile.FieldType.int)) ∈ av_tb := List.mem_filter.mpr ⟨List.mem_append_right _ (List.mem_of_getElem? (i := 271) (by decide +kernel)), by decide +kernel⟩
theorem tw_272 : (Jvm.Cond.methodLink "ImageReader$Form" (24 : Nat) ({ cls := "ImageReader$Form", name := "isSpecialFit", desc := "(LImageReader$Image;I)Z" } : Jvm.MethodName)) ∈ av_tb := List.mem_filter.mpr ⟨List.mem_append_right _ (List.mem_of_getElem? (i := 272) (by decide +kernel)), by decide +kernel⟩
theorem tw_273 : (Jvm.Cond.static ({ cls := "ImageReader$Form", name := "isSpecialFit", desc := "(LImageReader$Image;I)Z" } : Jvm.MethodName)) ∈ av_tb := List.mem_filter.mpr ⟨List.mem_append_right _ (List.mem_of_getElem? (i := 273) (by decide +kernel)), by decide +kernel⟩
theorem tw_274 : (Jvm.Cond.code ({ cls := "ImageReader$Form", name := "isSpecialFit", desc := "(LImageReader$Image;I)Z" } : Jvm.MethodName) prog_3_method_4_code (3 : Nat) (Option.some Jvm.ClassFile.FieldType.boolean)) ∈ av_tb := List.mem_filter.mpr ⟨List.mem_append_right _ (List.mem_of_getElem? (i := 274) (by decide +kernel)), by decide +kernel⟩
theorem nw_275 : (Jvm.Cond.methodLinkNest "ImageReader$Form" (30 : Nat) ({ cls := "ImageReader$Image", name := "specialAt", desc := "(I)I" } : Jvm.MethodName) "ImageReader") ∈ av_nw := List.mem_filter.mpr ⟨List.mem_append_right _ (List.mem_of_getElem? (i := 275) (by decide +kernel)), by decide +kernel⟩
theorem tw_277 : (Jvm.Cond.instanceMethod ({ cls := "ImageReader$Image", name := "specialAt", desc := "(I)I" } : Jvm.MethodName)) ∈ av_tb := List.mem_filter.mpr ⟨List.mem_append_right _ (List.mem_of_getElem? (i := 277) (by decide +kernel)), by decide +kernel⟩
theorem tw_278 : (Jvm.Cond.code ({ cls := "ImageReader$Image", name := "specialAt", desc := "(I)I" } : Jvm.MethodName) prog_4_method_7_code (2 : Nat) (Option.some Jvm.ClassFile.FieldType.int)) ∈ av_tb := List.mem_filter.mpr ⟨List.mem_append_right _ (List.mem_of_getElem? (i := 278) (by decide +kernel)), by decide +kernel⟩
theorem nw_279 : (Jvm.Cond.methodLinkNest "ImageReader$Form" (34 : Nat) ({ cls := "ImageReader$Image", name := "objectOf", desc := "(I)I" } : Jvm.MethodName) "ImageReader") ∈ av_nw := List.mem_filter.mpr ⟨List.mem_append_right _ (List.mem_of_getElem? (i := 279) (by decide +kernel)), by decide +kernel⟩
theorem tw_281 : (Jvm.Cond.instanceMethod ({ cls := "ImageReader$Image", name := "objectOf", desc := "(I)I" } : Jvm.MethodName)) ∈ av_tb := List.mem_filter.mpr ⟨List.mem_append_right _ (List.mem_of_getElem? (i := 281) (by decide +kernel)), by decide +kernel⟩
theorem tw_282 : (Jvm.Cond.code ({ cls := "ImageReader$Image", name := "objectOf", desc := "(I)I" } : Jvm.MethodName) prog_4_method_6_code (2 : Nat) (Option.some Jvm.ClassFile.FieldType.int)) ∈ av_tb := List.mem_filter.mpr ⟨List.mem_append_right _ (List.mem_of_getElem? (i := 282) (by decide +kernel)), by decide +kernel⟩
theorem tw_283 : (Jvm.Cond.methodLink "ImageReader$Image" (46 : Nat) ({ cls := "ImageReader$Image", name := "holds", desc := "(I)Z" } : Jvm.MethodName)) ∈ av_tb := List.mem_filter.mpr ⟨List.mem_append_right _ (List.mem_of_getElem? (i := 283) (by decide +kernel)), by decide +kernel⟩
theorem tw_285 : (Jvm.Cond.instanceMethod ({ cls := "ImageReader$Image", name := "holds", desc := "(I)Z" } : Jvm.MethodName)) ∈ av_tb := List.mem_filter.mpr ⟨List.mem_append_right _ (List.mem_of_getElem? (i := 285) (by decide +kernel)), by decide +kernel⟩
theorem tw_286 : (Jvm.Cond.code ({ cls := "ImageReader$Image", name := "holds", desc := "(I)Z" } : Jvm.MethodName) prog_4_method_5_code (2 : Nat) (Option.some Jvm.ClassFile.FieldType.boolean)) ∈ av_tb := List.mem_filter.mpr ⟨List.mem_append_right _ (List.mem_of_getElem? (i := 286) (by decide +kernel)), by decide +kernel⟩
theorem tw_287 : (Jvm.Cond.methodLink "ImageReader$Form" (37 : Nat) ({ cls := "ImageReader$Form", name := "isNewSince", desc := "(LImageReader$Image;II)Z" } : Jvm.MethodName)) ∈ av_tb := List.mem_filter.mpr ⟨List.mem_append_right _ (List.mem_of_getElem? (i := 287) (by decide +kernel)), by decide +kernel⟩
theorem tw_288 : (Jvm.Cond.static ({ cls := "ImageReader$Form", name := "isNewSince", desc := "(LImageReader$Image;II)Z" } : Jvm.MethodName)) ∈ av_tb := List.mem_filter.mpr ⟨List.mem_append_right _ (List.mem_of_getElem? (i := 288) (by decide +kernel)), by decide +kernel⟩
theorem tw_289 : (Jvm.Cond.code ({ cls := "ImageReader$Form", name := "isNewSince", desc := "(LImageReader$Image;II)Z" } : Jvm.MethodName) prog_3_method_5_code (4 : Nat) (Option.some Jvm.ClassFile.FieldType.boolean)) ∈ av_tb := List.mem_filter.mpr ⟨List.mem_append_right _ (List.mem_of_getElem? (i := 289) (by decide +kernel)), by decide +kernel⟩
theorem tw_290 : (Jvm.Cond.methodLink "ImageReader$Form" (41 : Nat) ({ cls := "ImageReader$Form", name := "isClass", desc := "(LImageReader$Image;I)Z" } : Jvm.MethodName)) ∈ av_tb := List.mem_filter.mpr ⟨List.mem_append_right _ (List.mem_of_getElem? (i := 290) (by decide +kernel)), by decide +kernel⟩
theorem tw_291 : (Jvm.Cond.static ({ cls := "ImageReader$Form", name := "isClass", desc := "(LImageReader$Image;I)Z" } : Jvm.MethodName)) ∈ av_tb := List.mem_filter.mpr ⟨List.mem_append_right _ (List.mem_of_getElem? (i := 291) (by decide +kernel)), by decide +kernel⟩
theorem tw_292 : (Jvm.Cond.code ({ cls := "ImageReader$Form", name := "isClass", desc := "(LImageReader$Image;I)Z" } : Jvm.MethodName) prog_3_method_13_code (4 : Nat) (Option.some Jvm.ClassFile.FieldType.boolean)) ∈ av_tb := List.mem_filter.mpr ⟨List.mem_append_right _ (List.mem_of_getElem? (i := 292) (by decide +kernel)), by decide +kernel⟩
theorem nw_293 : (Jvm.Cond.methodLinkNest "ImageReader$Form" (79 : Nat) ({ cls := "ImageReader$Image", name := "fieldAt", desc := "(II)I" } : Jvm.MethodName) "ImageReader") ∈ av_nw := List.mem_filter.mpr ⟨List.mem_append_right _ (List.mem_of_getElem? (i := 293) (by decide +kernel)), by decide +kernel⟩
theorem tw_295 : (Jvm.Cond.instanceMethod ({ cls := "ImageReader$Image", name := "fieldAt", desc := "(II)I" } : Jvm.MethodName)) ∈ av_tb := List.mem_filter.mpr ⟨List.mem_append_right _ (List.mem_of_getElem? (i := 295) (by decide +kernel)), by decide +kernel⟩
theorem tw_296 : (Jvm.Cond.code ({ cls := "ImageReader$Image", name := "fieldAt", desc := "(II)I" } : Jvm.MethodName) prog_4_method_11_code (3 : Nat) (Option.some Jvm.ClassFile.FieldType.int)) ∈ av_tb := List.mem_filter.mpr ⟨List.mem_append_right _ (List.mem_of_getElem? (i := 296) (by decide +kernel)), by decide +kernel⟩
theorem tw_297 : (Jvm.Cond.methodLink "ImageReader$Image" (50 : Nat) ({ cls := "ImageReader$Image", name := "hasPart", desc := "(II)Z" } : Jvm.MethodName)) ∈ av_tb := List.mem_filter.mpr ⟨List.mem_append_right _ (List.mem_of_getElem? (i := 297) (by decide +kernel)), by decide +kernel⟩
theorem tw_299 : (Jvm.Cond.instanceMethod ({ cls := "ImageReader$Image", name := "hasPart", desc := "(II)Z" } : Jvm.MethodName)) ∈ av_tb := List.mem_filter.mpr ⟨List.mem_append_right _ (List.mem_of_getElem? (i := 299) (by decide +kernel)), by decide +kernel⟩
theorem tw_300 : (Jvm.Cond.code ({ cls := "ImageReader$Image", name := "hasPart", desc := "(II)Z" } : Jvm.MethodName) prog_4_method_13_code (3 : Nat) (Option.some Jvm.ClassFile.FieldType.boolean)) ∈ av_tb := List.mem_filter.mpr ⟨List.mem_append_right _ (List.mem_of_getElem? (i := 300) (by decide +kernel)), by decide +kernel⟩
theorem nw_301 : (Jvm.Cond.methodLinkNest "ImageReader$Form" (44 : Nat) ({ cls := "ImageReader$Image", name := "fieldCount", desc := "(I)I" } : Jvm.MethodName) "ImageReader") ∈ av_nw := List.mem_filter.mpr ⟨List.mem_append_right _ (List.mem_of_getElem? (i := 301) (by decide +kernel)), by decide +kernel⟩
theorem tw_303 : (Jvm.Cond.instanceMethod ({ cls := "ImageReader$Image", name := "fieldCount", desc := "(I)I" } : Jvm.MethodName)) ∈ av_tb := List.mem_filter.mpr ⟨List.mem_append_right _ (List.mem_of_getElem? (i := 303) (by decide +kernel)), by decide +kernel⟩
theorem tw_304 : (Jvm.Cond.code ({ cls := "ImageReader$Image", name := "fieldCount", desc := "(I)I" } : Jvm.MethodName) prog_4_method_10_code (2 : Nat) (Option.some Jvm.ClassFile.FieldType.int)) ∈ av_tb := List.mem_filter.mpr ⟨List.mem_append_right _ (List.mem_of_getElem? (i := 304) (by decide +kernel)), by decide +kernel⟩
theorem nw_305 : (Jvm.Cond.methodLinkNest "ImageReader$Form" (115 : Nat) ({ cls := "ImageReader", name := "isNumber", desc := "(I)Z" } : Jvm.MethodName) "ImageReader") ∈ av_nw := List.mem_filter.mpr ⟨List.mem_append_right _ (List.mem_of_getElem? (i := 305) (by decide +kernel)), by decide +kernel⟩
theorem nw_306 : (Jvm.Cond.methodLinkNest "ImageReader$Form" (82 : Nat) ({ cls := "ImageReader", name := "numberOf", desc := "(I)I" } : Jvm.MethodName) "ImageReader") ∈ av_nw := List.mem_filter.mpr ⟨List.mem_append_right _ (List.mem_of_getElem? (i := 306) (by decide +kernel)), by decide +kernel⟩
theorem tw_307 : (Jvm.Cond.static ({ cls := "ImageReader", name := "numberOf", desc := "(I)I" } : Jvm.MethodName)) ∈ av_tb := List.mem_filter.mpr ⟨List.mem_append_right _ (List.mem_of_getElem? (i := 307) (by decide +kernel)), by decide +kernel⟩
theorem tw_308 : (Jvm.Cond.code ({ cls := "ImageReader", name := "numberOf", desc := "(I)I" } : Jvm.MethodName) prog_1_method_25_code (1 : Nat) (Option.some Jvm.ClassFile.FieldType.int)) ∈ av_tb := List.mem_filter.mpr ⟨List.mem_append_right _ (List.mem_of_getElem? (i := 308) (by decide +kernel)), by decide +kernel⟩
theorem tw_309 : (Jvm.Cond.methodLink "ImageReader$Form" (47 : Nat) ({ cls := "ImageReader$Form", name := "isPlain", desc := "(LImageReader$Image;II)Z" } : Jvm.MethodName)) ∈ av_tb := List.mem_filter.mpr ⟨List.mem_append_right _ (List.mem_of_getElem? (i := 309) (by decide +kernel)), by decide +kernel⟩
theorem tw_310 : (Jvm.Cond.static ({ cls := "ImageReader$Form", name := "isPlain", desc := "(LImageReader$Image;II)Z" } : Jvm.MethodName)) ∈ av_tb := List.mem_filter.mpr ⟨List.mem_append_right _ (List.mem_of_getElem? (i := 310) (by decide +kernel)), by decide +kernel⟩
theorem tw_311 : (Jvm.Cond.code ({ cls := "ImageReader$Form", name := "isPlain", desc := "(LImageReader$Image;II)Z" } : Jvm.MethodName) prog_3_method_18_code (3 : Nat) (Option.some Jvm.ClassFile.FieldType.boolean)) ∈ av_tb := List.mem_filter.mpr ⟨List.mem_append_right _ (List.mem_of_getElem? (i := 311) (by decide +kernel)), by decide +kernel⟩
theorem nw_312 : (Jvm.Cond.methodLinkNest "ImageReader$Form" (111 : Nat) ({ cls := "ImageReader$Image", name := "isContext", desc := "(I)Z" } : Jvm.MethodName) "ImageReader") ∈ av_nw := List.mem_filter.mpr ⟨List.mem_append_right _ (List.mem_of_getElem? (i := 312) (by decide +kernel)), by decide +kernel⟩
theorem tw_314 : (Jvm.Cond.instanceMethod ({ cls := "ImageReader$Image", name := "isContext", desc := "(I)Z" } : Jvm.MethodName)) ∈ av_tb := List.mem_filter.mpr ⟨List.mem_append_right _ (List.mem_of_getElem? (i := 314) (by decide +kernel)), by decide +kernel⟩
theorem tw_315 : (Jvm.Cond.code ({ cls := "ImageReader$Image", name := "isContext", desc := "(I)Z" } : Jvm.MethodName) prog_4_method_15_code (2 : Nat) (Option.some Jvm.ClassFile.FieldType.boolean)) ∈ av_tb := List.mem_filter.mpr ⟨List.mem_append_right _ (List.mem_of_getElem? (i := 315) (by decide +kernel)), by decide +kernel⟩
theorem tw_316 : (Jvm.Cond.methodLink "ImageReader$Image" (54 : Nat) ({ cls := "ImageReader$Image", name := "isOfSpecialClass", desc := "(II)Z" } : Jvm.MethodName)) ∈ av_tb := List.mem_filter.mpr ⟨List.mem_append_right _ (List.mem_of_getElem? (i := 316) (by decide +kernel)), by decide +kernel⟩
theorem tw_318 : (Jvm.Cond.instanceMethod ({ cls := "ImageReader$Image", name := "isOfSpecialClass", desc := "(II)Z" } : Jvm.MethodName)) ∈ av_tb := List.mem_filter.mpr ⟨List.mem_append_right _ (List.mem_of_getElem? (i := 318) (by decide +kernel)), by decide +kernel⟩
theorem tw_319 : (Jvm.Cond.code ({ cls := "ImageReader$Image", name := "isOfSpecialClass", desc := "(II)Z" } : Jvm.MethodName) prog_4_method_14_code (3 : Nat) (Option.some Jvm.ClassFile.FieldType.boolean)) ∈ av_tb := List.mem_filter.mpr ⟨List.mem_append_right _ (List.mem_of_getElem? (i := 319) (by decide +kernel)), by decide +kernel⟩
theorem nw_320 : (Jvm.Cond.methodLinkNest "ImageReader" (168 : Nat) ({ cls := "ImageReader$Form", name := "objectsPlace", desc := "(LImageReader$Image;)I" } : Jvm.MethodName) "ImageReader") ∈ av_nw := List.mem_filter.mpr ⟨List.mem_append_right _ (List.mem_of_getElem? (i := 320) (by decide +kernel)), by decide +kernel⟩
theorem tw_321 : (Jvm.Cond.static ({ cls := "ImageReader$Form", name := "objectsPlace", desc := "(LImageReader$Image;)I" } : Jvm.MethodName)) ∈ av_tb := List.mem_filter.mpr ⟨List.mem_append_right _ (List.mem_of_getElem? (i := 321) (by decide +kernel)), by decide +kernel⟩
theorem tw_322 : (Jvm.Cond.code ({ cls := "ImageReader$Form", name := "objectsPlace", desc := "(LImageReader$Image;)I" } : Jvm.MethodName) prog_3_method_6_code (3 : Nat) (Option.some Jvm.ClassFile.FieldType.int)) ∈ av_tb := List.mem_filter.mpr ⟨List.mem_append_right _ (List.mem_of_getElem? (i := 322) (by decide +kernel)), by decide +kernel⟩
theorem tw_323 : (Jvm.Cond.methodLink "ImageReader$Form" (50 : Nat) ({ cls := "ImageReader$Form", name := "hasFitClass", desc := "(LImageReader$Image;I)Z" } : Jvm.MethodName)) ∈ av_tb := List.mem_filter.mpr ⟨List.mem_append_right _ (List.mem_of_getElem? (i := 323) (by decide +kernel)), by decide +kernel⟩
theorem tw_324 : (Jvm.Cond.static ({ cls := "ImageReader$Form", name := "hasFitClass", desc := "(LImageReader$Image;I)Z" } : Jvm.MethodName)) ∈ av_tb := List.mem_filter.mpr ⟨List.mem_append_right _ (List.mem_of_getElem? (i := 324) (by decide +kernel)), by decide +kernel⟩
theorem tw_325 : (Jvm.Cond.code ({ cls := "ImageReader$Form", name := "hasFitClass", desc := "(LImageReader$Image;I)Z" } : Jvm.MethodName) prog_3_method_7_code (7 : Nat) (Option.some Jvm.ClassFile.FieldType.boolean)) ∈ av_tb := List.mem_filter.mpr ⟨List.mem_append_right _ (List.mem_of_getElem? (i := 325) (by decide +kernel)), by decide +kernel⟩
theorem nw_326 : (Jvm.Cond.methodLinkNest "ImageReader$Form" (76 : Nat) ({ cls := "ImageReader$Image", name := "classAt", desc := "(I)I" } : Jvm.MethodName) "ImageReader") ∈ av_nw := List.mem_filter.mpr ⟨List.mem_append_right _ (List.mem_of_getElem? (i := 326) (by decide +kernel)), by decide +kernel⟩
theorem tw_328 : (Jvm.Cond.instanceMethod ({ cls := "ImageReader$Image", name := "classAt", desc := "(I)I" } : Jvm.MethodName)) ∈ av_tb := List.mem_filter.mpr ⟨List.mem_append_right _ (List.mem_of_getElem? (i := 328) (by decide +kernel)), by decide +kernel⟩
theorem tw_329 : (Jvm.Cond.code ({ cls := "ImageReader$Image", name := "classAt", desc := "(I)I" } : Jvm.MethodName) prog_4_method_8_code (2 : Nat) (Option.some Jvm.ClassFile.FieldType.int)) ∈ av_tb := List.mem_filter.mpr ⟨List.mem_append_right _ (List.mem_of_getElem? (i := 329) (by decide +kernel)), by decide +kernel⟩
theorem nw_330 : (Jvm.Cond.methodLinkNest "ImageReader$Form" (85 : Nat) ({ cls := "ImageReader$Image", name := "isOfBytes", desc := "(I)Z" } : Jvm.MethodName) "ImageReader") ∈ av_nw := List.mem_filter.mpr ⟨List.mem_append_right _ (List.mem_of_getElem? (i := 330) (by decide +kernel)), by decide +kernel⟩
theorem tw_332 : (Jvm.Cond.instanceMethod ({ cls := "ImageReader$Image", name := "isOfBytes", desc := "(I)Z" } : Jvm.MethodName)) ∈ av_tb := List.mem_filter.mpr ⟨List.mem_append_right _ (List.mem_of_getElem? (i := 332) (by decide +kernel)), by decide +kernel⟩
theorem tw_333 : (Jvm.Cond.code ({ cls := "ImageReader$Image", name := "isOfBytes", desc := "(I)Z" } : Jvm.MethodName) prog_4_method_9_code (2 : Nat) (Option.some Jvm.ClassFile.FieldType.boolean)) ∈ av_tb := List.mem_filter.mpr ⟨List.mem_append_right _ (List.mem_of_getElem? (i := 333) (by decide +kernel)), by decide +kernel⟩
theorem nw_334 : (Jvm.Cond.methodLinkNest "ImageReader$Form" (53 : Nat) ({ cls := "ImageReader$Image", name := "isOfSpecialClass", desc := "(II)Z" } : Jvm.MethodName) "ImageReader") ∈ av_nw := List.mem_filter.mpr ⟨List.mem_append_right _ (List.mem_of_getElem? (i := 334) (by decide +kernel)), by decide +kernel⟩
theorem tw_335 : (Jvm.Cond.methodLink "ImageReader$Form" (57 : Nat) ({ cls := "ImageReader$Form", name := "isMethodContext", desc := "(LImageReader$Image;I)Z" } : Jvm.MethodName)) ∈ av_tb := List.mem_filter.mpr ⟨List.mem_append_right _ (List.mem_of_getElem? (i := 335) (by decide +kernel)), by decide +kernel⟩
theorem tw_336 : (Jvm.Cond.static ({ cls := "ImageReader$Form", name := "isMethodContext", desc := "(LImageReader$Image;I)Z" } : Jvm.MethodName)) ∈ av_tb := List.mem_filter.mpr ⟨List.mem_append_right _ (List.mem_of_getElem? (i := 336) (by decide +kernel)), by decide +kernel⟩
theorem tw_337 : (Jvm.Cond.code ({ cls := "ImageReader$Form", name := "isMethodContext", desc := "(LImageReader$Image;I)Z" } : Jvm.MethodName) prog_3_method_8_code (7 : Nat) (Option.some Jvm.ClassFile.FieldType.boolean)) ∈ av_tb := List.mem_filter.mpr ⟨List.mem_append_right _ (List.mem_of_getElem? (i := 337) (by decide +kernel)), by decide +kernel⟩
theorem tw_338 : (Jvm.Cond.methodLink "ImageReader$Form" (89 : Nat) ({ cls := "ImageReader$Form", name := "isMethod", desc := "(LImageReader$Image;I)Z" } : Jvm.MethodName)) ∈ av_tb := List.mem_filter.mpr ⟨List.mem_append_right _ (List.mem_of_getElem? (i := 338) (by decide +kernel)), by decide +kernel⟩
theorem tw_339 : (Jvm.Cond.static ({ cls := "ImageReader$Form", name := "isMethod", desc := "(LImageReader$Image;I)Z" } : Jvm.MethodName)) ∈ av_tb := List.mem_filter.mpr ⟨List.mem_append_right _ (List.mem_of_getElem? (i := 339) (by decide +kernel)), by decide +kernel⟩
theorem tw_340 : (Jvm.Cond.code ({ cls := "ImageReader$Form", name := "isMethod", desc := "(LImageReader$Image;I)Z" } : Jvm.MethodName) prog_3_method_14_code (3 : Nat) (Option.some Jvm.ClassFile.FieldType.boolean)) ∈ av_tb := List.mem_filter.mpr ⟨List.mem_append_right _ (List.mem_of_getElem? (i := 340) (by decide +kernel)), by decide +kernel⟩
theorem tw_341 : (Jvm.Cond.constant "ImageReader$Form" (118 : Nat) (8388607 : Int32)) ∈ av_tb := List.mem_filter.mpr ⟨List.mem_append_right _ (List.mem_of_getElem? (i := 341) (by decide +kernel)), by decide +kernel⟩
theorem nw_342 : (Jvm.Cond.methodLinkNest "ImageReader$Form" (101 : Nat) ({ cls := "ImageReader", name := "isNumberWithin", desc := "(III)Z" } : Jvm.MethodName) "ImageReader") ∈ av_nw := List.mem_filter.mpr ⟨List.mem_append_right _ (List.mem_of_getElem? (i := 342) (by decide +kernel)), by decide +kernel⟩
theorem tw_343 : (Jvm.Cond.static ({ cls := "ImageReader", name := "isNumberWithin", desc := "(III)Z" } : Jvm.MethodName)) ∈ av_tb := List.mem_filter.mpr ⟨List.mem_append_right _ (List.mem_of_getElem? (i := 343) (by decide +kernel)), by decide +kernel⟩
theorem tw_344 : (Jvm.Cond.code ({ cls := "ImageReader", name := "isNumberWithin", desc := "(III)Z" } : Jvm.MethodName) prog_1_method_24_code (3 : Nat) (Option.some Jvm.ClassFile.FieldType.boolean)) ∈ av_tb := List.mem_filter.mpr ⟨List.mem_append_right _ (List.mem_of_getElem? (i := 344) (by decide +kernel)), by decide +kernel⟩
theorem tw_345 : (Jvm.Cond.methodLink "ImageReader" (198 : Nat) ({ cls := "ImageReader", name := "isNumber", desc := "(I)Z" } : Jvm.MethodName)) ∈ av_tb := List.mem_filter.mpr ⟨List.mem_append_right _ (List.mem_of_getElem? (i := 345) (by decide +kernel)), by decide +kernel⟩
theorem tw_346 : (Jvm.Cond.methodLink "ImageReader" (201 : Nat) ({ cls := "ImageReader", name := "numberOf", desc := "(I)I" } : Jvm.MethodName)) ∈ av_tb := List.mem_filter.mpr ⟨List.mem_append_right _ (List.mem_of_getElem? (i := 346) (by decide +kernel)), by decide +kernel⟩
theorem tw_347 : (Jvm.Cond.methodLink "ImageReader$Form" (92 : Nat) ({ cls := "ImageReader$Form", name := "temporariesOf", desc := "(I)I" } : Jvm.MethodName)) ∈ av_tb := List.mem_filter.mpr ⟨List.mem_append_right _ (List.mem_of_getElem? (i := 347) (by decide +kernel)), by decide +kernel⟩
theorem tw_348 : (Jvm.Cond.static ({ cls := "ImageReader$Form", name := "temporariesOf", desc := "(I)I" } : Jvm.MethodName)) ∈ av_tb := List.mem_filter.mpr ⟨List.mem_append_right _ (List.mem_of_getElem? (i := 348) (by decide +kernel)), by decide +kernel⟩
theorem tw_349 : (Jvm.Cond.code ({ cls := "ImageReader$Form", name := "temporariesOf", desc := "(I)I" } : Jvm.MethodName) prog_3_method_16_code (1 : Nat) (Option.some Jvm.ClassFile.FieldType.int)) ∈ av_tb := List.mem_filter.mpr ⟨List.mem_append_right _ (List.mem_of_getElem? (i := 349) (by decide +kernel)), by decide +kernel⟩
theorem tw_350 : (Jvm.Cond.methodLink "ImageReader$Form" (119 : Nat) ({ cls := "ImageReader$Form", name := "argumentsOf", desc := "(I)I" } : Jvm.MethodName)) ∈ av_tb := List.mem_filter.mpr ⟨List.mem_append_right _ (List.mem_of_getElem? (i := 350) (by decide +kernel)), by decide +kernel⟩
theorem tw_351 : (Jvm.Cond.static ({ cls := "ImageReader$Form", name := "argumentsOf", desc := "(I)I" } : Jvm.MethodName)) ∈ av_tb := List.mem_filter.mpr ⟨List.mem_append_right _ (List.mem_of_getElem? (i := 351) (by decide +kernel)), by decide +kernel⟩
theorem tw_352 : (Jvm.Cond.code ({ cls := "ImageReader$Form", name := "argumentsOf", desc := "(I)I" } : Jvm.MethodName) prog_3_method_15_code (1 : Nat) (Option.some Jvm.ClassFile.FieldType.int)) ∈ av_tb := List.mem_filter.mpr ⟨List.mem_append_right _ (List.mem_of_getElem? (i := 352) (by decide +kernel)), by decide +kernel⟩
theorem tw_353 : (Jvm.Cond.methodLink "ImageReader$Form" (95 : Nat) ({ cls := "ImageReader$Form", name := "depthOf", desc := "(I)I" } : Jvm.MethodName)) ∈ av_tb := List.mem_filter.mpr ⟨List.mem_append_right _ (List.mem_of_getElem? (i := 353) (by decide +kernel)), by decide +kernel⟩
theorem tw_354 : (Jvm.Cond.static ({ cls := "ImageReader$Form", name := "depthOf", desc := "(I)I" } : Jvm.MethodName)) ∈ av_tb := List.mem_filter.mpr ⟨List.mem_append_right _ (List.mem_of_getElem? (i := 354) (by decide +kernel)), by decide +kernel⟩
theorem tw_355 : (Jvm.Cond.code ({ cls := "ImageReader$Form", name := "depthOf", desc := "(I)I" } : Jvm.MethodName) prog_3_method_17_code (1 : Nat) (Option.some Jvm.ClassFile.FieldType.int)) ∈ av_tb := List.mem_filter.mpr ⟨List.mem_append_right _ (List.mem_of_getElem? (i := 355) (by decide +kernel)), by decide +kernel⟩
theorem tw_356 : (Jvm.Cond.methodLink "ImageReader$Form" (98 : Nat) ({ cls := "ImageReader$Form", name := "areLinksFit", desc := "(LImageReader$Image;I)Z" } : Jvm.MethodName)) ∈ av_tb := List.mem_filter.mpr ⟨List.mem_append_right _ (List.mem_of_getElem? (i := 356) (by decide +kernel)), by decide +kernel⟩
theorem tw_357 : (Jvm.Cond.static ({ cls := "ImageReader$Form", name := "areLinksFit", desc := "(LImageReader$Image;I)Z" } : Jvm.MethodName)) ∈ av_tb := List.mem_filter.mpr ⟨List.mem_append_right _ (List.mem_of_getElem? (i := 357) (by decide +kernel)), by decide +kernel⟩
theorem tw_358 : (Jvm.Cond.code ({ cls := "ImageReader$Form", name := "areLinksFit", desc := "(LImageReader$Image;I)Z" } : Jvm.MethodName) prog_3_method_10_code (3 : Nat) (Option.some Jvm.ClassFile.FieldType.boolean)) ∈ av_tb := List.mem_filter.mpr ⟨List.mem_append_right _ (List.mem_of_getElem? (i := 358) (by decide +kernel)), by decide +kernel⟩
theorem tw_359 : (Jvm.Cond.methodLink "ImageReader$Form" (108 : Nat) ({ cls := "ImageReader$Form", name := "isNilOrCounting", desc := "(I)Z" } : Jvm.MethodName)) ∈ av_tb := List.mem_filter.mpr ⟨List.mem_append_right _ (List.mem_of_getElem? (i := 359) (by decide +kernel)), by decide +kernel⟩
theorem tw_360 : (Jvm.Cond.static ({ cls := "ImageReader$Form", name := "isNilOrCounting", desc := "(I)Z" } : Jvm.MethodName)) ∈ av_tb := List.mem_filter.mpr ⟨List.mem_append_right _ (List.mem_of_getElem? (i := 360) (by decide +kernel)), by decide +kernel⟩
theorem tw_361 : (Jvm.Cond.code ({ cls := "ImageReader$Form", name := "isNilOrCounting", desc := "(I)Z" } : Jvm.MethodName) prog_3_method_11_code (1 : Nat) (Option.some Jvm.ClassFile.FieldType.boolean)) ∈ av_tb := List.mem_filter.mpr ⟨List.mem_append_right _ (List.mem_of_getElem? (i := 361) (by decide +kernel)), by decide +kernel⟩
theorem tw_362 : (Jvm.Cond.constant "ImageReader$Form" (114 : Nat) (1073741823 : Int32)) ∈ av_tb := List.mem_filter.mpr ⟨List.mem_append_right _ (List.mem_of_getElem? (i := 362) (by decide +kernel)), by decide +kernel⟩
theorem tw_363 : (Jvm.Cond.methodLink "ImageReader$Form" (105 : Nat) ({ cls := "ImageReader$Form", name := "isNilFrom", desc := "(LImageReader$Image;II)Z" } : Jvm.MethodName)) ∈ av_tb := List.mem_filter.mpr ⟨List.mem_append_right _ (List.mem_of_getElem? (i := 363) (by decide +kernel)), by decide +kernel⟩
theorem tw_364 : (Jvm.Cond.static ({ cls := "ImageReader$Form", name := "isNilFrom", desc := "(LImageReader$Image;II)Z" } : Jvm.MethodName)) ∈ av_tb := List.mem_filter.mpr ⟨List.mem_append_right _ (List.mem_of_getElem? (i := 364) (by decide +kernel)), by decide +kernel⟩
theorem tw_365 : (Jvm.Cond.code ({ cls := "ImageReader$Form", name := "isNilFrom", desc := "(LImageReader$Image;II)Z" } : Jvm.MethodName) prog_3_method_12_code (5 : Nat) (Option.some Jvm.ClassFile.FieldType.boolean)) ∈ av_tb := List.mem_filter.mpr ⟨List.mem_append_right _ (List.mem_of_getElem? (i := 365) (by decide +kernel)), by decide +kernel⟩
theorem tw_366 : (Jvm.Cond.methodLink "ImageReader$Form" (60 : Nat) ({ cls := "ImageReader$Form", name := "isBlockContext", desc := "(LImageReader$Image;I)Z" } : Jvm.MethodName)) ∈ av_tb := List.mem_filter.mpr ⟨List.mem_append_right _ (List.mem_of_getElem? (i := 366) (by decide +kernel)), by decide +kernel⟩
theorem tw_367 : (Jvm.Cond.static ({ cls := "ImageReader$Form", name := "isBlockContext", desc := "(LImageReader$Image;I)Z" } : Jvm.MethodName)) ∈ av_tb := List.mem_filter.mpr ⟨List.mem_append_right _ (List.mem_of_getElem? (i := 367) (by decide +kernel)), by decide +kernel⟩
theorem tw_368 : (Jvm.Cond.code ({ cls := "ImageReader$Form", name := "isBlockContext", desc := "(LImageReader$Image;I)Z" } : Jvm.MethodName) prog_3_method_9_code (6 : Nat) (Option.some Jvm.ClassFile.FieldType.boolean)) ∈ av_tb := List.mem_filter.mpr ⟨List.mem_append_right _ (List.mem_of_getElem? (i := 368) (by decide +kernel)), by decide +kernel⟩
theorem nw_369 : (Jvm.Cond.methodLinkNest "ImageReader$Form" (70 : Nat) ({ cls := "ImageReader$Layout", name := "bodyLength", desc := "(II)I" } : Jvm.MethodName) "ImageReader") ∈ av_nw := List.mem_filter.mpr ⟨List.mem_append_right _ (List.mem_of_getElem? (i := 369) (by decide +kernel)), by decide +kernel⟩
theorem nw_370 : (Jvm.Cond.methodLinkNest "ImageReader" (171 : Nat) ({ cls := "ImageReader$Form", name := "schedulerPlace", desc := "(LImageReader$Image;)I" } : Jvm.MethodName) "ImageReader") ∈ av_nw := List.mem_filter.mpr ⟨List.mem_append_right _ (List.mem_of_getElem? (i := 370) (by decide +kernel)), by decide +kernel⟩
theorem tw_371 : (Jvm.Cond.static ({ cls := "ImageReader$Form", name := "schedulerPlace", desc := "(LImageReader$Image;)I" } : Jvm.MethodName)) ∈ av_tb := List.mem_filter.mpr ⟨List.mem_append_right _ (List.mem_of_getElem? (i := 371) (by decide +kernel)), by decide +kernel⟩
theorem tw_372 : (Jvm.Cond.code ({ cls := "ImageReader$Form", name := "schedulerPlace", desc := "(LImageReader$Image;)I" } : Jvm.MethodName) prog_3_method_19_code (4 : Nat) (Option.some Jvm.ClassFile.FieldType.int)) ∈ av_tb := List.mem_filter.mpr ⟨List.mem_append_right _ (List.mem_of_getElem? (i := 372) (by decide +kernel)), by decide +kernel⟩
theorem tw_373 : (Jvm.Cond.methodLink "ImageReader$Form" (122 : Nat) ({ cls := "ImageReader$Form", name := "areListsFit", desc := "(LImageReader$Image;I)Z" } : Jvm.MethodName)) ∈ av_tb := List.mem_filter.mpr ⟨List.mem_append_right _ (List.mem_of_getElem? (i := 373) (by decide +kernel)), by decide +kernel⟩
theorem tw_374 : (Jvm.Cond.static ({ cls := "ImageReader$Form", name := "areListsFit", desc := "(LImageReader$Image;I)Z" } : Jvm.MethodName)) ∈ av_tb := List.mem_filter.mpr ⟨List.mem_append_right _ (List.mem_of_getElem? (i := 374) (by decide +kernel)), by decide +kernel⟩
theorem tw_375 : (Jvm.Cond.code ({ cls := "ImageReader$Form", name := "areListsFit", desc := "(LImageReader$Image;I)Z" } : Jvm.MethodName) prog_3_method_20_code (3 : Nat) (Option.some Jvm.ClassFile.FieldType.boolean)) ∈ av_tb := List.mem_filter.mpr ⟨List.mem_append_right _ (List.mem_of_getElem? (i := 375) (by decide +kernel)), by decide +kernel⟩
theorem tw_376 : (Jvm.Cond.methodLink "ImageReader$Form" (125 : Nat) ({ cls := "ImageReader$Form", name := "isProcessFit", desc := "(LImageReader$Image;I)Z" } : Jvm.MethodName)) ∈ av_tb := List.mem_filter.mpr ⟨List.mem_append_right _ (List.mem_of_getElem? (i := 376) (by decide +kernel)), by decide +kernel⟩
theorem tw_377 : (Jvm.Cond.static ({ cls := "ImageReader$Form", name := "isProcessFit", desc := "(LImageReader$Image;I)Z" } : Jvm.MethodName)) ∈ av_tb := List.mem_filter.mpr ⟨List.mem_append_right _ (List.mem_of_getElem? (i := 377) (by decide +kernel)), by decide +kernel⟩
theorem tw_378 : (Jvm.Cond.code ({ cls := "ImageReader$Form", name := "isProcessFit", desc := "(LImageReader$Image;I)Z" } : Jvm.MethodName) prog_3_method_21_code (3 : Nat) (Option.some Jvm.ClassFile.FieldType.boolean)) ∈ av_tb := List.mem_filter.mpr ⟨List.mem_append_right _ (List.mem_of_getElem? (i := 378) (by decide +kernel)), by decide +kernel⟩
theorem tw_379 : (Jvm.Cond.methodLink "ImageReaderLaw" (48 : Nat) ({ cls := "ImageReader", name := "objects", desc := "()I" } : Jvm.MethodName)) ∈ av_tb := List.mem_filter.mpr ⟨List.mem_append_right _ (List.mem_of_getElem? (i := 379) (by decide +kernel)), by decide +kernel⟩
theorem tw_380 : (Jvm.Cond.instanceMethod ({ cls := "ImageReader", name := "objects", desc := "()I" } : Jvm.MethodName)) ∈ av_tb := List.mem_filter.mpr ⟨List.mem_append_right _ (List.mem_of_getElem? (i := 380) (by decide +kernel)), by decide +kernel⟩
theorem tw_381 : (Jvm.Cond.selects "ImageReader" ({ cls := "ImageReader", name := "objects", desc := "()I" } : Jvm.MethodName) ({ cls := "ImageReader", name := "objects", desc := "()I" } : Jvm.MethodName)) ∈ av_tb := List.mem_filter.mpr ⟨List.mem_append_right _ (List.mem_of_getElem? (i := 381) (by decide +kernel)), by decide +kernel⟩
theorem tw_382 : (Jvm.Cond.code ({ cls := "ImageReader", name := "objects", desc := "()I" } : Jvm.MethodName) prog_1_method_6_code (1 : Nat) (Option.some Jvm.ClassFile.FieldType.int)) ∈ av_tb := List.mem_filter.mpr ⟨List.mem_append_right _ (List.mem_of_getElem? (i := 382) (by decide +kernel)), by decide +kernel⟩
theorem tw_383 : (Jvm.Cond.methodLink "ImageReaderLaw" (52 : Nat) ({ cls := "ImageReader", name := "words", desc := "()I" } : Jvm.MethodName)) ∈ av_tb := List.mem_filter.mpr ⟨List.mem_append_right _ (List.mem_of_getElem? (i := 383) (by decide +kernel)), by decide +kernel⟩
theorem tw_384 : (Jvm.Cond.instanceMethod ({ cls := "ImageReader", name := "words", desc := "()I" } : Jvm.MethodName)) ∈ av_tb := List.mem_filter.mpr ⟨List.mem_append_right _ (List.mem_of_getElem? (i := 384) (by decide +kernel)), by decide +kernel⟩
theorem tw_385 : (Jvm.Cond.selects "ImageReader" ({ cls := "ImageReader", name := "words", desc := "()I" } : Jvm.MethodName) ({ cls := "ImageReader", name := "words", desc := "()I" } : Jvm.MethodName)) ∈ av_tb := List.mem_filter.mpr ⟨List.mem_append_right _ (List.mem_of_getElem? (i := 385) (by decide +kernel)), by decide +kernel⟩
theorem tw_386 : (Jvm.Cond.code ({ cls := "ImageReader", name := "words", desc := "()I" } : Jvm.MethodName) prog_1_method_7_code (1 : Nat) (Option.some Jvm.ClassFile.FieldType.int)) ∈ av_tb := List.mem_filter.mpr ⟨List.mem_append_right _ (List.mem_of_getElem? (i := 386) (by decide +kernel)), by decide +kernel⟩
theorem tw_387 : (Jvm.Cond.methodLink "ImageReaderLaw" (56 : Nat) ({ cls := "ImageReader", name := "special", desc := "(I)I" } : Jvm.MethodName)) ∈ av_tb := List.mem_filter.mpr ⟨List.mem_append_right _ (List.mem_of_getElem? (i := 387) (by decide +kernel)), by decide +kernel⟩
theorem tw_388 : (Jvm.Cond.instanceMethod ({ cls := "ImageReader", name := "special", desc := "(I)I" } : Jvm.MethodName)) ∈ av_tb := List.mem_filter.mpr ⟨List.mem_append_right _ (List.mem_of_getElem? (i := 388) (by decide +kernel)), by decide +kernel⟩
theorem tw_389 : (Jvm.Cond.selects "ImageReader" ({ cls := "ImageReader", name := "special", desc := "(I)I" } : Jvm.MethodName) ({ cls := "ImageReader", name := "special", desc := "(I)I" } : Jvm.MethodName)) ∈ av_tb := List.mem_filter.mpr ⟨List.mem_append_right _ (List.mem_of_getElem? (i := 389) (by decide +kernel)), by decide +kernel⟩
theorem tw_390 : (Jvm.Cond.code ({ cls := "ImageReader", name := "special", desc := "(I)I" } : Jvm.MethodName) prog_1_method_8_code (2 : Nat) (Option.some Jvm.ClassFile.FieldType.int)) ∈ av_tb := List.mem_filter.mpr ⟨List.mem_append_right _ (List.mem_of_getElem? (i := 390) (by decide +kernel)), by decide +kernel⟩
theorem nw_391 : (Jvm.Cond.methodLinkNest "ImageReader" (92 : Nat) ({ cls := "ImageReader$Image", name := "specialAt", desc := "(I)I" } : Jvm.MethodName) "ImageReader") ∈ av_nw := List.mem_filter.mpr ⟨List.mem_append_right _ (List.mem_of_getElem? (i := 391) (by decide +kernel)), by decide +kernel⟩
theorem tw_392 : (Jvm.Cond.methodLink "ImageReaderLaw" (60 : Nat) ({ cls := "ImageReader", name := "kind", desc := "(I)I" } : Jvm.MethodName)) ∈ av_tb := List.mem_filter.mpr ⟨List.mem_append_right _ (List.mem_of_getElem? (i := 392) (by decide +kernel)), by decide +kernel⟩
theorem tw_393 : (Jvm.Cond.instanceMethod ({ cls := "ImageReader", name := "kind", desc := "(I)I" } : Jvm.MethodName)) ∈ av_tb := List.mem_filter.mpr ⟨List.mem_append_right _ (List.mem_of_getElem? (i := 393) (by decide +kernel)), by decide +kernel⟩
theorem tw_394 : (Jvm.Cond.selects "ImageReader" ({ cls := "ImageReader", name := "kind", desc := "(I)I" } : Jvm.MethodName) ({ cls := "ImageReader", name := "kind", desc := "(I)I" } : Jvm.MethodName)) ∈ av_tb := List.mem_filter.mpr ⟨List.mem_append_right _ (List.mem_of_getElem? (i := 394) (by decide +kernel)), by decide +kernel⟩
theorem tw_395 : (Jvm.Cond.code ({ cls := "ImageReader", name := "kind", desc := "(I)I" } : Jvm.MethodName) prog_1_method_9_code (2 : Nat) (Option.some Jvm.ClassFile.FieldType.int)) ∈ av_tb := List.mem_filter.mpr ⟨List.mem_append_right _ (List.mem_of_getElem? (i := 395) (by decide +kernel)), by decide +kernel⟩
theorem nw_396 : (Jvm.Cond.methodLinkNest "ImageReader" (95 : Nat) ({ cls := "ImageReader$Image", name := "holds", desc := "(I)Z" } : Jvm.MethodName) "ImageReader") ∈ av_nw := List.mem_filter.mpr ⟨List.mem_append_right _ (List.mem_of_getElem? (i := 396) (by decide +kernel)), by decide +kernel⟩
theorem nw_397 : (Jvm.Cond.methodLinkNest "ImageReader" (99 : Nat) ({ cls := "ImageReader$Image", name := "isOfSpecialClass", desc := "(II)Z" } : Jvm.MethodName) "ImageReader") ∈ av_nw := List.mem_filter.mpr ⟨List.mem_append_right _ (List.mem_of_getElem? (i := 397) (by decide +kernel)), by decide +kernel⟩
theorem tw_398 : (Jvm.Cond.methodLink "ImageReaderLaw" (64 : Nat) ({ cls := "ImageReader", name := "classOf", desc := "(I)I" } : Jvm.MethodName)) ∈ av_tb := List.mem_filter.mpr ⟨List.mem_append_right _ (List.mem_of_getElem? (i := 398) (by decide +kernel)), by decide +kernel⟩
theorem tw_399 : (Jvm.Cond.instanceMethod ({ cls := "ImageReader", name := "classOf", desc := "(I)I" } : Jvm.MethodName)) ∈ av_tb := List.mem_filter.mpr ⟨List.mem_append_right _ (List.mem_of_getElem? (i := 399) (by decide +kernel)), by decide +kernel⟩
theorem tw_400 : (Jvm.Cond.selects "ImageReader" ({ cls := "ImageReader", name := "classOf", desc := "(I)I" } : Jvm.MethodName) ({ cls := "ImageReader", name := "classOf", desc := "(I)I" } : Jvm.MethodName)) ∈ av_tb := List.mem_filter.mpr ⟨List.mem_append_right _ (List.mem_of_getElem? (i := 400) (by decide +kernel)), by decide +kernel⟩
theorem tw_401 : (Jvm.Cond.code ({ cls := "ImageReader", name := "classOf", desc := "(I)I" } : Jvm.MethodName) prog_1_method_10_code (2 : Nat) (Option.some Jvm.ClassFile.FieldType.int)) ∈ av_tb := List.mem_filter.mpr ⟨List.mem_append_right _ (List.mem_of_getElem? (i := 401) (by decide +kernel)), by decide +kernel⟩
theorem nw_402 : (Jvm.Cond.methodLinkNest "ImageReader" (107 : Nat) ({ cls := "ImageReader$Image", name := "classAt", desc := "(I)I" } : Jvm.MethodName) "ImageReader") ∈ av_nw := List.mem_filter.mpr ⟨List.mem_append_right _ (List.mem_of_getElem? (i := 402) (by decide +kernel)), by decide +kernel⟩
theorem tw_403 : (Jvm.Cond.methodLink "ImageReaderLaw" (68 : Nat) ({ cls := "ImageReader", name := "size", desc := "(I)I" } : Jvm.MethodName)) ∈ av_tb := List.mem_filter.mpr ⟨List.mem_append_right _ (List.mem_of_getElem? (i := 403) (by decide +kernel)), by decide +kernel⟩
theorem tw_404 : (Jvm.Cond.instanceMethod ({ cls := "ImageReader", name := "size", desc := "(I)I" } : Jvm.MethodName)) ∈ av_tb := List.mem_filter.mpr ⟨List.mem_append_right _ (List.mem_of_getElem? (i := 404) (by decide +kernel)), by decide +kernel⟩
theorem tw_405 : (Jvm.Cond.selects "ImageReader" ({ cls := "ImageReader", name := "size", desc := "(I)I" } : Jvm.MethodName) ({ cls := "ImageReader", name := "size", desc := "(I)I" } : Jvm.MethodName)) ∈ av_tb := List.mem_filter.mpr ⟨List.mem_append_right _ (List.mem_of_getElem? (i := 405) (by decide +kernel)), by decide +kernel⟩
theorem tw_406 : (Jvm.Cond.code ({ cls := "ImageReader", name := "size", desc := "(I)I" } : Jvm.MethodName) prog_1_method_11_code (2 : Nat) (Option.some Jvm.ClassFile.FieldType.int)) ∈ av_tb := List.mem_filter.mpr ⟨List.mem_append_right _ (List.mem_of_getElem? (i := 406) (by decide +kernel)), by decide +kernel⟩
theorem tw_407 : (Jvm.Cond.methodLink "ImageReaderLaw" (72 : Nat) ({ cls := "ImageReader", name := "field", desc := "(II)I" } : Jvm.MethodName)) ∈ av_tb := List.mem_filter.mpr ⟨List.mem_append_right _ (List.mem_of_getElem? (i := 407) (by decide +kernel)), by decide +kernel⟩
theorem tw_408 : (Jvm.Cond.instanceMethod ({ cls := "ImageReader", name := "field", desc := "(II)I" } : Jvm.MethodName)) ∈ av_tb := List.mem_filter.mpr ⟨List.mem_append_right _ (List.mem_of_getElem? (i := 408) (by decide +kernel)), by decide +kernel⟩
theorem tw_409 : (Jvm.Cond.selects "ImageReader" ({ cls := "ImageReader", name := "field", desc := "(II)I" } : Jvm.MethodName) ({ cls := "ImageReader", name := "field", desc := "(II)I" } : Jvm.MethodName)) ∈ av_tb := List.mem_filter.mpr ⟨List.mem_append_right _ (List.mem_of_getElem? (i := 409) (by decide +kernel)), by decide +kernel⟩
theorem tw_410 : (Jvm.Cond.code ({ cls := "ImageReader", name := "field", desc := "(II)I" } : Jvm.MethodName) prog_1_method_12_code (3 : Nat) (Option.some Jvm.ClassFile.FieldType.int)) ∈ av_tb := List.mem_filter.mpr ⟨List.mem_append_right _ (List.mem_of_getElem? (i := 410) (by decide +kernel)), by decide +kernel⟩
theorem nw_411 : (Jvm.Cond.methodLinkNest "ImageReader" (113 : Nat) ({ cls := "ImageReader$Image", name := "fieldAt", desc := "(II)I" } : Jvm.MethodName) "ImageReader") ∈ av_nw := List.mem_filter.mpr ⟨List.mem_append_right _ (List.mem_of_getElem? (i := 411) (by decide +kernel)), by decide +kernel⟩
theorem tw_412 : (Jvm.Cond.methodLink "ImageReaderLaw" (76 : Nat) ({ cls := "ImageReader", name := "byteAt", desc := "(II)I" } : Jvm.MethodName)) ∈ av_tb := List.mem_filter.mpr ⟨List.mem_append_right _ (List.mem_of_getElem? (i := 412) (by decide +kernel)), by decide +kernel⟩
theorem tw_413 : (Jvm.Cond.instanceMethod ({ cls := "ImageReader", name := "byteAt", desc := "(II)I" } : Jvm.MethodName)) ∈ av_tb := List.mem_filter.mpr ⟨List.mem_append_right _ (List.mem_of_getElem? (i := 413) (by decide +kernel)), by decide +kernel⟩
theorem tw_414 : (Jvm.Cond.selects "ImageReader" ({ cls := "ImageReader", name := "byteAt", desc := "(II)I" } : Jvm.MethodName) ({ cls := "ImageReader", name := "byteAt", desc := "(II)I" } : Jvm.MethodName)) ∈ av_tb := List.mem_filter.mpr ⟨List.mem_append_right _ (List.mem_of_getElem? (i := 414) (by decide +kernel)), by decide +kernel⟩
theorem tw_415 : (Jvm.Cond.code ({ cls := "ImageReader", name := "byteAt", desc := "(II)I" } : Jvm.MethodName) prog_1_method_13_code (3 : Nat) (Option.some Jvm.ClassFile.FieldType.int)) ∈ av_tb := List.mem_filter.mpr ⟨List.mem_append_right _ (List.mem_of_getElem? (i := 415) (by decide +kernel)), by decide +kernel⟩
theorem nw_416 : (Jvm.Cond.methodLinkNest "ImageReader" (117 : Nat) ({ cls := "ImageReader$Image", name := "bodyByteAt", desc := "(II)I" } : Jvm.MethodName) "ImageReader") ∈ av_nw := List.mem_filter.mpr ⟨List.mem_append_right _ (List.mem_of_getElem? (i := 416) (by decide +kernel)), by decide +kernel⟩
theorem tw_418 : (Jvm.Cond.instanceMethod ({ cls := "ImageReader$Image", name := "bodyByteAt", desc := "(II)I" } : Jvm.MethodName)) ∈ av_tb := List.mem_filter.mpr ⟨List.mem_append_right _ (List.mem_of_getElem? (i := 418) (by decide +kernel)), by decide +kernel⟩
theorem tw_419 : (Jvm.Cond.code ({ cls := "ImageReader$Image", name := "bodyByteAt", desc := "(II)I" } : Jvm.MethodName) prog_4_method_12_code (3 : Nat) (Option.some Jvm.ClassFile.FieldType.int)) ∈ av_tb := List.mem_filter.mpr ⟨List.mem_append_right _ (List.mem_of_getElem? (i := 419) (by decide +kernel)), by decide +kernel⟩
theorem tw_420 : (Jvm.Cond.methodLink "ImageReaderLaw" (80 : Nat) ({ cls := "ImageReader", name := "reachable", desc := "()I" } : Jvm.MethodName)) ∈ av_tb := List.mem_filter.mpr ⟨List.mem_append_right _ (List.mem_of_getElem? (i := 420) (by decide +kernel)), by decide +kernel⟩
theorem tw_421 : (Jvm.Cond.instanceMethod ({ cls := "ImageReader", name := "reachable", desc := "()I" } : Jvm.MethodName)) ∈ av_tb := List.mem_filter.mpr ⟨List.mem_append_right _ (List.mem_of_getElem? (i := 421) (by decide +kernel)), by decide +kernel⟩
theorem tw_422 : (Jvm.Cond.selects "ImageReader" ({ cls := "ImageReader", name := "reachable", desc := "()I" } : Jvm.MethodName) ({ cls := "ImageReader", name := "reachable", desc := "()I" } : Jvm.MethodName)) ∈ av_tb := List.mem_filter.mpr ⟨List.mem_append_right _ (List.mem_of_getElem? (i := 422) (by decide +kernel)), by decide +kernel⟩
theorem tw_423 : (Jvm.Cond.code ({ cls := "ImageReader", name := "reachable", desc := "()I" } : Jvm.MethodName) prog_1_method_14_code (1 : Nat) (Option.some Jvm.ClassFile.FieldType.int)) ∈ av_tb := List.mem_filter.mpr ⟨List.mem_append_right _ (List.mem_of_getElem? (i := 423) (by decide +kernel)), by decide +kernel⟩
theorem nw_424 : (Jvm.Cond.methodLinkNest "ImageReader" (120 : Nat) ({ cls := "ImageReader$Walk", name := "reach", desc := "(LImageReader$Image;)I" } : Jvm.MethodName) "ImageReader") ∈ av_nw := List.mem_filter.mpr ⟨List.mem_append_right _ (List.mem_of_getElem? (i := 424) (by decide +kernel)), by decide +kernel⟩
theorem tw_426 : (Jvm.Cond.instanceMethod ({ cls := "ImageReader$Walk", name := "reach", desc := "(LImageReader$Image;)I" } : Jvm.MethodName)) ∈ av_tb := List.mem_filter.mpr ⟨List.mem_append_right _ (List.mem_of_getElem? (i := 426) (by decide +kernel)), by decide +kernel⟩
theorem tw_427 : (Jvm.Cond.code ({ cls := "ImageReader$Walk", name := "reach", desc := "(LImageReader$Image;)I" } : Jvm.MethodName) prog_7_method_2_code (6 : Nat) (Option.some Jvm.ClassFile.FieldType.int)) ∈ av_tb := List.mem_filter.mpr ⟨List.mem_append_right _ (List.mem_of_getElem? (i := 427) (by decide +kernel)), by decide +kernel⟩
theorem tw_428 : (Jvm.Cond.methodLink "ImageReader$Walk" (18 : Nat) ({ cls := "ImageReader$Walk", name := "clear", desc := "(LImageReader$Image;)V" } : Jvm.MethodName)) ∈ av_tb := List.mem_filter.mpr ⟨List.mem_append_right _ (List.mem_of_getElem? (i := 428) (by decide +kernel)), by decide +kernel⟩
theorem tw_430 : (Jvm.Cond.instanceMethod ({ cls := "ImageReader$Walk", name := "clear", desc := "(LImageReader$Image;)V" } : Jvm.MethodName)) ∈ av_tb := List.mem_filter.mpr ⟨List.mem_append_right _ (List.mem_of_getElem? (i := 430) (by decide +kernel)), by decide +kernel⟩
theorem tw_431 : (Jvm.Cond.code ({ cls := "ImageReader$Walk", name := "clear", desc := "(LImageReader$Image;)V" } : Jvm.MethodName) prog_7_method_3_code (2 : Nat) (Option.none : Option Jvm.ClassFile.FieldType)) ∈ av_tb := List.mem_filter.mpr ⟨List.mem_append_right _ (List.mem_of_getElem? (i := 431) (by decide +kernel)), by decide +kernel⟩
theorem tw_432 : (Jvm.Cond.methodLink "ImageReader$Walk" (55 : Nat) ({ cls := "java/util/Arrays", name := "fill", desc := "([II)V" } : Jvm.MethodName)) ∈ av_tb := List.mem_filter.mpr ⟨List.mem_append_right _ (List.mem_of_getElem? (i := 432) (by decide +kernel)), by decide +kernel⟩
theorem tw_433 : (Jvm.Cond.static ({ cls := "java/util/Arrays", name := "fill", desc := "([II)V" } : Jvm.MethodName)) ∈ av_tb := List.mem_filter.mpr ⟨List.mem_append_right _ (List.mem_of_getElem? (i := 433) (by decide +kernel)), by decide +kernel⟩
theorem tw_434 : (Jvm.Cond.code ({ cls := "java/util/Arrays", name := "fill", desc := "([II)V" } : Jvm.MethodName) prog_19_method_103_code (4 : Nat) (Option.none : Option Jvm.ClassFile.FieldType)) ∈ av_tb := List.mem_filter.mpr ⟨List.mem_append_right _ (List.mem_of_getElem? (i := 434) (by decide +kernel)), by decide +kernel⟩
theorem nw_435 : (Jvm.Cond.methodLinkNest "ImageReader$Walk" (27 : Nat) ({ cls := "ImageReader$Image", name := "objectOf", desc := "(I)I" } : Jvm.MethodName) "ImageReader") ∈ av_nw := List.mem_filter.mpr ⟨List.mem_append_right _ (List.mem_of_getElem? (i := 435) (by decide +kernel)), by decide +kernel⟩
theorem tw_436 : (Jvm.Cond.methodLink "ImageReader$Walk" (31 : Nat) ({ cls := "ImageReader$Walk", name := "visit", desc := "(I)V" } : Jvm.MethodName)) ∈ av_tb := List.mem_filter.mpr ⟨List.mem_append_right _ (List.mem_of_getElem? (i := 436) (by decide +kernel)), by decide +kernel⟩
theorem tw_438 : (Jvm.Cond.instanceMethod ({ cls := "ImageReader$Walk", name := "visit", desc := "(I)V" } : Jvm.MethodName)) ∈ av_tb := List.mem_filter.mpr ⟨List.mem_append_right _ (List.mem_of_getElem? (i := 438) (by decide +kernel)), by decide +kernel⟩
theorem tw_439 : (Jvm.Cond.code ({ cls := "ImageReader$Walk", name := "visit", desc := "(I)V" } : Jvm.MethodName) prog_7_method_4_code (2 : Nat) (Option.none : Option Jvm.ClassFile.FieldType)) ∈ av_tb := List.mem_filter.mpr ⟨List.mem_append_right _ (List.mem_of_getElem? (i := 439) (by decide +kernel)), by decide +kernel⟩
theorem nw_440 : (Jvm.Cond.methodLinkNest "ImageReader$Walk" (42 : Nat) ({ cls := "ImageReader$Image", name := "classAt", desc := "(I)I" } : Jvm.MethodName) "ImageReader") ∈ av_nw := List.mem_filter.mpr ⟨List.mem_append_right _ (List.mem_of_getElem? (i := 440) (by decide +kernel)), by decide +kernel⟩
theorem nw_441 : (Jvm.Cond.methodLinkNest "ImageReader$Walk" (45 : Nat) ({ cls := "ImageReader$Image", name := "fieldCount", desc := "(I)I" } : Jvm.MethodName) "ImageReader") ∈ av_nw := List.mem_filter.mpr ⟨List.mem_append_right _ (List.mem_of_getElem? (i := 441) (by decide +kernel)), by decide +kernel⟩
theorem nw_442 : (Jvm.Cond.methodLinkNest "ImageReader$Walk" (48 : Nat) ({ cls := "ImageReader$Image", name := "fieldAt", desc := "(II)I" } : Jvm.MethodName) "ImageReader") ∈ av_nw := List.mem_filter.mpr ⟨List.mem_append_right _ (List.mem_of_getElem? (i := 442) (by decide +kernel)), by decide +kernel⟩
theorem tw_443 : (Jvm.Cond.methodLink "ImageReaderLaw" (84 : Nat) ({ cls := "ImageReader", name := "write", desc := "()I" } : Jvm.MethodName)) ∈ av_tb := List.mem_filter.mpr ⟨List.mem_append_right _ (List.mem_of_getElem? (i := 443) (by decide +kernel)), by decide +kernel⟩
theorem tw_444 : (Jvm.Cond.instanceMethod ({ cls := "ImageReader", name := "write", desc := "()I" } : Jvm.MethodName)) ∈ av_tb := List.mem_filter.mpr ⟨List.mem_append_right _ (List.mem_of_getElem? (i := 444) (by decide +kernel)), by decide +kernel⟩
theorem tw_445 : (Jvm.Cond.selects "ImageReader" ({ cls := "ImageReader", name := "write", desc := "()I" } : Jvm.MethodName) ({ cls := "ImageReader", name := "write", desc := "()I" } : Jvm.MethodName)) ∈ av_tb := List.mem_filter.mpr ⟨List.mem_append_right _ (List.mem_of_getElem? (i := 445) (by decide +kernel)), by decide +kernel⟩
theorem tw_446 : (Jvm.Cond.code ({ cls := "ImageReader", name := "write", desc := "()I" } : Jvm.MethodName) prog_1_method_15_code (3 : Nat) (Option.some Jvm.ClassFile.FieldType.int)) ∈ av_tb := List.mem_filter.mpr ⟨List.mem_append_right _ (List.mem_of_getElem? (i := 446) (by decide +kernel)), by decide +kernel⟩
theorem nw_447 : (Jvm.Cond.methodLinkNest "ImageReader" (123 : Nat) ({ cls := "ImageReader$Walk", name := "numberAnew", desc := "(LImageReader$Image;)V" } : Jvm.MethodName) "ImageReader") ∈ av_nw := List.mem_filter.mpr ⟨List.mem_append_right _ (List.mem_of_getElem? (i := 447) (by decide +kernel)), by decide +kernel⟩
theorem tw_449 : (Jvm.Cond.instanceMethod ({ cls := "ImageReader$Walk", name := "numberAnew", desc := "(LImageReader$Image;)V" } : Jvm.MethodName)) ∈ av_tb := List.mem_filter.mpr ⟨List.mem_append_right _ (List.mem_of_getElem? (i := 449) (by decide +kernel)), by decide +kernel⟩
theorem tw_450 : (Jvm.Cond.code ({ cls := "ImageReader$Walk", name := "numberAnew", desc := "(LImageReader$Image;)V" } : Jvm.MethodName) prog_7_method_5_code (4 : Nat) (Option.none : Option Jvm.ClassFile.FieldType)) ∈ av_tb := List.mem_filter.mpr ⟨List.mem_append_right _ (List.mem_of_getElem? (i := 450) (by decide +kernel)), by decide +kernel⟩
theorem tw_451 : (Jvm.Cond.methodLink "ImageReader" (127 : Nat) ({ cls := "ImageReader", name := "writeHead", desc := "(I)V" } : Jvm.MethodName)) ∈ av_tb := List.mem_filter.mpr ⟨List.mem_append_right _ (List.mem_of_getElem? (i := 451) (by decide +kernel)), by decide +kernel⟩
theorem tw_453 : (Jvm.Cond.instanceMethod ({ cls := "ImageReader", name := "writeHead", desc := "(I)V" } : Jvm.MethodName)) ∈ av_tb := List.mem_filter.mpr ⟨List.mem_append_right _ (List.mem_of_getElem? (i := 453) (by decide +kernel)), by decide +kernel⟩
theorem tw_454 : (Jvm.Cond.code ({ cls := "ImageReader", name := "writeHead", desc := "(I)V" } : Jvm.MethodName) prog_1_method_21_code (3 : Nat) (Option.none : Option Jvm.ClassFile.FieldType)) ∈ av_tb := List.mem_filter.mpr ⟨List.mem_append_right _ (List.mem_of_getElem? (i := 454) (by decide +kernel)), by decide +kernel⟩
theorem nw_456 : (Jvm.Cond.methodLinkNest "ImageReader" (177 : Nat) ({ cls := "ImageReader$Bytes", name := "add", desc := "(I)V" } : Jvm.MethodName) "ImageReader") ∈ av_nw := List.mem_filter.mpr ⟨List.mem_append_right _ (List.mem_of_getElem? (i := 456) (by decide +kernel)), by decide +kernel⟩
theorem tw_458 : (Jvm.Cond.instanceMethod ({ cls := "ImageReader$Bytes", name := "add", desc := "(I)V" } : Jvm.MethodName)) ∈ av_tb := List.mem_filter.mpr ⟨List.mem_append_right _ (List.mem_of_getElem? (i := 458) (by decide +kernel)), by decide +kernel⟩
theorem tw_459 : (Jvm.Cond.code ({ cls := "ImageReader$Bytes", name := "add", desc := "(I)V" } : Jvm.MethodName) prog_2_method_6_code (2 : Nat) (Option.none : Option Jvm.ClassFile.FieldType)) ∈ av_tb := List.mem_filter.mpr ⟨List.mem_append_right _ (List.mem_of_getElem? (i := 459) (by decide +kernel)), by decide +kernel⟩
theorem tw_460 : (Jvm.Cond.methodLink "ImageReader$Bytes" (23 : Nat) ({ cls := "java/util/Arrays", name := "copyOf", desc := "([BI)[B" } : Jvm.MethodName)) ∈ av_tb := List.mem_filter.mpr ⟨List.mem_append_right _ (List.mem_of_getElem? (i := 460) (by decide +kernel)), by decide +kernel⟩
theorem tw_461 : (Jvm.Cond.static ({ cls := "java/util/Arrays", name := "copyOf", desc := "([BI)[B" } : Jvm.MethodName)) ∈ av_tb := List.mem_filter.mpr ⟨List.mem_append_right _ (List.mem_of_getElem? (i := 461) (by decide +kernel)), by decide +kernel⟩
theorem tw_462 : (Jvm.Cond.code ({ cls := "java/util/Arrays", name := "copyOf", desc := "([BI)[B" } : Jvm.MethodName) prog_19_method_121_code (3 : Nat) (Option.some (Jvm.ClassFile.FieldType.array Jvm.ClassFile.FieldType.byte))) ∈ av_tb := List.mem_filter.mpr ⟨List.mem_append_right _ (List.mem_of_getElem? (i := 462) (by decide +kernel)), by decide +kernel⟩
theorem nw_468 : (Jvm.Cond.methodLinkNest "ImageReader" (186 : Nat) ({ cls := "ImageReader$Bytes", name := "addPair", desc := "(I)V" } : Jvm.MethodName) "ImageReader") ∈ av_nw := List.mem_filter.mpr ⟨List.mem_append_right _ (List.mem_of_getElem? (i := 468) (by decide +kernel)), by decide +kernel⟩
theorem tw_470 : (Jvm.Cond.instanceMethod ({ cls := "ImageReader$Bytes", name := "addPair", desc := "(I)V" } : Jvm.MethodName)) ∈ av_tb := List.mem_filter.mpr ⟨List.mem_append_right _ (List.mem_of_getElem? (i := 470) (by decide +kernel)), by decide +kernel⟩
theorem tw_471 : (Jvm.Cond.code ({ cls := "ImageReader$Bytes", name := "addPair", desc := "(I)V" } : Jvm.MethodName) prog_2_method_7_code (2 : Nat) (Option.none : Option Jvm.ClassFile.FieldType)) ∈ av_tb := List.mem_filter.mpr ⟨List.mem_append_right _ (List.mem_of_getElem? (i := 471) (by decide +kernel)), by decide +kernel⟩
theorem tw_472 : (Jvm.Cond.methodLink "ImageReader$Bytes" (29 : Nat) ({ cls := "ImageReader$Bytes", name := "add", desc := "(I)V" } : Jvm.MethodName)) ∈ av_tb := List.mem_filter.mpr ⟨List.mem_append_right _ (List.mem_of_getElem? (i := 472) (by decide +kernel)), by decide +kernel⟩
theorem nw_473 : (Jvm.Cond.methodLinkNest "ImageReader" (133 : Nat) ({ cls := "ImageReader$Walk", name := "renumbered", desc := "(LImageReader$Image;I)I" } : Jvm.MethodName) "ImageReader") ∈ av_nw := List.mem_filter.mpr ⟨List.mem_append_right _ (List.mem_of_getElem? (i := 473) (by decide +kernel)), by decide +kernel⟩
theorem tw_475 : (Jvm.Cond.instanceMethod ({ cls := "ImageReader$Walk", name := "renumbered", desc := "(LImageReader$Image;I)I" } : Jvm.MethodName)) ∈ av_tb := List.mem_filter.mpr ⟨List.mem_append_right _ (List.mem_of_getElem? (i := 475) (by decide +kernel)), by decide +kernel⟩
theorem tw_476 : (Jvm.Cond.code ({ cls := "ImageReader$Walk", name := "renumbered", desc := "(LImageReader$Image;I)I" } : Jvm.MethodName) prog_7_method_6_code (4 : Nat) (Option.some Jvm.ClassFile.FieldType.int)) ∈ av_tb := List.mem_filter.mpr ⟨List.mem_append_right _ (List.mem_of_getElem? (i := 476) (by decide +kernel)), by decide +kernel⟩
theorem nw_477 : (Jvm.Cond.methodLinkNest "ImageReader" (61 : Nat) ({ cls := "ImageReader$Bytes", name := "addWord", desc := "(I)V" } : Jvm.MethodName) "ImageReader") ∈ av_nw := List.mem_filter.mpr ⟨List.mem_append_right _ (List.mem_of_getElem? (i := 477) (by decide +kernel)), by decide +kernel⟩
theorem tw_479 : (Jvm.Cond.instanceMethod ({ cls := "ImageReader$Bytes", name := "addWord", desc := "(I)V" } : Jvm.MethodName)) ∈ av_tb := List.mem_filter.mpr ⟨List.mem_append_right _ (List.mem_of_getElem? (i := 479) (by decide +kernel)), by decide +kernel⟩
theorem tw_480 : (Jvm.Cond.code ({ cls := "ImageReader$Bytes", name := "addWord", desc := "(I)V" } : Jvm.MethodName) prog_2_method_8_code (2 : Nat) (Option.none : Option Jvm.ClassFile.FieldType)) ∈ av_tb := List.mem_filter.mpr ⟨List.mem_append_right _ (List.mem_of_getElem? (i := 480) (by decide +kernel)), by decide +kernel⟩
theorem tw_481 : (Jvm.Cond.methodLink "ImageReader$Bytes" (33 : Nat) ({ cls := "ImageReader$Bytes", name := "addPair", desc := "(I)V" } : Jvm.MethodName)) ∈ av_tb := List.mem_filter.mpr ⟨List.mem_append_right _ (List.mem_of_getElem? (i := 481) (by decide +kernel)), by decide +kernel⟩
theorem tw_482 : (Jvm.Cond.methodLink "ImageReader" (140 : Nat) ({ cls := "ImageReader", name := "writeObject", desc := "(I)V" } : Jvm.MethodName)) ∈ av_tb := List.mem_filter.mpr ⟨List.mem_append_right _ (List.mem_of_getElem? (i := 482) (by decide +kernel)), by decide +kernel⟩
theorem tw_484 : (Jvm.Cond.instanceMethod ({ cls := "ImageReader", name := "writeObject", desc := "(I)V" } : Jvm.MethodName)) ∈ av_tb := List.mem_filter.mpr ⟨List.mem_append_right _ (List.mem_of_getElem? (i := 484) (by decide +kernel)), by decide +kernel⟩
theorem tw_485 : (Jvm.Cond.code ({ cls := "ImageReader", name := "writeObject", desc := "(I)V" } : Jvm.MethodName) prog_1_method_22_code (4 : Nat) (Option.none : Option Jvm.ClassFile.FieldType)) ∈ av_tb := List.mem_filter.mpr ⟨List.mem_append_right _ (List.mem_of_getElem? (i := 485) (by decide +kernel)), by decide +kernel⟩
theorem tw_486 : (Jvm.Cond.methodLink "ImageReaderLaw" (88 : Nat) ({ cls := "ImageReader", name := "came", desc := "(I)I" } : Jvm.MethodName)) ∈ av_tb := List.mem_filter.mpr ⟨List.mem_append_right _ (List.mem_of_getElem? (i := 486) (by decide +kernel)), by decide +kernel⟩
theorem tw_487 : (Jvm.Cond.instanceMethod ({ cls := "ImageReader", name := "came", desc := "(I)I" } : Jvm.MethodName)) ∈ av_tb := List.mem_filter.mpr ⟨List.mem_append_right _ (List.mem_of_getElem? (i := 487) (by decide +kernel)), by decide +kernel⟩
theorem tw_488 : (Jvm.Cond.selects "ImageReader" ({ cls := "ImageReader", name := "came", desc := "(I)I" } : Jvm.MethodName) ({ cls := "ImageReader", name := "came", desc := "(I)I" } : Jvm.MethodName)) ∈ av_tb := List.mem_filter.mpr ⟨List.mem_append_right _ (List.mem_of_getElem? (i := 488) (by decide +kernel)), by decide +kernel⟩
theorem tw_489 : (Jvm.Cond.code ({ cls := "ImageReader", name := "came", desc := "(I)I" } : Jvm.MethodName) prog_1_method_16_code (2 : Nat) (Option.some Jvm.ClassFile.FieldType.int)) ∈ av_tb := List.mem_filter.mpr ⟨List.mem_append_right _ (List.mem_of_getElem? (i := 489) (by decide +kernel)), by decide +kernel⟩
theorem tw_490 : (Jvm.Cond.methodLink "ImageReaderLaw" (92 : Nat) ({ cls := "ImageReader", name := "keep", desc := "()Z" } : Jvm.MethodName)) ∈ av_tb := List.mem_filter.mpr ⟨List.mem_append_right _ (List.mem_of_getElem? (i := 490) (by decide +kernel)), by decide +kernel⟩
theorem tw_491 : (Jvm.Cond.instanceMethod ({ cls := "ImageReader", name := "keep", desc := "()Z" } : Jvm.MethodName)) ∈ av_tb := List.mem_filter.mpr ⟨List.mem_append_right _ (List.mem_of_getElem? (i := 491) (by decide +kernel)), by decide +kernel⟩
theorem tw_492 : (Jvm.Cond.selects "ImageReader" ({ cls := "ImageReader", name := "keep", desc := "()Z" } : Jvm.MethodName) ({ cls := "ImageReader", name := "keep", desc := "()Z" } : Jvm.MethodName)) ∈ av_tb := List.mem_filter.mpr ⟨List.mem_append_right _ (List.mem_of_getElem? (i := 492) (by decide +kernel)), by decide +kernel⟩
theorem tw_493 : (Jvm.Cond.code ({ cls := "ImageReader", name := "keep", desc := "()Z" } : Jvm.MethodName) prog_1_method_17_code (1 : Nat) (Option.some Jvm.ClassFile.FieldType.boolean)) ∈ av_tb := List.mem_filter.mpr ⟨List.mem_append_right _ (List.mem_of_getElem? (i := 493) (by decide +kernel)), by decide +kernel⟩
theorem tw_494 : (Jvm.Cond.methodLink "ImageReaderLaw" (97 : Nat) ({ cls := "ImageReader", name := "same", desc := "()Z" } : Jvm.MethodName)) ∈ av_tb := List.mem_filter.mpr ⟨List.mem_append_right _ (List.mem_of_getElem? (i := 494) (by decide +kernel)), by decide +kernel⟩
theorem tw_495 : (Jvm.Cond.instanceMethod ({ cls := "ImageReader", name := "same", desc := "()Z" } : Jvm.MethodName)) ∈ av_tb := List.mem_filter.mpr ⟨List.mem_append_right _ (List.mem_of_getElem? (i := 495) (by decide +kernel)), by decide +kernel⟩
theorem tw_496 : (Jvm.Cond.selects "ImageReader" ({ cls := "ImageReader", name := "same", desc := "()Z" } : Jvm.MethodName) ({ cls := "ImageReader", name := "same", desc := "()Z" } : Jvm.MethodName)) ∈ av_tb := List.mem_filter.mpr ⟨List.mem_append_right _ (List.mem_of_getElem? (i := 496) (by decide +kernel)), by decide +kernel⟩
theorem tw_497 : (Jvm.Cond.code ({ cls := "ImageReader", name := "same", desc := "()Z" } : Jvm.MethodName) prog_1_method_18_code (1 : Nat) (Option.some Jvm.ClassFile.FieldType.boolean)) ∈ av_tb := List.mem_filter.mpr ⟨List.mem_append_right _ (List.mem_of_getElem? (i := 497) (by decide +kernel)), by decide +kernel⟩
theorem nw_498 : (Jvm.Cond.methodLinkNest "ImageReader" (143 : Nat) ({ cls := "ImageReader$Pairing", name := "pairs", desc := "(LImageReader$Image;LImageReader$Image;)Z" } : Jvm.MethodName) "ImageReader") ∈ av_nw := List.mem_filter.mpr ⟨List.mem_append_right _ (List.mem_of_getElem? (i := 498) (by decide +kernel)), by decide +kernel⟩
theorem tw_500 : (Jvm.Cond.instanceMethod ({ cls := "ImageReader$Pairing", name := "pairs", desc := "(LImageReader$Image;LImageReader$Image;)Z" } : Jvm.MethodName)) ∈ av_tb := List.mem_filter.mpr ⟨List.mem_append_right _ (List.mem_of_getElem? (i := 500) (by decide +kernel)), by decide +kernel⟩
theorem tw_501 : (Jvm.Cond.code ({ cls := "ImageReader$Pairing", name := "pairs", desc := "(LImageReader$Image;LImageReader$Image;)Z" } : Jvm.MethodName) prog_6_method_2_code (4 : Nat) (Option.some Jvm.ClassFile.FieldType.boolean)) ∈ av_tb := List.mem_filter.mpr ⟨List.mem_append_right _ (List.mem_of_getElem? (i := 501) (by decide +kernel)), by decide +kernel⟩
theorem tw_502 : (Jvm.Cond.methodLink "ImageReader$Pairing" (21 : Nat) ({ cls := "ImageReader$Pairing", name := "clear", desc := "(LImageReader$Image;LImageReader$Image;)V" } : Jvm.MethodName)) ∈ av_tb := List.mem_filter.mpr ⟨List.mem_append_right _ (List.mem_of_getElem? (i := 502) (by decide +kernel)), by decide +kernel⟩
theorem tw_504 : (Jvm.Cond.instanceMethod ({ cls := "ImageReader$Pairing", name := "clear", desc := "(LImageReader$Image;LImageReader$Image;)V" } : Jvm.MethodName)) ∈ av_tb := List.mem_filter.mpr ⟨List.mem_append_right _ (List.mem_of_getElem? (i := 504) (by decide +kernel)), by decide +kernel⟩
theorem tw_505 : (Jvm.Cond.code ({ cls := "ImageReader$Pairing", name := "clear", desc := "(LImageReader$Image;LImageReader$Image;)V" } : Jvm.MethodName) prog_6_method_3_code (4 : Nat) (Option.none : Option Jvm.ClassFile.FieldType)) ∈ av_tb := List.mem_filter.mpr ⟨List.mem_append_right _ (List.mem_of_getElem? (i := 505) (by decide +kernel)), by decide +kernel⟩
theorem tw_506 : (Jvm.Cond.methodLink "ImageReader$Pairing" (53 : Nat) ({ cls := "java/lang/Math", name := "max", desc := "(II)I" } : Jvm.MethodName)) ∈ av_tb := List.mem_filter.mpr ⟨List.mem_append_right _ (List.mem_of_getElem? (i := 506) (by decide +kernel)), by decide +kernel⟩
theorem tw_507 : (Jvm.Cond.static ({ cls := "java/lang/Math", name := "max", desc := "(II)I" } : Jvm.MethodName)) ∈ av_tb := List.mem_filter.mpr ⟨List.mem_append_right _ (List.mem_of_getElem? (i := 507) (by decide +kernel)), by decide +kernel⟩
theorem tw_508 : (Jvm.Cond.code ({ cls := "java/lang/Math", name := "max", desc := "(II)I" } : Jvm.MethodName) prog_14_method_65_code (2 : Nat) (Option.some Jvm.ClassFile.FieldType.int)) ∈ av_tb := List.mem_filter.mpr ⟨List.mem_append_right _ (List.mem_of_getElem? (i := 508) (by decide +kernel)), by decide +kernel⟩
theorem tw_509 : (Jvm.Cond.methodLink "ImageReader$Pairing" (59 : Nat) ({ cls := "java/util/Arrays", name := "fill", desc := "([II)V" } : Jvm.MethodName)) ∈ av_tb := List.mem_filter.mpr ⟨List.mem_append_right _ (List.mem_of_getElem? (i := 509) (by decide +kernel)), by decide +kernel⟩
theorem tw_510 : (Jvm.Cond.methodLink "ImageReader$Pairing" (37 : Nat) ({ cls := "ImageReader$Pairing", name := "match", desc := "(LImageReader$Image;ILImageReader$Image;I)Z" } : Jvm.MethodName)) ∈ av_tb := List.mem_filter.mpr ⟨List.mem_append_right _ (List.mem_of_getElem? (i := 510) (by decide +kernel)), by decide +kernel⟩
theorem tw_512 : (Jvm.Cond.instanceMethod ({ cls := "ImageReader$Pairing", name := "match", desc := "(LImageReader$Image;ILImageReader$Image;I)Z" } : Jvm.MethodName)) ∈ av_tb := List.mem_filter.mpr ⟨List.mem_append_right _ (List.mem_of_getElem? (i := 512) (by decide +kernel)), by decide +kernel⟩
theorem tw_513 : (Jvm.Cond.code ({ cls := "ImageReader$Pairing", name := "match", desc := "(LImageReader$Image;ILImageReader$Image;I)Z" } : Jvm.MethodName) prog_6_method_4_code (7 : Nat) (Option.some Jvm.ClassFile.FieldType.boolean)) ∈ av_tb := List.mem_filter.mpr ⟨List.mem_append_right _ (List.mem_of_getElem? (i := 513) (by decide +kernel)), by decide +kernel⟩
theorem nw_514 : (Jvm.Cond.methodLinkNest "ImageReader$Pairing" (65 : Nat) ({ cls := "ImageReader$Image", name := "objectOf", desc := "(I)I" } : Jvm.MethodName) "ImageReader") ∈ av_nw := List.mem_filter.mpr ⟨List.mem_append_right _ (List.mem_of_getElem? (i := 514) (by decide +kernel)), by decide +kernel⟩
theorem tw_515 : (Jvm.Cond.methodLink "ImageReader$Pairing" (47 : Nat) ({ cls := "ImageReader$Pairing", name := "matchBodies", desc := "(LImageReader$Image;ILImageReader$Image;I)Z" } : Jvm.MethodName)) ∈ av_tb := List.mem_filter.mpr ⟨List.mem_append_right _ (List.mem_of_getElem? (i := 515) (by decide +kernel)), by decide +kernel⟩
theorem tw_517 : (Jvm.Cond.instanceMethod ({ cls := "ImageReader$Pairing", name := "matchBodies", desc := "(LImageReader$Image;ILImageReader$Image;I)Z" } : Jvm.MethodName)) ∈ av_tb := List.mem_filter.mpr ⟨List.mem_append_right _ (List.mem_of_getElem? (i := 517) (by decide +kernel)), by decide +kernel⟩
theorem tw_518 : (Jvm.Cond.code ({ cls := "ImageReader$Pairing", name := "matchBodies", desc := "(LImageReader$Image;ILImageReader$Image;I)Z" } : Jvm.MethodName) prog_6_method_5_code (9 : Nat) (Option.some Jvm.ClassFile.FieldType.boolean)) ∈ av_tb := List.mem_filter.mpr ⟨List.mem_append_right _ (List.mem_of_getElem? (i := 518) (by decide +kernel)), by decide +kernel⟩
theorem tw_523 : (Jvm.Cond.methodLink "ImageReaderLaw" (7 : Nat) ({ cls := "ImageReader", name := "feed", desc := "(IIIII)V" } : Jvm.MethodName)) ∈ av_tb := List.mem_filter.mpr ⟨List.mem_append_right _ (List.mem_of_getElem? (i := 523) (by decide +kernel)), by decide +kernel⟩
theorem tw_524 : (Jvm.Cond.instanceMethod ({ cls := "ImageReader", name := "feed", desc := "(IIIII)V" } : Jvm.MethodName)) ∈ av_tb := List.mem_filter.mpr ⟨List.mem_append_right _ (List.mem_of_getElem? (i := 524) (by decide +kernel)), by decide +kernel⟩
theorem tw_525 : (Jvm.Cond.selects "ImageReader" ({ cls := "ImageReader", name := "feed", desc := "(IIIII)V" } : Jvm.MethodName) ({ cls := "ImageReader", name := "feed", desc := "(IIIII)V" } : Jvm.MethodName)) ∈ av_tb := List.mem_filter.mpr ⟨List.mem_append_right _ (List.mem_of_getElem? (i := 525) (by decide +kernel)), by decide +kernel⟩
theorem tw_526 : (Jvm.Cond.code ({ cls := "ImageReader", name := "feed", desc := "(IIIII)V" } : Jvm.MethodName) prog_1_method_2_code (6 : Nat) (Option.none : Option Jvm.ClassFile.FieldType)) ∈ av_tb := List.mem_filter.mpr ⟨List.mem_append_right _ (List.mem_of_getElem? (i := 526) (by decide +kernel)), by decide +kernel⟩
theorem tw_527 : (Jvm.Cond.constant "ImageReader" (53 : Nat) (65536 : Int32)) ∈ av_tb := List.mem_filter.mpr ⟨List.mem_append_right _ (List.mem_of_getElem? (i := 527) (by decide +kernel)), by decide +kernel⟩
theorem tw_567 : (Jvm.Cond.native ({ cls := "java/lang/Throwable", name := "fillInStackTrace", desc := "(I)Ljava/lang/Throwable;" } : Jvm.MethodName)) ∈ av_tb := List.mem_filter.mpr ⟨List.mem_append_right _ (List.mem_of_getElem? (i := 567) (by decide +kernel)), by decide +kernel⟩
theorem tw_598 : (Jvm.Cond.methodLink "ImageReaderLaw" (15 : Nat) ({ cls := "ImageReader", name := "end", desc := "(I)I" } : Jvm.MethodName)) ∈ av_tb := List.mem_filter.mpr ⟨List.mem_append_right _ (List.mem_of_getElem? (i := 598) (by decide +kernel)), by decide +kernel⟩
theorem tw_599 : (Jvm.Cond.instanceMethod ({ cls := "ImageReader", name := "end", desc := "(I)I" } : Jvm.MethodName)) ∈ av_tb := List.mem_filter.mpr ⟨List.mem_append_right _ (List.mem_of_getElem? (i := 599) (by decide +kernel)), by decide +kernel⟩
theorem tw_600 : (Jvm.Cond.selects "ImageReader" ({ cls := "ImageReader", name := "end", desc := "(I)I" } : Jvm.MethodName) ({ cls := "ImageReader", name := "end", desc := "(I)I" } : Jvm.MethodName)) ∈ av_tb := List.mem_filter.mpr ⟨List.mem_append_right _ (List.mem_of_getElem? (i := 600) (by decide +kernel)), by decide +kernel⟩
theorem tw_601 : (Jvm.Cond.code ({ cls := "ImageReader", name := "end", desc := "(I)I" } : Jvm.MethodName) prog_1_method_3_code (3 : Nat) (Option.some Jvm.ClassFile.FieldType.int)) ∈ av_tb := List.mem_filter.mpr ⟨List.mem_append_right _ (List.mem_of_getElem? (i := 601) (by decide +kernel)), by decide +kernel⟩
theorem tw_618 : (Jvm.Cond.classLink "ImageReaderLaw" (22 : Nat) "ImageReaderModel") ∈ av_tb := List.mem_filter.mpr ⟨List.mem_append_right _ (List.mem_of_getElem? (i := 618) (by decide +kernel)), by decide +kernel⟩
theorem tw_619 : (Jvm.Cond.instantiable "ImageReaderModel" (13 : Nat)) ∈ av_tb := List.mem_filter.mpr ⟨List.mem_append_right _ (List.mem_of_getElem? (i := 619) (by decide +kernel)), by decide +kernel⟩
theorem tw_620 : (Jvm.Cond.methodLink "ImageReaderLaw" (24 : Nat) ({ cls := "ImageReaderModel", name := "<init>", desc := "()V" } : Jvm.MethodName)) ∈ av_tb := List.mem_filter.mpr ⟨List.mem_append_right _ (List.mem_of_getElem? (i := 620) (by decide +kernel)), by decide +kernel⟩
theorem tw_621 : (Jvm.Cond.instanceMethod ({ cls := "ImageReaderModel", name := "<init>", desc := "()V" } : Jvm.MethodName)) ∈ av_tb := List.mem_filter.mpr ⟨List.mem_append_right _ (List.mem_of_getElem? (i := 621) (by decide +kernel)), by decide +kernel⟩
theorem tw_622 : (Jvm.Cond.code ({ cls := "ImageReaderModel", name := "<init>", desc := "()V" } : Jvm.MethodName) prog_9_method_1_code (1 : Nat) (Option.none : Option Jvm.ClassFile.FieldType)) ∈ av_tb := List.mem_filter.mpr ⟨List.mem_append_right _ (List.mem_of_getElem? (i := 622) (by decide +kernel)), by decide +kernel⟩
theorem tw_623 : (Jvm.Cond.methodLink "ImageReaderModel" (1 : Nat) ({ cls := "java/lang/Object", name := "<init>", desc := "()V" } : Jvm.MethodName)) ∈ av_tb := List.mem_filter.mpr ⟨List.mem_append_right _ (List.mem_of_getElem? (i := 623) (by decide +kernel)), by decide +kernel⟩
theorem tw_624 : (Jvm.Cond.constant "ImageReaderModel" (7 : Nat) (65536 : Int32)) ∈ av_tb := List.mem_filter.mpr ⟨List.mem_append_right _ (List.mem_of_getElem? (i := 624) (by decide +kernel)), by decide +kernel⟩
theorem tw_625 : (Jvm.Cond.fieldLink "ImageReaderModel" (36 : Nat) "ImageReaderModel" "code" "I") ∈ av_tb := List.mem_filter.mpr ⟨List.mem_append_right _ (List.mem_of_getElem? (i := 625) (by decide +kernel)), by decide +kernel⟩
theorem tw_626 : (Jvm.Cond.fieldLink "ImageReaderModel" (8 : Nat) "ImageReaderModel" "in" "[B") ∈ av_tb := List.mem_filter.mpr ⟨List.mem_append_right _ (List.mem_of_getElem? (i := 626) (by decide +kernel)), by decide +kernel⟩
theorem tw_627 : (Jvm.Cond.fieldLink "ImageReaderModel" (40 : Nat) "ImageReaderModel" "count" "I") ∈ av_tb := List.mem_filter.mpr ⟨List.mem_append_right _ (List.mem_of_getElem? (i := 627) (by decide +kernel)), by decide +kernel⟩
theorem tw_628 : (Jvm.Cond.fieldLink "ImageReaderModel" (14 : Nat) "ImageReaderModel" "image" "[B") ∈ av_tb := List.mem_filter.mpr ⟨List.mem_append_right _ (List.mem_of_getElem? (i := 628) (by decide +kernel)), by decide +kernel⟩
theorem tw_629 : (Jvm.Cond.fieldLink "ImageReaderModel" (149 : Nat) "ImageReaderModel" "length" "I") ∈ av_tb := List.mem_filter.mpr ⟨List.mem_append_right _ (List.mem_of_getElem? (i := 629) (by decide +kernel)), by decide +kernel⟩
theorem tw_630 : (Jvm.Cond.fieldLink "ImageReaderModel" (17 : Nat) "ImageReaderModel" "kept" "[B") ∈ av_tb := List.mem_filter.mpr ⟨List.mem_append_right _ (List.mem_of_getElem? (i := 630) (by decide +kernel)), by decide +kernel⟩
theorem tw_631 : (Jvm.Cond.fieldLink "ImageReaderModel" (176 : Nat) "ImageReaderModel" "keptLength" "I") ∈ av_tb := List.mem_filter.mpr ⟨List.mem_append_right _ (List.mem_of_getElem? (i := 631) (by decide +kernel)), by decide +kernel⟩
theorem tw_632 : (Jvm.Cond.fieldLink "ImageReaderModel" (20 : Nat) "ImageReaderModel" "starts" "[I") ∈ av_tb := List.mem_filter.mpr ⟨List.mem_append_right _ (List.mem_of_getElem? (i := 632) (by decide +kernel)), by decide +kernel⟩
theorem tw_633 : (Jvm.Cond.fieldLink "ImageReaderModel" (24 : Nat) "ImageReaderModel" "keptStarts" "[I") ∈ av_tb := List.mem_filter.mpr ⟨List.mem_append_right _ (List.mem_of_getElem? (i := 633) (by decide +kernel)), by decide +kernel⟩
theorem tw_634 : (Jvm.Cond.fieldLink "ImageReaderModel" (27 : Nat) "ImageReaderModel" "reached" "[I") ∈ av_tb := List.mem_filter.mpr ⟨List.mem_append_right _ (List.mem_of_getElem? (i := 634) (by decide +kernel)), by decide +kernel⟩
theorem tw_635 : (Jvm.Cond.fieldLink "ImageReaderModel" (30 : Nat) "ImageReaderModel" "number" "[I") ∈ av_tb := List.mem_filter.mpr ⟨List.mem_append_right _ (List.mem_of_getElem? (i := 635) (by decide +kernel)), by decide +kernel⟩
theorem tw_636 : (Jvm.Cond.fieldLink "ImageReaderModel" (33 : Nat) "ImageReaderModel" "back" "[I") ∈ av_tb := List.mem_filter.mpr ⟨List.mem_append_right _ (List.mem_of_getElem? (i := 636) (by decide +kernel)), by decide +kernel⟩
theorem tw_637 : (Jvm.Cond.fieldLink "ImageReaderModel" (159 : Nat) "ImageReaderModel" "many" "I") ∈ av_tb := List.mem_filter.mpr ⟨List.mem_append_right _ (List.mem_of_getElem? (i := 637) (by decide +kernel)), by decide +kernel⟩
theorem tw_665 : (Jvm.Cond.methodLink "ImageReaderLaw" (31 : Nat) ({ cls := "ImageReaderModel", name := "thrown", desc := "()I" } : Jvm.MethodName)) ∈ av_tb := List.mem_filter.mpr ⟨List.mem_append_right _ (List.mem_of_getElem? (i := 665) (by decide +kernel)), by decide +kernel⟩
theorem tw_666 : (Jvm.Cond.instanceMethod ({ cls := "ImageReaderModel", name := "thrown", desc := "()I" } : Jvm.MethodName)) ∈ av_tb := List.mem_filter.mpr ⟨List.mem_append_right _ (List.mem_of_getElem? (i := 666) (by decide +kernel)), by decide +kernel⟩
theorem tw_667 : (Jvm.Cond.selects "ImageReaderModel" ({ cls := "ImageReaderModel", name := "thrown", desc := "()I" } : Jvm.MethodName) ({ cls := "ImageReaderModel", name := "thrown", desc := "()I" } : Jvm.MethodName)) ∈ av_tb := List.mem_filter.mpr ⟨List.mem_append_right _ (List.mem_of_getElem? (i := 667) (by decide +kernel)), by decide +kernel⟩
theorem tw_668 : (Jvm.Cond.code ({ cls := "ImageReaderModel", name := "thrown", desc := "()I" } : Jvm.MethodName) prog_9_method_2_code (1 : Nat) (Option.some Jvm.ClassFile.FieldType.int)) ∈ av_tb := List.mem_filter.mpr ⟨List.mem_append_right _ (List.mem_of_getElem? (i := 668) (by decide +kernel)), by decide +kernel⟩
theorem tw_669 : (Jvm.Cond.methodLink "ImageReaderLaw" (30 : Nat) ({ cls := "ImageReaderModel", name := "feed", desc := "(IIIII)V" } : Jvm.MethodName)) ∈ av_tb := List.mem_filter.mpr ⟨List.mem_append_right _ (List.mem_of_getElem? (i := 669) (by decide +kernel)), by decide +kernel⟩
theorem tw_670 : (Jvm.Cond.instanceMethod ({ cls := "ImageReaderModel", name := "feed", desc := "(IIIII)V" } : Jvm.MethodName)) ∈ av_tb := List.mem_filter.mpr ⟨List.mem_append_right _ (List.mem_of_getElem? (i := 670) (by decide +kernel)), by decide +kernel⟩
theorem tw_671 : (Jvm.Cond.selects "ImageReaderModel" ({ cls := "ImageReaderModel", name := "feed", desc := "(IIIII)V" } : Jvm.MethodName) ({ cls := "ImageReaderModel", name := "feed", desc := "(IIIII)V" } : Jvm.MethodName)) ∈ av_tb := List.mem_filter.mpr ⟨List.mem_append_right _ (List.mem_of_getElem? (i := 671) (by decide +kernel)), by decide +kernel⟩
theorem tw_672 : (Jvm.Cond.code ({ cls := "ImageReaderModel", name := "feed", desc := "(IIIII)V" } : Jvm.MethodName) prog_9_method_5_code (8 : Nat) (Option.none : Option Jvm.ClassFile.FieldType)) ∈ av_tb := List.mem_filter.mpr ⟨List.mem_append_right _ (List.mem_of_getElem? (i := 672) (by decide +kernel)), by decide +kernel⟩
theorem tw_673 : (Jvm.Cond.methodLink "ImageReaderLaw" (38 : Nat) ({ cls := "ImageReaderModel", name := "end", desc := "(I)I" } : Jvm.MethodName)) ∈ av_tb := List.mem_filter.mpr ⟨List.mem_append_right _ (List.mem_of_getElem? (i := 673) (by decide +kernel)), by decide +kernel⟩
theorem tw_674 : (Jvm.Cond.instanceMethod ({ cls := "ImageReaderModel", name := "end", desc := "(I)I" } : Jvm.MethodName)) ∈ av_tb := List.mem_filter.mpr ⟨List.mem_append_right _ (List.mem_of_getElem? (i := 674) (by decide +kernel)), by decide +kernel⟩
theorem tw_675 : (Jvm.Cond.selects "ImageReaderModel" ({ cls := "ImageReaderModel", name := "end", desc := "(I)I" } : Jvm.MethodName) ({ cls := "ImageReaderModel", name := "end", desc := "(I)I" } : Jvm.MethodName)) ∈ av_tb := List.mem_filter.mpr ⟨List.mem_append_right _ (List.mem_of_getElem? (i := 675) (by decide +kernel)), by decide +kernel⟩
theorem tw_676 : (Jvm.Cond.code ({ cls := "ImageReaderModel", name := "end", desc := "(I)I" } : Jvm.MethodName) prog_9_method_6_code (3 : Nat) (Option.some Jvm.ClassFile.FieldType.int)) ∈ av_tb := List.mem_filter.mpr ⟨List.mem_append_right _ (List.mem_of_getElem? (i := 676) (by decide +kernel)), by decide +kernel⟩
theorem tw_677 : (Jvm.Cond.methodLink "ImageReaderLaw" (43 : Nat) ({ cls := "ImageReaderModel", name := "change", desc := "(II)I" } : Jvm.MethodName)) ∈ av_tb := List.mem_filter.mpr ⟨List.mem_append_right _ (List.mem_of_getElem? (i := 677) (by decide +kernel)), by decide +kernel⟩
theorem tw_678 : (Jvm.Cond.instanceMethod ({ cls := "ImageReaderModel", name := "change", desc := "(II)I" } : Jvm.MethodName)) ∈ av_tb := List.mem_filter.mpr ⟨List.mem_append_right _ (List.mem_of_getElem? (i := 678) (by decide +kernel)), by decide +kernel⟩
theorem tw_679 : (Jvm.Cond.selects "ImageReaderModel" ({ cls := "ImageReaderModel", name := "change", desc := "(II)I" } : Jvm.MethodName) ({ cls := "ImageReaderModel", name := "change", desc := "(II)I" } : Jvm.MethodName)) ∈ av_tb := List.mem_filter.mpr ⟨List.mem_append_right _ (List.mem_of_getElem? (i := 679) (by decide +kernel)), by decide +kernel⟩
theorem tw_680 : (Jvm.Cond.code ({ cls := "ImageReaderModel", name := "change", desc := "(II)I" } : Jvm.MethodName) prog_9_method_7_code (4 : Nat) (Option.some Jvm.ClassFile.FieldType.int)) ∈ av_tb := List.mem_filter.mpr ⟨List.mem_append_right _ (List.mem_of_getElem? (i := 680) (by decide +kernel)), by decide +kernel⟩
theorem tw_681 : (Jvm.Cond.methodLink "ImageReaderLaw" (91 : Nat) ({ cls := "ImageReaderModel", name := "came", desc := "(I)I" } : Jvm.MethodName)) ∈ av_tb := List.mem_filter.mpr ⟨List.mem_append_right _ (List.mem_of_getElem? (i := 681) (by decide +kernel)), by decide +kernel⟩
theorem tw_682 : (Jvm.Cond.instanceMethod ({ cls := "ImageReaderModel", name := "came", desc := "(I)I" } : Jvm.MethodName)) ∈ av_tb := List.mem_filter.mpr ⟨List.mem_append_right _ (List.mem_of_getElem? (i := 682) (by decide +kernel)), by decide +kernel⟩
theorem tw_683 : (Jvm.Cond.selects "ImageReaderModel" ({ cls := "ImageReaderModel", name := "came", desc := "(I)I" } : Jvm.MethodName) ({ cls := "ImageReaderModel", name := "came", desc := "(I)I" } : Jvm.MethodName)) ∈ av_tb := List.mem_filter.mpr ⟨List.mem_append_right _ (List.mem_of_getElem? (i := 683) (by decide +kernel)), by decide +kernel⟩
theorem tw_684 : (Jvm.Cond.code ({ cls := "ImageReaderModel", name := "came", desc := "(I)I" } : Jvm.MethodName) prog_9_method_8_code (2 : Nat) (Option.some Jvm.ClassFile.FieldType.int)) ∈ av_tb := List.mem_filter.mpr ⟨List.mem_append_right _ (List.mem_of_getElem? (i := 684) (by decide +kernel)), by decide +kernel⟩
theorem tw_685 : (Jvm.Cond.methodLink "ImageReaderLaw" (47 : Nat) ({ cls := "ImageReaderModel", name := "read", desc := "()I" } : Jvm.MethodName)) ∈ av_tb := List.mem_filter.mpr ⟨List.mem_append_right _ (List.mem_of_getElem? (i := 685) (by decide +kernel)), by decide +kernel⟩
theorem tw_686 : (Jvm.Cond.instanceMethod ({ cls := "ImageReaderModel", name := "read", desc := "()I" } : Jvm.MethodName)) ∈ av_tb := List.mem_filter.mpr ⟨List.mem_append_right _ (List.mem_of_getElem? (i := 686) (by decide +kernel)), by decide +kernel⟩
theorem tw_687 : (Jvm.Cond.selects "ImageReaderModel" ({ cls := "ImageReaderModel", name := "read", desc := "()I" } : Jvm.MethodName) ({ cls := "ImageReaderModel", name := "read", desc := "()I" } : Jvm.MethodName)) ∈ av_tb := List.mem_filter.mpr ⟨List.mem_append_right _ (List.mem_of_getElem? (i := 687) (by decide +kernel)), by decide +kernel⟩
theorem tw_688 : (Jvm.Cond.code ({ cls := "ImageReaderModel", name := "read", desc := "()I" } : Jvm.MethodName) prog_9_method_39_code (3 : Nat) (Option.some Jvm.ClassFile.FieldType.int)) ∈ av_tb := List.mem_filter.mpr ⟨List.mem_append_right _ (List.mem_of_getElem? (i := 688) (by decide +kernel)), by decide +kernel⟩
theorem tw_689 : (Jvm.Cond.methodLink "ImageReaderModel" (146 : Nat) ({ cls := "ImageReaderModel", name := "place", desc := "()I" } : Jvm.MethodName)) ∈ av_tb := List.mem_filter.mpr ⟨List.mem_append_right _ (List.mem_of_getElem? (i := 689) (by decide +kernel)), by decide +kernel⟩
theorem tw_691 : (Jvm.Cond.instanceMethod ({ cls := "ImageReaderModel", name := "place", desc := "()I" } : Jvm.MethodName)) ∈ av_tb := List.mem_filter.mpr ⟨List.mem_append_right _ (List.mem_of_getElem? (i := 691) (by decide +kernel)), by decide +kernel⟩
theorem tw_692 : (Jvm.Cond.code ({ cls := "ImageReaderModel", name := "place", desc := "()I" } : Jvm.MethodName) prog_9_method_37_code (2 : Nat) (Option.some Jvm.ClassFile.FieldType.int)) ∈ av_tb := List.mem_filter.mpr ⟨List.mem_append_right _ (List.mem_of_getElem? (i := 692) (by decide +kernel)), by decide +kernel⟩
theorem tw_693 : (Jvm.Cond.methodLink "ImageReaderModel" (124 : Nat) ({ cls := "ImageReaderModel", name := "stepHead", desc := "()I" } : Jvm.MethodName)) ∈ av_tb := List.mem_filter.mpr ⟨List.mem_append_right _ (List.mem_of_getElem? (i := 693) (by decide +kernel)), by decide +kernel⟩
theorem tw_695 : (Jvm.Cond.instanceMethod ({ cls := "ImageReaderModel", name := "stepHead", desc := "()I" } : Jvm.MethodName)) ∈ av_tb := List.mem_filter.mpr ⟨List.mem_append_right _ (List.mem_of_getElem? (i := 695) (by decide +kernel)), by decide +kernel⟩
theorem tw_696 : (Jvm.Cond.code ({ cls := "ImageReaderModel", name := "stepHead", desc := "()I" } : Jvm.MethodName) prog_9_method_28_code (4 : Nat) (Option.some Jvm.ClassFile.FieldType.int)) ∈ av_tb := List.mem_filter.mpr ⟨List.mem_append_right _ (List.mem_of_getElem? (i := 696) (by decide +kernel)), by decide +kernel⟩
theorem tw_697 : (Jvm.Cond.methodLink "ImageReaderModel" (101 : Nat) ({ cls := "ImageReaderModel", name := "objects", desc := "([B)I" } : Jvm.MethodName)) ∈ av_tb := List.mem_filter.mpr ⟨List.mem_append_right _ (List.mem_of_getElem? (i := 697) (by decide +kernel)), by decide +kernel⟩
theorem tw_698 : (Jvm.Cond.static ({ cls := "ImageReaderModel", name := "objects", desc := "([B)I" } : Jvm.MethodName)) ∈ av_tb := List.mem_filter.mpr ⟨List.mem_append_right _ (List.mem_of_getElem? (i := 698) (by decide +kernel)), by decide +kernel⟩
theorem tw_699 : (Jvm.Cond.code ({ cls := "ImageReaderModel", name := "objects", desc := "([B)I" } : Jvm.MethodName) prog_9_method_9_code (1 : Nat) (Option.some Jvm.ClassFile.FieldType.int)) ∈ av_tb := List.mem_filter.mpr ⟨List.mem_append_right _ (List.mem_of_getElem? (i := 699) (by decide +kernel)), by decide +kernel⟩
theorem tw_700 : (Jvm.Cond.methodLink "ImageReaderModel" (43 : Nat) ({ cls := "ImageReaderModel", name := "half", desc := "([BI)I" } : Jvm.MethodName)) ∈ av_tb := List.mem_filter.mpr ⟨List.mem_append_right _ (List.mem_of_getElem? (i := 700) (by decide +kernel)), by decide +kernel⟩
theorem tw_701 : (Jvm.Cond.static ({ cls := "ImageReaderModel", name := "half", desc := "([BI)I" } : Jvm.MethodName)) ∈ av_tb := List.mem_filter.mpr ⟨List.mem_append_right _ (List.mem_of_getElem? (i := 701) (by decide +kernel)), by decide +kernel⟩
theorem tw_702 : (Jvm.Cond.code ({ cls := "ImageReaderModel", name := "half", desc := "([BI)I" } : Jvm.MethodName) prog_9_method_4_code (2 : Nat) (Option.some Jvm.ClassFile.FieldType.int)) ∈ av_tb := List.mem_filter.mpr ⟨List.mem_append_right _ (List.mem_of_getElem? (i := 702) (by decide +kernel)), by decide +kernel⟩
theorem tw_703 : (Jvm.Cond.methodLink "ImageReaderModel" (128 : Nat) ({ cls := "ImageReaderModel", name := "stepValues", desc := "()I" } : Jvm.MethodName)) ∈ av_tb := List.mem_filter.mpr ⟨List.mem_append_right _ (List.mem_of_getElem? (i := 703) (by decide +kernel)), by decide +kernel⟩
theorem tw_705 : (Jvm.Cond.instanceMethod ({ cls := "ImageReaderModel", name := "stepValues", desc := "()I" } : Jvm.MethodName)) ∈ av_tb := List.mem_filter.mpr ⟨List.mem_append_right _ (List.mem_of_getElem? (i := 705) (by decide +kernel)), by decide +kernel⟩
theorem tw_706 : (Jvm.Cond.code ({ cls := "ImageReaderModel", name := "stepValues", desc := "()I" } : Jvm.MethodName) prog_9_method_30_code (6 : Nat) (Option.some Jvm.ClassFile.FieldType.int)) ∈ av_tb := List.mem_filter.mpr ⟨List.mem_append_right _ (List.mem_of_getElem? (i := 706) (by decide +kernel)), by decide +kernel⟩
theorem tw_707 : (Jvm.Cond.methodLink "ImageReaderModel" (105 : Nat) ({ cls := "ImageReaderModel", name := "isValue", desc := "(I)Z" } : Jvm.MethodName)) ∈ av_tb := List.mem_filter.mpr ⟨List.mem_append_right _ (List.mem_of_getElem? (i := 707) (by decide +kernel)), by decide +kernel⟩
theorem tw_709 : (Jvm.Cond.instanceMethod ({ cls := "ImageReaderModel", name := "isValue", desc := "(I)Z" } : Jvm.MethodName)) ∈ av_tb := List.mem_filter.mpr ⟨List.mem_append_right _ (List.mem_of_getElem? (i := 709) (by decide +kernel)), by decide +kernel⟩
theorem tw_710 : (Jvm.Cond.code ({ cls := "ImageReaderModel", name := "isValue", desc := "(I)Z" } : Jvm.MethodName) prog_9_method_29_code (3 : Nat) (Option.some Jvm.ClassFile.FieldType.boolean)) ∈ av_tb := List.mem_filter.mpr ⟨List.mem_append_right _ (List.mem_of_getElem? (i := 710) (by decide +kernel)), by decide +kernel⟩
theorem tw_711 : (Jvm.Cond.methodLink "ImageReaderModel" (47 : Nat) ({ cls := "ImageReaderModel", name := "word", desc := "([BI)I" } : Jvm.MethodName)) ∈ av_tb := List.mem_filter.mpr ⟨List.mem_append_right _ (List.mem_of_getElem? (i := 711) (by decide +kernel)), by decide +kernel⟩
theorem tw_712 : (Jvm.Cond.static ({ cls := "ImageReaderModel", name := "word", desc := "([BI)I" } : Jvm.MethodName)) ∈ av_tb := List.mem_filter.mpr ⟨List.mem_append_right _ (List.mem_of_getElem? (i := 712) (by decide +kernel)), by decide +kernel⟩
theorem tw_713 : (Jvm.Cond.code ({ cls := "ImageReaderModel", name := "word", desc := "([BI)I" } : Jvm.MethodName) prog_9_method_3_code (2 : Nat) (Option.some Jvm.ClassFile.FieldType.int)) ∈ av_tb := List.mem_filter.mpr ⟨List.mem_append_right _ (List.mem_of_getElem? (i := 713) (by decide +kernel)), by decide +kernel⟩
theorem tw_714 : (Jvm.Cond.methodLink "ImageReaderModel" (76 : Nat) ({ cls := "ImageReaderModel", name := "isNumber", desc := "(I)Z" } : Jvm.MethodName)) ∈ av_tb := List.mem_filter.mpr ⟨List.mem_append_right _ (List.mem_of_getElem? (i := 714) (by decide +kernel)), by decide +kernel⟩
theorem tw_715 : (Jvm.Cond.static ({ cls := "ImageReaderModel", name := "isNumber", desc := "(I)Z" } : Jvm.MethodName)) ∈ av_tb := List.mem_filter.mpr ⟨List.mem_append_right _ (List.mem_of_getElem? (i := 715) (by decide +kernel)), by decide +kernel⟩
theorem tw_716 : (Jvm.Cond.code ({ cls := "ImageReaderModel", name := "isNumber", desc := "(I)Z" } : Jvm.MethodName) prog_9_method_12_code (1 : Nat) (Option.some Jvm.ClassFile.FieldType.boolean)) ∈ av_tb := List.mem_filter.mpr ⟨List.mem_append_right _ (List.mem_of_getElem? (i := 716) (by decide +kernel)), by decide +kernel⟩
theorem tw_717 : (Jvm.Cond.methodLink "ImageReaderModel" (54 : Nat) ({ cls := "ImageReaderModel", name := "sizeAt", desc := "([BI)I" } : Jvm.MethodName)) ∈ av_tb := List.mem_filter.mpr ⟨List.mem_append_right _ (List.mem_of_getElem? (i := 717) (by decide +kernel)), by decide +kernel⟩
theorem tw_718 : (Jvm.Cond.static ({ cls := "ImageReaderModel", name := "sizeAt", desc := "([BI)I" } : Jvm.MethodName)) ∈ av_tb := List.mem_filter.mpr ⟨List.mem_append_right _ (List.mem_of_getElem? (i := 718) (by decide +kernel)), by decide +kernel⟩
theorem tw_719 : (Jvm.Cond.code ({ cls := "ImageReaderModel", name := "sizeAt", desc := "([BI)I" } : Jvm.MethodName) prog_9_method_14_code (2 : Nat) (Option.some Jvm.ClassFile.FieldType.int)) ∈ av_tb := List.mem_filter.mpr ⟨List.mem_append_right _ (List.mem_of_getElem? (i := 719) (by decide +kernel)), by decide +kernel⟩
theorem tw_720 : (Jvm.Cond.methodLink "ImageReaderModel" (50 : Nat) ({ cls := "ImageReaderModel", name := "isOfBytes", desc := "([BI)Z" } : Jvm.MethodName)) ∈ av_tb := List.mem_filter.mpr ⟨List.mem_append_right _ (List.mem_of_getElem? (i := 720) (by decide +kernel)), by decide +kernel⟩
theorem tw_721 : (Jvm.Cond.static ({ cls := "ImageReaderModel", name := "isOfBytes", desc := "([BI)Z" } : Jvm.MethodName)) ∈ av_tb := List.mem_filter.mpr ⟨List.mem_append_right _ (List.mem_of_getElem? (i := 721) (by decide +kernel)), by decide +kernel⟩
theorem tw_722 : (Jvm.Cond.code ({ cls := "ImageReaderModel", name := "isOfBytes", desc := "([BI)Z" } : Jvm.MethodName) prog_9_method_13_code (2 : Nat) (Option.some Jvm.ClassFile.FieldType.boolean)) ∈ av_tb := List.mem_filter.mpr ⟨List.mem_append_right _ (List.mem_of_getElem? (i := 722) (by decide +kernel)), by decide +kernel⟩
theorem tw_723 : (Jvm.Cond.methodLink "ImageReaderModel" (131 : Nat) ({ cls := "ImageReaderModel", name := "stepRoom", desc := "()I" } : Jvm.MethodName)) ∈ av_tb := List.mem_filter.mpr ⟨List.mem_append_right _ (List.mem_of_getElem? (i := 723) (by decide +kernel)), by decide +kernel⟩
theorem tw_725 : (Jvm.Cond.instanceMethod ({ cls := "ImageReaderModel", name := "stepRoom", desc := "()I" } : Jvm.MethodName)) ∈ av_tb := List.mem_filter.mpr ⟨List.mem_append_right _ (List.mem_of_getElem? (i := 725) (by decide +kernel)), by decide +kernel⟩
theorem tw_726 : (Jvm.Cond.code ({ cls := "ImageReaderModel", name := "stepRoom", desc := "()I" } : Jvm.MethodName) prog_9_method_32_code (1 : Nat) (Option.some Jvm.ClassFile.FieldType.int)) ∈ av_tb := List.mem_filter.mpr ⟨List.mem_append_right _ (List.mem_of_getElem? (i := 726) (by decide +kernel)), by decide +kernel⟩
theorem tw_727 : (Jvm.Cond.methodLink "ImageReaderModel" (108 : Nat) ({ cls := "ImageReaderModel", name := "wordsOf", desc := "([B[I)I" } : Jvm.MethodName)) ∈ av_tb := List.mem_filter.mpr ⟨List.mem_append_right _ (List.mem_of_getElem? (i := 727) (by decide +kernel)), by decide +kernel⟩
theorem tw_728 : (Jvm.Cond.static ({ cls := "ImageReaderModel", name := "wordsOf", desc := "([B[I)I" } : Jvm.MethodName)) ∈ av_tb := List.mem_filter.mpr ⟨List.mem_append_right _ (List.mem_of_getElem? (i := 728) (by decide +kernel)), by decide +kernel⟩
theorem tw_729 : (Jvm.Cond.code ({ cls := "ImageReaderModel", name := "wordsOf", desc := "([B[I)I" } : Jvm.MethodName) prog_9_method_31_code (5 : Nat) (Option.some Jvm.ClassFile.FieldType.int)) ∈ av_tb := List.mem_filter.mpr ⟨List.mem_append_right _ (List.mem_of_getElem? (i := 729) (by decide +kernel)), by decide +kernel⟩
theorem tw_730 : (Jvm.Cond.methodLink "ImageReaderModel" (134 : Nat) ({ cls := "ImageReaderModel", name := "stepSpecials", desc := "()I" } : Jvm.MethodName)) ∈ av_tb := List.mem_filter.mpr ⟨List.mem_append_right _ (List.mem_of_getElem? (i := 730) (by decide +kernel)), by decide +kernel⟩
theorem tw_732 : (Jvm.Cond.instanceMethod ({ cls := "ImageReaderModel", name := "stepSpecials", desc := "()I" } : Jvm.MethodName)) ∈ av_tb := List.mem_filter.mpr ⟨List.mem_append_right _ (List.mem_of_getElem? (i := 732) (by decide +kernel)), by decide +kernel⟩
theorem tw_733 : (Jvm.Cond.code ({ cls := "ImageReaderModel", name := "stepSpecials", desc := "()I" } : Jvm.MethodName) prog_9_method_33_code (5 : Nat) (Option.some Jvm.ClassFile.FieldType.int)) ∈ av_tb := List.mem_filter.mpr ⟨List.mem_append_right _ (List.mem_of_getElem? (i := 733) (by decide +kernel)), by decide +kernel⟩
theorem tw_734 : (Jvm.Cond.methodLink "ImageReaderModel" (65 : Nat) ({ cls := "ImageReaderModel", name := "special", desc := "([BI)I" } : Jvm.MethodName)) ∈ av_tb := List.mem_filter.mpr ⟨List.mem_append_right _ (List.mem_of_getElem? (i := 734) (by decide +kernel)), by decide +kernel⟩
theorem tw_735 : (Jvm.Cond.static ({ cls := "ImageReaderModel", name := "special", desc := "([BI)I" } : Jvm.MethodName)) ∈ av_tb := List.mem_filter.mpr ⟨List.mem_append_right _ (List.mem_of_getElem? (i := 735) (by decide +kernel)), by decide +kernel⟩
theorem tw_736 : (Jvm.Cond.code ({ cls := "ImageReaderModel", name := "special", desc := "([BI)I" } : Jvm.MethodName) prog_9_method_10_code (2 : Nat) (Option.some Jvm.ClassFile.FieldType.int)) ∈ av_tb := List.mem_filter.mpr ⟨List.mem_append_right _ (List.mem_of_getElem? (i := 736) (by decide +kernel)), by decide +kernel⟩
theorem tw_737 : (Jvm.Cond.methodLink "ImageReaderModel" (57 : Nat) ({ cls := "ImageReaderModel", name := "isObject", desc := "(I)Z" } : Jvm.MethodName)) ∈ av_tb := List.mem_filter.mpr ⟨List.mem_append_right _ (List.mem_of_getElem? (i := 737) (by decide +kernel)), by decide +kernel⟩
theorem tw_738 : (Jvm.Cond.static ({ cls := "ImageReaderModel", name := "isObject", desc := "(I)Z" } : Jvm.MethodName)) ∈ av_tb := List.mem_filter.mpr ⟨List.mem_append_right _ (List.mem_of_getElem? (i := 738) (by decide +kernel)), by decide +kernel⟩
theorem tw_739 : (Jvm.Cond.code ({ cls := "ImageReaderModel", name := "isObject", desc := "(I)Z" } : Jvm.MethodName) prog_9_method_11_code (1 : Nat) (Option.some Jvm.ClassFile.FieldType.boolean)) ∈ av_tb := List.mem_filter.mpr ⟨List.mem_append_right _ (List.mem_of_getElem? (i := 739) (by decide +kernel)), by decide +kernel⟩
theorem tw_740 : (Jvm.Cond.methodLink "ImageReaderModel" (112 : Nat) ({ cls := "ImageReaderModel", name := "isClass", desc := "(I)Z" } : Jvm.MethodName)) ∈ av_tb := List.mem_filter.mpr ⟨List.mem_append_right _ (List.mem_of_getElem? (i := 740) (by decide +kernel)), by decide +kernel⟩
theorem tw_742 : (Jvm.Cond.instanceMethod ({ cls := "ImageReaderModel", name := "isClass", desc := "(I)Z" } : Jvm.MethodName)) ∈ av_tb := List.mem_filter.mpr ⟨List.mem_append_right _ (List.mem_of_getElem? (i := 742) (by decide +kernel)), by decide +kernel⟩
theorem tw_743 : (Jvm.Cond.code ({ cls := "ImageReaderModel", name := "isClass", desc := "(I)Z" } : Jvm.MethodName) prog_9_method_20_code (5 : Nat) (Option.some Jvm.ClassFile.FieldType.boolean)) ∈ av_tb := List.mem_filter.mpr ⟨List.mem_append_right _ (List.mem_of_getElem? (i := 743) (by decide +kernel)), by decide +kernel⟩
theorem tw_744 : (Jvm.Cond.methodLink "ImageReaderModel" (68 : Nat) ({ cls := "ImageReaderModel", name := "hasFields", desc := "(II)Z" } : Jvm.MethodName)) ∈ av_tb := List.mem_filter.mpr ⟨List.mem_append_right _ (List.mem_of_getElem? (i := 744) (by decide +kernel)), by decide +kernel⟩
theorem tw_746 : (Jvm.Cond.instanceMethod ({ cls := "ImageReaderModel", name := "hasFields", desc := "(II)Z" } : Jvm.MethodName)) ∈ av_tb := List.mem_filter.mpr ⟨List.mem_append_right _ (List.mem_of_getElem? (i := 746) (by decide +kernel)), by decide +kernel⟩
theorem tw_747 : (Jvm.Cond.code ({ cls := "ImageReaderModel", name := "hasFields", desc := "(II)Z" } : Jvm.MethodName) prog_9_method_17_code (3 : Nat) (Option.some Jvm.ClassFile.FieldType.boolean)) ∈ av_tb := List.mem_filter.mpr ⟨List.mem_append_right _ (List.mem_of_getElem? (i := 747) (by decide +kernel)), by decide +kernel⟩
theorem tw_748 : (Jvm.Cond.methodLink "ImageReaderModel" (72 : Nat) ({ cls := "ImageReaderModel", name := "fieldOf", desc := "(II)I" } : Jvm.MethodName)) ∈ av_tb := List.mem_filter.mpr ⟨List.mem_append_right _ (List.mem_of_getElem? (i := 748) (by decide +kernel)), by decide +kernel⟩
theorem tw_750 : (Jvm.Cond.instanceMethod ({ cls := "ImageReaderModel", name := "fieldOf", desc := "(II)I" } : Jvm.MethodName)) ∈ av_tb := List.mem_filter.mpr ⟨List.mem_append_right _ (List.mem_of_getElem? (i := 750) (by decide +kernel)), by decide +kernel⟩
theorem tw_751 : (Jvm.Cond.code ({ cls := "ImageReaderModel", name := "fieldOf", desc := "(II)I" } : Jvm.MethodName) prog_9_method_18_code (3 : Nat) (Option.some Jvm.ClassFile.FieldType.int)) ∈ av_tb := List.mem_filter.mpr ⟨List.mem_append_right _ (List.mem_of_getElem? (i := 751) (by decide +kernel)), by decide +kernel⟩
theorem tw_752 : (Jvm.Cond.methodLink "ImageReaderModel" (61 : Nat) ({ cls := "ImageReaderModel", name := "fieldAt", desc := "([BII)I" } : Jvm.MethodName)) ∈ av_tb := List.mem_filter.mpr ⟨List.mem_append_right _ (List.mem_of_getElem? (i := 752) (by decide +kernel)), by decide +kernel⟩
theorem tw_753 : (Jvm.Cond.static ({ cls := "ImageReaderModel", name := "fieldAt", desc := "([BII)I" } : Jvm.MethodName)) ∈ av_tb := List.mem_filter.mpr ⟨List.mem_append_right _ (List.mem_of_getElem? (i := 753) (by decide +kernel)), by decide +kernel⟩
theorem tw_754 : (Jvm.Cond.code ({ cls := "ImageReaderModel", name := "fieldAt", desc := "([BII)I" } : Jvm.MethodName) prog_9_method_15_code (3 : Nat) (Option.some Jvm.ClassFile.FieldType.int)) ∈ av_tb := List.mem_filter.mpr ⟨List.mem_append_right _ (List.mem_of_getElem? (i := 754) (by decide +kernel)), by decide +kernel⟩
theorem tw_755 : (Jvm.Cond.methodLink "ImageReaderModel" (80 : Nat) ({ cls := "ImageReaderModel", name := "isContext", desc := "(I)Z" } : Jvm.MethodName)) ∈ av_tb := List.mem_filter.mpr ⟨List.mem_append_right _ (List.mem_of_getElem? (i := 755) (by decide +kernel)), by decide +kernel⟩
theorem tw_757 : (Jvm.Cond.instanceMethod ({ cls := "ImageReaderModel", name := "isContext", desc := "(I)Z" } : Jvm.MethodName)) ∈ av_tb := List.mem_filter.mpr ⟨List.mem_append_right _ (List.mem_of_getElem? (i := 757) (by decide +kernel)), by decide +kernel⟩
theorem tw_758 : (Jvm.Cond.code ({ cls := "ImageReaderModel", name := "isContext", desc := "(I)Z" } : Jvm.MethodName) prog_9_method_19_code (3 : Nat) (Option.some Jvm.ClassFile.FieldType.boolean)) ∈ av_tb := List.mem_filter.mpr ⟨List.mem_append_right _ (List.mem_of_getElem? (i := 758) (by decide +kernel)), by decide +kernel⟩
theorem tw_759 : (Jvm.Cond.methodLink "ImageReaderModel" (137 : Nat) ({ cls := "ImageReaderModel", name := "stepObjects", desc := "()I" } : Jvm.MethodName)) ∈ av_tb := List.mem_filter.mpr ⟨List.mem_append_right _ (List.mem_of_getElem? (i := 759) (by decide +kernel)), by decide +kernel⟩
theorem tw_761 : (Jvm.Cond.instanceMethod ({ cls := "ImageReaderModel", name := "stepObjects", desc := "()I" } : Jvm.MethodName)) ∈ av_tb := List.mem_filter.mpr ⟨List.mem_append_right _ (List.mem_of_getElem? (i := 761) (by decide +kernel)), by decide +kernel⟩
theorem tw_762 : (Jvm.Cond.code ({ cls := "ImageReaderModel", name := "stepObjects", desc := "()I" } : Jvm.MethodName) prog_9_method_35_code (2 : Nat) (Option.some Jvm.ClassFile.FieldType.int)) ∈ av_tb := List.mem_filter.mpr ⟨List.mem_append_right _ (List.mem_of_getElem? (i := 762) (by decide +kernel)), by decide +kernel⟩
theorem tw_763 : (Jvm.Cond.methodLink "ImageReaderModel" (121 : Nat) ({ cls := "ImageReaderModel", name := "isRightObject", desc := "(I)Z" } : Jvm.MethodName)) ∈ av_tb := List.mem_filter.mpr ⟨List.mem_append_right _ (List.mem_of_getElem? (i := 763) (by decide +kernel)), by decide +kernel⟩
theorem tw_765 : (Jvm.Cond.instanceMethod ({ cls := "ImageReaderModel", name := "isRightObject", desc := "(I)Z" } : Jvm.MethodName)) ∈ av_tb := List.mem_filter.mpr ⟨List.mem_append_right _ (List.mem_of_getElem? (i := 765) (by decide +kernel)), by decide +kernel⟩
theorem tw_766 : (Jvm.Cond.code ({ cls := "ImageReaderModel", name := "isRightObject", desc := "(I)Z" } : Jvm.MethodName) prog_9_method_34_code (7 : Nat) (Option.some Jvm.ClassFile.FieldType.boolean)) ∈ av_tb := List.mem_filter.mpr ⟨List.mem_append_right _ (List.mem_of_getElem? (i := 766) (by decide +kernel)), by decide +kernel⟩
theorem tw_767 : (Jvm.Cond.methodLink "ImageReaderModel" (115 : Nat) ({ cls := "ImageReaderModel", name := "isMethodContext", desc := "(I)Z" } : Jvm.MethodName)) ∈ av_tb := List.mem_filter.mpr ⟨List.mem_append_right _ (List.mem_of_getElem? (i := 767) (by decide +kernel)), by decide +kernel⟩
theorem tw_769 : (Jvm.Cond.instanceMethod ({ cls := "ImageReaderModel", name := "isMethodContext", desc := "(I)Z" } : Jvm.MethodName)) ∈ av_tb := List.mem_filter.mpr ⟨List.mem_append_right _ (List.mem_of_getElem? (i := 769) (by decide +kernel)), by decide +kernel⟩
theorem tw_770 : (Jvm.Cond.code ({ cls := "ImageReaderModel", name := "isMethodContext", desc := "(I)Z" } : Jvm.MethodName) prog_9_method_26_code (5 : Nat) (Option.some Jvm.ClassFile.FieldType.boolean)) ∈ av_tb := List.mem_filter.mpr ⟨List.mem_append_right _ (List.mem_of_getElem? (i := 770) (by decide +kernel)), by decide +kernel⟩
theorem tw_771 : (Jvm.Cond.methodLink "ImageReaderModel" (88 : Nat) ({ cls := "ImageReaderModel", name := "isMethod", desc := "(I)Z" } : Jvm.MethodName)) ∈ av_tb := List.mem_filter.mpr ⟨List.mem_append_right _ (List.mem_of_getElem? (i := 771) (by decide +kernel)), by decide +kernel⟩
theorem tw_773 : (Jvm.Cond.instanceMethod ({ cls := "ImageReaderModel", name := "isMethod", desc := "(I)Z" } : Jvm.MethodName)) ∈ av_tb := List.mem_filter.mpr ⟨List.mem_append_right _ (List.mem_of_getElem? (i := 773) (by decide +kernel)), by decide +kernel⟩
theorem tw_774 : (Jvm.Cond.code ({ cls := "ImageReaderModel", name := "isMethod", desc := "(I)Z" } : Jvm.MethodName) prog_9_method_21_code (5 : Nat) (Option.some Jvm.ClassFile.FieldType.boolean)) ∈ av_tb := List.mem_filter.mpr ⟨List.mem_append_right _ (List.mem_of_getElem? (i := 774) (by decide +kernel)), by decide +kernel⟩
theorem tw_775 : (Jvm.Cond.constant "ImageReaderModel" (79 : Nat) (8388608 : Int32)) ∈ av_tb := List.mem_filter.mpr ⟨List.mem_append_right _ (List.mem_of_getElem? (i := 775) (by decide +kernel)), by decide +kernel⟩
theorem tw_776 : (Jvm.Cond.methodLink "ImageReaderModel" (91 : Nat) ({ cls := "ImageReaderModel", name := "temporaries", desc := "(I)I" } : Jvm.MethodName)) ∈ av_tb := List.mem_filter.mpr ⟨List.mem_append_right _ (List.mem_of_getElem? (i := 776) (by decide +kernel)), by decide +kernel⟩
theorem tw_778 : (Jvm.Cond.instanceMethod ({ cls := "ImageReaderModel", name := "temporaries", desc := "(I)I" } : Jvm.MethodName)) ∈ av_tb := List.mem_filter.mpr ⟨List.mem_append_right _ (List.mem_of_getElem? (i := 778) (by decide +kernel)), by decide +kernel⟩
theorem tw_779 : (Jvm.Cond.code ({ cls := "ImageReaderModel", name := "temporaries", desc := "(I)I" } : Jvm.MethodName) prog_9_method_22_code (2 : Nat) (Option.some Jvm.ClassFile.FieldType.int)) ∈ av_tb := List.mem_filter.mpr ⟨List.mem_append_right _ (List.mem_of_getElem? (i := 779) (by decide +kernel)), by decide +kernel⟩
theorem tw_780 : (Jvm.Cond.methodLink "ImageReaderModel" (95 : Nat) ({ cls := "ImageReaderModel", name := "depth", desc := "(I)I" } : Jvm.MethodName)) ∈ av_tb := List.mem_filter.mpr ⟨List.mem_append_right _ (List.mem_of_getElem? (i := 780) (by decide +kernel)), by decide +kernel⟩
theorem tw_782 : (Jvm.Cond.instanceMethod ({ cls := "ImageReaderModel", name := "depth", desc := "(I)I" } : Jvm.MethodName)) ∈ av_tb := List.mem_filter.mpr ⟨List.mem_append_right _ (List.mem_of_getElem? (i := 782) (by decide +kernel)), by decide +kernel⟩
theorem tw_783 : (Jvm.Cond.code ({ cls := "ImageReaderModel", name := "depth", desc := "(I)I" } : Jvm.MethodName) prog_9_method_23_code (2 : Nat) (Option.some Jvm.ClassFile.FieldType.int)) ∈ av_tb := List.mem_filter.mpr ⟨List.mem_append_right _ (List.mem_of_getElem? (i := 783) (by decide +kernel)), by decide +kernel⟩
theorem tw_784 : (Jvm.Cond.methodLink "ImageReaderModel" (84 : Nat) ({ cls := "ImageReaderModel", name := "isNumberFrom", desc := "(III)Z" } : Jvm.MethodName)) ∈ av_tb := List.mem_filter.mpr ⟨List.mem_append_right _ (List.mem_of_getElem? (i := 784) (by decide +kernel)), by decide +kernel⟩
theorem tw_786 : (Jvm.Cond.instanceMethod ({ cls := "ImageReaderModel", name := "isNumberFrom", desc := "(III)Z" } : Jvm.MethodName)) ∈ av_tb := List.mem_filter.mpr ⟨List.mem_append_right _ (List.mem_of_getElem? (i := 786) (by decide +kernel)), by decide +kernel⟩
theorem tw_787 : (Jvm.Cond.code ({ cls := "ImageReaderModel", name := "isNumberFrom", desc := "(III)Z" } : Jvm.MethodName) prog_9_method_24_code (4 : Nat) (Option.some Jvm.ClassFile.FieldType.boolean)) ∈ av_tb := List.mem_filter.mpr ⟨List.mem_append_right _ (List.mem_of_getElem? (i := 787) (by decide +kernel)), by decide +kernel⟩
theorem tw_788 : (Jvm.Cond.methodLink "ImageReaderModel" (98 : Nat) ({ cls := "ImageReaderModel", name := "isCommon", desc := "(II)Z" } : Jvm.MethodName)) ∈ av_tb := List.mem_filter.mpr ⟨List.mem_append_right _ (List.mem_of_getElem? (i := 788) (by decide +kernel)), by decide +kernel⟩
theorem tw_790 : (Jvm.Cond.instanceMethod ({ cls := "ImageReaderModel", name := "isCommon", desc := "(II)Z" } : Jvm.MethodName)) ∈ av_tb := List.mem_filter.mpr ⟨List.mem_append_right _ (List.mem_of_getElem? (i := 790) (by decide +kernel)), by decide +kernel⟩
theorem tw_791 : (Jvm.Cond.code ({ cls := "ImageReaderModel", name := "isCommon", desc := "(II)Z" } : Jvm.MethodName) prog_9_method_25_code (7 : Nat) (Option.some Jvm.ClassFile.FieldType.boolean)) ∈ av_tb := List.mem_filter.mpr ⟨List.mem_append_right _ (List.mem_of_getElem? (i := 791) (by decide +kernel)), by decide +kernel⟩
theorem tw_792 : (Jvm.Cond.constant "ImageReaderModel" (83 : Nat) (1073741823 : Int32)) ∈ av_tb := List.mem_filter.mpr ⟨List.mem_append_right _ (List.mem_of_getElem? (i := 792) (by decide +kernel)), by decide +kernel⟩
theorem tw_793 : (Jvm.Cond.methodLink "ImageReaderModel" (118 : Nat) ({ cls := "ImageReaderModel", name := "isBlockContext", desc := "(I)Z" } : Jvm.MethodName)) ∈ av_tb := List.mem_filter.mpr ⟨List.mem_append_right _ (List.mem_of_getElem? (i := 793) (by decide +kernel)), by decide +kernel⟩
theorem tw_795 : (Jvm.Cond.instanceMethod ({ cls := "ImageReaderModel", name := "isBlockContext", desc := "(I)Z" } : Jvm.MethodName)) ∈ av_tb := List.mem_filter.mpr ⟨List.mem_append_right _ (List.mem_of_getElem? (i := 795) (by decide +kernel)), by decide +kernel⟩
theorem tw_796 : (Jvm.Cond.code ({ cls := "ImageReaderModel", name := "isBlockContext", desc := "(I)Z" } : Jvm.MethodName) prog_9_method_27_code (7 : Nat) (Option.some Jvm.ClassFile.FieldType.boolean)) ∈ av_tb := List.mem_filter.mpr ⟨List.mem_append_right _ (List.mem_of_getElem? (i := 796) (by decide +kernel)), by decide +kernel⟩
theorem tw_797 : (Jvm.Cond.methodLink "ImageReaderModel" (140 : Nat) ({ cls := "ImageReaderModel", name := "stepProcess", desc := "()I" } : Jvm.MethodName)) ∈ av_tb := List.mem_filter.mpr ⟨List.mem_append_right _ (List.mem_of_getElem? (i := 797) (by decide +kernel)), by decide +kernel⟩
theorem tw_799 : (Jvm.Cond.instanceMethod ({ cls := "ImageReaderModel", name := "stepProcess", desc := "()I" } : Jvm.MethodName)) ∈ av_tb := List.mem_filter.mpr ⟨List.mem_append_right _ (List.mem_of_getElem? (i := 799) (by decide +kernel)), by decide +kernel⟩
theorem tw_800 : (Jvm.Cond.code ({ cls := "ImageReaderModel", name := "stepProcess", desc := "()I" } : Jvm.MethodName) prog_9_method_36_code (6 : Nat) (Option.some Jvm.ClassFile.FieldType.int)) ∈ av_tb := List.mem_filter.mpr ⟨List.mem_append_right _ (List.mem_of_getElem? (i := 800) (by decide +kernel)), by decide +kernel⟩
theorem tw_801 : (Jvm.Cond.methodLink "ImageReaderModel" (152 : Nat) ({ cls := "ImageReaderModel", name := "note", desc := "([B[I)V" } : Jvm.MethodName)) ∈ av_tb := List.mem_filter.mpr ⟨List.mem_append_right _ (List.mem_of_getElem? (i := 801) (by decide +kernel)), by decide +kernel⟩
theorem tw_802 : (Jvm.Cond.static ({ cls := "ImageReaderModel", name := "note", desc := "([B[I)V" } : Jvm.MethodName)) ∈ av_tb := List.mem_filter.mpr ⟨List.mem_append_right _ (List.mem_of_getElem? (i := 802) (by decide +kernel)), by decide +kernel⟩
theorem tw_803 : (Jvm.Cond.code ({ cls := "ImageReaderModel", name := "note", desc := "([B[I)V" } : Jvm.MethodName) prog_9_method_38_code (4 : Nat) (Option.none : Option Jvm.ClassFile.FieldType)) ∈ av_tb := List.mem_filter.mpr ⟨List.mem_append_right _ (List.mem_of_getElem? (i := 803) (by decide +kernel)), by decide +kernel⟩
theorem tw_804 : (Jvm.Cond.methodLink "ImageReaderModel" (143 : Nat) ({ cls := "ImageReaderModel", name := "endAt", desc := "([BI)I" } : Jvm.MethodName)) ∈ av_tb := List.mem_filter.mpr ⟨List.mem_append_right _ (List.mem_of_getElem? (i := 804) (by decide +kernel)), by decide +kernel⟩
theorem tw_805 : (Jvm.Cond.static ({ cls := "ImageReaderModel", name := "endAt", desc := "([BI)I" } : Jvm.MethodName)) ∈ av_tb := List.mem_filter.mpr ⟨List.mem_append_right _ (List.mem_of_getElem? (i := 805) (by decide +kernel)), by decide +kernel⟩
theorem tw_806 : (Jvm.Cond.code ({ cls := "ImageReaderModel", name := "endAt", desc := "([BI)I" } : Jvm.MethodName) prog_9_method_16_code (2 : Nat) (Option.some Jvm.ClassFile.FieldType.int)) ∈ av_tb := List.mem_filter.mpr ⟨List.mem_append_right _ (List.mem_of_getElem? (i := 806) (by decide +kernel)), by decide +kernel⟩
theorem tw_807 : (Jvm.Cond.methodLink "ImageReaderLaw" (51 : Nat) ({ cls := "ImageReaderModel", name := "objects", desc := "()I" } : Jvm.MethodName)) ∈ av_tb := List.mem_filter.mpr ⟨List.mem_append_right _ (List.mem_of_getElem? (i := 807) (by decide +kernel)), by decide +kernel⟩
theorem tw_808 : (Jvm.Cond.instanceMethod ({ cls := "ImageReaderModel", name := "objects", desc := "()I" } : Jvm.MethodName)) ∈ av_tb := List.mem_filter.mpr ⟨List.mem_append_right _ (List.mem_of_getElem? (i := 808) (by decide +kernel)), by decide +kernel⟩
theorem tw_809 : (Jvm.Cond.selects "ImageReaderModel" ({ cls := "ImageReaderModel", name := "objects", desc := "()I" } : Jvm.MethodName) ({ cls := "ImageReaderModel", name := "objects", desc := "()I" } : Jvm.MethodName)) ∈ av_tb := List.mem_filter.mpr ⟨List.mem_append_right _ (List.mem_of_getElem? (i := 809) (by decide +kernel)), by decide +kernel⟩
theorem tw_810 : (Jvm.Cond.code ({ cls := "ImageReaderModel", name := "objects", desc := "()I" } : Jvm.MethodName) prog_9_method_41_code (1 : Nat) (Option.some Jvm.ClassFile.FieldType.int)) ∈ av_tb := List.mem_filter.mpr ⟨List.mem_append_right _ (List.mem_of_getElem? (i := 810) (by decide +kernel)), by decide +kernel⟩
theorem tw_811 : (Jvm.Cond.methodLink "ImageReaderLaw" (55 : Nat) ({ cls := "ImageReaderModel", name := "words", desc := "()I" } : Jvm.MethodName)) ∈ av_tb := List.mem_filter.mpr ⟨List.mem_append_right _ (List.mem_of_getElem? (i := 811) (by decide +kernel)), by decide +kernel⟩
theorem tw_812 : (Jvm.Cond.instanceMethod ({ cls := "ImageReaderModel", name := "words", desc := "()I" } : Jvm.MethodName)) ∈ av_tb := List.mem_filter.mpr ⟨List.mem_append_right _ (List.mem_of_getElem? (i := 812) (by decide +kernel)), by decide +kernel⟩
theorem tw_813 : (Jvm.Cond.selects "ImageReaderModel" ({ cls := "ImageReaderModel", name := "words", desc := "()I" } : Jvm.MethodName) ({ cls := "ImageReaderModel", name := "words", desc := "()I" } : Jvm.MethodName)) ∈ av_tb := List.mem_filter.mpr ⟨List.mem_append_right _ (List.mem_of_getElem? (i := 813) (by decide +kernel)), by decide +kernel⟩
theorem tw_814 : (Jvm.Cond.code ({ cls := "ImageReaderModel", name := "words", desc := "()I" } : Jvm.MethodName) prog_9_method_42_code (1 : Nat) (Option.some Jvm.ClassFile.FieldType.int)) ∈ av_tb := List.mem_filter.mpr ⟨List.mem_append_right _ (List.mem_of_getElem? (i := 814) (by decide +kernel)), by decide +kernel⟩
theorem tw_815 : (Jvm.Cond.methodLink "ImageReaderLaw" (59 : Nat) ({ cls := "ImageReaderModel", name := "special", desc := "(I)I" } : Jvm.MethodName)) ∈ av_tb := List.mem_filter.mpr ⟨List.mem_append_right _ (List.mem_of_getElem? (i := 815) (by decide +kernel)), by decide +kernel⟩
theorem tw_816 : (Jvm.Cond.instanceMethod ({ cls := "ImageReaderModel", name := "special", desc := "(I)I" } : Jvm.MethodName)) ∈ av_tb := List.mem_filter.mpr ⟨List.mem_append_right _ (List.mem_of_getElem? (i := 816) (by decide +kernel)), by decide +kernel⟩
theorem tw_817 : (Jvm.Cond.selects "ImageReaderModel" ({ cls := "ImageReaderModel", name := "special", desc := "(I)I" } : Jvm.MethodName) ({ cls := "ImageReaderModel", name := "special", desc := "(I)I" } : Jvm.MethodName)) ∈ av_tb := List.mem_filter.mpr ⟨List.mem_append_right _ (List.mem_of_getElem? (i := 817) (by decide +kernel)), by decide +kernel⟩
theorem tw_818 : (Jvm.Cond.code ({ cls := "ImageReaderModel", name := "special", desc := "(I)I" } : Jvm.MethodName) prog_9_method_43_code (2 : Nat) (Option.some Jvm.ClassFile.FieldType.int)) ∈ av_tb := List.mem_filter.mpr ⟨List.mem_append_right _ (List.mem_of_getElem? (i := 818) (by decide +kernel)), by decide +kernel⟩
theorem tw_819 : (Jvm.Cond.methodLink "ImageReaderLaw" (63 : Nat) ({ cls := "ImageReaderModel", name := "kind", desc := "(I)I" } : Jvm.MethodName)) ∈ av_tb := List.mem_filter.mpr ⟨List.mem_append_right _ (List.mem_of_getElem? (i := 819) (by decide +kernel)), by decide +kernel⟩
theorem tw_820 : (Jvm.Cond.instanceMethod ({ cls := "ImageReaderModel", name := "kind", desc := "(I)I" } : Jvm.MethodName)) ∈ av_tb := List.mem_filter.mpr ⟨List.mem_append_right _ (List.mem_of_getElem? (i := 820) (by decide +kernel)), by decide +kernel⟩
theorem tw_821 : (Jvm.Cond.selects "ImageReaderModel" ({ cls := "ImageReaderModel", name := "kind", desc := "(I)I" } : Jvm.MethodName) ({ cls := "ImageReaderModel", name := "kind", desc := "(I)I" } : Jvm.MethodName)) ∈ av_tb := List.mem_filter.mpr ⟨List.mem_append_right _ (List.mem_of_getElem? (i := 821) (by decide +kernel)), by decide +kernel⟩
theorem tw_822 : (Jvm.Cond.code ({ cls := "ImageReaderModel", name := "kind", desc := "(I)I" } : Jvm.MethodName) prog_9_method_44_code (3 : Nat) (Option.some Jvm.ClassFile.FieldType.int)) ∈ av_tb := List.mem_filter.mpr ⟨List.mem_append_right _ (List.mem_of_getElem? (i := 822) (by decide +kernel)), by decide +kernel⟩
theorem tw_823 : (Jvm.Cond.methodLink "ImageReaderModel" (156 : Nat) ({ cls := "ImageReaderModel", name := "isThere", desc := "(I)Z" } : Jvm.MethodName)) ∈ av_tb := List.mem_filter.mpr ⟨List.mem_append_right _ (List.mem_of_getElem? (i := 823) (by decide +kernel)), by decide +kernel⟩
theorem tw_825 : (Jvm.Cond.instanceMethod ({ cls := "ImageReaderModel", name := "isThere", desc := "(I)Z" } : Jvm.MethodName)) ∈ av_tb := List.mem_filter.mpr ⟨List.mem_append_right _ (List.mem_of_getElem? (i := 825) (by decide +kernel)), by decide +kernel⟩
theorem tw_826 : (Jvm.Cond.code ({ cls := "ImageReaderModel", name := "isThere", desc := "(I)Z" } : Jvm.MethodName) prog_9_method_40_code (2 : Nat) (Option.some Jvm.ClassFile.FieldType.boolean)) ∈ av_tb := List.mem_filter.mpr ⟨List.mem_append_right _ (List.mem_of_getElem? (i := 826) (by decide +kernel)), by decide +kernel⟩
theorem tw_827 : (Jvm.Cond.methodLink "ImageReaderLaw" (67 : Nat) ({ cls := "ImageReaderModel", name := "classOf", desc := "(I)I" } : Jvm.MethodName)) ∈ av_tb := List.mem_filter.mpr ⟨List.mem_append_right _ (List.mem_of_getElem? (i := 827) (by decide +kernel)), by decide +kernel⟩
theorem tw_828 : (Jvm.Cond.instanceMethod ({ cls := "ImageReaderModel", name := "classOf", desc := "(I)I" } : Jvm.MethodName)) ∈ av_tb := List.mem_filter.mpr ⟨List.mem_append_right _ (List.mem_of_getElem? (i := 828) (by decide +kernel)), by decide +kernel⟩
theorem tw_829 : (Jvm.Cond.selects "ImageReaderModel" ({ cls := "ImageReaderModel", name := "classOf", desc := "(I)I" } : Jvm.MethodName) ({ cls := "ImageReaderModel", name := "classOf", desc := "(I)I" } : Jvm.MethodName)) ∈ av_tb := List.mem_filter.mpr ⟨List.mem_append_right _ (List.mem_of_getElem? (i := 829) (by decide +kernel)), by decide +kernel⟩
theorem tw_830 : (Jvm.Cond.code ({ cls := "ImageReaderModel", name := "classOf", desc := "(I)I" } : Jvm.MethodName) prog_9_method_45_code (2 : Nat) (Option.some Jvm.ClassFile.FieldType.int)) ∈ av_tb := List.mem_filter.mpr ⟨List.mem_append_right _ (List.mem_of_getElem? (i := 830) (by decide +kernel)), by decide +kernel⟩
theorem tw_831 : (Jvm.Cond.methodLink "ImageReaderLaw" (71 : Nat) ({ cls := "ImageReaderModel", name := "size", desc := "(I)I" } : Jvm.MethodName)) ∈ av_tb := List.mem_filter.mpr ⟨List.mem_append_right _ (List.mem_of_getElem? (i := 831) (by decide +kernel)), by decide +kernel⟩
theorem tw_832 : (Jvm.Cond.instanceMethod ({ cls := "ImageReaderModel", name := "size", desc := "(I)I" } : Jvm.MethodName)) ∈ av_tb := List.mem_filter.mpr ⟨List.mem_append_right _ (List.mem_of_getElem? (i := 832) (by decide +kernel)), by decide +kernel⟩
theorem tw_833 : (Jvm.Cond.selects "ImageReaderModel" ({ cls := "ImageReaderModel", name := "size", desc := "(I)I" } : Jvm.MethodName) ({ cls := "ImageReaderModel", name := "size", desc := "(I)I" } : Jvm.MethodName)) ∈ av_tb := List.mem_filter.mpr ⟨List.mem_append_right _ (List.mem_of_getElem? (i := 833) (by decide +kernel)), by decide +kernel⟩
theorem tw_834 : (Jvm.Cond.code ({ cls := "ImageReaderModel", name := "size", desc := "(I)I" } : Jvm.MethodName) prog_9_method_46_code (2 : Nat) (Option.some Jvm.ClassFile.FieldType.int)) ∈ av_tb := List.mem_filter.mpr ⟨List.mem_append_right _ (List.mem_of_getElem? (i := 834) (by decide +kernel)), by decide +kernel⟩
theorem tw_835 : (Jvm.Cond.methodLink "ImageReaderLaw" (75 : Nat) ({ cls := "ImageReaderModel", name := "field", desc := "(II)I" } : Jvm.MethodName)) ∈ av_tb := List.mem_filter.mpr ⟨List.mem_append_right _ (List.mem_of_getElem? (i := 835) (by decide +kernel)), by decide +kernel⟩
theorem tw_836 : (Jvm.Cond.instanceMethod ({ cls := "ImageReaderModel", name := "field", desc := "(II)I" } : Jvm.MethodName)) ∈ av_tb := List.mem_filter.mpr ⟨List.mem_append_right _ (List.mem_of_getElem? (i := 836) (by decide +kernel)), by decide +kernel⟩
theorem tw_837 : (Jvm.Cond.selects "ImageReaderModel" ({ cls := "ImageReaderModel", name := "field", desc := "(II)I" } : Jvm.MethodName) ({ cls := "ImageReaderModel", name := "field", desc := "(II)I" } : Jvm.MethodName)) ∈ av_tb := List.mem_filter.mpr ⟨List.mem_append_right _ (List.mem_of_getElem? (i := 837) (by decide +kernel)), by decide +kernel⟩
theorem tw_838 : (Jvm.Cond.code ({ cls := "ImageReaderModel", name := "field", desc := "(II)I" } : Jvm.MethodName) prog_9_method_47_code (4 : Nat) (Option.some Jvm.ClassFile.FieldType.int)) ∈ av_tb := List.mem_filter.mpr ⟨List.mem_append_right _ (List.mem_of_getElem? (i := 838) (by decide +kernel)), by decide +kernel⟩
theorem tw_839 : (Jvm.Cond.methodLink "ImageReaderLaw" (79 : Nat) ({ cls := "ImageReaderModel", name := "byteAt", desc := "(II)I" } : Jvm.MethodName)) ∈ av_tb := List.mem_filter.mpr ⟨List.mem_append_right _ (List.mem_of_getElem? (i := 839) (by decide +kernel)), by decide +kernel⟩
theorem tw_840 : (Jvm.Cond.instanceMethod ({ cls := "ImageReaderModel", name := "byteAt", desc := "(II)I" } : Jvm.MethodName)) ∈ av_tb := List.mem_filter.mpr ⟨List.mem_append_right _ (List.mem_of_getElem? (i := 840) (by decide +kernel)), by decide +kernel⟩
theorem tw_841 : (Jvm.Cond.selects "ImageReaderModel" ({ cls := "ImageReaderModel", name := "byteAt", desc := "(II)I" } : Jvm.MethodName) ({ cls := "ImageReaderModel", name := "byteAt", desc := "(II)I" } : Jvm.MethodName)) ∈ av_tb := List.mem_filter.mpr ⟨List.mem_append_right _ (List.mem_of_getElem? (i := 841) (by decide +kernel)), by decide +kernel⟩
theorem tw_842 : (Jvm.Cond.code ({ cls := "ImageReaderModel", name := "byteAt", desc := "(II)I" } : Jvm.MethodName) prog_9_method_48_code (4 : Nat) (Option.some Jvm.ClassFile.FieldType.int)) ∈ av_tb := List.mem_filter.mpr ⟨List.mem_append_right _ (List.mem_of_getElem? (i := 842) (by decide +kernel)), by decide +kernel⟩
theorem tw_843 : (Jvm.Cond.methodLink "ImageReaderLaw" (83 : Nat) ({ cls := "ImageReaderModel", name := "reachable", desc := "()I" } : Jvm.MethodName)) ∈ av_tb := List.mem_filter.mpr ⟨List.mem_append_right _ (List.mem_of_getElem? (i := 843) (by decide +kernel)), by decide +kernel⟩
theorem tw_844 : (Jvm.Cond.instanceMethod ({ cls := "ImageReaderModel", name := "reachable", desc := "()I" } : Jvm.MethodName)) ∈ av_tb := List.mem_filter.mpr ⟨List.mem_append_right _ (List.mem_of_getElem? (i := 844) (by decide +kernel)), by decide +kernel⟩
theorem tw_845 : (Jvm.Cond.selects "ImageReaderModel" ({ cls := "ImageReaderModel", name := "reachable", desc := "()I" } : Jvm.MethodName) ({ cls := "ImageReaderModel", name := "reachable", desc := "()I" } : Jvm.MethodName)) ∈ av_tb := List.mem_filter.mpr ⟨List.mem_append_right _ (List.mem_of_getElem? (i := 845) (by decide +kernel)), by decide +kernel⟩
theorem tw_846 : (Jvm.Cond.code ({ cls := "ImageReaderModel", name := "reachable", desc := "()I" } : Jvm.MethodName) prog_9_method_51_code (1 : Nat) (Option.some Jvm.ClassFile.FieldType.int)) ∈ av_tb := List.mem_filter.mpr ⟨List.mem_append_right _ (List.mem_of_getElem? (i := 846) (by decide +kernel)), by decide +kernel⟩
theorem tw_847 : (Jvm.Cond.methodLink "ImageReaderModel" (166 : Nat) ({ cls := "ImageReaderModel", name := "reachAll", desc := "()V" } : Jvm.MethodName)) ∈ av_tb := List.mem_filter.mpr ⟨List.mem_append_right _ (List.mem_of_getElem? (i := 847) (by decide +kernel)), by decide +kernel⟩
theorem tw_849 : (Jvm.Cond.instanceMethod ({ cls := "ImageReaderModel", name := "reachAll", desc := "()V" } : Jvm.MethodName)) ∈ av_tb := List.mem_filter.mpr ⟨List.mem_append_right _ (List.mem_of_getElem? (i := 849) (by decide +kernel)), by decide +kernel⟩
theorem tw_850 : (Jvm.Cond.code ({ cls := "ImageReaderModel", name := "reachAll", desc := "()V" } : Jvm.MethodName) prog_9_method_50_code (4 : Nat) (Option.none : Option Jvm.ClassFile.FieldType)) ∈ av_tb := List.mem_filter.mpr ⟨List.mem_append_right _ (List.mem_of_getElem? (i := 850) (by decide +kernel)), by decide +kernel⟩
theorem tw_851 : (Jvm.Cond.methodLink "ImageReaderModel" (162 : Nat) ({ cls := "ImageReaderModel", name := "reach", desc := "(I)V" } : Jvm.MethodName)) ∈ av_tb := List.mem_filter.mpr ⟨List.mem_append_right _ (List.mem_of_getElem? (i := 851) (by decide +kernel)), by decide +kernel⟩
theorem tw_853 : (Jvm.Cond.instanceMethod ({ cls := "ImageReaderModel", name := "reach", desc := "(I)V" } : Jvm.MethodName)) ∈ av_tb := List.mem_filter.mpr ⟨List.mem_append_right _ (List.mem_of_getElem? (i := 853) (by decide +kernel)), by decide +kernel⟩
theorem tw_854 : (Jvm.Cond.code ({ cls := "ImageReaderModel", name := "reach", desc := "(I)V" } : Jvm.MethodName) prog_9_method_49_code (2 : Nat) (Option.none : Option Jvm.ClassFile.FieldType)) ∈ av_tb := List.mem_filter.mpr ⟨List.mem_append_right _ (List.mem_of_getElem? (i := 854) (by decide +kernel)), by decide +kernel⟩
theorem tw_855 : (Jvm.Cond.methodLink "ImageReaderLaw" (87 : Nat) ({ cls := "ImageReaderModel", name := "write", desc := "()I" } : Jvm.MethodName)) ∈ av_tb := List.mem_filter.mpr ⟨List.mem_append_right _ (List.mem_of_getElem? (i := 855) (by decide +kernel)), by decide +kernel⟩
theorem tw_856 : (Jvm.Cond.instanceMethod ({ cls := "ImageReaderModel", name := "write", desc := "()I" } : Jvm.MethodName)) ∈ av_tb := List.mem_filter.mpr ⟨List.mem_append_right _ (List.mem_of_getElem? (i := 856) (by decide +kernel)), by decide +kernel⟩
theorem tw_857 : (Jvm.Cond.selects "ImageReaderModel" ({ cls := "ImageReaderModel", name := "write", desc := "()I" } : Jvm.MethodName) ({ cls := "ImageReaderModel", name := "write", desc := "()I" } : Jvm.MethodName)) ∈ av_tb := List.mem_filter.mpr ⟨List.mem_append_right _ (List.mem_of_getElem? (i := 857) (by decide +kernel)), by decide +kernel⟩
theorem tw_858 : (Jvm.Cond.code ({ cls := "ImageReaderModel", name := "write", desc := "()I" } : Jvm.MethodName) prog_9_method_54_code (6 : Nat) (Option.some Jvm.ClassFile.FieldType.int)) ∈ av_tb := List.mem_filter.mpr ⟨List.mem_append_right _ (List.mem_of_getElem? (i := 858) (by decide +kernel)), by decide +kernel⟩
theorem tw_859 : (Jvm.Cond.methodLink "ImageReaderModel" (169 : Nat) ({ cls := "ImageReaderModel", name := "put", desc := "(II)V" } : Jvm.MethodName)) ∈ av_tb := List.mem_filter.mpr ⟨List.mem_append_right _ (List.mem_of_getElem? (i := 859) (by decide +kernel)), by decide +kernel⟩
theorem tw_861 : (Jvm.Cond.instanceMethod ({ cls := "ImageReaderModel", name := "put", desc := "(II)V" } : Jvm.MethodName)) ∈ av_tb := List.mem_filter.mpr ⟨List.mem_append_right _ (List.mem_of_getElem? (i := 861) (by decide +kernel)), by decide +kernel⟩
theorem tw_862 : (Jvm.Cond.code ({ cls := "ImageReaderModel", name := "put", desc := "(II)V" } : Jvm.MethodName) prog_9_method_52_code (4 : Nat) (Option.none : Option Jvm.ClassFile.FieldType)) ∈ av_tb := List.mem_filter.mpr ⟨List.mem_append_right _ (List.mem_of_getElem? (i := 862) (by decide +kernel)), by decide +kernel⟩
theorem tw_863 : (Jvm.Cond.methodLink "ImageReaderModel" (173 : Nat) ({ cls := "ImageReaderModel", name := "renumbered", desc := "(I)I" } : Jvm.MethodName)) ∈ av_tb := List.mem_filter.mpr ⟨List.mem_append_right _ (List.mem_of_getElem? (i := 863) (by decide +kernel)), by decide +kernel⟩
theorem tw_865 : (Jvm.Cond.instanceMethod ({ cls := "ImageReaderModel", name := "renumbered", desc := "(I)I" } : Jvm.MethodName)) ∈ av_tb := List.mem_filter.mpr ⟨List.mem_append_right _ (List.mem_of_getElem? (i := 865) (by decide +kernel)), by decide +kernel⟩
theorem tw_866 : (Jvm.Cond.code ({ cls := "ImageReaderModel", name := "renumbered", desc := "(I)I" } : Jvm.MethodName) prog_9_method_53_code (2 : Nat) (Option.some Jvm.ClassFile.FieldType.int)) ∈ av_tb := List.mem_filter.mpr ⟨List.mem_append_right _ (List.mem_of_getElem? (i := 866) (by decide +kernel)), by decide +kernel⟩
theorem tw_867 : (Jvm.Cond.methodLink "ImageReaderLaw" (96 : Nat) ({ cls := "ImageReaderModel", name := "keep", desc := "()Z" } : Jvm.MethodName)) ∈ av_tb := List.mem_filter.mpr ⟨List.mem_append_right _ (List.mem_of_getElem? (i := 867) (by decide +kernel)), by decide +kernel⟩
theorem tw_868 : (Jvm.Cond.instanceMethod ({ cls := "ImageReaderModel", name := "keep", desc := "()Z" } : Jvm.MethodName)) ∈ av_tb := List.mem_filter.mpr ⟨List.mem_append_right _ (List.mem_of_getElem? (i := 868) (by decide +kernel)), by decide +kernel⟩
theorem tw_869 : (Jvm.Cond.selects "ImageReaderModel" ({ cls := "ImageReaderModel", name := "keep", desc := "()Z" } : Jvm.MethodName) ({ cls := "ImageReaderModel", name := "keep", desc := "()Z" } : Jvm.MethodName)) ∈ av_tb := List.mem_filter.mpr ⟨List.mem_append_right _ (List.mem_of_getElem? (i := 869) (by decide +kernel)), by decide +kernel⟩
theorem tw_870 : (Jvm.Cond.code ({ cls := "ImageReaderModel", name := "keep", desc := "()Z" } : Jvm.MethodName) prog_9_method_55_code (2 : Nat) (Option.some Jvm.ClassFile.FieldType.boolean)) ∈ av_tb := List.mem_filter.mpr ⟨List.mem_append_right _ (List.mem_of_getElem? (i := 870) (by decide +kernel)), by decide +kernel⟩
theorem tw_871 : (Jvm.Cond.methodLink "ImageReaderLaw" (100 : Nat) ({ cls := "ImageReaderModel", name := "same", desc := "()Z" } : Jvm.MethodName)) ∈ av_tb := List.mem_filter.mpr ⟨List.mem_append_right _ (List.mem_of_getElem? (i := 871) (by decide +kernel)), by decide +kernel⟩
theorem tw_872 : (Jvm.Cond.instanceMethod ({ cls := "ImageReaderModel", name := "same", desc := "()Z" } : Jvm.MethodName)) ∈ av_tb := List.mem_filter.mpr ⟨List.mem_append_right _ (List.mem_of_getElem? (i := 872) (by decide +kernel)), by decide +kernel⟩
theorem tw_873 : (Jvm.Cond.selects "ImageReaderModel" ({ cls := "ImageReaderModel", name := "same", desc := "()Z" } : Jvm.MethodName) ({ cls := "ImageReaderModel", name := "same", desc := "()Z" } : Jvm.MethodName)) ∈ av_tb := List.mem_filter.mpr ⟨List.mem_append_right _ (List.mem_of_getElem? (i := 873) (by decide +kernel)), by decide +kernel⟩
theorem tw_874 : (Jvm.Cond.code ({ cls := "ImageReaderModel", name := "same", desc := "()Z" } : Jvm.MethodName) prog_9_method_58_code (3 : Nat) (Option.some Jvm.ClassFile.FieldType.boolean)) ∈ av_tb := List.mem_filter.mpr ⟨List.mem_append_right _ (List.mem_of_getElem? (i := 874) (by decide +kernel)), by decide +kernel⟩
theorem tw_875 : (Jvm.Cond.methodLink "ImageReaderModel" (179 : Nat) ({ cls := "ImageReaderModel", name := "goes", desc := "(II)Z" } : Jvm.MethodName)) ∈ av_tb := List.mem_filter.mpr ⟨List.mem_append_right _ (List.mem_of_getElem? (i := 875) (by decide +kernel)), by decide +kernel⟩
theorem tw_877 : (Jvm.Cond.instanceMethod ({ cls := "ImageReaderModel", name := "goes", desc := "(II)Z" } : Jvm.MethodName)) ∈ av_tb := List.mem_filter.mpr ⟨List.mem_append_right _ (List.mem_of_getElem? (i := 877) (by decide +kernel)), by decide +kernel⟩
theorem tw_878 : (Jvm.Cond.code ({ cls := "ImageReaderModel", name := "goes", desc := "(II)Z" } : Jvm.MethodName) prog_9_method_56_code (3 : Nat) (Option.some Jvm.ClassFile.FieldType.boolean)) ∈ av_tb := List.mem_filter.mpr ⟨List.mem_append_right _ (List.mem_of_getElem? (i := 878) (by decide +kernel)), by decide +kernel⟩
theorem tw_879 : (Jvm.Cond.methodLink "ImageReaderModel" (182 : Nat) ({ cls := "ImageReaderModel", name := "goTogether", desc := "(I)Z" } : Jvm.MethodName)) ∈ av_tb := List.mem_filter.mpr ⟨List.mem_append_right _ (List.mem_of_getElem? (i := 879) (by decide +kernel)), by decide +kernel⟩
theorem tw_881 : (Jvm.Cond.instanceMethod ({ cls := "ImageReaderModel", name := "goTogether", desc := "(I)Z" } : Jvm.MethodName)) ∈ av_tb := List.mem_filter.mpr ⟨List.mem_append_right _ (List.mem_of_getElem? (i := 881) (by decide +kernel)), by decide +kernel⟩
theorem tw_882 : (Jvm.Cond.code ({ cls := "ImageReaderModel", name := "goTogether", desc := "(I)Z" } : Jvm.MethodName) prog_9_method_57_code (6 : Nat) (Option.some Jvm.ClassFile.FieldType.boolean)) ∈ av_tb := List.mem_filter.mpr ⟨List.mem_append_right _ (List.mem_of_getElem? (i := 882) (by decide +kernel)), by decide +kernel⟩
theorem tw_883 : (Jvm.Cond.arrayClass Jvm.ClassFile.FieldType.long) ∈ av_tb := List.mem_filter.mpr ⟨List.mem_append_right _ (List.mem_of_getElem? (i := 883) (by decide +kernel)), by decide +kernel⟩
theorem sw_0 : Cond.selects "ImageReader$Bytes" ⟨"ImageReader$Bytes", "at", "(I)I"⟩ ⟨"ImageReader$Bytes", "at", "(I)I"⟩ ∈ av_tb := List.mem_filter.mpr ⟨List.mem_append_left _ (List.mem_of_getElem? (i := 0) (by decide +kernel)), by decide +kernel⟩
theorem sw_1 : Cond.selects "ImageReader" ⟨"ImageReader", "spareImage", "()LImageReader$Image;"⟩ ⟨"ImageReader", "spareImage", "()LImageReader$Image;"⟩ ∈ av_tb := List.mem_filter.mpr ⟨List.mem_append_left _ (List.mem_of_getElem? (i := 1) (by decide +kernel)), by decide +kernel⟩
theorem sw_2 : Cond.selects "ImageReader" ⟨"ImageReader", "placeOfRefusal", "(LImageReader$Image;)I"⟩ ⟨"ImageReader", "placeOfRefusal", "(LImageReader$Image;)I"⟩ ∈ av_tb := List.mem_filter.mpr ⟨List.mem_append_left _ (List.mem_of_getElem? (i := 2) (by decide +kernel)), by decide +kernel⟩
theorem sw_3 : Cond.selects "ImageReader$Bytes" ⟨"ImageReader$Bytes", "reaches", "(II)Z"⟩ ⟨"ImageReader$Bytes", "reaches", "(II)Z"⟩ ∈ av_tb := List.mem_filter.mpr ⟨List.mem_append_left _ (List.mem_of_getElem? (i := 3) (by decide +kernel)), by decide +kernel⟩
theorem sw_4 : Cond.selects "ImageReader$Bytes" ⟨"ImageReader$Bytes", "pairAt", "(I)I"⟩ ⟨"ImageReader$Bytes", "pairAt", "(I)I"⟩ ∈ av_tb := List.mem_filter.mpr ⟨List.mem_append_left _ (List.mem_of_getElem? (i := 4) (by decide +kernel)), by decide +kernel⟩
theorem sw_5 : Cond.selects "ImageReader$Image" ⟨"ImageReader$Image", "clear", "()V"⟩ ⟨"ImageReader$Image", "clear", "()V"⟩ ∈ av_tb := List.mem_filter.mpr ⟨List.mem_append_left _ (List.mem_of_getElem? (i := 5) (by decide +kernel)), by decide +kernel⟩
theorem sw_6 : Cond.selects "ImageReader$Bytes" ⟨"ImageReader$Bytes", "wordAt", "(I)I"⟩ ⟨"ImageReader$Bytes", "wordAt", "(I)I"⟩ ∈ av_tb := List.mem_filter.mpr ⟨List.mem_append_left _ (List.mem_of_getElem? (i := 6) (by decide +kernel)), by decide +kernel⟩
theorem sw_7 : Cond.selects "ImageReader$Image" ⟨"ImageReader$Image", "addObject", "(III)V"⟩ ⟨"ImageReader$Image", "addObject", "(III)V"⟩ ∈ av_tb := List.mem_filter.mpr ⟨List.mem_append_left _ (List.mem_of_getElem? (i := 7) (by decide +kernel)), by decide +kernel⟩
theorem sw_8 : Cond.selects "ImageReader$Image" ⟨"ImageReader$Image", "addPart", "(I)V"⟩ ⟨"ImageReader$Image", "addPart", "(I)V"⟩ ∈ av_tb := List.mem_filter.mpr ⟨List.mem_append_left _ (List.mem_of_getElem? (i := 8) (by decide +kernel)), by decide +kernel⟩
theorem sw_9 : Cond.selects "ImageReader$Image" ⟨"ImageReader$Image", "specialAt", "(I)I"⟩ ⟨"ImageReader$Image", "specialAt", "(I)I"⟩ ∈ av_tb := List.mem_filter.mpr ⟨List.mem_append_left _ (List.mem_of_getElem? (i := 9) (by decide +kernel)), by decide +kernel⟩
theorem sw_10 : Cond.selects "ImageReader$Image" ⟨"ImageReader$Image", "objectOf", "(I)I"⟩ ⟨"ImageReader$Image", "objectOf", "(I)I"⟩ ∈ av_tb := List.mem_filter.mpr ⟨List.mem_append_left _ (List.mem_of_getElem? (i := 10) (by decide +kernel)), by decide +kernel⟩
theorem sw_11 : Cond.selects "ImageReader$Image" ⟨"ImageReader$Image", "holds", "(I)Z"⟩ ⟨"ImageReader$Image", "holds", "(I)Z"⟩ ∈ av_tb := List.mem_filter.mpr ⟨List.mem_append_left _ (List.mem_of_getElem? (i := 11) (by decide +kernel)), by decide +kernel⟩
theorem sw_12 : Cond.selects "ImageReader$Image" ⟨"ImageReader$Image", "fieldAt", "(II)I"⟩ ⟨"ImageReader$Image", "fieldAt", "(II)I"⟩ ∈ av_tb := List.mem_filter.mpr ⟨List.mem_append_left _ (List.mem_of_getElem? (i := 12) (by decide +kernel)), by decide +kernel⟩
theorem sw_13 : Cond.selects "ImageReader$Image" ⟨"ImageReader$Image", "hasPart", "(II)Z"⟩ ⟨"ImageReader$Image", "hasPart", "(II)Z"⟩ ∈ av_tb := List.mem_filter.mpr ⟨List.mem_append_left _ (List.mem_of_getElem? (i := 13) (by decide +kernel)), by decide +kernel⟩
theorem sw_14 : Cond.selects "ImageReader$Image" ⟨"ImageReader$Image", "fieldCount", "(I)I"⟩ ⟨"ImageReader$Image", "fieldCount", "(I)I"⟩ ∈ av_tb := List.mem_filter.mpr ⟨List.mem_append_left _ (List.mem_of_getElem? (i := 14) (by decide +kernel)), by decide +kernel⟩
theorem sw_15 : Cond.selects "ImageReader$Image" ⟨"ImageReader$Image", "isContext", "(I)Z"⟩ ⟨"ImageReader$Image", "isContext", "(I)Z"⟩ ∈ av_tb := List.mem_filter.mpr ⟨List.mem_append_left _ (List.mem_of_getElem? (i := 15) (by decide +kernel)), by decide +kernel⟩
theorem sw_16 : Cond.selects "ImageReader$Image" ⟨"ImageReader$Image", "isOfSpecialClass", "(II)Z"⟩ ⟨"ImageReader$Image", "isOfSpecialClass", "(II)Z"⟩ ∈ av_tb := List.mem_filter.mpr ⟨List.mem_append_left _ (List.mem_of_getElem? (i := 16) (by decide +kernel)), by decide +kernel⟩
theorem sw_17 : Cond.selects "ImageReader$Image" ⟨"ImageReader$Image", "classAt", "(I)I"⟩ ⟨"ImageReader$Image", "classAt", "(I)I"⟩ ∈ av_tb := List.mem_filter.mpr ⟨List.mem_append_left _ (List.mem_of_getElem? (i := 17) (by decide +kernel)), by decide +kernel⟩
theorem sw_18 : Cond.selects "ImageReader$Image" ⟨"ImageReader$Image", "isOfBytes", "(I)Z"⟩ ⟨"ImageReader$Image", "isOfBytes", "(I)Z"⟩ ∈ av_tb := List.mem_filter.mpr ⟨List.mem_append_left _ (List.mem_of_getElem? (i := 18) (by decide +kernel)), by decide +kernel⟩
theorem sw_19 : Cond.selects "ImageReader$Image" ⟨"ImageReader$Image", "bodyByteAt", "(II)I"⟩ ⟨"ImageReader$Image", "bodyByteAt", "(II)I"⟩ ∈ av_tb := List.mem_filter.mpr ⟨List.mem_append_left _ (List.mem_of_getElem? (i := 19) (by decide +kernel)), by decide +kernel⟩
theorem sw_20 : Cond.selects "ImageReader$Walk" ⟨"ImageReader$Walk", "reach", "(LImageReader$Image;)I"⟩ ⟨"ImageReader$Walk", "reach", "(LImageReader$Image;)I"⟩ ∈ av_tb := List.mem_filter.mpr ⟨List.mem_append_left _ (List.mem_of_getElem? (i := 20) (by decide +kernel)), by decide +kernel⟩
theorem sw_21 : Cond.selects "ImageReader$Walk" ⟨"ImageReader$Walk", "clear", "(LImageReader$Image;)V"⟩ ⟨"ImageReader$Walk", "clear", "(LImageReader$Image;)V"⟩ ∈ av_tb := List.mem_filter.mpr ⟨List.mem_append_left _ (List.mem_of_getElem? (i := 21) (by decide +kernel)), by decide +kernel⟩
theorem sw_22 : Cond.selects "ImageReader$Walk" ⟨"ImageReader$Walk", "visit", "(I)V"⟩ ⟨"ImageReader$Walk", "visit", "(I)V"⟩ ∈ av_tb := List.mem_filter.mpr ⟨List.mem_append_left _ (List.mem_of_getElem? (i := 22) (by decide +kernel)), by decide +kernel⟩
theorem sw_23 : Cond.selects "ImageReader$Walk" ⟨"ImageReader$Walk", "numberAnew", "(LImageReader$Image;)V"⟩ ⟨"ImageReader$Walk", "numberAnew", "(LImageReader$Image;)V"⟩ ∈ av_tb := List.mem_filter.mpr ⟨List.mem_append_left _ (List.mem_of_getElem? (i := 23) (by decide +kernel)), by decide +kernel⟩
theorem sw_24 : Cond.selects "ImageReader" ⟨"ImageReader", "writeHead", "(I)V"⟩ ⟨"ImageReader", "writeHead", "(I)V"⟩ ∈ av_tb := List.mem_filter.mpr ⟨List.mem_append_left _ (List.mem_of_getElem? (i := 24) (by decide +kernel)), by decide +kernel⟩
theorem sw_25 : Cond.selects "ImageReader$Bytes" ⟨"ImageReader$Bytes", "add", "(I)V"⟩ ⟨"ImageReader$Bytes", "add", "(I)V"⟩ ∈ av_tb := List.mem_filter.mpr ⟨List.mem_append_left _ (List.mem_of_getElem? (i := 25) (by decide +kernel)), by decide +kernel⟩
theorem sw_26 : Cond.selects "ImageReader$Bytes" ⟨"ImageReader$Bytes", "addPair", "(I)V"⟩ ⟨"ImageReader$Bytes", "addPair", "(I)V"⟩ ∈ av_tb := List.mem_filter.mpr ⟨List.mem_append_left _ (List.mem_of_getElem? (i := 26) (by decide +kernel)), by decide +kernel⟩
theorem sw_27 : Cond.selects "ImageReader$Walk" ⟨"ImageReader$Walk", "renumbered", "(LImageReader$Image;I)I"⟩ ⟨"ImageReader$Walk", "renumbered", "(LImageReader$Image;I)I"⟩ ∈ av_tb := List.mem_filter.mpr ⟨List.mem_append_left _ (List.mem_of_getElem? (i := 27) (by decide +kernel)), by decide +kernel⟩
theorem sw_28 : Cond.selects "ImageReader$Bytes" ⟨"ImageReader$Bytes", "addWord", "(I)V"⟩ ⟨"ImageReader$Bytes", "addWord", "(I)V"⟩ ∈ av_tb := List.mem_filter.mpr ⟨List.mem_append_left _ (List.mem_of_getElem? (i := 28) (by decide +kernel)), by decide +kernel⟩
theorem sw_29 : Cond.selects "ImageReader" ⟨"ImageReader", "writeObject", "(I)V"⟩ ⟨"ImageReader", "writeObject", "(I)V"⟩ ∈ av_tb := List.mem_filter.mpr ⟨List.mem_append_left _ (List.mem_of_getElem? (i := 29) (by decide +kernel)), by decide +kernel⟩
theorem sw_30 : Cond.selects "ImageReader$Pairing" ⟨"ImageReader$Pairing", "pairs", "(LImageReader$Image;LImageReader$Image;)Z"⟩ ⟨"ImageReader$Pairing", "pairs", "(LImageReader$Image;LImageReader$Image;)Z"⟩ ∈ av_tb := List.mem_filter.mpr ⟨List.mem_append_left _ (List.mem_of_getElem? (i := 30) (by decide +kernel)), by decide +kernel⟩
theorem sw_31 : Cond.selects "ImageReader$Pairing" ⟨"ImageReader$Pairing", "clear", "(LImageReader$Image;LImageReader$Image;)V"⟩ ⟨"ImageReader$Pairing", "clear", "(LImageReader$Image;LImageReader$Image;)V"⟩ ∈ av_tb := List.mem_filter.mpr ⟨List.mem_append_left _ (List.mem_of_getElem? (i := 31) (by decide +kernel)), by decide +kernel⟩
theorem sw_32 : Cond.selects "ImageReader$Pairing" ⟨"ImageReader$Pairing", "match", "(LImageReader$Image;ILImageReader$Image;I)Z"⟩ ⟨"ImageReader$Pairing", "match", "(LImageReader$Image;ILImageReader$Image;I)Z"⟩ ∈ av_tb := List.mem_filter.mpr ⟨List.mem_append_left _ (List.mem_of_getElem? (i := 32) (by decide +kernel)), by decide +kernel⟩
theorem sw_33 : Cond.selects "ImageReader$Pairing" ⟨"ImageReader$Pairing", "matchBodies", "(LImageReader$Image;ILImageReader$Image;I)Z"⟩ ⟨"ImageReader$Pairing", "matchBodies", "(LImageReader$Image;ILImageReader$Image;I)Z"⟩ ∈ av_tb := List.mem_filter.mpr ⟨List.mem_append_left _ (List.mem_of_getElem? (i := 33) (by decide +kernel)), by decide +kernel⟩
theorem sw_35 : Cond.selects "ImageReaderModel" ⟨"ImageReaderModel", "place", "()I"⟩ ⟨"ImageReaderModel", "place", "()I"⟩ ∈ av_tb := List.mem_filter.mpr ⟨List.mem_append_left _ (List.mem_of_getElem? (i := 35) (by decide +kernel)), by decide +kernel⟩
theorem sw_36 : Cond.selects "ImageReaderModel" ⟨"ImageReaderModel", "stepHead", "()I"⟩ ⟨"ImageReaderModel", "stepHead", "()I"⟩ ∈ av_tb := List.mem_filter.mpr ⟨List.mem_append_left _ (List.mem_of_getElem? (i := 36) (by decide +kernel)), by decide +kernel⟩
theorem sw_37 : Cond.selects "ImageReaderModel" ⟨"ImageReaderModel", "stepValues", "()I"⟩ ⟨"ImageReaderModel", "stepValues", "()I"⟩ ∈ av_tb := List.mem_filter.mpr ⟨List.mem_append_left _ (List.mem_of_getElem? (i := 37) (by decide +kernel)), by decide +kernel⟩
theorem sw_38 : Cond.selects "ImageReaderModel" ⟨"ImageReaderModel", "isValue", "(I)Z"⟩ ⟨"ImageReaderModel", "isValue", "(I)Z"⟩ ∈ av_tb := List.mem_filter.mpr ⟨List.mem_append_left _ (List.mem_of_getElem? (i := 38) (by decide +kernel)), by decide +kernel⟩
theorem sw_39 : Cond.selects "ImageReaderModel" ⟨"ImageReaderModel", "stepRoom", "()I"⟩ ⟨"ImageReaderModel", "stepRoom", "()I"⟩ ∈ av_tb := List.mem_filter.mpr ⟨List.mem_append_left _ (List.mem_of_getElem? (i := 39) (by decide +kernel)), by decide +kernel⟩
theorem sw_40 : Cond.selects "ImageReaderModel" ⟨"ImageReaderModel", "stepSpecials", "()I"⟩ ⟨"ImageReaderModel", "stepSpecials", "()I"⟩ ∈ av_tb := List.mem_filter.mpr ⟨List.mem_append_left _ (List.mem_of_getElem? (i := 40) (by decide +kernel)), by decide +kernel⟩
theorem sw_41 : Cond.selects "ImageReaderModel" ⟨"ImageReaderModel", "isClass", "(I)Z"⟩ ⟨"ImageReaderModel", "isClass", "(I)Z"⟩ ∈ av_tb := List.mem_filter.mpr ⟨List.mem_append_left _ (List.mem_of_getElem? (i := 41) (by decide +kernel)), by decide +kernel⟩
theorem sw_42 : Cond.selects "ImageReaderModel" ⟨"ImageReaderModel", "hasFields", "(II)Z"⟩ ⟨"ImageReaderModel", "hasFields", "(II)Z"⟩ ∈ av_tb := List.mem_filter.mpr ⟨List.mem_append_left _ (List.mem_of_getElem? (i := 42) (by decide +kernel)), by decide +kernel⟩
theorem sw_43 : Cond.selects "ImageReaderModel" ⟨"ImageReaderModel", "fieldOf", "(II)I"⟩ ⟨"ImageReaderModel", "fieldOf", "(II)I"⟩ ∈ av_tb := List.mem_filter.mpr ⟨List.mem_append_left _ (List.mem_of_getElem? (i := 43) (by decide +kernel)), by decide +kernel⟩
theorem sw_44 : Cond.selects "ImageReaderModel" ⟨"ImageReaderModel", "isContext", "(I)Z"⟩ ⟨"ImageReaderModel", "isContext", "(I)Z"⟩ ∈ av_tb := List.mem_filter.mpr ⟨List.mem_append_left _ (List.mem_of_getElem? (i := 44) (by decide +kernel)), by decide +kernel⟩
theorem sw_45 : Cond.selects "ImageReaderModel" ⟨"ImageReaderModel", "stepObjects", "()I"⟩ ⟨"ImageReaderModel", "stepObjects", "()I"⟩ ∈ av_tb := List.mem_filter.mpr ⟨List.mem_append_left _ (List.mem_of_getElem? (i := 45) (by decide +kernel)), by decide +kernel⟩
theorem sw_46 : Cond.selects "ImageReaderModel" ⟨"ImageReaderModel", "isRightObject", "(I)Z"⟩ ⟨"ImageReaderModel", "isRightObject", "(I)Z"⟩ ∈ av_tb := List.mem_filter.mpr ⟨List.mem_append_left _ (List.mem_of_getElem? (i := 46) (by decide +kernel)), by decide +kernel⟩
theorem sw_47 : Cond.selects "ImageReaderModel" ⟨"ImageReaderModel", "isMethodContext", "(I)Z"⟩ ⟨"ImageReaderModel", "isMethodContext", "(I)Z"⟩ ∈ av_tb := List.mem_filter.mpr ⟨List.mem_append_left _ (List.mem_of_getElem? (i := 47) (by decide +kernel)), by decide +kernel⟩
theorem sw_48 : Cond.selects "ImageReaderModel" ⟨"ImageReaderModel", "isMethod", "(I)Z"⟩ ⟨"ImageReaderModel", "isMethod", "(I)Z"⟩ ∈ av_tb := List.mem_filter.mpr ⟨List.mem_append_left _ (List.mem_of_getElem? (i := 48) (by decide +kernel)), by decide +kernel⟩
theorem sw_49 : Cond.selects "ImageReaderModel" ⟨"ImageReaderModel", "temporaries", "(I)I"⟩ ⟨"ImageReaderModel", "temporaries", "(I)I"⟩ ∈ av_tb := List.mem_filter.mpr ⟨List.mem_append_left _ (List.mem_of_getElem? (i := 49) (by decide +kernel)), by decide +kernel⟩
theorem sw_50 : Cond.selects "ImageReaderModel" ⟨"ImageReaderModel", "depth", "(I)I"⟩ ⟨"ImageReaderModel", "depth", "(I)I"⟩ ∈ av_tb := List.mem_filter.mpr ⟨List.mem_append_left _ (List.mem_of_getElem? (i := 50) (by decide +kernel)), by decide +kernel⟩
theorem sw_51 : Cond.selects "ImageReaderModel" ⟨"ImageReaderModel", "isNumberFrom", "(III)Z"⟩ ⟨"ImageReaderModel", "isNumberFrom", "(III)Z"⟩ ∈ av_tb := List.mem_filter.mpr ⟨List.mem_append_left _ (List.mem_of_getElem? (i := 51) (by decide +kernel)), by decide +kernel⟩
theorem sw_52 : Cond.selects "ImageReaderModel" ⟨"ImageReaderModel", "isCommon", "(II)Z"⟩ ⟨"ImageReaderModel", "isCommon", "(II)Z"⟩ ∈ av_tb := List.mem_filter.mpr ⟨List.mem_append_left _ (List.mem_of_getElem? (i := 52) (by decide +kernel)), by decide +kernel⟩
theorem sw_53 : Cond.selects "ImageReaderModel" ⟨"ImageReaderModel", "isBlockContext", "(I)Z"⟩ ⟨"ImageReaderModel", "isBlockContext", "(I)Z"⟩ ∈ av_tb := List.mem_filter.mpr ⟨List.mem_append_left _ (List.mem_of_getElem? (i := 53) (by decide +kernel)), by decide +kernel⟩
theorem sw_54 : Cond.selects "ImageReaderModel" ⟨"ImageReaderModel", "stepProcess", "()I"⟩ ⟨"ImageReaderModel", "stepProcess", "()I"⟩ ∈ av_tb := List.mem_filter.mpr ⟨List.mem_append_left _ (List.mem_of_getElem? (i := 54) (by decide +kernel)), by decide +kernel⟩
theorem sw_55 : Cond.selects "ImageReaderModel" ⟨"ImageReaderModel", "isThere", "(I)Z"⟩ ⟨"ImageReaderModel", "isThere", "(I)Z"⟩ ∈ av_tb := List.mem_filter.mpr ⟨List.mem_append_left _ (List.mem_of_getElem? (i := 55) (by decide +kernel)), by decide +kernel⟩
theorem sw_56 : Cond.selects "ImageReaderModel" ⟨"ImageReaderModel", "reachAll", "()V"⟩ ⟨"ImageReaderModel", "reachAll", "()V"⟩ ∈ av_tb := List.mem_filter.mpr ⟨List.mem_append_left _ (List.mem_of_getElem? (i := 56) (by decide +kernel)), by decide +kernel⟩
theorem sw_57 : Cond.selects "ImageReaderModel" ⟨"ImageReaderModel", "reach", "(I)V"⟩ ⟨"ImageReaderModel", "reach", "(I)V"⟩ ∈ av_tb := List.mem_filter.mpr ⟨List.mem_append_left _ (List.mem_of_getElem? (i := 57) (by decide +kernel)), by decide +kernel⟩
theorem sw_58 : Cond.selects "ImageReaderModel" ⟨"ImageReaderModel", "put", "(II)V"⟩ ⟨"ImageReaderModel", "put", "(II)V"⟩ ∈ av_tb := List.mem_filter.mpr ⟨List.mem_append_left _ (List.mem_of_getElem? (i := 58) (by decide +kernel)), by decide +kernel⟩
theorem sw_59 : Cond.selects "ImageReaderModel" ⟨"ImageReaderModel", "renumbered", "(I)I"⟩ ⟨"ImageReaderModel", "renumbered", "(I)I"⟩ ∈ av_tb := List.mem_filter.mpr ⟨List.mem_append_left _ (List.mem_of_getElem? (i := 59) (by decide +kernel)), by decide +kernel⟩
theorem sw_60 : Cond.selects "ImageReaderModel" ⟨"ImageReaderModel", "goes", "(II)Z"⟩ ⟨"ImageReaderModel", "goes", "(II)Z"⟩ ∈ av_tb := List.mem_filter.mpr ⟨List.mem_append_left _ (List.mem_of_getElem? (i := 60) (by decide +kernel)), by decide +kernel⟩
theorem sw_61 : Cond.selects "ImageReaderModel" ⟨"ImageReaderModel", "goTogether", "(I)Z"⟩ ⟨"ImageReaderModel", "goTogether", "(I)Z"⟩ ∈ av_tb := List.mem_filter.mpr ⟨List.mem_append_left _ (List.mem_of_getElem? (i := 61) (by decide +kernel)), by decide +kernel⟩
theorem nc_Law_8 : av_cls "ImageReaderLaw" 8 0 [.null, .null, .null, .null, .null, .null, .null, .null] 8 := ⟨"ImageReader", F_R, t_R, rfl, i_R, t_R_ok, tw_17, tw_18, tw_1, by decide +kernel⟩
theorem ci_Law_21 : av_cI "ImageReaderLaw" 21 y_R_init b_R_init 1 0 := ⟨⟨tw_20, tw_1, tw_21, rfl⟩, ⟨by decide +kernel, by decide +kernel, by decide +kernel⟩, Or.inl tw_19⟩
theorem nc_R_7 : av_cls "ImageReader" 7 1 [.null, .int 0] 2 := ⟨"ImageReader$Bytes", F_B, t_B, rfl, i_B, t_B_ok, tw_25, tw_26, tw_2, by decide +kernel⟩
theorem ci_R_9 : av_cI "ImageReader" 9 y_B_init b_B_init 1 0 := ⟨⟨tw_28, tw_2, tw_29, rfl⟩, ⟨by decide +kernel, by decide +kernel, by decide +kernel⟩, Or.inr ⟨"ImageReader", nw_27⟩⟩
theorem fl_B_9 : av_fld "ImageReader$Bytes" 9 1 0 := ⟨"ImageReader$Bytes", F_B, 2, rfl, i_B, by decide, Or.inl tw_31⟩
theorem pt_B_9 (ini : Bool) : av_put "ImageReader$Bytes" 9 1 0 ini (.array .byte) := ⟨"ImageReader$Bytes", F_B, 2, t_B, rfl, i_B, by decide, t_B_ok, n_B, rfl, Or.inl rfl, Or.inl tw_31⟩
theorem fl_R_74 : av_fld "ImageReader" 74 1 0 := ⟨"ImageReader$Bytes", F_B, 2, rfl, i_B, by decide, Or.inr ⟨"ImageReader", nw_32⟩⟩
theorem pt_R_74 (ini : Bool) : av_put "ImageReader" 74 1 0 ini (.array .byte) := ⟨"ImageReader$Bytes", F_B, 2, t_B, rfl, i_B, by decide, t_B_ok, n_B, rfl, Or.inl rfl, Or.inr ⟨rfl, "ImageReader", nw_32⟩⟩
theorem fl_R_49 : av_fld "ImageReader" 49 1 1 := ⟨"ImageReader$Bytes", F_B, 2, rfl, i_B, by decide, Or.inr ⟨"ImageReader", nw_33⟩⟩
theorem pt_R_49 (ini : Bool) : av_put "ImageReader" 49 1 1 ini .int := ⟨"ImageReader$Bytes", F_B, 2, t_B, rfl, i_B, by decide, t_B_ok, n_B, rfl, Or.inl rfl, Or.inr ⟨rfl, "ImageReader", nw_33⟩⟩
theorem fl_B_15 : av_fld "ImageReader$Bytes" 15 1 1 := ⟨"ImageReader$Bytes", F_B, 2, rfl, i_B, by decide, Or.inl tw_34⟩
theorem pt_B_15 (ini : Bool) : av_put "ImageReader$Bytes" 15 1 1 ini .int := ⟨"ImageReader$Bytes", F_B, 2, t_B, rfl, i_B, by decide, t_B_ok, n_B, rfl, Or.inl rfl, Or.inl tw_34⟩
theorem fl_L_26 : av_fld "ImageReader$Layout" 26 1 1 := ⟨"ImageReader$Bytes", F_B, 2, rfl, i_B, by decide, Or.inr ⟨"ImageReader", nw_35⟩⟩
theorem pt_L_26 (ini : Bool) : av_put "ImageReader$Layout" 26 1 1 ini .int := ⟨"ImageReader$Bytes", F_B, 2, t_B, rfl, i_B, by decide, t_B_ok, n_B, rfl, Or.inl rfl, Or.inr ⟨rfl, "ImageReader", nw_35⟩⟩
theorem nc_R_16 : av_cls "ImageReader" 16 2 [.null, .null, .null, .null, .null, .null, .int 0, .int 0, .int 0, .int 0, .int 0] 11 := ⟨"ImageReader$Image", F_I, t_I, rfl, i_I, t_I_ok, tw_42, tw_43, tw_3, by decide +kernel⟩
theorem ci_R_18 : av_cI "ImageReader" 18 y_I_init b_I_init 1 0 := ⟨⟨tw_45, tw_3, tw_46, rfl⟩, ⟨by decide +kernel, by decide +kernel, by decide +kernel⟩, Or.inr ⟨"ImageReader", nw_44⟩⟩
theorem fl_I_9 : av_fld "ImageReader$Image" 9 2 0 := ⟨"ImageReader$Image", F_I, 11, rfl, i_I, by decide, Or.inl tw_48⟩
theorem pt_I_9 : av_put "ImageReader$Image" 9 2 0 true (.array .int) := ⟨"ImageReader$Image", F_I, 11, t_I, rfl, i_I, by decide, t_I_ok, n_I, rfl, Or.inr ⟨rfl, rfl⟩, Or.inl tw_48⟩
theorem fl_W_22 : av_fld "ImageReader$Walk" 22 2 0 := ⟨"ImageReader$Image", F_I, 11, rfl, i_I, by decide, Or.inr ⟨"ImageReader", nw_49⟩⟩
theorem fl_P_34 : av_fld "ImageReader$Pairing" 34 2 0 := ⟨"ImageReader$Image", F_I, 11, rfl, i_I, by decide, Or.inr ⟨"ImageReader", nw_50⟩⟩
theorem fl_L_50 : av_fld "ImageReader$Layout" 50 2 0 := ⟨"ImageReader$Image", F_I, 11, rfl, i_I, by decide, Or.inr ⟨"ImageReader", nw_51⟩⟩
theorem fl_R_130 : av_fld "ImageReader" 130 2 0 := ⟨"ImageReader$Image", F_I, 11, rfl, i_I, by decide, Or.inr ⟨"ImageReader", nw_52⟩⟩
theorem fl_I_15 : av_fld "ImageReader$Image" 15 2 1 := ⟨"ImageReader$Image", F_I, 11, rfl, i_I, by decide, Or.inl tw_53⟩
theorem pt_I_15 (ini : Bool) : av_put "ImageReader$Image" 15 2 1 ini (.array .int) := ⟨"ImageReader$Image", F_I, 11, t_I, rfl, i_I, by decide, t_I_ok, n_I, rfl, Or.inl rfl, Or.inl tw_53⟩
theorem fl_P_50 : av_fld "ImageReader$Pairing" 50 2 1 := ⟨"ImageReader$Image", F_I, 11, rfl, i_I, by decide, Or.inr ⟨"ImageReader", nw_54⟩⟩
theorem pt_P_50 (ini : Bool) : av_put "ImageReader$Pairing" 50 2 1 ini (.array .int) := ⟨"ImageReader$Image", F_I, 11, t_I, rfl, i_I, by decide, t_I_ok, n_I, rfl, Or.inl rfl, Or.inr ⟨rfl, "ImageReader", nw_54⟩⟩
theorem fl_W_52 : av_fld "ImageReader$Walk" 52 2 1 := ⟨"ImageReader$Image", F_I, 11, rfl, i_I, by decide, Or.inr ⟨"ImageReader", nw_55⟩⟩
theorem pt_W_52 (ini : Bool) : av_put "ImageReader$Walk" 52 2 1 ini (.array .int) := ⟨"ImageReader$Image", F_I, 11, t_I, rfl, i_I, by decide, t_I_ok, n_I, rfl, Or.inl rfl, Or.inr ⟨rfl, "ImageReader", nw_55⟩⟩
theorem fl_R_189 : av_fld "ImageReader" 189 2 1 := ⟨"ImageReader$Image", F_I, 11, rfl, i_I, by decide, Or.inr ⟨"ImageReader", nw_56⟩⟩
theorem pt_R_189 (ini : Bool) : av_put "ImageReader" 189 2 1 ini (.array .int) := ⟨"ImageReader$Image", F_I, 11, t_I, rfl, i_I, by decide, t_I_ok, n_I, rfl, Or.inl rfl, Or.inr ⟨rfl, "ImageReader", nw_56⟩⟩
theorem fl_I_18 : av_fld "ImageReader$Image" 18 2 2 := ⟨"ImageReader$Image", F_I, 11, rfl, i_I, by decide, Or.inl tw_57⟩
theorem pt_I_18 (ini : Bool) : av_put "ImageReader$Image" 18 2 2 ini (.array .int) := ⟨"ImageReader$Image", F_I, 11, t_I, rfl, i_I, by decide, t_I_ok, n_I, rfl, Or.inl rfl, Or.inl tw_57⟩
theorem fl_P_69 : av_fld "ImageReader$Pairing" 69 2 2 := ⟨"ImageReader$Image", F_I, 11, rfl, i_I, by decide, Or.inr ⟨"ImageReader", nw_58⟩⟩
theorem pt_P_69 (ini : Bool) : av_put "ImageReader$Pairing" 69 2 2 ini (.array .int) := ⟨"ImageReader$Image", F_I, 11, t_I, rfl, i_I, by decide, t_I_ok, n_I, rfl, Or.inl rfl, Or.inr ⟨rfl, "ImageReader", nw_58⟩⟩
theorem fl_F_63 : av_fld "ImageReader$Form" 63 2 2 := ⟨"ImageReader$Image", F_I, 11, rfl, i_I, by decide, Or.inr ⟨"ImageReader", nw_59⟩⟩
theorem pt_F_63 (ini : Bool) : av_put "ImageReader$Form" 63 2 2 ini (.array .int) := ⟨"ImageReader$Image", F_I, 11, t_I, rfl, i_I, by decide, t_I_ok, n_I, rfl, Or.inl rfl, Or.inr ⟨rfl, "ImageReader", nw_59⟩⟩
theorem fl_R_103 : av_fld "ImageReader" 103 2 2 := ⟨"ImageReader$Image", F_I, 11, rfl, i_I, by decide, Or.inr ⟨"ImageReader", nw_60⟩⟩
theorem pt_R_103 (ini : Bool) : av_put "ImageReader" 103 2 2 ini (.array .int) := ⟨"ImageReader$Image", F_I, 11, t_I, rfl, i_I, by decide, t_I_ok, n_I, rfl, Or.inl rfl, Or.inr ⟨rfl, "ImageReader", nw_60⟩⟩
theorem fl_I_21 : av_fld "ImageReader$Image" 21 2 3 := ⟨"ImageReader$Image", F_I, 11, rfl, i_I, by decide, Or.inl tw_61⟩
theorem pt_I_21 (ini : Bool) : av_put "ImageReader$Image" 21 2 3 ini (.array .int) := ⟨"ImageReader$Image", F_I, 11, t_I, rfl, i_I, by decide, t_I_ok, n_I, rfl, Or.inl rfl, Or.inl tw_61⟩
theorem fl_P_72 : av_fld "ImageReader$Pairing" 72 2 3 := ⟨"ImageReader$Image", F_I, 11, rfl, i_I, by decide, Or.inr ⟨"ImageReader", nw_62⟩⟩
theorem pt_P_72 (ini : Bool) : av_put "ImageReader$Pairing" 72 2 3 ini (.array .int) := ⟨"ImageReader$Image", F_I, 11, t_I, rfl, i_I, by decide, t_I_ok, n_I, rfl, Or.inl rfl, Or.inr ⟨rfl, "ImageReader", nw_62⟩⟩
theorem fl_F_67 : av_fld "ImageReader$Form" 67 2 3 := ⟨"ImageReader$Image", F_I, 11, rfl, i_I, by decide, Or.inr ⟨"ImageReader", nw_63⟩⟩
theorem pt_F_67 (ini : Bool) : av_put "ImageReader$Form" 67 2 3 ini (.array .int) := ⟨"ImageReader$Image", F_I, 11, t_I, rfl, i_I, by decide, t_I_ok, n_I, rfl, Or.inl rfl, Or.inr ⟨rfl, "ImageReader", nw_63⟩⟩
theorem fl_R_110 : av_fld "ImageReader" 110 2 3 := ⟨"ImageReader$Image", F_I, 11, rfl, i_I, by decide, Or.inr ⟨"ImageReader", nw_64⟩⟩
theorem pt_R_110 (ini : Bool) : av_put "ImageReader" 110 2 3 ini (.array .int) := ⟨"ImageReader$Image", F_I, 11, t_I, rfl, i_I, by decide, t_I_ok, n_I, rfl, Or.inl rfl, Or.inr ⟨rfl, "ImageReader", nw_64⟩⟩
theorem fl_I_24 : av_fld "ImageReader$Image" 24 2 4 := ⟨"ImageReader$Image", F_I, 11, rfl, i_I, by decide, Or.inl tw_65⟩
theorem pt_I_24 (ini : Bool) : av_put "ImageReader$Image" 24 2 4 ini (.array .int) := ⟨"ImageReader$Image", F_I, 11, t_I, rfl, i_I, by decide, t_I_ok, n_I, rfl, Or.inl rfl, Or.inl tw_65⟩
theorem fl_P_78 : av_fld "ImageReader$Pairing" 78 2 4 := ⟨"ImageReader$Image", F_I, 11, rfl, i_I, by decide, Or.inr ⟨"ImageReader", nw_66⟩⟩
theorem pt_P_78 (ini : Bool) : av_put "ImageReader$Pairing" 78 2 4 ini (.array .int) := ⟨"ImageReader$Image", F_I, 11, t_I, rfl, i_I, by decide, t_I_ok, n_I, rfl, Or.inl rfl, Or.inr ⟨rfl, "ImageReader", nw_66⟩⟩
theorem fl_R_195 : av_fld "ImageReader" 195 2 4 := ⟨"ImageReader$Image", F_I, 11, rfl, i_I, by decide, Or.inr ⟨"ImageReader", nw_67⟩⟩
theorem pt_R_195 (ini : Bool) : av_put "ImageReader" 195 2 4 ini (.array .int) := ⟨"ImageReader$Image", F_I, 11, t_I, rfl, i_I, by decide, t_I_ok, n_I, rfl, Or.inl rfl, Or.inr ⟨rfl, "ImageReader", nw_67⟩⟩
theorem fl_I_27 : av_fld "ImageReader$Image" 27 2 5 := ⟨"ImageReader$Image", F_I, 11, rfl, i_I, by decide, Or.inl tw_68⟩
theorem pt_I_27 (ini : Bool) : av_put "ImageReader$Image" 27 2 5 ini (.array .int) := ⟨"ImageReader$Image", F_I, 11, t_I, rfl, i_I, by decide, t_I_ok, n_I, rfl, Or.inl rfl, Or.inl tw_68⟩
theorem fl_P_75 : av_fld "ImageReader$Pairing" 75 2 5 := ⟨"ImageReader$Image", F_I, 11, rfl, i_I, by decide, Or.inr ⟨"ImageReader", nw_69⟩⟩
theorem pt_P_75 (ini : Bool) : av_put "ImageReader$Pairing" 75 2 5 ini (.array .int) := ⟨"ImageReader$Image", F_I, 11, t_I, rfl, i_I, by decide, t_I_ok, n_I, rfl, Or.inl rfl, Or.inr ⟨rfl, "ImageReader", nw_69⟩⟩
theorem fl_R_192 : av_fld "ImageReader" 192 2 5 := ⟨"ImageReader$Image", F_I, 11, rfl, i_I, by decide, Or.inr ⟨"ImageReader", nw_70⟩⟩
theorem pt_R_192 (ini : Bool) : av_put "ImageReader" 192 2 5 ini (.array .int) := ⟨"ImageReader$Image", F_I, 11, t_I, rfl, i_I, by decide, t_I_ok, n_I, rfl, Or.inl rfl, Or.inr ⟨rfl, "ImageReader", nw_70⟩⟩
theorem fl_I_30 : av_fld "ImageReader$Image" 30 2 6 := ⟨"ImageReader$Image", F_I, 11, rfl, i_I, by decide, Or.inl tw_71⟩
theorem pt_I_30 (ini : Bool) : av_put "ImageReader$Image" 30 2 6 ini .int := ⟨"ImageReader$Image", F_I, 11, t_I, rfl, i_I, by decide, t_I_ok, n_I, rfl, Or.inl rfl, Or.inl tw_71⟩
theorem fl_I_34 : av_fld "ImageReader$Image" 34 2 7 := ⟨"ImageReader$Image", F_I, 11, rfl, i_I, by decide, Or.inl tw_72⟩
theorem pt_I_34 (ini : Bool) : av_put "ImageReader$Image" 34 2 7 ini .int := ⟨"ImageReader$Image", F_I, 11, t_I, rfl, i_I, by decide, t_I_ok, n_I, rfl, Or.inl rfl, Or.inl tw_72⟩
theorem fl_F_18 : av_fld "ImageReader$Form" 18 2 7 := ⟨"ImageReader$Image", F_I, 11, rfl, i_I, by decide, Or.inr ⟨"ImageReader", nw_73⟩⟩
theorem pt_F_18 (ini : Bool) : av_put "ImageReader$Form" 18 2 7 ini .int := ⟨"ImageReader$Image", F_I, 11, t_I, rfl, i_I, by decide, t_I_ok, n_I, rfl, Or.inl rfl, Or.inr ⟨rfl, "ImageReader", nw_73⟩⟩
theorem fl_W_39 : av_fld "ImageReader$Walk" 39 2 7 := ⟨"ImageReader$Image", F_I, 11, rfl, i_I, by decide, Or.inr ⟨"ImageReader", nw_74⟩⟩
theorem pt_W_39 (ini : Bool) : av_put "ImageReader$Walk" 39 2 7 ini .int := ⟨"ImageReader$Image", F_I, 11, t_I, rfl, i_I, by decide, t_I_ok, n_I, rfl, Or.inl rfl, Or.inr ⟨rfl, "ImageReader", nw_74⟩⟩
theorem fl_P_44 : av_fld "ImageReader$Pairing" 44 2 7 := ⟨"ImageReader$Image", F_I, 11, rfl, i_I, by decide, Or.inr ⟨"ImageReader", nw_75⟩⟩
theorem pt_P_44 (ini : Bool) : av_put "ImageReader$Pairing" 44 2 7 ini .int := ⟨"ImageReader$Image", F_I, 11, t_I, rfl, i_I, by decide, t_I_ok, n_I, rfl, Or.inl rfl, Or.inr ⟨rfl, "ImageReader", nw_75⟩⟩
theorem fl_R_86 : av_fld "ImageReader" 86 2 7 := ⟨"ImageReader$Image", F_I, 11, rfl, i_I, by decide, Or.inr ⟨"ImageReader", nw_76⟩⟩
theorem pt_R_86 (ini : Bool) : av_put "ImageReader" 86 2 7 ini .int := ⟨"ImageReader$Image", F_I, 11, t_I, rfl, i_I, by decide, t_I_ok, n_I, rfl, Or.inl rfl, Or.inr ⟨rfl, "ImageReader", nw_76⟩⟩
theorem fl_F_9 : av_fld "ImageReader$Form" 9 2 8 := ⟨"ImageReader$Image", F_I, 11, rfl, i_I, by decide, Or.inr ⟨"ImageReader", nw_77⟩⟩
theorem pt_F_9 (ini : Bool) : av_put "ImageReader$Form" 9 2 8 ini .int := ⟨"ImageReader$Image", F_I, 11, t_I, rfl, i_I, by decide, t_I_ok, n_I, rfl, Or.inl rfl, Or.inr ⟨rfl, "ImageReader", nw_77⟩⟩
theorem fl_I_37 : av_fld "ImageReader$Image" 37 2 8 := ⟨"ImageReader$Image", F_I, 11, rfl, i_I, by decide, Or.inl tw_78⟩
theorem pt_I_37 (ini : Bool) : av_put "ImageReader$Image" 37 2 8 ini .int := ⟨"ImageReader$Image", F_I, 11, t_I, rfl, i_I, by decide, t_I_ok, n_I, rfl, Or.inl rfl, Or.inl tw_78⟩
theorem fl_R_89 : av_fld "ImageReader" 89 2 8 := ⟨"ImageReader$Image", F_I, 11, rfl, i_I, by decide, Or.inr ⟨"ImageReader", nw_79⟩⟩
theorem pt_R_89 (ini : Bool) : av_put "ImageReader" 89 2 8 ini .int := ⟨"ImageReader$Image", F_I, 11, t_I, rfl, i_I, by decide, t_I_ok, n_I, rfl, Or.inl rfl, Or.inr ⟨rfl, "ImageReader", nw_79⟩⟩
theorem fl_F_15 : av_fld "ImageReader$Form" 15 2 9 := ⟨"ImageReader$Image", F_I, 11, rfl, i_I, by decide, Or.inr ⟨"ImageReader", nw_80⟩⟩
theorem pt_F_15 (ini : Bool) : av_put "ImageReader$Form" 15 2 9 ini .int := ⟨"ImageReader$Image", F_I, 11, t_I, rfl, i_I, by decide, t_I_ok, n_I, rfl, Or.inl rfl, Or.inr ⟨rfl, "ImageReader", nw_80⟩⟩
theorem fl_P_25 : av_fld "ImageReader$Pairing" 25 2 9 := ⟨"ImageReader$Image", F_I, 11, rfl, i_I, by decide, Or.inr ⟨"ImageReader", nw_81⟩⟩
theorem pt_P_25 (ini : Bool) : av_put "ImageReader$Pairing" 25 2 9 ini .int := ⟨"ImageReader$Image", F_I, 11, t_I, rfl, i_I, by decide, t_I_ok, n_I, rfl, Or.inl rfl, Or.inr ⟨rfl, "ImageReader", nw_81⟩⟩
theorem fl_L_38 : av_fld "ImageReader$Layout" 38 2 9 := ⟨"ImageReader$Image", F_I, 11, rfl, i_I, by decide, Or.inr ⟨"ImageReader", nw_82⟩⟩
theorem pt_L_38 (ini : Bool) : av_put "ImageReader$Layout" 38 2 9 ini .int := ⟨"ImageReader$Image", F_I, 11, t_I, rfl, i_I, by decide, t_I_ok, n_I, rfl, Or.inl rfl, Or.inr ⟨rfl, "ImageReader", nw_82⟩⟩
theorem fl_R_180 : av_fld "ImageReader" 180 2 9 := ⟨"ImageReader$Image", F_I, 11, rfl, i_I, by decide, Or.inr ⟨"ImageReader", nw_83⟩⟩
theorem pt_R_180 (ini : Bool) : av_put "ImageReader" 180 2 9 ini .int := ⟨"ImageReader$Image", F_I, 11, t_I, rfl, i_I, by decide, t_I_ok, n_I, rfl, Or.inl rfl, Or.inr ⟨rfl, "ImageReader", nw_83⟩⟩
theorem fl_P_31 : av_fld "ImageReader$Pairing" 31 2 10 := ⟨"ImageReader$Image", F_I, 11, rfl, i_I, by decide, Or.inr ⟨"ImageReader", nw_84⟩⟩
theorem pt_P_31 (ini : Bool) : av_put "ImageReader$Pairing" 31 2 10 ini .int := ⟨"ImageReader$Image", F_I, 11, t_I, rfl, i_I, by decide, t_I_ok, n_I, rfl, Or.inl rfl, Or.inr ⟨rfl, "ImageReader", nw_84⟩⟩
theorem fl_F_21 : av_fld "ImageReader$Form" 21 2 10 := ⟨"ImageReader$Image", F_I, 11, rfl, i_I, by decide, Or.inr ⟨"ImageReader", nw_85⟩⟩
theorem pt_F_21 (ini : Bool) : av_put "ImageReader$Form" 21 2 10 ini .int := ⟨"ImageReader$Image", F_I, 11, t_I, rfl, i_I, by decide, t_I_ok, n_I, rfl, Or.inl rfl, Or.inr ⟨rfl, "ImageReader", nw_85⟩⟩
theorem fl_L_41 : av_fld "ImageReader$Layout" 41 2 10 := ⟨"ImageReader$Image", F_I, 11, rfl, i_I, by decide, Or.inr ⟨"ImageReader", nw_86⟩⟩
theorem pt_L_41 (ini : Bool) : av_put "ImageReader$Layout" 41 2 10 ini .int := ⟨"ImageReader$Image", F_I, 11, t_I, rfl, i_I, by decide, t_I_ok, n_I, rfl, Or.inl rfl, Or.inr ⟨rfl, "ImageReader", nw_86⟩⟩
theorem fl_R_183 : av_fld "ImageReader" 183 2 10 := ⟨"ImageReader$Image", F_I, 11, rfl, i_I, by decide, Or.inr ⟨"ImageReader", nw_87⟩⟩
theorem pt_R_183 (ini : Bool) : av_put "ImageReader" 183 2 10 ini .int := ⟨"ImageReader$Image", F_I, 11, t_I, rfl, i_I, by decide, t_I_ok, n_I, rfl, Or.inl rfl, Or.inr ⟨rfl, "ImageReader", nw_87⟩⟩
theorem nc_R_29 : av_cls "ImageReader" 29 3 [.null, .null, .int 0] 3 := ⟨"ImageReader$Walk", F_W, t_W, rfl, i_W, t_W_ok, tw_112, tw_113, tw_4, by decide +kernel⟩
theorem ci_R_31 : av_cI "ImageReader" 31 y_W_init b_W_init 1 0 := ⟨⟨tw_115, tw_4, tw_116, rfl⟩, ⟨by decide +kernel, by decide +kernel, by decide +kernel⟩, Or.inr ⟨"ImageReader", nw_114⟩⟩
theorem fl_W_9 : av_fld "ImageReader$Walk" 9 3 0 := ⟨"ImageReader$Walk", F_W, 3, rfl, i_W, by decide, Or.inl tw_118⟩
theorem pt_W_9 (ini : Bool) : av_put "ImageReader$Walk" 9 3 0 ini (.array .int) := ⟨"ImageReader$Walk", F_W, 3, t_W, rfl, i_W, by decide, t_W_ok, n_W, rfl, Or.inl rfl, Or.inl tw_118⟩
theorem fl_R_137 : av_fld "ImageReader" 137 3 0 := ⟨"ImageReader$Walk", F_W, 3, rfl, i_W, by decide, Or.inr ⟨"ImageReader", nw_119⟩⟩
theorem pt_R_137 (ini : Bool) : av_put "ImageReader" 137 3 0 ini (.array .int) := ⟨"ImageReader$Walk", F_W, 3, t_W, rfl, i_W, by decide, t_W_ok, n_W, rfl, Or.inl rfl, Or.inr ⟨rfl, "ImageReader", nw_119⟩⟩
theorem fl_W_15 : av_fld "ImageReader$Walk" 15 3 1 := ⟨"ImageReader$Walk", F_W, 3, rfl, i_W, by decide, Or.inl tw_120⟩
theorem pt_W_15 (ini : Bool) : av_put "ImageReader$Walk" 15 3 1 ini (.array .int) := ⟨"ImageReader$Walk", F_W, 3, t_W, rfl, i_W, by decide, t_W_ok, n_W, rfl, Or.inl rfl, Or.inl tw_120⟩
theorem fl_W_35 : av_fld "ImageReader$Walk" 35 3 2 := ⟨"ImageReader$Walk", F_W, 3, rfl, i_W, by decide, Or.inl tw_121⟩
theorem pt_W_35 (ini : Bool) : av_put "ImageReader$Walk" 35 3 2 ini .int := ⟨"ImageReader$Walk", F_W, 3, t_W, rfl, i_W, by decide, t_W_ok, n_W, rfl, Or.inl rfl, Or.inl tw_121⟩
theorem nc_R_36 : av_cls "ImageReader" 36 4 [.null, .null, .null, .int 0] 4 := ⟨"ImageReader$Pairing", F_P, t_P, rfl, i_P, t_P_ok, tw_129, tw_130, tw_5, by decide +kernel⟩
theorem ci_R_38 : av_cI "ImageReader" 38 y_P_init b_P_init 1 0 := ⟨⟨tw_132, tw_5, tw_133, rfl⟩, ⟨by decide +kernel, by decide +kernel, by decide +kernel⟩, Or.inr ⟨"ImageReader", nw_131⟩⟩
theorem fl_P_9 : av_fld "ImageReader$Pairing" 9 4 0 := ⟨"ImageReader$Pairing", F_P, 4, rfl, i_P, by decide, Or.inl tw_135⟩
theorem pt_P_9 (ini : Bool) : av_put "ImageReader$Pairing" 9 4 0 ini (.array .int) := ⟨"ImageReader$Pairing", F_P, 4, t_P, rfl, i_P, by decide, t_P_ok, n_P, rfl, Or.inl rfl, Or.inl tw_135⟩
theorem fl_P_15 : av_fld "ImageReader$Pairing" 15 4 1 := ⟨"ImageReader$Pairing", F_P, 4, rfl, i_P, by decide, Or.inl tw_136⟩
theorem pt_P_15 (ini : Bool) : av_put "ImageReader$Pairing" 15 4 1 ini (.array .int) := ⟨"ImageReader$Pairing", F_P, 4, t_P, rfl, i_P, by decide, t_P_ok, n_P, rfl, Or.inl rfl, Or.inl tw_136⟩
theorem fl_P_18 : av_fld "ImageReader$Pairing" 18 4 2 := ⟨"ImageReader$Pairing", F_P, 4, rfl, i_P, by decide, Or.inl tw_137⟩
theorem pt_P_18 (ini : Bool) : av_put "ImageReader$Pairing" 18 4 2 ini (.array .int) := ⟨"ImageReader$Pairing", F_P, 4, t_P, rfl, i_P, by decide, t_P_ok, n_P, rfl, Or.inl rfl, Or.inl tw_137⟩
theorem fl_P_41 : av_fld "ImageReader$Pairing" 41 4 3 := ⟨"ImageReader$Pairing", F_P, 4, rfl, i_P, by decide, Or.inl tw_138⟩
theorem pt_P_41 (ini : Bool) : av_put "ImageReader$Pairing" 41 4 3 ini .int := ⟨"ImageReader$Pairing", F_P, 4, t_P, rfl, i_P, by decide, t_P_ok, n_P, rfl, Or.inl rfl, Or.inl tw_138⟩
theorem fl_R_10 : av_fld "ImageReader" 10 0 0 := ⟨"ImageReader", F_R, 8, rfl, i_R, by decide, Or.inl tw_148⟩
theorem pt_R_10 : av_put "ImageReader" 10 0 0 true (.object "ImageReader$Bytes") := ⟨"ImageReader", F_R, 8, t_R, rfl, i_R, by decide, t_R_ok, n_R, rfl, Or.inr ⟨rfl, rfl⟩, Or.inl tw_148⟩
theorem fl_R_19 : av_fld "ImageReader" 19 0 1 := ⟨"ImageReader", F_R, 8, rfl, i_R, by decide, Or.inl tw_149⟩
theorem pt_R_19 : av_put "ImageReader" 19 0 1 true (.object "ImageReader$Image") := ⟨"ImageReader", F_R, 8, t_R, rfl, i_R, by decide, t_R_ok, n_R, rfl, Or.inr ⟨rfl, rfl⟩, Or.inl tw_149⟩
theorem fl_R_23 : av_fld "ImageReader" 23 0 2 := ⟨"ImageReader", F_R, 8, rfl, i_R, by decide, Or.inl tw_150⟩
theorem pt_R_23 : av_put "ImageReader" 23 0 2 true (.object "ImageReader$Image") := ⟨"ImageReader", F_R, 8, t_R, rfl, i_R, by decide, t_R_ok, n_R, rfl, Or.inr ⟨rfl, rfl⟩, Or.inl tw_150⟩
theorem fl_R_26 : av_fld "ImageReader" 26 0 3 := ⟨"ImageReader", F_R, 8, rfl, i_R, by decide, Or.inl tw_151⟩
theorem pt_R_26 : av_put "ImageReader" 26 0 3 true (.object "ImageReader$Image") := ⟨"ImageReader", F_R, 8, t_R, rfl, i_R, by decide, t_R_ok, n_R, rfl, Or.inr ⟨rfl, rfl⟩, Or.inl tw_151⟩
theorem fl_R_32 : av_fld "ImageReader" 32 0 4 := ⟨"ImageReader", F_R, 8, rfl, i_R, by decide, Or.inl tw_152⟩
theorem pt_R_32 : av_put "ImageReader" 32 0 4 true (.object "ImageReader$Walk") := ⟨"ImageReader", F_R, 8, t_R, rfl, i_R, by decide, t_R_ok, n_R, rfl, Or.inr ⟨rfl, rfl⟩, Or.inl tw_152⟩
theorem fl_R_39 : av_fld "ImageReader" 39 0 5 := ⟨"ImageReader", F_R, 8, rfl, i_R, by decide, Or.inl tw_153⟩
theorem pt_R_39 : av_put "ImageReader" 39 0 5 true (.object "ImageReader$Pairing") := ⟨"ImageReader", F_R, 8, t_R, rfl, i_R, by decide, t_R_ok, n_R, rfl, Or.inr ⟨rfl, rfl⟩, Or.inl tw_153⟩
theorem fl_R_43 : av_fld "ImageReader" 43 0 6 := ⟨"ImageReader", F_R, 8, rfl, i_R, by decide, Or.inl tw_154⟩
theorem pt_R_43 (ini : Bool) : av_put "ImageReader" 43 0 6 ini (.object "ImageReader$Image") := ⟨"ImageReader", F_R, 8, t_R, rfl, i_R, by decide, t_R_ok, n_R, rfl, Or.inl rfl, Or.inl tw_154⟩
theorem fl_R_46 : av_fld "ImageReader" 46 0 7 := ⟨"ImageReader", F_R, 8, rfl, i_R, by decide, Or.inl tw_155⟩
theorem pt_R_46 (ini : Bool) : av_put "ImageReader" 46 0 7 ini (.object "ImageReader$Image") := ⟨"ImageReader", F_R, 8, t_R, rfl, i_R, by decide, t_R_ok, n_R, rfl, Or.inl rfl, Or.inl tw_155⟩
theorem cv_Law_39 : av_cV "ImageReaderLaw" 39 y_R_change b_R_change 4 (some .int) 2 := ⟨⟨tw_174, tw_175, tw_1, tw_176⟩, ⟨by decide +kernel, by decide +kernel, by decide +kernel⟩, Or.inl tw_173⟩
theorem cv_R_70 : av_cV "ImageReader" 70 y_B_at b_B_at 2 (some .int) 1 := ⟨⟨tw_179, sw_0, tw_2, tw_180⟩, ⟨by decide +kernel, by decide +kernel, by decide +kernel⟩, Or.inr ⟨"ImageReader", nw_177⟩⟩
theorem cv_Law_44 : av_cV "ImageReaderLaw" 44 y_R_read b_R_read 3 (some .int) 0 := ⟨⟨tw_182, tw_183, tw_1, tw_184⟩, ⟨by decide +kernel, by decide +kernel, by decide +kernel⟩, Or.inl tw_181⟩
theorem cv_R_78 : av_cV "ImageReader" 78 y_R_spareImage b_R_spareImage 1 (some (.object "ImageReader$Image")) 0 := ⟨⟨tw_187, sw_1, tw_1, tw_188⟩, ⟨by decide +kernel, by decide +kernel, by decide +kernel⟩, Or.inl tw_185⟩
theorem cv_R_82 : av_cV "ImageReader" 82 y_R_placeOfRefusal b_R_placeOfRefusal 3 (some .int) 1 := ⟨⟨tw_191, sw_2, tw_1, tw_192⟩, ⟨by decide +kernel, by decide +kernel, by decide +kernel⟩, Or.inl tw_189⟩
theorem cs_R_147 : av_cS "ImageReader" 147 y_L_headPlace b_L_headPlace 3 (some .int) 1 := ⟨⟨tw_194, tw_15, tw_195⟩, ⟨by decide +kernel, by decide +kernel, by decide +kernel⟩, Or.inr ⟨"ImageReader", nw_193⟩⟩
theorem cv_L_13 : av_cV "ImageReader$Layout" 13 y_B_at b_B_at 2 (some .int) 1 := ⟨⟨tw_179, sw_0, tw_2, tw_180⟩, ⟨by decide +kernel, by decide +kernel, by decide +kernel⟩, Or.inr ⟨"ImageReader", nw_198⟩⟩
theorem cv_L_22 : av_cV "ImageReader$Layout" 22 y_B_reaches b_B_reaches 3 (some .boolean) 2 := ⟨⟨tw_203, sw_3, tw_2, tw_204⟩, ⟨by decide +kernel, by decide +kernel, by decide +kernel⟩, Or.inr ⟨"ImageReader", nw_201⟩⟩
theorem cv_L_30 : av_cV "ImageReader$Layout" 30 y_B_pairAt b_B_pairAt 2 (some .int) 1 := ⟨⟨tw_207, sw_4, tw_2, tw_208⟩, ⟨by decide +kernel, by decide +kernel, by decide +kernel⟩, Or.inr ⟨"ImageReader", nw_205⟩⟩
theorem cv_B_19 : av_cV "ImageReader$Bytes" 19 y_B_at b_B_at 2 (some .int) 1 := ⟨⟨tw_179, sw_0, tw_2, tw_180⟩, ⟨by decide +kernel, by decide +kernel, by decide +kernel⟩, Or.inl tw_209⟩
theorem cs_R_153 : av_cS "ImageReader" 153 y_L_takeSpecials b_L_takeSpecials 5 (some .int) 2 := ⟨⟨tw_211, tw_15, tw_212⟩, ⟨by decide +kernel, by decide +kernel, by decide +kernel⟩, Or.inr ⟨"ImageReader", nw_210⟩⟩
theorem cv_L_33 : av_cV "ImageReader$Layout" 33 y_I_clear b_I_clear 1 none 0 := ⟨⟨tw_215, sw_5, tw_3, tw_216⟩, ⟨by decide +kernel, by decide +kernel, by decide +kernel⟩, Or.inr ⟨"ImageReader", nw_213⟩⟩
theorem cs_L_44 : av_cS "ImageReader$Layout" 44 y_L_isValueAt b_L_isValueAt 4 (some .boolean) 3 := ⟨⟨tw_218, tw_15, tw_219⟩, ⟨by decide +kernel, by decide +kernel, by decide +kernel⟩, Or.inl tw_217⟩
theorem cv_L_53 : av_cV "ImageReader$Layout" 53 y_B_wordAt b_B_wordAt 2 (some .int) 1 := ⟨⟨tw_222, sw_6, tw_2, tw_223⟩, ⟨by decide +kernel, by decide +kernel, by decide +kernel⟩, Or.inr ⟨"ImageReader", nw_220⟩⟩
theorem cs_L_80 : av_cS "ImageReader$Layout" 80 y_R_isNumber b_R_isNumber 1 (some .boolean) 1 := ⟨⟨tw_225, tw_1, tw_226⟩, ⟨by decide +kernel, by decide +kernel, by decide +kernel⟩, Or.inr ⟨"ImageReader", nw_224⟩⟩
theorem cs_R_157 : av_cS "ImageReader" 157 y_L_takeObjects b_L_takeObjects 8 (some .int) 2 := ⟨⟨tw_228, tw_15, tw_229⟩, ⟨by decide +kernel, by decide +kernel, by decide +kernel⟩, Or.inr ⟨"ImageReader", nw_227⟩⟩
theorem cs_L_56 : av_cS "ImageReader$Layout" 56 y_L_objectHeadPlace b_L_objectHeadPlace 4 (some .int) 3 := ⟨⟨tw_231, tw_15, tw_232⟩, ⟨by decide +kernel, by decide +kernel, by decide +kernel⟩, Or.inl tw_230⟩
theorem cv_L_60 : av_cV "ImageReader$Layout" 60 y_I_addObject b_I_addObject 5 none 3 := ⟨⟨tw_235, sw_7, tw_3, tw_236⟩, ⟨by decide +kernel, by decide +kernel, by decide +kernel⟩, Or.inr ⟨"ImageReader", nw_233⟩⟩
theorem cs_I_40 : av_cS "ImageReader$Image" 40 y_A_copyOf_aII b_A_copyOf_aII 3 (some (.array .int)) 2 := ⟨⟨tw_238, tw_11, tw_239⟩, ⟨by decide +kernel, by decide +kernel, by decide +kernel⟩, Or.inl tw_237⟩
theorem cs_A_304 : av_cS "java/util/Arrays" 304 y_Mt_min b_Mt_min 2 (some .int) 2 := ⟨⟨tw_248, tw_12, tw_249⟩, ⟨by decide +kernel, by decide +kernel, by decide +kernel⟩, Or.inl tw_247⟩
theorem cs_L_64 : av_cS "ImageReader$Layout" 64 y_L_takeBytes b_L_takeBytes 5 (some .int) 4 := ⟨⟨tw_254, tw_15, tw_255⟩, ⟨by decide +kernel, by decide +kernel, by decide +kernel⟩, Or.inl tw_253⟩
theorem cv_L_76 : av_cV "ImageReader$Layout" 76 y_I_addPart b_I_addPart 2 none 1 := ⟨⟨tw_258, sw_8, tw_3, tw_259⟩, ⟨by decide +kernel, by decide +kernel, by decide +kernel⟩, Or.inr ⟨"ImageReader", nw_256⟩⟩
theorem cs_L_68 : av_cS "ImageReader$Layout" 68 y_L_takeFields b_L_takeFields 7 (some .int) 5 := ⟨⟨tw_261, tw_15, tw_262⟩, ⟨by decide +kernel, by decide +kernel, by decide +kernel⟩, Or.inl tw_260⟩
theorem cs_L_72 : av_cS "ImageReader$Layout" 72 y_L_bodyLength b_L_bodyLength 2 (some .int) 2 := ⟨⟨tw_264, tw_15, tw_265⟩, ⟨by decide +kernel, by decide +kernel, by decide +kernel⟩, Or.inl tw_263⟩
theorem cs_R_160 : av_cS "ImageReader" 160 y_F_roomPlace b_F_roomPlace 1 (some .int) 1 := ⟨⟨tw_267, tw_16, tw_268⟩, ⟨by decide +kernel, by decide +kernel, by decide +kernel⟩, Or.inr ⟨"ImageReader", nw_266⟩⟩
theorem cs_R_165 : av_cS "ImageReader" 165 y_F_specialsPlace b_F_specialsPlace 2 (some .int) 1 := ⟨⟨tw_270, tw_16, tw_271⟩, ⟨by decide +kernel, by decide +kernel, by decide +kernel⟩, Or.inr ⟨"ImageReader", nw_269⟩⟩
theorem cs_F_24 : av_cS "ImageReader$Form" 24 y_F_isSpecialFit b_F_isSpecialFit 3 (some .boolean) 2 := ⟨⟨tw_273, tw_16, tw_274⟩, ⟨by decide +kernel, by decide +kernel, by decide +kernel⟩, Or.inl tw_272⟩
theorem cv_F_30 : av_cV "ImageReader$Form" 30 y_I_specialAt b_I_specialAt 2 (some .int) 1 := ⟨⟨tw_277, sw_9, tw_3, tw_278⟩, ⟨by decide +kernel, by decide +kernel, by decide +kernel⟩, Or.inr ⟨"ImageReader", nw_275⟩⟩
theorem cv_F_34 : av_cV "ImageReader$Form" 34 y_I_objectOf b_I_objectOf 2 (some .int) 1 := ⟨⟨tw_281, sw_10, tw_3, tw_282⟩, ⟨by decide +kernel, by decide +kernel, by decide +kernel⟩, Or.inr ⟨"ImageReader", nw_279⟩⟩
theorem cv_I_46 : av_cV "ImageReader$Image" 46 y_I_holds b_I_holds 2 (some .boolean) 1 := ⟨⟨tw_285, sw_11, tw_3, tw_286⟩, ⟨by decide +kernel, by decide +kernel, by decide +kernel⟩, Or.inl tw_283⟩
theorem cs_F_37 : av_cS "ImageReader$Form" 37 y_F_isNewSince b_F_isNewSince 4 (some .boolean) 3 := ⟨⟨tw_288, tw_16, tw_289⟩, ⟨by decide +kernel, by decide +kernel, by decide +kernel⟩, Or.inl tw_287⟩
theorem cs_F_41 : av_cS "ImageReader$Form" 41 y_F_isClass b_F_isClass 4 (some .boolean) 2 := ⟨⟨tw_291, tw_16, tw_292⟩, ⟨by decide +kernel, by decide +kernel, by decide +kernel⟩, Or.inl tw_290⟩
theorem cv_F_79 : av_cV "ImageReader$Form" 79 y_I_fieldAt b_I_fieldAt 3 (some .int) 2 := ⟨⟨tw_295, sw_12, tw_3, tw_296⟩, ⟨by decide +kernel, by decide +kernel, by decide +kernel⟩, Or.inr ⟨"ImageReader", nw_293⟩⟩
theorem cv_I_50 : av_cV "ImageReader$Image" 50 y_I_hasPart b_I_hasPart 3 (some .boolean) 2 := ⟨⟨tw_299, sw_13, tw_3, tw_300⟩, ⟨by decide +kernel, by decide +kernel, by decide +kernel⟩, Or.inl tw_297⟩
theorem cv_F_44 : av_cV "ImageReader$Form" 44 y_I_fieldCount b_I_fieldCount 2 (some .int) 1 := ⟨⟨tw_303, sw_14, tw_3, tw_304⟩, ⟨by decide +kernel, by decide +kernel, by decide +kernel⟩, Or.inr ⟨"ImageReader", nw_301⟩⟩
theorem cs_F_115 : av_cS "ImageReader$Form" 115 y_R_isNumber b_R_isNumber 1 (some .boolean) 1 := ⟨⟨tw_225, tw_1, tw_226⟩, ⟨by decide +kernel, by decide +kernel, by decide +kernel⟩, Or.inr ⟨"ImageReader", nw_305⟩⟩
theorem cs_F_82 : av_cS "ImageReader$Form" 82 y_R_numberOf b_R_numberOf 1 (some .int) 1 := ⟨⟨tw_307, tw_1, tw_308⟩, ⟨by decide +kernel, by decide +kernel, by decide +kernel⟩, Or.inr ⟨"ImageReader", nw_306⟩⟩
theorem cs_F_47 : av_cS "ImageReader$Form" 47 y_F_isPlain b_F_isPlain 3 (some .boolean) 3 := ⟨⟨tw_310, tw_16, tw_311⟩, ⟨by decide +kernel, by decide +kernel, by decide +kernel⟩, Or.inl tw_309⟩
theorem cv_F_111 : av_cV "ImageReader$Form" 111 y_I_isContext b_I_isContext 2 (some .boolean) 1 := ⟨⟨tw_314, sw_15, tw_3, tw_315⟩, ⟨by decide +kernel, by decide +kernel, by decide +kernel⟩, Or.inr ⟨"ImageReader", nw_312⟩⟩
theorem cv_I_54 : av_cV "ImageReader$Image" 54 y_I_isOfSpecialClass b_I_isOfSpecialClass 3 (some .boolean) 2 := ⟨⟨tw_318, sw_16, tw_3, tw_319⟩, ⟨by decide +kernel, by decide +kernel, by decide +kernel⟩, Or.inl tw_316⟩
theorem cs_R_168 : av_cS "ImageReader" 168 y_F_objectsPlace b_F_objectsPlace 3 (some .int) 1 := ⟨⟨tw_321, tw_16, tw_322⟩, ⟨by decide +kernel, by decide +kernel, by decide +kernel⟩, Or.inr ⟨"ImageReader", nw_320⟩⟩
theorem cs_F_50 : av_cS "ImageReader$Form" 50 y_F_hasFitClass b_F_hasFitClass 7 (some .boolean) 2 := ⟨⟨tw_324, tw_16, tw_325⟩, ⟨by decide +kernel, by decide +kernel, by decide +kernel⟩, Or.inl tw_323⟩
theorem cv_F_76 : av_cV "ImageReader$Form" 76 y_I_classAt b_I_classAt 2 (some .int) 1 := ⟨⟨tw_328, sw_17, tw_3, tw_329⟩, ⟨by decide +kernel, by decide +kernel, by decide +kernel⟩, Or.inr ⟨"ImageReader", nw_326⟩⟩
theorem cv_F_85 : av_cV "ImageReader$Form" 85 y_I_isOfBytes b_I_isOfBytes 2 (some .boolean) 1 := ⟨⟨tw_332, sw_18, tw_3, tw_333⟩, ⟨by decide +kernel, by decide +kernel, by decide +kernel⟩, Or.inr ⟨"ImageReader", nw_330⟩⟩
theorem cv_F_53 : av_cV "ImageReader$Form" 53 y_I_isOfSpecialClass b_I_isOfSpecialClass 3 (some .boolean) 2 := ⟨⟨tw_318, sw_16, tw_3, tw_319⟩, ⟨by decide +kernel, by decide +kernel, by decide +kernel⟩, Or.inr ⟨"ImageReader", nw_334⟩⟩
theorem cs_F_57 : av_cS "ImageReader$Form" 57 y_F_isMethodContext b_F_isMethodContext 7 (some .boolean) 2 := ⟨⟨tw_336, tw_16, tw_337⟩, ⟨by decide +kernel, by decide +kernel, by decide +kernel⟩, Or.inl tw_335⟩
theorem cs_F_89 : av_cS "ImageReader$Form" 89 y_F_isMethod b_F_isMethod 3 (some .boolean) 2 := ⟨⟨tw_339, tw_16, tw_340⟩, ⟨by decide +kernel, by decide +kernel, by decide +kernel⟩, Or.inl tw_338⟩
theorem cs_F_101 : av_cS "ImageReader$Form" 101 y_R_isNumberWithin b_R_isNumberWithin 3 (some .boolean) 3 := ⟨⟨tw_343, tw_1, tw_344⟩, ⟨by decide +kernel, by decide +kernel, by decide +kernel⟩, Or.inr ⟨"ImageReader", nw_342⟩⟩
theorem cs_R_198 : av_cS "ImageReader" 198 y_R_isNumber b_R_isNumber 1 (some .boolean) 1 := ⟨⟨tw_225, tw_1, tw_226⟩, ⟨by decide +kernel, by decide +kernel, by decide +kernel⟩, Or.inl tw_345⟩
theorem cs_R_201 : av_cS "ImageReader" 201 y_R_numberOf b_R_numberOf 1 (some .int) 1 := ⟨⟨tw_307, tw_1, tw_308⟩, ⟨by decide +kernel, by decide +kernel, by decide +kernel⟩, Or.inl tw_346⟩
theorem cs_F_92 : av_cS "ImageReader$Form" 92 y_F_temporariesOf b_F_temporariesOf 1 (some .int) 1 := ⟨⟨tw_348, tw_16, tw_349⟩, ⟨by decide +kernel, by decide +kernel, by decide +kernel⟩, Or.inl tw_347⟩
theorem cs_F_119 : av_cS "ImageReader$Form" 119 y_F_argumentsOf b_F_argumentsOf 1 (some .int) 1 := ⟨⟨tw_351, tw_16, tw_352⟩, ⟨by decide +kernel, by decide +kernel, by decide +kernel⟩, Or.inl tw_350⟩
theorem cs_F_95 : av_cS "ImageReader$Form" 95 y_F_depthOf b_F_depthOf 1 (some .int) 1 := ⟨⟨tw_354, tw_16, tw_355⟩, ⟨by decide +kernel, by decide +kernel, by decide +kernel⟩, Or.inl tw_353⟩
theorem cs_F_98 : av_cS "ImageReader$Form" 98 y_F_areLinksFit b_F_areLinksFit 3 (some .boolean) 2 := ⟨⟨tw_357, tw_16, tw_358⟩, ⟨by decide +kernel, by decide +kernel, by decide +kernel⟩, Or.inl tw_356⟩
theorem cs_F_108 : av_cS "ImageReader$Form" 108 y_F_isNilOrCounting b_F_isNilOrCounting 1 (some .boolean) 1 := ⟨⟨tw_360, tw_16, tw_361⟩, ⟨by decide +kernel, by decide +kernel, by decide +kernel⟩, Or.inl tw_359⟩
theorem cs_F_105 : av_cS "ImageReader$Form" 105 y_F_isNilFrom b_F_isNilFrom 5 (some .boolean) 3 := ⟨⟨tw_364, tw_16, tw_365⟩, ⟨by decide +kernel, by decide +kernel, by decide +kernel⟩, Or.inl tw_363⟩
theorem cs_F_60 : av_cS "ImageReader$Form" 60 y_F_isBlockContext b_F_isBlockContext 6 (some .boolean) 2 := ⟨⟨tw_367, tw_16, tw_368⟩, ⟨by decide +kernel, by decide +kernel, by decide +kernel⟩, Or.inl tw_366⟩
theorem cs_F_70 : av_cS "ImageReader$Form" 70 y_L_bodyLength b_L_bodyLength 2 (some .int) 2 := ⟨⟨tw_264, tw_15, tw_265⟩, ⟨by decide +kernel, by decide +kernel, by decide +kernel⟩, Or.inr ⟨"ImageReader", nw_369⟩⟩
theorem cs_R_171 : av_cS "ImageReader" 171 y_F_schedulerPlace b_F_schedulerPlace 4 (some .int) 1 := ⟨⟨tw_371, tw_16, tw_372⟩, ⟨by decide +kernel, by decide +kernel, by decide +kernel⟩, Or.inr ⟨"ImageReader", nw_370⟩⟩
theorem cs_F_122 : av_cS "ImageReader$Form" 122 y_F_areListsFit b_F_areListsFit 3 (some .boolean) 2 := ⟨⟨tw_374, tw_16, tw_375⟩, ⟨by decide +kernel, by decide +kernel, by decide +kernel⟩, Or.inl tw_373⟩
theorem cs_F_125 : av_cS "ImageReader$Form" 125 y_F_isProcessFit b_F_isProcessFit 3 (some .boolean) 2 := ⟨⟨tw_377, tw_16, tw_378⟩, ⟨by decide +kernel, by decide +kernel, by decide +kernel⟩, Or.inl tw_376⟩
theorem cv_Law_48 : av_cV "ImageReaderLaw" 48 y_R_objects b_R_objects 1 (some .int) 0 := ⟨⟨tw_380, tw_381, tw_1, tw_382⟩, ⟨by decide +kernel, by decide +kernel, by decide +kernel⟩, Or.inl tw_379⟩
theorem cv_Law_52 : av_cV "ImageReaderLaw" 52 y_R_words b_R_words 1 (some .int) 0 := ⟨⟨tw_384, tw_385, tw_1, tw_386⟩, ⟨by decide +kernel, by decide +kernel, by decide +kernel⟩, Or.inl tw_383⟩
theorem cv_Law_56 : av_cV "ImageReaderLaw" 56 y_R_special b_R_special 2 (some .int) 1 := ⟨⟨tw_388, tw_389, tw_1, tw_390⟩, ⟨by decide +kernel, by decide +kernel, by decide +kernel⟩, Or.inl tw_387⟩
theorem cv_R_92 : av_cV "ImageReader" 92 y_I_specialAt b_I_specialAt 2 (some .int) 1 := ⟨⟨tw_277, sw_9, tw_3, tw_278⟩, ⟨by decide +kernel, by decide +kernel, by decide +kernel⟩, Or.inr ⟨"ImageReader", nw_391⟩⟩
theorem cv_Law_60 : av_cV "ImageReaderLaw" 60 y_R_kind b_R_kind 2 (some .int) 1 := ⟨⟨tw_393, tw_394, tw_1, tw_395⟩, ⟨by decide +kernel, by decide +kernel, by decide +kernel⟩, Or.inl tw_392⟩
theorem cv_R_95 : av_cV "ImageReader" 95 y_I_holds b_I_holds 2 (some .boolean) 1 := ⟨⟨tw_285, sw_11, tw_3, tw_286⟩, ⟨by decide +kernel, by decide +kernel, by decide +kernel⟩, Or.inr ⟨"ImageReader", nw_396⟩⟩
theorem cv_R_99 : av_cV "ImageReader" 99 y_I_isOfSpecialClass b_I_isOfSpecialClass 3 (some .boolean) 2 := ⟨⟨tw_318, sw_16, tw_3, tw_319⟩, ⟨by decide +kernel, by decide +kernel, by decide +kernel⟩, Or.inr ⟨"ImageReader", nw_397⟩⟩
theorem cv_Law_64 : av_cV "ImageReaderLaw" 64 y_R_classOf b_R_classOf 2 (some .int) 1 := ⟨⟨tw_399, tw_400, tw_1, tw_401⟩, ⟨by decide +kernel, by decide +kernel, by decide +kernel⟩, Or.inl tw_398⟩
theorem cv_R_107 : av_cV "ImageReader" 107 y_I_classAt b_I_classAt 2 (some .int) 1 := ⟨⟨tw_328, sw_17, tw_3, tw_329⟩, ⟨by decide +kernel, by decide +kernel, by decide +kernel⟩, Or.inr ⟨"ImageReader", nw_402⟩⟩
theorem cv_Law_68 : av_cV "ImageReaderLaw" 68 y_R_size b_R_size 2 (some .int) 1 := ⟨⟨tw_404, tw_405, tw_1, tw_406⟩, ⟨by decide +kernel, by decide +kernel, by decide +kernel⟩, Or.inl tw_403⟩
theorem cv_Law_72 : av_cV "ImageReaderLaw" 72 y_R_field b_R_field 3 (some .int) 2 := ⟨⟨tw_408, tw_409, tw_1, tw_410⟩, ⟨by decide +kernel, by decide +kernel, by decide +kernel⟩, Or.inl tw_407⟩
theorem cv_R_113 : av_cV "ImageReader" 113 y_I_fieldAt b_I_fieldAt 3 (some .int) 2 := ⟨⟨tw_295, sw_12, tw_3, tw_296⟩, ⟨by decide +kernel, by decide +kernel, by decide +kernel⟩, Or.inr ⟨"ImageReader", nw_411⟩⟩
theorem cv_Law_76 : av_cV "ImageReaderLaw" 76 y_R_byteAt b_R_byteAt 3 (some .int) 2 := ⟨⟨tw_413, tw_414, tw_1, tw_415⟩, ⟨by decide +kernel, by decide +kernel, by decide +kernel⟩, Or.inl tw_412⟩
theorem cv_R_117 : av_cV "ImageReader" 117 y_I_bodyByteAt b_I_bodyByteAt 3 (some .int) 2 := ⟨⟨tw_418, sw_19, tw_3, tw_419⟩, ⟨by decide +kernel, by decide +kernel, by decide +kernel⟩, Or.inr ⟨"ImageReader", nw_416⟩⟩
theorem cv_Law_80 : av_cV "ImageReaderLaw" 80 y_R_reachable b_R_reachable 1 (some .int) 0 := ⟨⟨tw_421, tw_422, tw_1, tw_423⟩, ⟨by decide +kernel, by decide +kernel, by decide +kernel⟩, Or.inl tw_420⟩
theorem cv_R_120 : av_cV "ImageReader" 120 y_W_reach b_W_reach 6 (some .int) 1 := ⟨⟨tw_426, sw_20, tw_4, tw_427⟩, ⟨by decide +kernel, by decide +kernel, by decide +kernel⟩, Or.inr ⟨"ImageReader", nw_424⟩⟩
theorem cv_W_18 : av_cV "ImageReader$Walk" 18 y_W_clear b_W_clear 2 none 1 := ⟨⟨tw_430, sw_21, tw_4, tw_431⟩, ⟨by decide +kernel, by decide +kernel, by decide +kernel⟩, Or.inl tw_428⟩
theorem cs_W_55 : av_cS "ImageReader$Walk" 55 y_A_fill b_A_fill 4 none 2 := ⟨⟨tw_433, tw_11, tw_434⟩, ⟨by decide +kernel, by decide +kernel, by decide +kernel⟩, Or.inl tw_432⟩
theorem cv_W_27 : av_cV "ImageReader$Walk" 27 y_I_objectOf b_I_objectOf 2 (some .int) 1 := ⟨⟨tw_281, sw_10, tw_3, tw_282⟩, ⟨by decide +kernel, by decide +kernel, by decide +kernel⟩, Or.inr ⟨"ImageReader", nw_435⟩⟩
theorem cv_W_31 : av_cV "ImageReader$Walk" 31 y_W_visit b_W_visit 2 none 1 := ⟨⟨tw_438, sw_22, tw_4, tw_439⟩, ⟨by decide +kernel, by decide +kernel, by decide +kernel⟩, Or.inl tw_436⟩
theorem cv_W_42 : av_cV "ImageReader$Walk" 42 y_I_classAt b_I_classAt 2 (some .int) 1 := ⟨⟨tw_328, sw_17, tw_3, tw_329⟩, ⟨by decide +kernel, by decide +kernel, by decide +kernel⟩, Or.inr ⟨"ImageReader", nw_440⟩⟩
theorem cv_W_45 : av_cV "ImageReader$Walk" 45 y_I_fieldCount b_I_fieldCount 2 (some .int) 1 := ⟨⟨tw_303, sw_14, tw_3, tw_304⟩, ⟨by decide +kernel, by decide +kernel, by decide +kernel⟩, Or.inr ⟨"ImageReader", nw_441⟩⟩
theorem cv_W_48 : av_cV "ImageReader$Walk" 48 y_I_fieldAt b_I_fieldAt 3 (some .int) 2 := ⟨⟨tw_295, sw_12, tw_3, tw_296⟩, ⟨by decide +kernel, by decide +kernel, by decide +kernel⟩, Or.inr ⟨"ImageReader", nw_442⟩⟩
theorem cv_Law_84 : av_cV "ImageReaderLaw" 84 y_R_write b_R_write 3 (some .int) 0 := ⟨⟨tw_444, tw_445, tw_1, tw_446⟩, ⟨by decide +kernel, by decide +kernel, by decide +kernel⟩, Or.inl tw_443⟩
theorem cv_R_123 : av_cV "ImageReader" 123 y_W_numberAnew b_W_numberAnew 4 none 1 := ⟨⟨tw_449, sw_23, tw_4, tw_450⟩, ⟨by decide +kernel, by decide +kernel, by decide +kernel⟩, Or.inr ⟨"ImageReader", nw_447⟩⟩
theorem cv_R_127 : av_cV "ImageReader" 127 y_R_writeHead b_R_writeHead 3 none 1 := ⟨⟨tw_453, sw_24, tw_1, tw_454⟩, ⟨by decide +kernel, by decide +kernel, by decide +kernel⟩, Or.inl tw_451⟩
theorem cv_R_177 : av_cV "ImageReader" 177 y_B_add b_B_add 2 none 1 := ⟨⟨tw_458, sw_25, tw_2, tw_459⟩, ⟨by decide +kernel, by decide +kernel, by decide +kernel⟩, Or.inr ⟨"ImageReader", nw_456⟩⟩
theorem cs_B_23 : av_cS "ImageReader$Bytes" 23 y_A_copyOf_aBI b_A_copyOf_aBI 3 (some (.array .byte)) 2 := ⟨⟨tw_461, tw_11, tw_462⟩, ⟨by decide +kernel, by decide +kernel, by decide +kernel⟩, Or.inl tw_460⟩
theorem cv_R_186 : av_cV "ImageReader" 186 y_B_addPair b_B_addPair 2 none 1 := ⟨⟨tw_470, sw_26, tw_2, tw_471⟩, ⟨by decide +kernel, by decide +kernel, by decide +kernel⟩, Or.inr ⟨"ImageReader", nw_468⟩⟩
theorem cv_B_29 : av_cV "ImageReader$Bytes" 29 y_B_add b_B_add 2 none 1 := ⟨⟨tw_458, sw_25, tw_2, tw_459⟩, ⟨by decide +kernel, by decide +kernel, by decide +kernel⟩, Or.inl tw_472⟩
theorem cv_R_133 : av_cV "ImageReader" 133 y_W_renumbered b_W_renumbered 4 (some .int) 2 := ⟨⟨tw_475, sw_27, tw_4, tw_476⟩, ⟨by decide +kernel, by decide +kernel, by decide +kernel⟩, Or.inr ⟨"ImageReader", nw_473⟩⟩
theorem cv_R_61 : av_cV "ImageReader" 61 y_B_addWord b_B_addWord 2 none 1 := ⟨⟨tw_479, sw_28, tw_2, tw_480⟩, ⟨by decide +kernel, by decide +kernel, by decide +kernel⟩, Or.inr ⟨"ImageReader", nw_477⟩⟩
theorem cv_B_33 : av_cV "ImageReader$Bytes" 33 y_B_addPair b_B_addPair 2 none 1 := ⟨⟨tw_470, sw_26, tw_2, tw_471⟩, ⟨by decide +kernel, by decide +kernel, by decide +kernel⟩, Or.inl tw_481⟩
theorem cv_R_140 : av_cV "ImageReader" 140 y_R_writeObject b_R_writeObject 4 none 1 := ⟨⟨tw_484, sw_29, tw_1, tw_485⟩, ⟨by decide +kernel, by decide +kernel, by decide +kernel⟩, Or.inl tw_482⟩
theorem cv_Law_88 : av_cV "ImageReaderLaw" 88 y_R_came b_R_came 2 (some .int) 1 := ⟨⟨tw_487, tw_488, tw_1, tw_489⟩, ⟨by decide +kernel, by decide +kernel, by decide +kernel⟩, Or.inl tw_486⟩
theorem cv_Law_92 : av_cV "ImageReaderLaw" 92 y_R_keep b_R_keep 1 (some .boolean) 0 := ⟨⟨tw_491, tw_492, tw_1, tw_493⟩, ⟨by decide +kernel, by decide +kernel, by decide +kernel⟩, Or.inl tw_490⟩
theorem cv_Law_97 : av_cV "ImageReaderLaw" 97 y_R_same b_R_same 1 (some .boolean) 0 := ⟨⟨tw_495, tw_496, tw_1, tw_497⟩, ⟨by decide +kernel, by decide +kernel, by decide +kernel⟩, Or.inl tw_494⟩
theorem cv_R_143 : av_cV "ImageReader" 143 y_P_pairs b_P_pairs 4 (some .boolean) 2 := ⟨⟨tw_500, sw_30, tw_5, tw_501⟩, ⟨by decide +kernel, by decide +kernel, by decide +kernel⟩, Or.inr ⟨"ImageReader", nw_498⟩⟩
theorem cv_P_21 : av_cV "ImageReader$Pairing" 21 y_P_clear b_P_clear 4 none 2 := ⟨⟨tw_504, sw_31, tw_5, tw_505⟩, ⟨by decide +kernel, by decide +kernel, by decide +kernel⟩, Or.inl tw_502⟩
theorem cs_P_53 : av_cS "ImageReader$Pairing" 53 y_Mt_max b_Mt_max 2 (some .int) 2 := ⟨⟨tw_507, tw_12, tw_508⟩, ⟨by decide +kernel, by decide +kernel, by decide +kernel⟩, Or.inl tw_506⟩
theorem cs_P_59 : av_cS "ImageReader$Pairing" 59 y_A_fill b_A_fill 4 none 2 := ⟨⟨tw_433, tw_11, tw_434⟩, ⟨by decide +kernel, by decide +kernel, by decide +kernel⟩, Or.inl tw_509⟩
theorem cv_P_37 : av_cV "ImageReader$Pairing" 37 y_P_match b_P_match 7 (some .boolean) 4 := ⟨⟨tw_512, sw_32, tw_5, tw_513⟩, ⟨by decide +kernel, by decide +kernel, by decide +kernel⟩, Or.inl tw_510⟩
theorem cv_P_65 : av_cV "ImageReader$Pairing" 65 y_I_objectOf b_I_objectOf 2 (some .int) 1 := ⟨⟨tw_281, sw_10, tw_3, tw_282⟩, ⟨by decide +kernel, by decide +kernel, by decide +kernel⟩, Or.inr ⟨"ImageReader", nw_514⟩⟩
theorem cv_P_47 : av_cV "ImageReader$Pairing" 47 y_P_matchBodies b_P_matchBodies 9 (some .boolean) 4 := ⟨⟨tw_517, sw_33, tw_5, tw_518⟩, ⟨by decide +kernel, by decide +kernel, by decide +kernel⟩, Or.inl tw_515⟩
theorem cv_Law_7 : av_cV "ImageReaderLaw" 7 y_R_feed b_R_feed 6 none 5 := ⟨⟨tw_524, tw_525, tw_1, tw_526⟩, ⟨by decide +kernel, by decide +kernel, by decide +kernel⟩, Or.inl tw_523⟩
theorem cv_Law_15 : av_cV "ImageReaderLaw" 15 y_R_end b_R_end 3 (some .int) 1 := ⟨⟨tw_599, tw_600, tw_1, tw_601⟩, ⟨by decide +kernel, by decide +kernel, by decide +kernel⟩, Or.inl tw_598⟩
theorem nc_Law_22 : av_cls "ImageReaderLaw" 22 5 [.int 0, .null, .int 0, .null, .int 0, .null, .int 0, .null, .null, .null, .null, .null, .int 0] 13 := ⟨"ImageReaderModel", F_M, t_M, rfl, i_M, t_M_ok, tw_618, tw_619, tw_6, by decide +kernel⟩
theorem ci_Law_24 : av_cI "ImageReaderLaw" 24 y_M_init b_M_init 1 0 := ⟨⟨tw_621, tw_6, tw_622, rfl⟩, ⟨by decide +kernel, by decide +kernel, by decide +kernel⟩, Or.inl tw_620⟩
theorem fl_M_36 : av_fld "ImageReaderModel" 36 5 0 := ⟨"ImageReaderModel", F_M, 13, rfl, i_M, by decide, Or.inl tw_625⟩
theorem pt_M_36 (ini : Bool) : av_put "ImageReaderModel" 36 5 0 ini .int := ⟨"ImageReaderModel", F_M, 13, t_M, rfl, i_M, by decide, t_M_ok, n_M, rfl, Or.inl rfl, Or.inl tw_625⟩
theorem fl_M_8 : av_fld "ImageReaderModel" 8 5 1 := ⟨"ImageReaderModel", F_M, 13, rfl, i_M, by decide, Or.inl tw_626⟩
theorem pt_M_8 : av_put "ImageReaderModel" 8 5 1 true (.array .byte) := ⟨"ImageReaderModel", F_M, 13, t_M, rfl, i_M, by decide, t_M_ok, n_M, rfl, Or.inr ⟨rfl, rfl⟩, Or.inl tw_626⟩
theorem fl_M_40 : av_fld "ImageReaderModel" 40 5 2 := ⟨"ImageReaderModel", F_M, 13, rfl, i_M, by decide, Or.inl tw_627⟩
theorem pt_M_40 (ini : Bool) : av_put "ImageReaderModel" 40 5 2 ini .int := ⟨"ImageReaderModel", F_M, 13, t_M, rfl, i_M, by decide, t_M_ok, n_M, rfl, Or.inl rfl, Or.inl tw_627⟩
theorem fl_M_14 : av_fld "ImageReaderModel" 14 5 3 := ⟨"ImageReaderModel", F_M, 13, rfl, i_M, by decide, Or.inl tw_628⟩
theorem pt_M_14 : av_put "ImageReaderModel" 14 5 3 true (.array .byte) := ⟨"ImageReaderModel", F_M, 13, t_M, rfl, i_M, by decide, t_M_ok, n_M, rfl, Or.inr ⟨rfl, rfl⟩, Or.inl tw_628⟩
theorem fl_M_149 : av_fld "ImageReaderModel" 149 5 4 := ⟨"ImageReaderModel", F_M, 13, rfl, i_M, by decide, Or.inl tw_629⟩
theorem pt_M_149 (ini : Bool) : av_put "ImageReaderModel" 149 5 4 ini .int := ⟨"ImageReaderModel", F_M, 13, t_M, rfl, i_M, by decide, t_M_ok, n_M, rfl, Or.inl rfl, Or.inl tw_629⟩
theorem fl_M_17 : av_fld "ImageReaderModel" 17 5 5 := ⟨"ImageReaderModel", F_M, 13, rfl, i_M, by decide, Or.inl tw_630⟩
theorem pt_M_17 : av_put "ImageReaderModel" 17 5 5 true (.array .byte) := ⟨"ImageReaderModel", F_M, 13, t_M, rfl, i_M, by decide, t_M_ok, n_M, rfl, Or.inr ⟨rfl, rfl⟩, Or.inl tw_630⟩
theorem fl_M_176 : av_fld "ImageReaderModel" 176 5 6 := ⟨"ImageReaderModel", F_M, 13, rfl, i_M, by decide, Or.inl tw_631⟩
theorem pt_M_176 (ini : Bool) : av_put "ImageReaderModel" 176 5 6 ini .int := ⟨"ImageReaderModel", F_M, 13, t_M, rfl, i_M, by decide, t_M_ok, n_M, rfl, Or.inl rfl, Or.inl tw_631⟩
theorem fl_M_20 : av_fld "ImageReaderModel" 20 5 7 := ⟨"ImageReaderModel", F_M, 13, rfl, i_M, by decide, Or.inl tw_632⟩
theorem pt_M_20 : av_put "ImageReaderModel" 20 5 7 true (.array .int) := ⟨"ImageReaderModel", F_M, 13, t_M, rfl, i_M, by decide, t_M_ok, n_M, rfl, Or.inr ⟨rfl, rfl⟩, Or.inl tw_632⟩
theorem fl_M_24 : av_fld "ImageReaderModel" 24 5 8 := ⟨"ImageReaderModel", F_M, 13, rfl, i_M, by decide, Or.inl tw_633⟩
theorem pt_M_24 : av_put "ImageReaderModel" 24 5 8 true (.array .int) := ⟨"ImageReaderModel", F_M, 13, t_M, rfl, i_M, by decide, t_M_ok, n_M, rfl, Or.inr ⟨rfl, rfl⟩, Or.inl tw_633⟩
theorem fl_M_27 : av_fld "ImageReaderModel" 27 5 9 := ⟨"ImageReaderModel", F_M, 13, rfl, i_M, by decide, Or.inl tw_634⟩
theorem pt_M_27 : av_put "ImageReaderModel" 27 5 9 true (.array .int) := ⟨"ImageReaderModel", F_M, 13, t_M, rfl, i_M, by decide, t_M_ok, n_M, rfl, Or.inr ⟨rfl, rfl⟩, Or.inl tw_634⟩
theorem fl_M_30 : av_fld "ImageReaderModel" 30 5 10 := ⟨"ImageReaderModel", F_M, 13, rfl, i_M, by decide, Or.inl tw_635⟩
theorem pt_M_30 : av_put "ImageReaderModel" 30 5 10 true (.array .int) := ⟨"ImageReaderModel", F_M, 13, t_M, rfl, i_M, by decide, t_M_ok, n_M, rfl, Or.inr ⟨rfl, rfl⟩, Or.inl tw_635⟩
theorem fl_M_33 : av_fld "ImageReaderModel" 33 5 11 := ⟨"ImageReaderModel", F_M, 13, rfl, i_M, by decide, Or.inl tw_636⟩
theorem pt_M_33 : av_put "ImageReaderModel" 33 5 11 true (.array .int) := ⟨"ImageReaderModel", F_M, 13, t_M, rfl, i_M, by decide, t_M_ok, n_M, rfl, Or.inr ⟨rfl, rfl⟩, Or.inl tw_636⟩
theorem fl_M_159 : av_fld "ImageReaderModel" 159 5 12 := ⟨"ImageReaderModel", F_M, 13, rfl, i_M, by decide, Or.inl tw_637⟩
theorem pt_M_159 (ini : Bool) : av_put "ImageReaderModel" 159 5 12 ini .int := ⟨"ImageReaderModel", F_M, 13, t_M, rfl, i_M, by decide, t_M_ok, n_M, rfl, Or.inl rfl, Or.inl tw_637⟩
theorem cv_Law_31 : av_cV "ImageReaderLaw" 31 y_M_thrown b_M_thrown 1 (some .int) 0 := ⟨⟨tw_666, tw_667, tw_6, tw_668⟩, ⟨by decide +kernel, by decide +kernel, by decide +kernel⟩, Or.inl tw_665⟩
theorem cv_Law_30 : av_cV "ImageReaderLaw" 30 y_M_feed b_M_feed 8 none 5 := ⟨⟨tw_670, tw_671, tw_6, tw_672⟩, ⟨by decide +kernel, by decide +kernel, by decide +kernel⟩, Or.inl tw_669⟩
theorem cv_Law_38 : av_cV "ImageReaderLaw" 38 y_M_end b_M_end 3 (some .int) 1 := ⟨⟨tw_674, tw_675, tw_6, tw_676⟩, ⟨by decide +kernel, by decide +kernel, by decide +kernel⟩, Or.inl tw_673⟩
theorem cv_Law_43 : av_cV "ImageReaderLaw" 43 y_M_change b_M_change 4 (some .int) 2 := ⟨⟨tw_678, tw_679, tw_6, tw_680⟩, ⟨by decide +kernel, by decide +kernel, by decide +kernel⟩, Or.inl tw_677⟩
theorem cv_Law_91 : av_cV "ImageReaderLaw" 91 y_M_came b_M_came 2 (some .int) 1 := ⟨⟨tw_682, tw_683, tw_6, tw_684⟩, ⟨by decide +kernel, by decide +kernel, by decide +kernel⟩, Or.inl tw_681⟩
theorem cv_Law_47 : av_cV "ImageReaderLaw" 47 y_M_read b_M_read 3 (some .int) 0 := ⟨⟨tw_686, tw_687, tw_6, tw_688⟩, ⟨by decide +kernel, by decide +kernel, by decide +kernel⟩, Or.inl tw_685⟩
theorem cv_M_146 : av_cV "ImageReaderModel" 146 y_M_place b_M_place 2 (some .int) 0 := ⟨⟨tw_691, sw_35, tw_6, tw_692⟩, ⟨by decide +kernel, by decide +kernel, by decide +kernel⟩, Or.inl tw_689⟩
theorem cv_M_124 : av_cV "ImageReaderModel" 124 y_M_stepHead b_M_stepHead 4 (some .int) 0 := ⟨⟨tw_695, sw_36, tw_6, tw_696⟩, ⟨by decide +kernel, by decide +kernel, by decide +kernel⟩, Or.inl tw_693⟩
theorem cs_M_101 : av_cS "ImageReaderModel" 101 y_M_objects_aB b_M_objects_aB 1 (some .int) 1 := ⟨⟨tw_698, tw_6, tw_699⟩, ⟨by decide +kernel, by decide +kernel, by decide +kernel⟩, Or.inl tw_697⟩
theorem cs_M_43 : av_cS "ImageReaderModel" 43 y_M_half b_M_half 2 (some .int) 2 := ⟨⟨tw_701, tw_6, tw_702⟩, ⟨by decide +kernel, by decide +kernel, by decide +kernel⟩, Or.inl tw_700⟩
theorem cv_M_128 : av_cV "ImageReaderModel" 128 y_M_stepValues b_M_stepValues 6 (some .int) 0 := ⟨⟨tw_705, sw_37, tw_6, tw_706⟩, ⟨by decide +kernel, by decide +kernel, by decide +kernel⟩, Or.inl tw_703⟩
theorem cv_M_105 : av_cV "ImageReaderModel" 105 y_M_isValue b_M_isValue 3 (some .boolean) 1 := ⟨⟨tw_709, sw_38, tw_6, tw_710⟩, ⟨by decide +kernel, by decide +kernel, by decide +kernel⟩, Or.inl tw_707⟩
theorem cs_M_47 : av_cS "ImageReaderModel" 47 y_M_word b_M_word 2 (some .int) 2 := ⟨⟨tw_712, tw_6, tw_713⟩, ⟨by decide +kernel, by decide +kernel, by decide +kernel⟩, Or.inl tw_711⟩
theorem cs_M_76 : av_cS "ImageReaderModel" 76 y_M_isNumber b_M_isNumber 1 (some .boolean) 1 := ⟨⟨tw_715, tw_6, tw_716⟩, ⟨by decide +kernel, by decide +kernel, by decide +kernel⟩, Or.inl tw_714⟩
theorem cs_M_54 : av_cS "ImageReaderModel" 54 y_M_sizeAt b_M_sizeAt 2 (some .int) 2 := ⟨⟨tw_718, tw_6, tw_719⟩, ⟨by decide +kernel, by decide +kernel, by decide +kernel⟩, Or.inl tw_717⟩
theorem cs_M_50 : av_cS "ImageReaderModel" 50 y_M_isOfBytes b_M_isOfBytes 2 (some .boolean) 2 := ⟨⟨tw_721, tw_6, tw_722⟩, ⟨by decide +kernel, by decide +kernel, by decide +kernel⟩, Or.inl tw_720⟩
theorem cv_M_131 : av_cV "ImageReaderModel" 131 y_M_stepRoom b_M_stepRoom 1 (some .int) 0 := ⟨⟨tw_725, sw_39, tw_6, tw_726⟩, ⟨by decide +kernel, by decide +kernel, by decide +kernel⟩, Or.inl tw_723⟩
theorem cs_M_108 : av_cS "ImageReaderModel" 108 y_M_wordsOf b_M_wordsOf 5 (some .int) 2 := ⟨⟨tw_728, tw_6, tw_729⟩, ⟨by decide +kernel, by decide +kernel, by decide +kernel⟩, Or.inl tw_727⟩
theorem cv_M_134 : av_cV "ImageReaderModel" 134 y_M_stepSpecials b_M_stepSpecials 5 (some .int) 0 := ⟨⟨tw_732, sw_40, tw_6, tw_733⟩, ⟨by decide +kernel, by decide +kernel, by decide +kernel⟩, Or.inl tw_730⟩
theorem cs_M_65 : av_cS "ImageReaderModel" 65 y_M_special_aBI b_M_special_aBI 2 (some .int) 2 := ⟨⟨tw_735, tw_6, tw_736⟩, ⟨by decide +kernel, by decide +kernel, by decide +kernel⟩, Or.inl tw_734⟩
theorem cs_M_57 : av_cS "ImageReaderModel" 57 y_M_isObject b_M_isObject 1 (some .boolean) 1 := ⟨⟨tw_738, tw_6, tw_739⟩, ⟨by decide +kernel, by decide +kernel, by decide +kernel⟩, Or.inl tw_737⟩
theorem cv_M_112 : av_cV "ImageReaderModel" 112 y_M_isClass b_M_isClass 5 (some .boolean) 1 := ⟨⟨tw_742, sw_41, tw_6, tw_743⟩, ⟨by decide +kernel, by decide +kernel, by decide +kernel⟩, Or.inl tw_740⟩
theorem cv_M_68 : av_cV "ImageReaderModel" 68 y_M_hasFields b_M_hasFields 3 (some .boolean) 2 := ⟨⟨tw_746, sw_42, tw_6, tw_747⟩, ⟨by decide +kernel, by decide +kernel, by decide +kernel⟩, Or.inl tw_744⟩
theorem cv_M_72 : av_cV "ImageReaderModel" 72 y_M_fieldOf b_M_fieldOf 3 (some .int) 2 := ⟨⟨tw_750, sw_43, tw_6, tw_751⟩, ⟨by decide +kernel, by decide +kernel, by decide +kernel⟩, Or.inl tw_748⟩
theorem cs_M_61 : av_cS "ImageReaderModel" 61 y_M_fieldAt b_M_fieldAt 3 (some .int) 3 := ⟨⟨tw_753, tw_6, tw_754⟩, ⟨by decide +kernel, by decide +kernel, by decide +kernel⟩, Or.inl tw_752⟩
theorem cv_M_80 : av_cV "ImageReaderModel" 80 y_M_isContext b_M_isContext 3 (some .boolean) 1 := ⟨⟨tw_757, sw_44, tw_6, tw_758⟩, ⟨by decide +kernel, by decide +kernel, by decide +kernel⟩, Or.inl tw_755⟩
theorem cv_M_137 : av_cV "ImageReaderModel" 137 y_M_stepObjects b_M_stepObjects 2 (some .int) 0 := ⟨⟨tw_761, sw_45, tw_6, tw_762⟩, ⟨by decide +kernel, by decide +kernel, by decide +kernel⟩, Or.inl tw_759⟩
theorem cv_M_121 : av_cV "ImageReaderModel" 121 y_M_isRightObject b_M_isRightObject 7 (some .boolean) 1 := ⟨⟨tw_765, sw_46, tw_6, tw_766⟩, ⟨by decide +kernel, by decide +kernel, by decide +kernel⟩, Or.inl tw_763⟩
theorem cv_M_115 : av_cV "ImageReaderModel" 115 y_M_isMethodContext b_M_isMethodContext 5 (some .boolean) 1 := ⟨⟨tw_769, sw_47, tw_6, tw_770⟩, ⟨by decide +kernel, by decide +kernel, by decide +kernel⟩, Or.inl tw_767⟩
theorem cv_M_88 : av_cV "ImageReaderModel" 88 y_M_isMethod b_M_isMethod 5 (some .boolean) 1 := ⟨⟨tw_773, sw_48, tw_6, tw_774⟩, ⟨by decide +kernel, by decide +kernel, by decide +kernel⟩, Or.inl tw_771⟩
theorem cv_M_91 : av_cV "ImageReaderModel" 91 y_M_temporaries b_M_temporaries 2 (some .int) 1 := ⟨⟨tw_778, sw_49, tw_6, tw_779⟩, ⟨by decide +kernel, by decide +kernel, by decide +kernel⟩, Or.inl tw_776⟩
theorem cv_M_95 : av_cV "ImageReaderModel" 95 y_M_depth b_M_depth 2 (some .int) 1 := ⟨⟨tw_782, sw_50, tw_6, tw_783⟩, ⟨by decide +kernel, by decide +kernel, by decide +kernel⟩, Or.inl tw_780⟩
theorem cv_M_84 : av_cV "ImageReaderModel" 84 y_M_isNumberFrom b_M_isNumberFrom 4 (some .boolean) 3 := ⟨⟨tw_786, sw_51, tw_6, tw_787⟩, ⟨by decide +kernel, by decide +kernel, by decide +kernel⟩, Or.inl tw_784⟩
theorem cv_M_98 : av_cV "ImageReaderModel" 98 y_M_isCommon b_M_isCommon 7 (some .boolean) 2 := ⟨⟨tw_790, sw_52, tw_6, tw_791⟩, ⟨by decide +kernel, by decide +kernel, by decide +kernel⟩, Or.inl tw_788⟩
theorem cv_M_118 : av_cV "ImageReaderModel" 118 y_M_isBlockContext b_M_isBlockContext 7 (some .boolean) 1 := ⟨⟨tw_795, sw_53, tw_6, tw_796⟩, ⟨by decide +kernel, by decide +kernel, by decide +kernel⟩, Or.inl tw_793⟩
theorem cv_M_140 : av_cV "ImageReaderModel" 140 y_M_stepProcess b_M_stepProcess 6 (some .int) 0 := ⟨⟨tw_799, sw_54, tw_6, tw_800⟩, ⟨by decide +kernel, by decide +kernel, by decide +kernel⟩, Or.inl tw_797⟩
theorem cs_M_152 : av_cS "ImageReaderModel" 152 y_M_note b_M_note 4 none 2 := ⟨⟨tw_802, tw_6, tw_803⟩, ⟨by decide +kernel, by decide +kernel, by decide +kernel⟩, Or.inl tw_801⟩
theorem cs_M_143 : av_cS "ImageReaderModel" 143 y_M_endAt b_M_endAt 2 (some .int) 2 := ⟨⟨tw_805, tw_6, tw_806⟩, ⟨by decide +kernel, by decide +kernel, by decide +kernel⟩, Or.inl tw_804⟩
theorem cv_Law_51 : av_cV "ImageReaderLaw" 51 y_M_objects_ b_M_objects_ 1 (some .int) 0 := ⟨⟨tw_808, tw_809, tw_6, tw_810⟩, ⟨by decide +kernel, by decide +kernel, by decide +kernel⟩, Or.inl tw_807⟩
theorem cv_Law_55 : av_cV "ImageReaderLaw" 55 y_M_words b_M_words 1 (some .int) 0 := ⟨⟨tw_812, tw_813, tw_6, tw_814⟩, ⟨by decide +kernel, by decide +kernel, by decide +kernel⟩, Or.inl tw_811⟩
theorem cv_Law_59 : av_cV "ImageReaderLaw" 59 y_M_special_I b_M_special_I 2 (some .int) 1 := ⟨⟨tw_816, tw_817, tw_6, tw_818⟩, ⟨by decide +kernel, by decide +kernel, by decide +kernel⟩, Or.inl tw_815⟩
theorem cv_Law_63 : av_cV "ImageReaderLaw" 63 y_M_kind b_M_kind 3 (some .int) 1 := ⟨⟨tw_820, tw_821, tw_6, tw_822⟩, ⟨by decide +kernel, by decide +kernel, by decide +kernel⟩, Or.inl tw_819⟩
theorem cv_M_156 : av_cV "ImageReaderModel" 156 y_M_isThere b_M_isThere 2 (some .boolean) 1 := ⟨⟨tw_825, sw_55, tw_6, tw_826⟩, ⟨by decide +kernel, by decide +kernel, by decide +kernel⟩, Or.inl tw_823⟩
theorem cv_Law_67 : av_cV "ImageReaderLaw" 67 y_M_classOf b_M_classOf 2 (some .int) 1 := ⟨⟨tw_828, tw_829, tw_6, tw_830⟩, ⟨by decide +kernel, by decide +kernel, by decide +kernel⟩, Or.inl tw_827⟩
theorem cv_Law_71 : av_cV "ImageReaderLaw" 71 y_M_size b_M_size 2 (some .int) 1 := ⟨⟨tw_832, tw_833, tw_6, tw_834⟩, ⟨by decide +kernel, by decide +kernel, by decide +kernel⟩, Or.inl tw_831⟩
theorem cv_Law_75 : av_cV "ImageReaderLaw" 75 y_M_field b_M_field 4 (some .int) 2 := ⟨⟨tw_836, tw_837, tw_6, tw_838⟩, ⟨by decide +kernel, by decide +kernel, by decide +kernel⟩, Or.inl tw_835⟩
theorem cv_Law_79 : av_cV "ImageReaderLaw" 79 y_M_byteAt b_M_byteAt 4 (some .int) 2 := ⟨⟨tw_840, tw_841, tw_6, tw_842⟩, ⟨by decide +kernel, by decide +kernel, by decide +kernel⟩, Or.inl tw_839⟩
theorem cv_Law_83 : av_cV "ImageReaderLaw" 83 y_M_reachable b_M_reachable 1 (some .int) 0 := ⟨⟨tw_844, tw_845, tw_6, tw_846⟩, ⟨by decide +kernel, by decide +kernel, by decide +kernel⟩, Or.inl tw_843⟩
theorem cv_M_166 : av_cV "ImageReaderModel" 166 y_M_reachAll b_M_reachAll 4 none 0 := ⟨⟨tw_849, sw_56, tw_6, tw_850⟩, ⟨by decide +kernel, by decide +kernel, by decide +kernel⟩, Or.inl tw_847⟩
theorem cv_M_162 : av_cV "ImageReaderModel" 162 y_M_reach b_M_reach 2 none 1 := ⟨⟨tw_853, sw_57, tw_6, tw_854⟩, ⟨by decide +kernel, by decide +kernel, by decide +kernel⟩, Or.inl tw_851⟩
theorem cv_Law_87 : av_cV "ImageReaderLaw" 87 y_M_write b_M_write 6 (some .int) 0 := ⟨⟨tw_856, tw_857, tw_6, tw_858⟩, ⟨by decide +kernel, by decide +kernel, by decide +kernel⟩, Or.inl tw_855⟩
theorem cv_M_169 : av_cV "ImageReaderModel" 169 y_M_put b_M_put 4 none 2 := ⟨⟨tw_861, sw_58, tw_6, tw_862⟩, ⟨by decide +kernel, by decide +kernel, by decide +kernel⟩, Or.inl tw_859⟩
theorem cv_M_173 : av_cV "ImageReaderModel" 173 y_M_renumbered b_M_renumbered 2 (some .int) 1 := ⟨⟨tw_865, sw_59, tw_6, tw_866⟩, ⟨by decide +kernel, by decide +kernel, by decide +kernel⟩, Or.inl tw_863⟩
theorem cv_Law_96 : av_cV "ImageReaderLaw" 96 y_M_keep b_M_keep 2 (some .boolean) 0 := ⟨⟨tw_868, tw_869, tw_6, tw_870⟩, ⟨by decide +kernel, by decide +kernel, by decide +kernel⟩, Or.inl tw_867⟩
theorem cv_Law_100 : av_cV "ImageReaderLaw" 100 y_M_same b_M_same 3 (some .boolean) 0 := ⟨⟨tw_872, tw_873, tw_6, tw_874⟩, ⟨by decide +kernel, by decide +kernel, by decide +kernel⟩, Or.inl tw_871⟩
theorem cv_M_179 : av_cV "ImageReaderModel" 179 y_M_goes b_M_goes 3 (some .boolean) 2 := ⟨⟨tw_877, sw_60, tw_6, tw_878⟩, ⟨by decide +kernel, by decide +kernel, by decide +kernel⟩, Or.inl tw_875⟩
theorem cv_M_182 : av_cV "ImageReaderModel" 182 y_M_goTogether b_M_goTogether 6 (some .boolean) 1 := ⟨⟨tw_881, sw_61, tw_6, tw_882⟩, ⟨by decide +kernel, by decide +kernel, by decide +kernel⟩, Or.inl tw_879⟩
end
