section
-- ===== PART A: goes FIRST, ahead of the names: the tables' words, and 'selects' of the private methods out of them =====
/-- a private method of a class that the tables say can be made, by its rows of tables_1 -/
def lw_okq (q : MethodName × Nat) : Prop := (q.1.cls ≠ "java/lang/invoke/MethodHandle" ∧ q.1.cls ≠ "java/lang/invoke/VarHandle") ∧ Cond.instantiable q.1.cls q.2 ∈ tables_1 ∧ Cond.privateMethod q.1 ∈ tables_1 ∧ Cond.instanceMethod q.1 ∈ tables_1
theorem lw_p0 : lw_okq (⟨"ImageReader$Bytes", "at", "(I)I"⟩, 2) := ⟨⟨by decide +kernel, by decide +kernel⟩, List.mem_of_getElem? (i := 26) (by decide +kernel), List.mem_of_getElem? (i := 178) (by decide +kernel), List.mem_of_getElem? (i := 179) (by decide +kernel)⟩
theorem lw_p1 : lw_okq (⟨"ImageReader", "spareImage", "()LImageReader$Image;"⟩, 8) := ⟨⟨by decide +kernel, by decide +kernel⟩, List.mem_of_getElem? (i := 18) (by decide +kernel), List.mem_of_getElem? (i := 186) (by decide +kernel), List.mem_of_getElem? (i := 187) (by decide +kernel)⟩
theorem lw_p2 : lw_okq (⟨"ImageReader", "placeOfRefusal", "(LImageReader$Image;)I"⟩, 8) := ⟨⟨by decide +kernel, by decide +kernel⟩, List.mem_of_getElem? (i := 18) (by decide +kernel), List.mem_of_getElem? (i := 190) (by decide +kernel), List.mem_of_getElem? (i := 191) (by decide +kernel)⟩
theorem lw_p3 : lw_okq (⟨"ImageReader$Bytes", "reaches", "(II)Z"⟩, 2) := ⟨⟨by decide +kernel, by decide +kernel⟩, List.mem_of_getElem? (i := 26) (by decide +kernel), List.mem_of_getElem? (i := 202) (by decide +kernel), List.mem_of_getElem? (i := 203) (by decide +kernel)⟩
theorem lw_p4 : lw_okq (⟨"ImageReader$Bytes", "pairAt", "(I)I"⟩, 2) := ⟨⟨by decide +kernel, by decide +kernel⟩, List.mem_of_getElem? (i := 26) (by decide +kernel), List.mem_of_getElem? (i := 206) (by decide +kernel), List.mem_of_getElem? (i := 207) (by decide +kernel)⟩
theorem lw_p5 : lw_okq (⟨"ImageReader$Image", "clear", "()V"⟩, 11) := ⟨⟨by decide +kernel, by decide +kernel⟩, List.mem_of_getElem? (i := 43) (by decide +kernel), List.mem_of_getElem? (i := 214) (by decide +kernel), List.mem_of_getElem? (i := 215) (by decide +kernel)⟩
theorem lw_p6 : lw_okq (⟨"ImageReader$Bytes", "wordAt", "(I)I"⟩, 2) := ⟨⟨by decide +kernel, by decide +kernel⟩, List.mem_of_getElem? (i := 26) (by decide +kernel), List.mem_of_getElem? (i := 221) (by decide +kernel), List.mem_of_getElem? (i := 222) (by decide +kernel)⟩
theorem lw_p7 : lw_okq (⟨"ImageReader$Image", "addObject", "(III)V"⟩, 11) := ⟨⟨by decide +kernel, by decide +kernel⟩, List.mem_of_getElem? (i := 43) (by decide +kernel), List.mem_of_getElem? (i := 234) (by decide +kernel), List.mem_of_getElem? (i := 235) (by decide +kernel)⟩
theorem lw_p8 : lw_okq (⟨"ImageReader$Image", "addPart", "(I)V"⟩, 11) := ⟨⟨by decide +kernel, by decide +kernel⟩, List.mem_of_getElem? (i := 43) (by decide +kernel), List.mem_of_getElem? (i := 257) (by decide +kernel), List.mem_of_getElem? (i := 258) (by decide +kernel)⟩
theorem lw_p9 : lw_okq (⟨"ImageReader$Image", "specialAt", "(I)I"⟩, 11) := ⟨⟨by decide +kernel, by decide +kernel⟩, List.mem_of_getElem? (i := 43) (by decide +kernel), List.mem_of_getElem? (i := 276) (by decide +kernel), List.mem_of_getElem? (i := 277) (by decide +kernel)⟩
theorem lw_p10 : lw_okq (⟨"ImageReader$Image", "objectOf", "(I)I"⟩, 11) := ⟨⟨by decide +kernel, by decide +kernel⟩, List.mem_of_getElem? (i := 43) (by decide +kernel), List.mem_of_getElem? (i := 280) (by decide +kernel), List.mem_of_getElem? (i := 281) (by decide +kernel)⟩
theorem lw_p11 : lw_okq (⟨"ImageReader$Image", "holds", "(I)Z"⟩, 11) := ⟨⟨by decide +kernel, by decide +kernel⟩, List.mem_of_getElem? (i := 43) (by decide +kernel), List.mem_of_getElem? (i := 284) (by decide +kernel), List.mem_of_getElem? (i := 285) (by decide +kernel)⟩
theorem lw_p12 : lw_okq (⟨"ImageReader$Image", "fieldAt", "(II)I"⟩, 11) := ⟨⟨by decide +kernel, by decide +kernel⟩, List.mem_of_getElem? (i := 43) (by decide +kernel), List.mem_of_getElem? (i := 294) (by decide +kernel), List.mem_of_getElem? (i := 295) (by decide +kernel)⟩
theorem lw_p13 : lw_okq (⟨"ImageReader$Image", "hasPart", "(II)Z"⟩, 11) := ⟨⟨by decide +kernel, by decide +kernel⟩, List.mem_of_getElem? (i := 43) (by decide +kernel), List.mem_of_getElem? (i := 298) (by decide +kernel), List.mem_of_getElem? (i := 299) (by decide +kernel)⟩
theorem lw_p14 : lw_okq (⟨"ImageReader$Image", "fieldCount", "(I)I"⟩, 11) := ⟨⟨by decide +kernel, by decide +kernel⟩, List.mem_of_getElem? (i := 43) (by decide +kernel), List.mem_of_getElem? (i := 302) (by decide +kernel), List.mem_of_getElem? (i := 303) (by decide +kernel)⟩
theorem lw_p15 : lw_okq (⟨"ImageReader$Image", "isContext", "(I)Z"⟩, 11) := ⟨⟨by decide +kernel, by decide +kernel⟩, List.mem_of_getElem? (i := 43) (by decide +kernel), List.mem_of_getElem? (i := 313) (by decide +kernel), List.mem_of_getElem? (i := 314) (by decide +kernel)⟩
def lw_privs_1 : List (MethodName × Nat) := [(⟨"ImageReader$Bytes", "at", "(I)I"⟩, 2), (⟨"ImageReader", "spareImage", "()LImageReader$Image;"⟩, 8), (⟨"ImageReader", "placeOfRefusal", "(LImageReader$Image;)I"⟩, 8), (⟨"ImageReader$Bytes", "reaches", "(II)Z"⟩, 2), (⟨"ImageReader$Bytes", "pairAt", "(I)I"⟩, 2), (⟨"ImageReader$Image", "clear", "()V"⟩, 11), (⟨"ImageReader$Bytes", "wordAt", "(I)I"⟩, 2), (⟨"ImageReader$Image", "addObject", "(III)V"⟩, 11), (⟨"ImageReader$Image", "addPart", "(I)V"⟩, 11), (⟨"ImageReader$Image", "specialAt", "(I)I"⟩, 11), (⟨"ImageReader$Image", "objectOf", "(I)I"⟩, 11), (⟨"ImageReader$Image", "holds", "(I)Z"⟩, 11), (⟨"ImageReader$Image", "fieldAt", "(II)I"⟩, 11), (⟨"ImageReader$Image", "hasPart", "(II)Z"⟩, 11), (⟨"ImageReader$Image", "fieldCount", "(I)I"⟩, 11), (⟨"ImageReader$Image", "isContext", "(I)Z"⟩, 11)]
theorem lw_r1 : ∀ q ∈ lw_privs_1, lw_okq q := List.forall_mem_cons.mpr ⟨lw_p0, List.forall_mem_cons.mpr ⟨lw_p1, List.forall_mem_cons.mpr ⟨lw_p2, List.forall_mem_cons.mpr ⟨lw_p3, List.forall_mem_cons.mpr ⟨lw_p4, List.forall_mem_cons.mpr ⟨lw_p5, List.forall_mem_cons.mpr ⟨lw_p6, List.forall_mem_cons.mpr ⟨lw_p7, List.forall_mem_cons.mpr ⟨lw_p8, List.forall_mem_cons.mpr ⟨lw_p9, List.forall_mem_cons.mpr ⟨lw_p10, List.forall_mem_cons.mpr ⟨lw_p11, List.forall_mem_cons.mpr ⟨lw_p12, List.forall_mem_cons.mpr ⟨lw_p13, List.forall_mem_cons.mpr ⟨lw_p14, List.forall_mem_cons.mpr ⟨lw_p15, fun _ h => absurd h List.not_mem_nil⟩⟩⟩⟩⟩⟩⟩⟩⟩⟩⟩⟩⟩⟩⟩⟩
theorem lw_p16 : lw_okq (⟨"ImageReader$Image", "isOfSpecialClass", "(II)Z"⟩, 11) := ⟨⟨by decide +kernel, by decide +kernel⟩, List.mem_of_getElem? (i := 43) (by decide +kernel), List.mem_of_getElem? (i := 317) (by decide +kernel), List.mem_of_getElem? (i := 318) (by decide +kernel)⟩
theorem lw_p17 : lw_okq (⟨"ImageReader$Image", "classAt", "(I)I"⟩, 11) := ⟨⟨by decide +kernel, by decide +kernel⟩, List.mem_of_getElem? (i := 43) (by decide +kernel), List.mem_of_getElem? (i := 327) (by decide +kernel), List.mem_of_getElem? (i := 328) (by decide +kernel)⟩
theorem lw_p18 : lw_okq (⟨"ImageReader$Image", "isOfBytes", "(I)Z"⟩, 11) := ⟨⟨by decide +kernel, by decide +kernel⟩, List.mem_of_getElem? (i := 43) (by decide +kernel), List.mem_of_getElem? (i := 331) (by decide +kernel), List.mem_of_getElem? (i := 332) (by decide +kernel)⟩
theorem lw_p19 : lw_okq (⟨"ImageReader$Image", "bodyByteAt", "(II)I"⟩, 11) := ⟨⟨by decide +kernel, by decide +kernel⟩, List.mem_of_getElem? (i := 43) (by decide +kernel), List.mem_of_getElem? (i := 417) (by decide +kernel), List.mem_of_getElem? (i := 418) (by decide +kernel)⟩
theorem lw_p20 : lw_okq (⟨"ImageReader$Walk", "reach", "(LImageReader$Image;)I"⟩, 3) := ⟨⟨by decide +kernel, by decide +kernel⟩, List.mem_of_getElem? (i := 113) (by decide +kernel), List.mem_of_getElem? (i := 425) (by decide +kernel), List.mem_of_getElem? (i := 426) (by decide +kernel)⟩
theorem lw_p21 : lw_okq (⟨"ImageReader$Walk", "clear", "(LImageReader$Image;)V"⟩, 3) := ⟨⟨by decide +kernel, by decide +kernel⟩, List.mem_of_getElem? (i := 113) (by decide +kernel), List.mem_of_getElem? (i := 429) (by decide +kernel), List.mem_of_getElem? (i := 430) (by decide +kernel)⟩
theorem lw_p22 : lw_okq (⟨"ImageReader$Walk", "visit", "(I)V"⟩, 3) := ⟨⟨by decide +kernel, by decide +kernel⟩, List.mem_of_getElem? (i := 113) (by decide +kernel), List.mem_of_getElem? (i := 437) (by decide +kernel), List.mem_of_getElem? (i := 438) (by decide +kernel)⟩
theorem lw_p23 : lw_okq (⟨"ImageReader$Walk", "numberAnew", "(LImageReader$Image;)V"⟩, 3) := ⟨⟨by decide +kernel, by decide +kernel⟩, List.mem_of_getElem? (i := 113) (by decide +kernel), List.mem_of_getElem? (i := 448) (by decide +kernel), List.mem_of_getElem? (i := 449) (by decide +kernel)⟩
theorem lw_p24 : lw_okq (⟨"ImageReader", "writeHead", "(I)V"⟩, 8) := ⟨⟨by decide +kernel, by decide +kernel⟩, List.mem_of_getElem? (i := 18) (by decide +kernel), List.mem_of_getElem? (i := 452) (by decide +kernel), List.mem_of_getElem? (i := 453) (by decide +kernel)⟩
theorem lw_p25 : lw_okq (⟨"ImageReader$Bytes", "add", "(I)V"⟩, 2) := ⟨⟨by decide +kernel, by decide +kernel⟩, List.mem_of_getElem? (i := 26) (by decide +kernel), List.mem_of_getElem? (i := 457) (by decide +kernel), List.mem_of_getElem? (i := 458) (by decide +kernel)⟩
theorem lw_p26 : lw_okq (⟨"ImageReader$Bytes", "addPair", "(I)V"⟩, 2) := ⟨⟨by decide +kernel, by decide +kernel⟩, List.mem_of_getElem? (i := 26) (by decide +kernel), List.mem_of_getElem? (i := 469) (by decide +kernel), List.mem_of_getElem? (i := 470) (by decide +kernel)⟩
theorem lw_p27 : lw_okq (⟨"ImageReader$Walk", "renumbered", "(LImageReader$Image;I)I"⟩, 3) := ⟨⟨by decide +kernel, by decide +kernel⟩, List.mem_of_getElem? (i := 113) (by decide +kernel), List.mem_of_getElem? (i := 474) (by decide +kernel), List.mem_of_getElem? (i := 475) (by decide +kernel)⟩
theorem lw_p28 : lw_okq (⟨"ImageReader$Bytes", "addWord", "(I)V"⟩, 2) := ⟨⟨by decide +kernel, by decide +kernel⟩, List.mem_of_getElem? (i := 26) (by decide +kernel), List.mem_of_getElem? (i := 478) (by decide +kernel), List.mem_of_getElem? (i := 479) (by decide +kernel)⟩
theorem lw_p29 : lw_okq (⟨"ImageReader", "writeObject", "(I)V"⟩, 8) := ⟨⟨by decide +kernel, by decide +kernel⟩, List.mem_of_getElem? (i := 18) (by decide +kernel), List.mem_of_getElem? (i := 483) (by decide +kernel), List.mem_of_getElem? (i := 484) (by decide +kernel)⟩
theorem lw_p30 : lw_okq (⟨"ImageReader$Pairing", "pairs", "(LImageReader$Image;LImageReader$Image;)Z"⟩, 4) := ⟨⟨by decide +kernel, by decide +kernel⟩, List.mem_of_getElem? (i := 130) (by decide +kernel), List.mem_of_getElem? (i := 499) (by decide +kernel), List.mem_of_getElem? (i := 500) (by decide +kernel)⟩
theorem lw_p31 : lw_okq (⟨"ImageReader$Pairing", "clear", "(LImageReader$Image;LImageReader$Image;)V"⟩, 4) := ⟨⟨by decide +kernel, by decide +kernel⟩, List.mem_of_getElem? (i := 130) (by decide +kernel), List.mem_of_getElem? (i := 503) (by decide +kernel), List.mem_of_getElem? (i := 504) (by decide +kernel)⟩
def lw_privs_2 : List (MethodName × Nat) := [(⟨"ImageReader$Image", "isOfSpecialClass", "(II)Z"⟩, 11), (⟨"ImageReader$Image", "classAt", "(I)I"⟩, 11), (⟨"ImageReader$Image", "isOfBytes", "(I)Z"⟩, 11), (⟨"ImageReader$Image", "bodyByteAt", "(II)I"⟩, 11), (⟨"ImageReader$Walk", "reach", "(LImageReader$Image;)I"⟩, 3), (⟨"ImageReader$Walk", "clear", "(LImageReader$Image;)V"⟩, 3), (⟨"ImageReader$Walk", "visit", "(I)V"⟩, 3), (⟨"ImageReader$Walk", "numberAnew", "(LImageReader$Image;)V"⟩, 3), (⟨"ImageReader", "writeHead", "(I)V"⟩, 8), (⟨"ImageReader$Bytes", "add", "(I)V"⟩, 2), (⟨"ImageReader$Bytes", "addPair", "(I)V"⟩, 2), (⟨"ImageReader$Walk", "renumbered", "(LImageReader$Image;I)I"⟩, 3), (⟨"ImageReader$Bytes", "addWord", "(I)V"⟩, 2), (⟨"ImageReader", "writeObject", "(I)V"⟩, 8), (⟨"ImageReader$Pairing", "pairs", "(LImageReader$Image;LImageReader$Image;)Z"⟩, 4), (⟨"ImageReader$Pairing", "clear", "(LImageReader$Image;LImageReader$Image;)V"⟩, 4)]
theorem lw_r2 : ∀ q ∈ lw_privs_2, lw_okq q := List.forall_mem_cons.mpr ⟨lw_p16, List.forall_mem_cons.mpr ⟨lw_p17, List.forall_mem_cons.mpr ⟨lw_p18, List.forall_mem_cons.mpr ⟨lw_p19, List.forall_mem_cons.mpr ⟨lw_p20, List.forall_mem_cons.mpr ⟨lw_p21, List.forall_mem_cons.mpr ⟨lw_p22, List.forall_mem_cons.mpr ⟨lw_p23, List.forall_mem_cons.mpr ⟨lw_p24, List.forall_mem_cons.mpr ⟨lw_p25, List.forall_mem_cons.mpr ⟨lw_p26, List.forall_mem_cons.mpr ⟨lw_p27, List.forall_mem_cons.mpr ⟨lw_p28, List.forall_mem_cons.mpr ⟨lw_p29, List.forall_mem_cons.mpr ⟨lw_p30, List.forall_mem_cons.mpr ⟨lw_p31, fun _ h => absurd h List.not_mem_nil⟩⟩⟩⟩⟩⟩⟩⟩⟩⟩⟩⟩⟩⟩⟩⟩
theorem lw_p32 : lw_okq (⟨"ImageReader$Pairing", "match", "(LImageReader$Image;ILImageReader$Image;I)Z"⟩, 4) := ⟨⟨by decide +kernel, by decide +kernel⟩, List.mem_of_getElem? (i := 130) (by decide +kernel), List.mem_of_getElem? (i := 511) (by decide +kernel), List.mem_of_getElem? (i := 512) (by decide +kernel)⟩
theorem lw_p33 : lw_okq (⟨"ImageReader$Pairing", "matchBodies", "(LImageReader$Image;ILImageReader$Image;I)Z"⟩, 4) := ⟨⟨by decide +kernel, by decide +kernel⟩, List.mem_of_getElem? (i := 130) (by decide +kernel), List.mem_of_getElem? (i := 516) (by decide +kernel), List.mem_of_getElem? (i := 517) (by decide +kernel)⟩
theorem lw_p34 : lw_okq (⟨"java/lang/Throwable", "fillInStackTrace", "(I)Ljava/lang/Throwable;"⟩, 6) := ⟨⟨by decide +kernel, by decide +kernel⟩, List.mem_of_getElem? (i := 566) (by decide +kernel), List.mem_of_getElem? (i := 564) (by decide +kernel), List.mem_of_getElem? (i := 565) (by decide +kernel)⟩
theorem lw_p35 : lw_okq (⟨"ImageReaderModel", "place", "()I"⟩, 13) := ⟨⟨by decide +kernel, by decide +kernel⟩, List.mem_of_getElem? (i := 619) (by decide +kernel), List.mem_of_getElem? (i := 690) (by decide +kernel), List.mem_of_getElem? (i := 691) (by decide +kernel)⟩
theorem lw_p36 : lw_okq (⟨"ImageReaderModel", "stepHead", "()I"⟩, 13) := ⟨⟨by decide +kernel, by decide +kernel⟩, List.mem_of_getElem? (i := 619) (by decide +kernel), List.mem_of_getElem? (i := 694) (by decide +kernel), List.mem_of_getElem? (i := 695) (by decide +kernel)⟩
theorem lw_p37 : lw_okq (⟨"ImageReaderModel", "stepValues", "()I"⟩, 13) := ⟨⟨by decide +kernel, by decide +kernel⟩, List.mem_of_getElem? (i := 619) (by decide +kernel), List.mem_of_getElem? (i := 704) (by decide +kernel), List.mem_of_getElem? (i := 705) (by decide +kernel)⟩
theorem lw_p38 : lw_okq (⟨"ImageReaderModel", "isValue", "(I)Z"⟩, 13) := ⟨⟨by decide +kernel, by decide +kernel⟩, List.mem_of_getElem? (i := 619) (by decide +kernel), List.mem_of_getElem? (i := 708) (by decide +kernel), List.mem_of_getElem? (i := 709) (by decide +kernel)⟩
theorem lw_p39 : lw_okq (⟨"ImageReaderModel", "stepRoom", "()I"⟩, 13) := ⟨⟨by decide +kernel, by decide +kernel⟩, List.mem_of_getElem? (i := 619) (by decide +kernel), List.mem_of_getElem? (i := 724) (by decide +kernel), List.mem_of_getElem? (i := 725) (by decide +kernel)⟩
theorem lw_p40 : lw_okq (⟨"ImageReaderModel", "stepSpecials", "()I"⟩, 13) := ⟨⟨by decide +kernel, by decide +kernel⟩, List.mem_of_getElem? (i := 619) (by decide +kernel), List.mem_of_getElem? (i := 731) (by decide +kernel), List.mem_of_getElem? (i := 732) (by decide +kernel)⟩
theorem lw_p41 : lw_okq (⟨"ImageReaderModel", "isClass", "(I)Z"⟩, 13) := ⟨⟨by decide +kernel, by decide +kernel⟩, List.mem_of_getElem? (i := 619) (by decide +kernel), List.mem_of_getElem? (i := 741) (by decide +kernel), List.mem_of_getElem? (i := 742) (by decide +kernel)⟩
theorem lw_p42 : lw_okq (⟨"ImageReaderModel", "hasFields", "(II)Z"⟩, 13) := ⟨⟨by decide +kernel, by decide +kernel⟩, List.mem_of_getElem? (i := 619) (by decide +kernel), List.mem_of_getElem? (i := 745) (by decide +kernel), List.mem_of_getElem? (i := 746) (by decide +kernel)⟩
theorem lw_p43 : lw_okq (⟨"ImageReaderModel", "fieldOf", "(II)I"⟩, 13) := ⟨⟨by decide +kernel, by decide +kernel⟩, List.mem_of_getElem? (i := 619) (by decide +kernel), List.mem_of_getElem? (i := 749) (by decide +kernel), List.mem_of_getElem? (i := 750) (by decide +kernel)⟩
theorem lw_p44 : lw_okq (⟨"ImageReaderModel", "isContext", "(I)Z"⟩, 13) := ⟨⟨by decide +kernel, by decide +kernel⟩, List.mem_of_getElem? (i := 619) (by decide +kernel), List.mem_of_getElem? (i := 756) (by decide +kernel), List.mem_of_getElem? (i := 757) (by decide +kernel)⟩
theorem lw_p45 : lw_okq (⟨"ImageReaderModel", "stepObjects", "()I"⟩, 13) := ⟨⟨by decide +kernel, by decide +kernel⟩, List.mem_of_getElem? (i := 619) (by decide +kernel), List.mem_of_getElem? (i := 760) (by decide +kernel), List.mem_of_getElem? (i := 761) (by decide +kernel)⟩
theorem lw_p46 : lw_okq (⟨"ImageReaderModel", "isRightObject", "(I)Z"⟩, 13) := ⟨⟨by decide +kernel, by decide +kernel⟩, List.mem_of_getElem? (i := 619) (by decide +kernel), List.mem_of_getElem? (i := 764) (by decide +kernel), List.mem_of_getElem? (i := 765) (by decide +kernel)⟩
theorem lw_p47 : lw_okq (⟨"ImageReaderModel", "isMethodContext", "(I)Z"⟩, 13) := ⟨⟨by decide +kernel, by decide +kernel⟩, List.mem_of_getElem? (i := 619) (by decide +kernel), List.mem_of_getElem? (i := 768) (by decide +kernel), List.mem_of_getElem? (i := 769) (by decide +kernel)⟩
def lw_privs_3 : List (MethodName × Nat) := [(⟨"ImageReader$Pairing", "match", "(LImageReader$Image;ILImageReader$Image;I)Z"⟩, 4), (⟨"ImageReader$Pairing", "matchBodies", "(LImageReader$Image;ILImageReader$Image;I)Z"⟩, 4), (⟨"java/lang/Throwable", "fillInStackTrace", "(I)Ljava/lang/Throwable;"⟩, 6), (⟨"ImageReaderModel", "place", "()I"⟩, 13), (⟨"ImageReaderModel", "stepHead", "()I"⟩, 13), (⟨"ImageReaderModel", "stepValues", "()I"⟩, 13), (⟨"ImageReaderModel", "isValue", "(I)Z"⟩, 13), (⟨"ImageReaderModel", "stepRoom", "()I"⟩, 13), (⟨"ImageReaderModel", "stepSpecials", "()I"⟩, 13), (⟨"ImageReaderModel", "isClass", "(I)Z"⟩, 13), (⟨"ImageReaderModel", "hasFields", "(II)Z"⟩, 13), (⟨"ImageReaderModel", "fieldOf", "(II)I"⟩, 13), (⟨"ImageReaderModel", "isContext", "(I)Z"⟩, 13), (⟨"ImageReaderModel", "stepObjects", "()I"⟩, 13), (⟨"ImageReaderModel", "isRightObject", "(I)Z"⟩, 13), (⟨"ImageReaderModel", "isMethodContext", "(I)Z"⟩, 13)]
theorem lw_r3 : ∀ q ∈ lw_privs_3, lw_okq q := List.forall_mem_cons.mpr ⟨lw_p32, List.forall_mem_cons.mpr ⟨lw_p33, List.forall_mem_cons.mpr ⟨lw_p34, List.forall_mem_cons.mpr ⟨lw_p35, List.forall_mem_cons.mpr ⟨lw_p36, List.forall_mem_cons.mpr ⟨lw_p37, List.forall_mem_cons.mpr ⟨lw_p38, List.forall_mem_cons.mpr ⟨lw_p39, List.forall_mem_cons.mpr ⟨lw_p40, List.forall_mem_cons.mpr ⟨lw_p41, List.forall_mem_cons.mpr ⟨lw_p42, List.forall_mem_cons.mpr ⟨lw_p43, List.forall_mem_cons.mpr ⟨lw_p44, List.forall_mem_cons.mpr ⟨lw_p45, List.forall_mem_cons.mpr ⟨lw_p46, List.forall_mem_cons.mpr ⟨lw_p47, fun _ h => absurd h List.not_mem_nil⟩⟩⟩⟩⟩⟩⟩⟩⟩⟩⟩⟩⟩⟩⟩⟩
theorem lw_p48 : lw_okq (⟨"ImageReaderModel", "isMethod", "(I)Z"⟩, 13) := ⟨⟨by decide +kernel, by decide +kernel⟩, List.mem_of_getElem? (i := 619) (by decide +kernel), List.mem_of_getElem? (i := 772) (by decide +kernel), List.mem_of_getElem? (i := 773) (by decide +kernel)⟩
theorem lw_p49 : lw_okq (⟨"ImageReaderModel", "temporaries", "(I)I"⟩, 13) := ⟨⟨by decide +kernel, by decide +kernel⟩, List.mem_of_getElem? (i := 619) (by decide +kernel), List.mem_of_getElem? (i := 777) (by decide +kernel), List.mem_of_getElem? (i := 778) (by decide +kernel)⟩
theorem lw_p50 : lw_okq (⟨"ImageReaderModel", "depth", "(I)I"⟩, 13) := ⟨⟨by decide +kernel, by decide +kernel⟩, List.mem_of_getElem? (i := 619) (by decide +kernel), List.mem_of_getElem? (i := 781) (by decide +kernel), List.mem_of_getElem? (i := 782) (by decide +kernel)⟩
theorem lw_p51 : lw_okq (⟨"ImageReaderModel", "isNumberFrom", "(III)Z"⟩, 13) := ⟨⟨by decide +kernel, by decide +kernel⟩, List.mem_of_getElem? (i := 619) (by decide +kernel), List.mem_of_getElem? (i := 785) (by decide +kernel), List.mem_of_getElem? (i := 786) (by decide +kernel)⟩
theorem lw_p52 : lw_okq (⟨"ImageReaderModel", "isCommon", "(II)Z"⟩, 13) := ⟨⟨by decide +kernel, by decide +kernel⟩, List.mem_of_getElem? (i := 619) (by decide +kernel), List.mem_of_getElem? (i := 789) (by decide +kernel), List.mem_of_getElem? (i := 790) (by decide +kernel)⟩
theorem lw_p53 : lw_okq (⟨"ImageReaderModel", "isBlockContext", "(I)Z"⟩, 13) := ⟨⟨by decide +kernel, by decide +kernel⟩, List.mem_of_getElem? (i := 619) (by decide +kernel), List.mem_of_getElem? (i := 794) (by decide +kernel), List.mem_of_getElem? (i := 795) (by decide +kernel)⟩
theorem lw_p54 : lw_okq (⟨"ImageReaderModel", "stepProcess", "()I"⟩, 13) := ⟨⟨by decide +kernel, by decide +kernel⟩, List.mem_of_getElem? (i := 619) (by decide +kernel), List.mem_of_getElem? (i := 798) (by decide +kernel), List.mem_of_getElem? (i := 799) (by decide +kernel)⟩
theorem lw_p55 : lw_okq (⟨"ImageReaderModel", "isThere", "(I)Z"⟩, 13) := ⟨⟨by decide +kernel, by decide +kernel⟩, List.mem_of_getElem? (i := 619) (by decide +kernel), List.mem_of_getElem? (i := 824) (by decide +kernel), List.mem_of_getElem? (i := 825) (by decide +kernel)⟩
theorem lw_p56 : lw_okq (⟨"ImageReaderModel", "reachAll", "()V"⟩, 13) := ⟨⟨by decide +kernel, by decide +kernel⟩, List.mem_of_getElem? (i := 619) (by decide +kernel), List.mem_of_getElem? (i := 848) (by decide +kernel), List.mem_of_getElem? (i := 849) (by decide +kernel)⟩
theorem lw_p57 : lw_okq (⟨"ImageReaderModel", "reach", "(I)V"⟩, 13) := ⟨⟨by decide +kernel, by decide +kernel⟩, List.mem_of_getElem? (i := 619) (by decide +kernel), List.mem_of_getElem? (i := 852) (by decide +kernel), List.mem_of_getElem? (i := 853) (by decide +kernel)⟩
theorem lw_p58 : lw_okq (⟨"ImageReaderModel", "put", "(II)V"⟩, 13) := ⟨⟨by decide +kernel, by decide +kernel⟩, List.mem_of_getElem? (i := 619) (by decide +kernel), List.mem_of_getElem? (i := 860) (by decide +kernel), List.mem_of_getElem? (i := 861) (by decide +kernel)⟩
theorem lw_p59 : lw_okq (⟨"ImageReaderModel", "renumbered", "(I)I"⟩, 13) := ⟨⟨by decide +kernel, by decide +kernel⟩, List.mem_of_getElem? (i := 619) (by decide +kernel), List.mem_of_getElem? (i := 864) (by decide +kernel), List.mem_of_getElem? (i := 865) (by decide +kernel)⟩
theorem lw_p60 : lw_okq (⟨"ImageReaderModel", "goes", "(II)Z"⟩, 13) := ⟨⟨by decide +kernel, by decide +kernel⟩, List.mem_of_getElem? (i := 619) (by decide +kernel), List.mem_of_getElem? (i := 876) (by decide +kernel), List.mem_of_getElem? (i := 877) (by decide +kernel)⟩
theorem lw_p61 : lw_okq (⟨"ImageReaderModel", "goTogether", "(I)Z"⟩, 13) := ⟨⟨by decide +kernel, by decide +kernel⟩, List.mem_of_getElem? (i := 619) (by decide +kernel), List.mem_of_getElem? (i := 880) (by decide +kernel), List.mem_of_getElem? (i := 881) (by decide +kernel)⟩
def lw_privs_4 : List (MethodName × Nat) := [(⟨"ImageReaderModel", "isMethod", "(I)Z"⟩, 13), (⟨"ImageReaderModel", "temporaries", "(I)I"⟩, 13), (⟨"ImageReaderModel", "depth", "(I)I"⟩, 13), (⟨"ImageReaderModel", "isNumberFrom", "(III)Z"⟩, 13), (⟨"ImageReaderModel", "isCommon", "(II)Z"⟩, 13), (⟨"ImageReaderModel", "isBlockContext", "(I)Z"⟩, 13), (⟨"ImageReaderModel", "stepProcess", "()I"⟩, 13), (⟨"ImageReaderModel", "isThere", "(I)Z"⟩, 13), (⟨"ImageReaderModel", "reachAll", "()V"⟩, 13), (⟨"ImageReaderModel", "reach", "(I)V"⟩, 13), (⟨"ImageReaderModel", "put", "(II)V"⟩, 13), (⟨"ImageReaderModel", "renumbered", "(I)I"⟩, 13), (⟨"ImageReaderModel", "goes", "(II)Z"⟩, 13), (⟨"ImageReaderModel", "goTogether", "(I)Z"⟩, 13)]
theorem lw_r4 : ∀ q ∈ lw_privs_4, lw_okq q := List.forall_mem_cons.mpr ⟨lw_p48, List.forall_mem_cons.mpr ⟨lw_p49, List.forall_mem_cons.mpr ⟨lw_p50, List.forall_mem_cons.mpr ⟨lw_p51, List.forall_mem_cons.mpr ⟨lw_p52, List.forall_mem_cons.mpr ⟨lw_p53, List.forall_mem_cons.mpr ⟨lw_p54, List.forall_mem_cons.mpr ⟨lw_p55, List.forall_mem_cons.mpr ⟨lw_p56, List.forall_mem_cons.mpr ⟨lw_p57, List.forall_mem_cons.mpr ⟨lw_p58, List.forall_mem_cons.mpr ⟨lw_p59, List.forall_mem_cons.mpr ⟨lw_p60, List.forall_mem_cons.mpr ⟨lw_p61, fun _ h => absurd h List.not_mem_nil⟩⟩⟩⟩⟩⟩⟩⟩⟩⟩⟩⟩⟩⟩
def lw_privs : List (MethodName × Nat) := lw_privs_1 ++ (lw_privs_2 ++ (lw_privs_3 ++ (lw_privs_4)))
def lw_tbl : List Cond := k2_sels lw_privs ++ tables_1
theorem lw_privs_ok : ∀ q ∈ lw_privs, lw_okq q := by
  show ∀ q ∈ lw_privs_1 ++ (lw_privs_2 ++ (lw_privs_3 ++ (lw_privs_4))), lw_okq q
  exact List.forall_mem_append.mpr ⟨lw_r1, List.forall_mem_append.mpr ⟨lw_r2, List.forall_mem_append.mpr ⟨lw_r3, lw_r4⟩⟩⟩

/-! ===== names ===== -/
def F_R : u_T := fun k => match k with
  | 0 => ("ImageReader", "incoming", "LImageReader$Bytes;", true)
  | 1 => ("ImageReader", "first", "LImageReader$Image;", true)
  | 2 => ("ImageReader", "second", "LImageReader$Image;", true)
  | 3 => ("ImageReader", "third", "LImageReader$Image;", true)
  | 4 => ("ImageReader", "walk", "LImageReader$Walk;", true)
  | 5 => ("ImageReader", "pairing", "LImageReader$Pairing;", true)
  | 6 => ("ImageReader", "hand", "LImageReader$Image;", false)
  | _ => ("ImageReader", "kept", "LImageReader$Image;", false)
def t_R : Nat → FieldType := fun k => match k with
  | 0 => .object "ImageReader$Bytes"
  | 1 => .object "ImageReader$Image"
  | 2 => .object "ImageReader$Image"
  | 3 => .object "ImageReader$Image"
  | 4 => .object "ImageReader$Walk"
  | 5 => .object "ImageReader$Pairing"
  | 6 => .object "ImageReader$Image"
  | _ => .object "ImageReader$Image"
theorem n_R : ∀ a, a < 8 → ∀ b, b < 8 → a ≠ b → (F_R a).2.1 ≠ (F_R b).2.1 := by decide +kernel
theorem t_R_ok : ∀ k, k < 8 → parseFieldDescriptor (F_R k).2.2.1 = some (t_R k) := by decide +kernel
def F_B : u_T := fun k => match k with
  | 0 => ("ImageReader$Bytes", "row", "[B", false)
  | _ => ("ImageReader$Bytes", "length", "I", false)
def t_B : Nat → FieldType := fun k => match k with
  | 0 => .array .byte
  | _ => .int
theorem n_B : ∀ a, a < 2 → ∀ b, b < 2 → a ≠ b → (F_B a).2.1 ≠ (F_B b).2.1 := by decide +kernel
theorem t_B_ok : ∀ k, k < 2 → parseFieldDescriptor (F_B k).2.2.1 = some (t_B k) := by decide +kernel
def F_I : u_T := fun k => match k with
  | 0 => ("ImageReader$Image", "specials", "[I", true)
  | 1 => ("ImageReader$Image", "classes", "[I", false)
  | 2 => ("ImageReader$Image", "kinds", "[I", false)
  | 3 => ("ImageReader$Image", "sizes", "[I", false)
  | 4 => ("ImageReader$Image", "starts", "[I", false)
  | 5 => ("ImageReader$Image", "parts", "[I", false)
  | 6 => ("ImageReader$Image", "used", "I", false)
  | 7 => ("ImageReader$Image", "count", "I", false)
  | 8 => ("ImageReader$Image", "words", "I", false)
  | 9 => ("ImageReader$Image", "wordsPower", "I", false)
  | _ => ("ImageReader$Image", "countPower", "I", false)
def t_I : Nat → FieldType := fun k => match k with
  | 0 => .array .int
  | 1 => .array .int
  | 2 => .array .int
  | 3 => .array .int
  | 4 => .array .int
  | 5 => .array .int
  | 6 => .int
  | 7 => .int
  | 8 => .int
  | 9 => .int
  | _ => .int
theorem n_I : ∀ a, a < 11 → ∀ b, b < 11 → a ≠ b → (F_I a).2.1 ≠ (F_I b).2.1 := by decide +kernel
theorem t_I_ok : ∀ k, k < 11 → parseFieldDescriptor (F_I k).2.2.1 = some (t_I k) := by decide +kernel
def F_W : u_T := fun k => match k with
  | 0 => ("ImageReader$Walk", "numbers", "[I", false)
  | 1 => ("ImageReader$Walk", "queue", "[I", false)
  | _ => ("ImageReader$Walk", "reached", "I", false)
def t_W : Nat → FieldType := fun k => match k with
  | 0 => .array .int
  | 1 => .array .int
  | _ => .int
theorem n_W : ∀ a, a < 3 → ∀ b, b < 3 → a ≠ b → (F_W a).2.1 ≠ (F_W b).2.1 := by decide +kernel
theorem t_W_ok : ∀ k, k < 3 → parseFieldDescriptor (F_W k).2.2.1 = some (t_W k) := by decide +kernel
def F_P : u_T := fun k => match k with
  | 0 => ("ImageReader$Pairing", "partners", "[I", false)
  | 1 => ("ImageReader$Pairing", "partnersBack", "[I", false)
  | 2 => ("ImageReader$Pairing", "queue", "[I", false)
  | _ => ("ImageReader$Pairing", "paired", "I", false)
def t_P : Nat → FieldType := fun k => match k with
  | 0 => .array .int
  | 1 => .array .int
  | 2 => .array .int
  | _ => .int
theorem n_P : ∀ a, a < 4 → ∀ b, b < 4 → a ≠ b → (F_P a).2.1 ≠ (F_P b).2.1 := by decide +kernel
theorem t_P_ok : ∀ k, k < 4 → parseFieldDescriptor (F_P k).2.2.1 = some (t_P k) := by decide +kernel
def F_M : u_T := fun k => match k with
  | 0 => ("ImageReaderModel", "code", "I", false)
  | 1 => ("ImageReaderModel", "in", "[B", true)
  | 2 => ("ImageReaderModel", "count", "I", false)
  | 3 => ("ImageReaderModel", "image", "[B", true)
  | 4 => ("ImageReaderModel", "length", "I", false)
  | 5 => ("ImageReaderModel", "kept", "[B", true)
  | 6 => ("ImageReaderModel", "keptLength", "I", false)
  | 7 => ("ImageReaderModel", "starts", "[I", true)
  | 8 => ("ImageReaderModel", "keptStarts", "[I", true)
  | 9 => ("ImageReaderModel", "reached", "[I", true)
  | 10 => ("ImageReaderModel", "number", "[I", true)
  | 11 => ("ImageReaderModel", "back", "[I", true)
  | _ => ("ImageReaderModel", "many", "I", false)
def t_M : Nat → FieldType := fun k => match k with
  | 0 => .int
  | 1 => .array .byte
  | 2 => .int
  | 3 => .array .byte
  | 4 => .int
  | 5 => .array .byte
  | 6 => .int
  | 7 => .array .int
  | 8 => .array .int
  | 9 => .array .int
  | 10 => .array .int
  | 11 => .array .int
  | _ => .int
theorem n_M : ∀ a, a < 13 → ∀ b, b < 13 → a ≠ b → (F_M a).2.1 ≠ (F_M b).2.1 := by decide +kernel
theorem t_M_ok : ∀ k, k < 13 → parseFieldDescriptor (F_M k).2.2.1 = some (t_M k) := by decide +kernel
abbrev classes : List vw_C := [("ImageReader", F_R, 8), ("ImageReader$Bytes", F_B, 2), ("ImageReader$Image", F_I, 11), ("ImageReader$Walk", F_W, 3), ("ImageReader$Pairing", F_P, 4), ("ImageReaderModel", F_M, 13)]
def av_okw (w : Cond) : Bool := (w.onTables && w.keeps) || (match w with | .arrayClass _ => true | _ => false)
def av_isn (w : Cond) : Bool := match w with | .fieldLinkNest _ _ _ _ _ _ => true | .methodLinkNest _ _ _ _ => true | _ => false
def av_tb : List Cond := lw_tbl.filter av_okw
def av_nw : List Cond := lw_tbl.filter av_isn
theorem av_tb_ok : ∀ w ∈ av_tb, (w.onTables && w.keeps) = true ∨ ∃ ty, w = .arrayClass ty := by
  intro w hw
  have h := (List.mem_filter.mp hw).2
  unfold av_okw at h
  rw [Bool.or_eq_true] at h
  rcases h with h | h
  · exact Or.inl h
  · split at h
    · exact Or.inr ⟨_, rfl⟩
    · cases h
theorem av_nw_ok : ∀ w ∈ av_nw, (∃ (a : String) (i : Nat) (b n d x : String), w = .fieldLinkNest a i b n d x) ∨ ∃ (a : String) (i : Nat) (y : MethodName) (x : String), w = .methodLinkNest a i y x := by
  intro w hw
  have h := (List.mem_filter.mp hw).2
  unfold av_isn at h
  split at h
  · exact Or.inl ⟨_, _, _, _, _, _, rfl⟩
  · exact Or.inr ⟨_, _, _, _, rfl⟩
  · cases h
def av_tys (dA : Nat → ClassId) : List (ClassId × FieldType) := [(dA 0, .int), (dA 1, .byte), (dA 2, .long)]
def av_t (t : Nat) : FieldType := match t with
  | 0 => .int
  | 1 => .byte
  | _ => .long
def hd_lo (j : Nat) : Int32 := match j with
  | 0 => 77
  | 1 => 77
  | 2 => 1
  | 3 => 0
  | 4 => 12
  | _ => 10
def hd_hi (j : Nat) : Int32 := match j with
  | 0 => 77
  | 1 => 77
  | 2 => 1
  | 3 => 0
  | 4 => 18
  | _ => 14
/-- the two static tables, at tb 0 and tb 1 -/
def av_St (tb : Nat → Nat) (A : Nat → Prop) (U : State) (H : Heap) : Prop :=
  (va_Z "ImageReader" "HEAD_LOWEST" "[I" (.ref (tb 0)) A U H ∧ va_T .int (tb 0) 6 (fun j => .int (hd_lo j)) A U H) ∧ (va_Z "ImageReader" "HEAD_HIGHEST" "[I" (.ref (tb 1)) A U H ∧ va_T .int (tb 1) 6 (fun j => .int (hd_hi j)) A U H)
theorem av_St.moved {tb : Nat → Nat} {A : Nat → Prop} {u U : State} {H : Heap} (hvm : u.vm.Alike U.vm) (h : av_St tb A u H) : av_St tb A U H := ⟨⟨h.1.1.moved hvm, h.1.2.moved hvm⟩, ⟨h.2.1.moved hvm, h.2.2.moved hvm⟩⟩
theorem av_St.kept {tb : Nat → Nat} {A : Nat → Prop} {U : State} {H H1 : Heap} (h : av_St tb A U H) (hq : ∀ a : Nat, a < H.size → ¬ A a → H1[a]? = H[a]?) : av_St tb A U H1 := ⟨⟨h.1.1.kept hq, h.1.2.kept hq⟩, ⟨h.2.1.kept hq, h.2.2.kept hq⟩⟩
theorem av_St.narrow {tb : Nat → Nat} {A B : Nat → Prop} {U : State} {H : Heap} (h : av_St tb A U H) (hAB : ∀ q, B q → A q) : av_St tb B U H := ⟨⟨h.1.1.narrow hAB, h.1.2.narrow hAB⟩, ⟨h.2.1.narrow hAB, h.2.2.narrow hAB⟩⟩
theorem i_R : ∀ w ∈ u_ws "ImageReader" F_R 8, w ∈ av_tb := by decide +kernel
theorem i_B : ∀ w ∈ u_ws "ImageReader$Bytes" F_B 2, w ∈ av_tb := by decide +kernel
theorem i_I : ∀ w ∈ u_ws "ImageReader$Image" F_I 11, w ∈ av_tb := by decide +kernel
theorem i_W : ∀ w ∈ u_ws "ImageReader$Walk" F_W 3, w ∈ av_tb := by decide +kernel
theorem i_P : ∀ w ∈ u_ws "ImageReader$Pairing" F_P 4, w ∈ av_tb := by decide +kernel
theorem i_M : ∀ w ∈ u_ws "ImageReaderModel" F_M 13, w ∈ av_tb := by decide +kernel
abbrev b_R_init : ByteArray := prog_1_method_1_code
abbrev y_R_init : MethodName := ⟨"ImageReader", "<init>", "()V"⟩
abbrev b_B_init : ByteArray := prog_2_method_1_code
abbrev y_B_init : MethodName := ⟨"ImageReader$Bytes", "<init>", "()V"⟩
abbrev b_I_init : ByteArray := prog_4_method_1_code
abbrev y_I_init : MethodName := ⟨"ImageReader$Image", "<init>", "()V"⟩
abbrev b_W_init : ByteArray := prog_7_method_1_code
abbrev y_W_init : MethodName := ⟨"ImageReader$Walk", "<init>", "()V"⟩
abbrev b_P_init : ByteArray := prog_6_method_1_code
abbrev y_P_init : MethodName := ⟨"ImageReader$Pairing", "<init>", "()V"⟩
abbrev b_R_change : ByteArray := prog_1_method_4_code
abbrev y_R_change : MethodName := ⟨"ImageReader", "change", "(II)I"⟩
abbrev b_B_at : ByteArray := prog_2_method_2_code
abbrev y_B_at : MethodName := ⟨"ImageReader$Bytes", "at", "(I)I"⟩
abbrev b_R_read : ByteArray := prog_1_method_5_code
abbrev y_R_read : MethodName := ⟨"ImageReader", "read", "()I"⟩
abbrev b_R_spareImage : ByteArray := prog_1_method_19_code
abbrev y_R_spareImage : MethodName := ⟨"ImageReader", "spareImage", "()LImageReader$Image;"⟩
abbrev b_R_placeOfRefusal : ByteArray := prog_1_method_20_code
abbrev y_R_placeOfRefusal : MethodName := ⟨"ImageReader", "placeOfRefusal", "(LImageReader$Image;)I"⟩
abbrev b_L_headPlace : ByteArray := prog_5_method_2_code
abbrev y_L_headPlace : MethodName := ⟨"ImageReader$Layout", "headPlace", "(LImageReader$Bytes;)I"⟩
abbrev b_B_reaches : ByteArray := prog_2_method_3_code
abbrev y_B_reaches : MethodName := ⟨"ImageReader$Bytes", "reaches", "(II)Z"⟩
abbrev b_B_pairAt : ByteArray := prog_2_method_4_code
abbrev y_B_pairAt : MethodName := ⟨"ImageReader$Bytes", "pairAt", "(I)I"⟩
abbrev b_L_takeSpecials : ByteArray := prog_5_method_3_code
abbrev y_L_takeSpecials : MethodName := ⟨"ImageReader$Layout", "takeSpecials", "(LImageReader$Bytes;LImageReader$Image;)I"⟩
abbrev b_I_clear : ByteArray := prog_4_method_2_code
abbrev y_I_clear : MethodName := ⟨"ImageReader$Image", "clear", "()V"⟩
abbrev b_L_isValueAt : ByteArray := prog_5_method_9_code
abbrev y_L_isValueAt : MethodName := ⟨"ImageReader$Layout", "isValueAt", "(LImageReader$Bytes;II)Z"⟩
abbrev b_B_wordAt : ByteArray := prog_2_method_5_code
abbrev y_B_wordAt : MethodName := ⟨"ImageReader$Bytes", "wordAt", "(I)I"⟩
abbrev b_R_isNumber : ByteArray := prog_1_method_23_code
abbrev y_R_isNumber : MethodName := ⟨"ImageReader", "isNumber", "(I)Z"⟩
abbrev b_L_takeObjects : ByteArray := prog_5_method_4_code
abbrev y_L_takeObjects : MethodName := ⟨"ImageReader$Layout", "takeObjects", "(LImageReader$Bytes;LImageReader$Image;)I"⟩
abbrev b_L_objectHeadPlace : ByteArray := prog_5_method_5_code
abbrev y_L_objectHeadPlace : MethodName := ⟨"ImageReader$Layout", "objectHeadPlace", "(LImageReader$Bytes;II)I"⟩
abbrev b_I_addObject : ByteArray := prog_4_method_3_code
abbrev y_I_addObject : MethodName := ⟨"ImageReader$Image", "addObject", "(III)V"⟩
abbrev b_A_copyOf_aII : ByteArray := prog_19_method_123_code
abbrev y_A_copyOf_aII : MethodName := ⟨"java/util/Arrays", "copyOf", "([II)[I"⟩
abbrev b_Mt_min : ByteArray := prog_14_method_69_code
abbrev y_Mt_min : MethodName := ⟨"java/lang/Math", "min", "(II)I"⟩
abbrev b_L_takeBytes : ByteArray := prog_5_method_6_code
abbrev y_L_takeBytes : MethodName := ⟨"ImageReader$Layout", "takeBytes", "(LImageReader$Bytes;IILImageReader$Image;)I"⟩
abbrev b_I_addPart : ByteArray := prog_4_method_4_code
abbrev y_I_addPart : MethodName := ⟨"ImageReader$Image", "addPart", "(I)V"⟩
abbrev b_L_takeFields : ByteArray := prog_5_method_7_code
abbrev y_L_takeFields : MethodName := ⟨"ImageReader$Layout", "takeFields", "(LImageReader$Bytes;IIILImageReader$Image;)I"⟩
abbrev b_L_bodyLength : ByteArray := prog_5_method_8_code
abbrev y_L_bodyLength : MethodName := ⟨"ImageReader$Layout", "bodyLength", "(II)I"⟩
abbrev b_F_roomPlace : ByteArray := prog_3_method_2_code
abbrev y_F_roomPlace : MethodName := ⟨"ImageReader$Form", "roomPlace", "(LImageReader$Image;)I"⟩
abbrev b_F_specialsPlace : ByteArray := prog_3_method_3_code
abbrev y_F_specialsPlace : MethodName := ⟨"ImageReader$Form", "specialsPlace", "(LImageReader$Image;)I"⟩
abbrev b_F_isSpecialFit : ByteArray := prog_3_method_4_code
abbrev y_F_isSpecialFit : MethodName := ⟨"ImageReader$Form", "isSpecialFit", "(LImageReader$Image;I)Z"⟩
abbrev b_I_specialAt : ByteArray := prog_4_method_7_code
abbrev y_I_specialAt : MethodName := ⟨"ImageReader$Image", "specialAt", "(I)I"⟩
abbrev b_I_objectOf : ByteArray := prog_4_method_6_code
abbrev y_I_objectOf : MethodName := ⟨"ImageReader$Image", "objectOf", "(I)I"⟩
abbrev b_I_holds : ByteArray := prog_4_method_5_code
abbrev y_I_holds : MethodName := ⟨"ImageReader$Image", "holds", "(I)Z"⟩
abbrev b_F_isNewSince : ByteArray := prog_3_method_5_code
abbrev y_F_isNewSince : MethodName := ⟨"ImageReader$Form", "isNewSince", "(LImageReader$Image;II)Z"⟩
abbrev b_F_isClass : ByteArray := prog_3_method_13_code
abbrev y_F_isClass : MethodName := ⟨"ImageReader$Form", "isClass", "(LImageReader$Image;I)Z"⟩
abbrev b_I_fieldAt : ByteArray := prog_4_method_11_code
abbrev y_I_fieldAt : MethodName := ⟨"ImageReader$Image", "fieldAt", "(II)I"⟩
abbrev b_I_hasPart : ByteArray := prog_4_method_13_code
abbrev y_I_hasPart : MethodName := ⟨"ImageReader$Image", "hasPart", "(II)Z"⟩
abbrev b_I_fieldCount : ByteArray := prog_4_method_10_code
abbrev y_I_fieldCount : MethodName := ⟨"ImageReader$Image", "fieldCount", "(I)I"⟩
abbrev b_R_numberOf : ByteArray := prog_1_method_25_code
abbrev y_R_numberOf : MethodName := ⟨"ImageReader", "numberOf", "(I)I"⟩
abbrev b_F_isPlain : ByteArray := prog_3_method_18_code
abbrev y_F_isPlain : MethodName := ⟨"ImageReader$Form", "isPlain", "(LImageReader$Image;II)Z"⟩
abbrev b_I_isContext : ByteArray := prog_4_method_15_code
abbrev y_I_isContext : MethodName := ⟨"ImageReader$Image", "isContext", "(I)Z"⟩
abbrev b_I_isOfSpecialClass : ByteArray := prog_4_method_14_code
abbrev y_I_isOfSpecialClass : MethodName := ⟨"ImageReader$Image", "isOfSpecialClass", "(II)Z"⟩
abbrev b_F_objectsPlace : ByteArray := prog_3_method_6_code
abbrev y_F_objectsPlace : MethodName := ⟨"ImageReader$Form", "objectsPlace", "(LImageReader$Image;)I"⟩
abbrev b_F_hasFitClass : ByteArray := prog_3_method_7_code
abbrev y_F_hasFitClass : MethodName := ⟨"ImageReader$Form", "hasFitClass", "(LImageReader$Image;I)Z"⟩
abbrev b_I_classAt : ByteArray := prog_4_method_8_code
abbrev y_I_classAt : MethodName := ⟨"ImageReader$Image", "classAt", "(I)I"⟩
abbrev b_I_isOfBytes : ByteArray := prog_4_method_9_code
abbrev y_I_isOfBytes : MethodName := ⟨"ImageReader$Image", "isOfBytes", "(I)Z"⟩
abbrev b_F_isMethodContext : ByteArray := prog_3_method_8_code
abbrev y_F_isMethodContext : MethodName := ⟨"ImageReader$Form", "isMethodContext", "(LImageReader$Image;I)Z"⟩
abbrev b_F_isMethod : ByteArray := prog_3_method_14_code
abbrev y_F_isMethod : MethodName := ⟨"ImageReader$Form", "isMethod", "(LImageReader$Image;I)Z"⟩
abbrev b_R_isNumberWithin : ByteArray := prog_1_method_24_code
abbrev y_R_isNumberWithin : MethodName := ⟨"ImageReader", "isNumberWithin", "(III)Z"⟩
abbrev b_F_temporariesOf : ByteArray := prog_3_method_16_code
abbrev y_F_temporariesOf : MethodName := ⟨"ImageReader$Form", "temporariesOf", "(I)I"⟩
abbrev b_F_argumentsOf : ByteArray := prog_3_method_15_code
abbrev y_F_argumentsOf : MethodName := ⟨"ImageReader$Form", "argumentsOf", "(I)I"⟩
abbrev b_F_depthOf : ByteArray := prog_3_method_17_code
abbrev y_F_depthOf : MethodName := ⟨"ImageReader$Form", "depthOf", "(I)I"⟩
abbrev b_F_areLinksFit : ByteArray := prog_3_method_10_code
abbrev y_F_areLinksFit : MethodName := ⟨"ImageReader$Form", "areLinksFit", "(LImageReader$Image;I)Z"⟩
abbrev b_F_isNilOrCounting : ByteArray := prog_3_method_11_code
abbrev y_F_isNilOrCounting : MethodName := ⟨"ImageReader$Form", "isNilOrCounting", "(I)Z"⟩
abbrev b_F_isNilFrom : ByteArray := prog_3_method_12_code
abbrev y_F_isNilFrom : MethodName := ⟨"ImageReader$Form", "isNilFrom", "(LImageReader$Image;II)Z"⟩
abbrev b_F_isBlockContext : ByteArray := prog_3_method_9_code
abbrev y_F_isBlockContext : MethodName := ⟨"ImageReader$Form", "isBlockContext", "(LImageReader$Image;I)Z"⟩
abbrev b_F_schedulerPlace : ByteArray := prog_3_method_19_code
abbrev y_F_schedulerPlace : MethodName := ⟨"ImageReader$Form", "schedulerPlace", "(LImageReader$Image;)I"⟩
abbrev b_F_areListsFit : ByteArray := prog_3_method_20_code
abbrev y_F_areListsFit : MethodName := ⟨"ImageReader$Form", "areListsFit", "(LImageReader$Image;I)Z"⟩
abbrev b_F_isProcessFit : ByteArray := prog_3_method_21_code
abbrev y_F_isProcessFit : MethodName := ⟨"ImageReader$Form", "isProcessFit", "(LImageReader$Image;I)Z"⟩
abbrev b_R_objects : ByteArray := prog_1_method_6_code
abbrev y_R_objects : MethodName := ⟨"ImageReader", "objects", "()I"⟩
abbrev b_R_words : ByteArray := prog_1_method_7_code
abbrev y_R_words : MethodName := ⟨"ImageReader", "words", "()I"⟩
abbrev b_R_special : ByteArray := prog_1_method_8_code
abbrev y_R_special : MethodName := ⟨"ImageReader", "special", "(I)I"⟩
abbrev b_R_kind : ByteArray := prog_1_method_9_code
abbrev y_R_kind : MethodName := ⟨"ImageReader", "kind", "(I)I"⟩
abbrev b_R_classOf : ByteArray := prog_1_method_10_code
abbrev y_R_classOf : MethodName := ⟨"ImageReader", "classOf", "(I)I"⟩
abbrev b_R_size : ByteArray := prog_1_method_11_code
abbrev y_R_size : MethodName := ⟨"ImageReader", "size", "(I)I"⟩
abbrev b_R_field : ByteArray := prog_1_method_12_code
abbrev y_R_field : MethodName := ⟨"ImageReader", "field", "(II)I"⟩
abbrev b_R_byteAt : ByteArray := prog_1_method_13_code
abbrev y_R_byteAt : MethodName := ⟨"ImageReader", "byteAt", "(II)I"⟩
abbrev b_I_bodyByteAt : ByteArray := prog_4_method_12_code
abbrev y_I_bodyByteAt : MethodName := ⟨"ImageReader$Image", "bodyByteAt", "(II)I"⟩
abbrev b_R_reachable : ByteArray := prog_1_method_14_code
abbrev y_R_reachable : MethodName := ⟨"ImageReader", "reachable", "()I"⟩
abbrev b_W_reach : ByteArray := prog_7_method_2_code
abbrev y_W_reach : MethodName := ⟨"ImageReader$Walk", "reach", "(LImageReader$Image;)I"⟩
abbrev b_W_clear : ByteArray := prog_7_method_3_code
abbrev y_W_clear : MethodName := ⟨"ImageReader$Walk", "clear", "(LImageReader$Image;)V"⟩
abbrev b_A_fill : ByteArray := prog_19_method_103_code
abbrev y_A_fill : MethodName := ⟨"java/util/Arrays", "fill", "([II)V"⟩
abbrev b_W_visit : ByteArray := prog_7_method_4_code
abbrev y_W_visit : MethodName := ⟨"ImageReader$Walk", "visit", "(I)V"⟩
abbrev b_R_write : ByteArray := prog_1_method_15_code
abbrev y_R_write : MethodName := ⟨"ImageReader", "write", "()I"⟩
abbrev b_W_numberAnew : ByteArray := prog_7_method_5_code
abbrev y_W_numberAnew : MethodName := ⟨"ImageReader$Walk", "numberAnew", "(LImageReader$Image;)V"⟩
abbrev b_R_writeHead : ByteArray := prog_1_method_21_code
abbrev y_R_writeHead : MethodName := ⟨"ImageReader", "writeHead", "(I)V"⟩
abbrev b_B_add : ByteArray := prog_2_method_6_code
abbrev y_B_add : MethodName := ⟨"ImageReader$Bytes", "add", "(I)V"⟩
abbrev b_A_copyOf_aBI : ByteArray := prog_19_method_121_code
abbrev y_A_copyOf_aBI : MethodName := ⟨"java/util/Arrays", "copyOf", "([BI)[B"⟩
abbrev b_B_addPair : ByteArray := prog_2_method_7_code
abbrev y_B_addPair : MethodName := ⟨"ImageReader$Bytes", "addPair", "(I)V"⟩
abbrev b_W_renumbered : ByteArray := prog_7_method_6_code
abbrev y_W_renumbered : MethodName := ⟨"ImageReader$Walk", "renumbered", "(LImageReader$Image;I)I"⟩
abbrev b_B_addWord : ByteArray := prog_2_method_8_code
abbrev y_B_addWord : MethodName := ⟨"ImageReader$Bytes", "addWord", "(I)V"⟩
abbrev b_R_writeObject : ByteArray := prog_1_method_22_code
abbrev y_R_writeObject : MethodName := ⟨"ImageReader", "writeObject", "(I)V"⟩
abbrev b_R_came : ByteArray := prog_1_method_16_code
abbrev y_R_came : MethodName := ⟨"ImageReader", "came", "(I)I"⟩
abbrev b_R_keep : ByteArray := prog_1_method_17_code
abbrev y_R_keep : MethodName := ⟨"ImageReader", "keep", "()Z"⟩
abbrev b_R_same : ByteArray := prog_1_method_18_code
abbrev y_R_same : MethodName := ⟨"ImageReader", "same", "()Z"⟩
abbrev b_P_pairs : ByteArray := prog_6_method_2_code
abbrev y_P_pairs : MethodName := ⟨"ImageReader$Pairing", "pairs", "(LImageReader$Image;LImageReader$Image;)Z"⟩
abbrev b_P_clear : ByteArray := prog_6_method_3_code
abbrev y_P_clear : MethodName := ⟨"ImageReader$Pairing", "clear", "(LImageReader$Image;LImageReader$Image;)V"⟩
abbrev b_Mt_max : ByteArray := prog_14_method_65_code
abbrev y_Mt_max : MethodName := ⟨"java/lang/Math", "max", "(II)I"⟩
abbrev b_P_match : ByteArray := prog_6_method_4_code
abbrev y_P_match : MethodName := ⟨"ImageReader$Pairing", "match", "(LImageReader$Image;ILImageReader$Image;I)Z"⟩
abbrev b_P_matchBodies : ByteArray := prog_6_method_5_code
abbrev y_P_matchBodies : MethodName := ⟨"ImageReader$Pairing", "matchBodies", "(LImageReader$Image;ILImageReader$Image;I)Z"⟩
abbrev b_Law_feed : ByteArray := method_3_code
abbrev y_Law_feed : MethodName := ⟨"ImageReaderLaw", "feed", "(LImageReader;IIIII)I"⟩
abbrev b_R_feed : ByteArray := prog_1_method_2_code
abbrev y_R_feed : MethodName := ⟨"ImageReader", "feed", "(IIIII)V"⟩
abbrev b_Law_end : ByteArray := method_4_code
abbrev y_Law_end : MethodName := ⟨"ImageReaderLaw", "end", "(LImageReader;I[J)I"⟩
abbrev b_R_end : ByteArray := prog_1_method_3_code
abbrev y_R_end : MethodName := ⟨"ImageReader", "end", "(I)I"⟩
abbrev b_M_init : ByteArray := prog_9_method_1_code
abbrev y_M_init : MethodName := ⟨"ImageReaderModel", "<init>", "()V"⟩
abbrev b_M_thrown : ByteArray := prog_9_method_2_code
abbrev y_M_thrown : MethodName := ⟨"ImageReaderModel", "thrown", "()I"⟩
abbrev b_M_feed : ByteArray := prog_9_method_5_code
abbrev y_M_feed : MethodName := ⟨"ImageReaderModel", "feed", "(IIIII)V"⟩
abbrev b_M_end : ByteArray := prog_9_method_6_code
abbrev y_M_end : MethodName := ⟨"ImageReaderModel", "end", "(I)I"⟩
abbrev b_M_change : ByteArray := prog_9_method_7_code
abbrev y_M_change : MethodName := ⟨"ImageReaderModel", "change", "(II)I"⟩
abbrev b_M_came : ByteArray := prog_9_method_8_code
abbrev y_M_came : MethodName := ⟨"ImageReaderModel", "came", "(I)I"⟩
abbrev b_M_read : ByteArray := prog_9_method_39_code
abbrev y_M_read : MethodName := ⟨"ImageReaderModel", "read", "()I"⟩
abbrev b_M_place : ByteArray := prog_9_method_37_code
abbrev y_M_place : MethodName := ⟨"ImageReaderModel", "place", "()I"⟩
abbrev b_M_stepHead : ByteArray := prog_9_method_28_code
abbrev y_M_stepHead : MethodName := ⟨"ImageReaderModel", "stepHead", "()I"⟩
abbrev b_M_objects_aB : ByteArray := prog_9_method_9_code
abbrev y_M_objects_aB : MethodName := ⟨"ImageReaderModel", "objects", "([B)I"⟩
abbrev b_M_half : ByteArray := prog_9_method_4_code
abbrev y_M_half : MethodName := ⟨"ImageReaderModel", "half", "([BI)I"⟩
abbrev b_M_stepValues : ByteArray := prog_9_method_30_code
abbrev y_M_stepValues : MethodName := ⟨"ImageReaderModel", "stepValues", "()I"⟩
abbrev b_M_isValue : ByteArray := prog_9_method_29_code
abbrev y_M_isValue : MethodName := ⟨"ImageReaderModel", "isValue", "(I)Z"⟩
abbrev b_M_word : ByteArray := prog_9_method_3_code
abbrev y_M_word : MethodName := ⟨"ImageReaderModel", "word", "([BI)I"⟩
abbrev b_M_isNumber : ByteArray := prog_9_method_12_code
abbrev y_M_isNumber : MethodName := ⟨"ImageReaderModel", "isNumber", "(I)Z"⟩
abbrev b_M_sizeAt : ByteArray := prog_9_method_14_code
abbrev y_M_sizeAt : MethodName := ⟨"ImageReaderModel", "sizeAt", "([BI)I"⟩
abbrev b_M_isOfBytes : ByteArray := prog_9_method_13_code
abbrev y_M_isOfBytes : MethodName := ⟨"ImageReaderModel", "isOfBytes", "([BI)Z"⟩
abbrev b_M_stepRoom : ByteArray := prog_9_method_32_code
abbrev y_M_stepRoom : MethodName := ⟨"ImageReaderModel", "stepRoom", "()I"⟩
abbrev b_M_wordsOf : ByteArray := prog_9_method_31_code
abbrev y_M_wordsOf : MethodName := ⟨"ImageReaderModel", "wordsOf", "([B[I)I"⟩
abbrev b_M_stepSpecials : ByteArray := prog_9_method_33_code
abbrev y_M_stepSpecials : MethodName := ⟨"ImageReaderModel", "stepSpecials", "()I"⟩
abbrev b_M_special_aBI : ByteArray := prog_9_method_10_code
abbrev y_M_special_aBI : MethodName := ⟨"ImageReaderModel", "special", "([BI)I"⟩
abbrev b_M_isObject : ByteArray := prog_9_method_11_code
abbrev y_M_isObject : MethodName := ⟨"ImageReaderModel", "isObject", "(I)Z"⟩
abbrev b_M_isClass : ByteArray := prog_9_method_20_code
abbrev y_M_isClass : MethodName := ⟨"ImageReaderModel", "isClass", "(I)Z"⟩
abbrev b_M_hasFields : ByteArray := prog_9_method_17_code
abbrev y_M_hasFields : MethodName := ⟨"ImageReaderModel", "hasFields", "(II)Z"⟩
abbrev b_M_fieldOf : ByteArray := prog_9_method_18_code
abbrev y_M_fieldOf : MethodName := ⟨"ImageReaderModel", "fieldOf", "(II)I"⟩
abbrev b_M_fieldAt : ByteArray := prog_9_method_15_code
abbrev y_M_fieldAt : MethodName := ⟨"ImageReaderModel", "fieldAt", "([BII)I"⟩
abbrev b_M_isContext : ByteArray := prog_9_method_19_code
abbrev y_M_isContext : MethodName := ⟨"ImageReaderModel", "isContext", "(I)Z"⟩
abbrev b_M_stepObjects : ByteArray := prog_9_method_35_code
abbrev y_M_stepObjects : MethodName := ⟨"ImageReaderModel", "stepObjects", "()I"⟩
abbrev b_M_isRightObject : ByteArray := prog_9_method_34_code
abbrev y_M_isRightObject : MethodName := ⟨"ImageReaderModel", "isRightObject", "(I)Z"⟩
abbrev b_M_isMethodContext : ByteArray := prog_9_method_26_code
abbrev y_M_isMethodContext : MethodName := ⟨"ImageReaderModel", "isMethodContext", "(I)Z"⟩
abbrev b_M_isMethod : ByteArray := prog_9_method_21_code
abbrev y_M_isMethod : MethodName := ⟨"ImageReaderModel", "isMethod", "(I)Z"⟩
abbrev b_M_temporaries : ByteArray := prog_9_method_22_code
abbrev y_M_temporaries : MethodName := ⟨"ImageReaderModel", "temporaries", "(I)I"⟩
abbrev b_M_depth : ByteArray := prog_9_method_23_code
abbrev y_M_depth : MethodName := ⟨"ImageReaderModel", "depth", "(I)I"⟩
abbrev b_M_isNumberFrom : ByteArray := prog_9_method_24_code
abbrev y_M_isNumberFrom : MethodName := ⟨"ImageReaderModel", "isNumberFrom", "(III)Z"⟩
abbrev b_M_isCommon : ByteArray := prog_9_method_25_code
abbrev y_M_isCommon : MethodName := ⟨"ImageReaderModel", "isCommon", "(II)Z"⟩
abbrev b_M_isBlockContext : ByteArray := prog_9_method_27_code
abbrev y_M_isBlockContext : MethodName := ⟨"ImageReaderModel", "isBlockContext", "(I)Z"⟩
abbrev b_M_stepProcess : ByteArray := prog_9_method_36_code
abbrev y_M_stepProcess : MethodName := ⟨"ImageReaderModel", "stepProcess", "()I"⟩
abbrev b_M_note : ByteArray := prog_9_method_38_code
abbrev y_M_note : MethodName := ⟨"ImageReaderModel", "note", "([B[I)V"⟩
abbrev b_M_endAt : ByteArray := prog_9_method_16_code
abbrev y_M_endAt : MethodName := ⟨"ImageReaderModel", "endAt", "([BI)I"⟩
abbrev b_M_objects_ : ByteArray := prog_9_method_41_code
abbrev y_M_objects_ : MethodName := ⟨"ImageReaderModel", "objects", "()I"⟩
abbrev b_M_words : ByteArray := prog_9_method_42_code
abbrev y_M_words : MethodName := ⟨"ImageReaderModel", "words", "()I"⟩
abbrev b_M_special_I : ByteArray := prog_9_method_43_code
abbrev y_M_special_I : MethodName := ⟨"ImageReaderModel", "special", "(I)I"⟩
abbrev b_M_kind : ByteArray := prog_9_method_44_code
abbrev y_M_kind : MethodName := ⟨"ImageReaderModel", "kind", "(I)I"⟩
abbrev b_M_isThere : ByteArray := prog_9_method_40_code
abbrev y_M_isThere : MethodName := ⟨"ImageReaderModel", "isThere", "(I)Z"⟩
abbrev b_M_classOf : ByteArray := prog_9_method_45_code
abbrev y_M_classOf : MethodName := ⟨"ImageReaderModel", "classOf", "(I)I"⟩
abbrev b_M_size : ByteArray := prog_9_method_46_code
abbrev y_M_size : MethodName := ⟨"ImageReaderModel", "size", "(I)I"⟩
abbrev b_M_field : ByteArray := prog_9_method_47_code
abbrev y_M_field : MethodName := ⟨"ImageReaderModel", "field", "(II)I"⟩
abbrev b_M_byteAt : ByteArray := prog_9_method_48_code
abbrev y_M_byteAt : MethodName := ⟨"ImageReaderModel", "byteAt", "(II)I"⟩
abbrev b_M_reachable : ByteArray := prog_9_method_51_code
abbrev y_M_reachable : MethodName := ⟨"ImageReaderModel", "reachable", "()I"⟩
abbrev b_M_reachAll : ByteArray := prog_9_method_50_code
abbrev y_M_reachAll : MethodName := ⟨"ImageReaderModel", "reachAll", "()V"⟩
abbrev b_M_reach : ByteArray := prog_9_method_49_code
abbrev y_M_reach : MethodName := ⟨"ImageReaderModel", "reach", "(I)V"⟩
abbrev b_M_write : ByteArray := prog_9_method_54_code
abbrev y_M_write : MethodName := ⟨"ImageReaderModel", "write", "()I"⟩
abbrev b_M_put : ByteArray := prog_9_method_52_code
abbrev y_M_put : MethodName := ⟨"ImageReaderModel", "put", "(II)V"⟩
abbrev b_M_renumbered : ByteArray := prog_9_method_53_code
abbrev y_M_renumbered : MethodName := ⟨"ImageReaderModel", "renumbered", "(I)I"⟩
abbrev b_M_keep : ByteArray := prog_9_method_55_code
abbrev y_M_keep : MethodName := ⟨"ImageReaderModel", "keep", "()Z"⟩
abbrev b_M_same : ByteArray := prog_9_method_58_code
abbrev y_M_same : MethodName := ⟨"ImageReaderModel", "same", "()Z"⟩
abbrev b_M_goes : ByteArray := prog_9_method_56_code
abbrev y_M_goes : MethodName := ⟨"ImageReaderModel", "goes", "(II)Z"⟩
abbrev b_M_goTogether : ByteArray := prog_9_method_57_code
abbrev y_M_goTogether : MethodName := ⟨"ImageReaderModel", "goTogether", "(I)Z"⟩
end
section
/-! ===== the light layer: AW, AM ===== -/
abbrev AE : Type := (Nat × vp_A) ⊕ (Nat × List Value)
abbrev AH : Type := Nat → Option AE
def av_e (dA : Nat → ClassId) (e : AE) : va_E := match e with
  | .inl a => .inl (dA a.1, a.2)
  | .inr o => .inr o
def av_up (h : AH) (a : Nat) (e : AE) : AH := fun q => if q = a then some e else h q
theorem av_up_self (h : AH) (a : Nat) (e : AE) : av_up h a e a = some e := by simp [av_up]
theorem av_up_ne {h : AH} {a q : Nat} {e : AE} (hq : q ≠ a) : av_up h a e q = h q := by simp [av_up, hq]
/-- the list of cells is the abstract heap -/
def av_rep (dA : Nat → ClassId) (h : AH) (ws : va_W) : Prop :=
  (∀ (a : Nat) (e : AE), h a = some e → ∃ k : Nat, ws[k]? = some (a, av_e dA e)) ∧ ∀ (k : Nat) (q : Nat × va_E), ws[k]? = some q → ∃ e : AE, h q.1 = some e
theorem av_rep.set {dA : Nat → ClassId} {h : AH} {ws : va_W} (hr : av_rep dA h ws) {k a : Nat} {e0 : va_E} {e : AE} (hk : ws[k]? = some (a, e0)) : av_rep dA (av_up h a e) (ws.set k (a, av_e dA e)) := by
  have hl := (List.getElem?_eq_some_iff.mp hk).1
  refine ⟨fun b e' hb => ?_, fun j q hj => ?_⟩
  · by_cases hba : b = a
    · subst hba
      rw [av_up_self] at hb
      cases hb
      exact ⟨k, List.getElem?_set_self hl⟩
    · rw [av_up_ne hba] at hb
      obtain ⟨j, hj⟩ := hr.1 b e' hb
      have hjk : k ≠ j := fun z => by
        subst z
        rw [hk] at hj
        cases hj
        exact hba rfl
      exact ⟨j, by rw [List.getElem?_set_ne hjk]; exact hj⟩
  · by_cases hq : q.1 = a
    · exact ⟨e, by rw [hq]; exact av_up_self h a e⟩
    · by_cases hjk : k = j
      · subst hjk
        rw [List.getElem?_set_self hl] at hj
        cases hj
        exact absurd rfl hq
      · rw [List.getElem?_set_ne hjk] at hj
        obtain ⟨e', he'⟩ := hr.2 j q hj
        exact ⟨e', by rw [av_up_ne hq]; exact he'⟩
theorem av_rep.push {dA : Nat → ClassId} {h : AH} {ws : va_W} (hr : av_rep dA h ws) {q : Nat} {e : AE} (hf : h q = none) : av_rep dA (av_up h q e) (ws ++ [(q, av_e dA e)]) := by
  refine ⟨fun b e' hb => ?_, fun j x hj => ?_⟩
  · by_cases hba : b = q
    · subst hba
      rw [av_up_self] at hb
      cases hb
      exact ⟨ws.length, by simp⟩
    · rw [av_up_ne hba] at hb
      obtain ⟨j, hj⟩ := hr.1 b e' hb
      exact ⟨j, by rw [List.getElem?_append_left (List.getElem?_eq_some_iff.mp hj).1]; exact hj⟩
  · by_cases hq : x.1 = q
    · exact ⟨e, by rw [hq]; exact av_up_self h q e⟩
    · by_cases hl : j < ws.length
      · rw [List.getElem?_append_left hl] at hj
        obtain ⟨e', he'⟩ := hr.2 j x hj
        exact ⟨e', by rw [av_up_ne hq]; exact he'⟩
      · rw [List.getElem?_append_right (by omega)] at hj
        have hz : j - ws.length < 1 := (List.getElem?_eq_some_iff.mp hj).1
        rw [show j - ws.length = 0 by omega] at hj
        cases hj
        exact absurd rfl hq
theorem av_fresh {dA : Nat → ClassId} {h : AH} {ws : va_W} {A : Nat → Prop} {q : Nat} {e : va_E} (hr : av_rep dA h ws) (hD : va_D A (ws ++ [(q, e)])) : h q = none := by
  cases hq : h q with
  | none => rfl
  | some e' =>
    obtain ⟨k, hk⟩ := hr.1 q e' hq
    have hl := (List.getElem?_eq_some_iff.mp hk).1
    have h1 : (ws ++ [(q, e)])[k]? = some (q, av_e dA e') := by rw [List.getElem?_append_left hl]; exact hk
    have h2 : (ws ++ [(q, e)])[ws.length]? = some (q, e) := by simp
    have h3 := hD.1 _ _ _ _ h1 h2 rfl
    omega
/-- locals: what is known of each -/
def av_prs : Nat → List (Option Value) → List (Nat × Value)
  | _, [] => []
  | k, none :: r => av_prs (k + 1) r
  | k, some v :: r => (k, v) :: av_prs (k + 1) r
theorem av_prs_mem : ∀ (L : List (Option Value)) (k : Nat) (q : Nat × Value), q ∈ av_prs k L ↔ ∃ j : Nat, q.1 = k + j ∧ L[j]? = some (some q.2)
  | [], k, q => by simp [av_prs]
  | none :: r, k, q => by
    rw [av_prs, av_prs_mem r (k + 1) q]
    constructor
    · rintro ⟨j, h1, h2⟩
      exact ⟨j + 1, by omega, by simpa using h2⟩
    · rintro ⟨j, h1, h2⟩
      cases j with
      | zero => simp at h2
      | succ j => exact ⟨j, by omega, by simpa using h2⟩
  | some v :: r, k, q => by
    rw [av_prs, List.mem_cons, av_prs_mem r (k + 1) q]
    constructor
    · rintro (rfl | ⟨j, h1, h2⟩)
      · exact ⟨0, by simp, by simp⟩
      · exact ⟨j + 1, by omega, by simpa using h2⟩
    · rintro ⟨j, h1, h2⟩
      cases j with
      | zero =>
        left
        have h3 : v = q.2 := by simpa using h2
        have h4 : q.1 = k := by simpa using h1
        exact Prod.ext h4 h3.symm
      | succ j => exact Or.inr ⟨j, by omega, by simpa using h2⟩
def av_has (ls : Array Slot) (nL : Nat) (L : List (Option Value)) : Prop := lv_has ls nL (av_prs 0 L)
theorem av_at {ls : Array Slot} {nL i : Nat} {L : List (Option Value)} {v : Value} (hl : av_has ls nL L) (hi : L[i]? = some (some v)) : ls[i]? = some (.val v) := hl.2.2 (i, v) ((av_prs_mem L 0 (i, v)).mpr ⟨i, (Nat.zero_add i).symm, hi⟩)
def av_c1 (L : List (Option Value)) : Bool := L.all (fun o => match o with | none => true | some v => v.category == 1)
theorem av_stored {ls' : Array Slot} {nL i : Nat} {L L' : List (Option Value)} {v : Value} (h : lv_has ls' nL ((i, v) :: (av_prs 0 L).filter (fun q => !(q.1 == i) && !(q.1 + 1 == i && q.2.category == 2)))) (hc : av_c1 L = true) (hL : L.set i (some v) = L') : av_has ls' nL L' := by
  subst hL
  refine ⟨h.1, h.2.1, fun q hq => ?_⟩
  obtain ⟨j, h1, h2⟩ := (av_prs_mem _ _ _).mp hq
  have h1 : q.1 = j := by omega
  by_cases hji : j = i
  · subst hji
    have hlt : j < L.length := by
      have := (List.getElem?_eq_some_iff.mp h2).1
      simpa using this
    rw [List.getElem?_set_self hlt] at h2
    have h3 : v = q.2 := by simpa using h2
    have h4 : q = (j, v) := Prod.ext h1 h3.symm
    rw [h4]
    exact h.2.2 _ List.mem_cons_self
  · rw [List.getElem?_set_ne (fun z => hji z.symm)] at h2
    refine h.2.2 q (List.mem_cons_of_mem _ (List.mem_filter.mpr ⟨(av_prs_mem L 0 q).mpr ⟨j, by omega, h2⟩, ?_⟩))
    have h5 : (some q.2) ∈ L := List.mem_of_getElem? h2
    have h6 := List.all_eq_true.mp hc _ h5
    have h7 : q.2.category = 1 := by simpa using h6
    simp [h1, hji, h7]
/-- what every method may lean on: the classes, the array classes, the nest's links, the static tables (at tb) -/
def av_K (tb : Nat → Nat) (D : va_G) (dA : Nat → ClassId) (A : Nat → Prop) (U : State) : Prop := va_K D classes (av_tys dA) U ∧ (∀ w ∈ av_nw, va_Nw w U) ∧ av_St tb A U U.heap
theorem av_nw_on {w : Cond} (h : w ∈ av_nw) : w.onTables = true := by
  rcases av_nw_ok w h with ⟨a, i, b, n, d, x, rfl⟩ | ⟨a, i, y, x, rfl⟩ <;> rfl
theorem av_nw_warm {w : Cond} (h : w ∈ av_nw) {s U : State} (hW : s.WarmedH U.vm) (hz : va_Nw w s) : va_Nw w U := by
  rcases av_nw_ok w h with ⟨a, i, b, n, d, x, rfl⟩ | ⟨a, i, y, x, rfl⟩
  · exact va_Nw.warmF hW hz
  · exact va_Nw.warmM hW hz
theorem av_K.calling {tb : Nat → Nat} {D : va_G} {dA : Nat → ClassId} {A : Nat → Prop} {U : State} {g : JFrame} {mk : MethodId} {a : Array Value} (h : av_K tb D dA A U) : av_K tb D dA A (U.calling g mk a) :=
  ⟨va_K.moved (u := U) (U := U.calling g mk a) (Vm.Alike.refl U.vm) h.1, fun w hw => va_Nw.same (u := U) (U := U.calling g mk a) (av_nw_on hw) rfl (h.2.1 w hw), av_St.moved (Vm.Alike.refl U.vm) h.2.2⟩
theorem av_K.call {tb : Nat → Nat} {D : va_G} {dA : Nat → ClassId} {A B : Nat → Prop} {s U : State} {H : Heap} {locs : List Loc} (h : av_K tb D dA A s) (hS : va_S A s.heap H locs) (hAB : ∀ q, B q → A q) (hU : U.heap = H) (hW : s.WarmedH U.vm) : av_K tb D dA B U := by
  refine ⟨va_K.moved hW.alike h.1, fun w hw => av_nw_warm hw hW (h.2.1 w hw), ?_⟩
  rw [hU]
  exact av_St.narrow (av_St.kept (av_St.moved hW.alike h.2.2) (fun a h1 h2 => hS.2.1 a h1 h2)) hAB
def av_Ret (cc : ByteArray) (ret : Option FieldType) (Post : Option Value → AH → Prop) (p : Program) (l : Launch) (e : Env) (R : Room) (s : State) (m : MethodId) (args : Array Value) (below : List Frame) (meth : Method) (c : Code) (D : va_G) (dA : Nat → ClassId) (A : Nat → Prop) (Q : State → Prop) : Prop :=
  ∀ (H : Heap) (locs : List Loc) (ls : Array Slot) (ws : va_W) (pc : Nat) (v : Option Value) (h : AH) (i : ClassFile.Instr), Post v h → av_rep dA h ws → va_P D classes ws H → va_D A ws → va_S A s.heap H locs → decode cc pc = .ok (i, 1) →
    ((i = .ireturn ∧ ∃ (x : Int32) (rt : FieldType), v = some (.int x) ∧ ret = some rt ∧ narrow rt (.int x) = .int x) ∨ (i = .areturn ∧ ∃ (a : Nat) (rt : FieldType), v = some (.ref a) ∧ ret = some rt ∧ ((∃ n, rt = .object n) ∨ ∃ t, rt = .array t)) ∨ (i = .return_ ∧ v = none ∧ ret = none)) →
    W p l e R s m args below meth c H locs R.cells R.slots Q (F0 m pc ls v.toList)
def av_Fix (tb : Nat → Nat) (own : String) (cc : ByteArray) (nL : Nat) (ret : Option FieldType) (ini : Bool) (sc : Option (Nat × Nat × (Nat → Int32))) (fr lo : Nat) (Post : Option Value → AH → Prop) (p : Program) (l : Launch) (e : Env) (R : Room) (s : State) (m : MethodId) (args : Array Value) (below : List Frame) (meth : Method) (c : Code) (D : va_G) (dA : Nat → ClassId) (A : Nat → Prop) (Q : State → Prop) : Prop :=
  p.tables.exec = Jvm.exec ∧ c.code = cc ∧ c.maxLocals = nL ∧ s.vm.findClass own = some m.cls ∧ (∀ w ∈ av_tb, w.before args s = true) ∧ av_K tb D dA A s ∧ (∀ q, s.heap.size ≤ q → A q) ∧ (ini = true → meth.name = "<init>") ∧ fr ≤ R.frames ∧ lo ≤ R.locals ∧
  (∀ x, sc = some x → va_X x.1 x.2.1 x.2.2 s s.heap ∧ x.1 < s.heap.size ∧ ¬ A x.1) ∧ av_Ret cc ret Post p l e R s m args below meth c D dA A Q
/-- FROM HERE THE METHOD RETURNS, with an answer and a heap that Post allows -/
def AW (tb : Nat → Nat) (own : String) (cc : ByteArray) (nL : Nat) (ret : Option FieldType) (ini : Bool) (sc : Option (Nat × Nat × (Nat → Int32))) (fr lo : Nat) (Post : Option Value → AH → Prop) (pc : Nat) (L : List (Option Value)) (st : List Value) (h : AH) (mc ms : Nat) : Prop :=
  ∀ (p : Program) (l : Launch) (e : Env) (R : Room) (s : State) (m : MethodId) (args : Array Value) (below : List Frame) (meth : Method) (c : Code) (D : va_G) (dA : Nat → ClassId) (A : Nat → Prop) (H : Heap) (locs : List Loc) (cells slots : Nat) (Q : State → Prop) (ls : Array Slot) (ws : va_W),
    av_Fix tb own cc nL ret ini sc fr lo Post p l e R s m args below meth c D dA A Q → av_rep dA h ws → va_P D classes ws H → va_D A ws → va_S A s.heap H locs → av_has ls nL L → cells + mc ≤ R.cells → slots + ms ≤ R.slots →
    W p l e R s m args below meth c H locs cells slots Q (F0 m pc ls st)
def av_AA (h : AH) (sz : Nat) : Nat → Prop := fun q => (∃ e : AE, h q = some e) ∨ sz ≤ q
def av_Pre (tb : Nat → Nat) (D : va_G) (dA : Nat → ClassId) (av : List Value) (h : AH) (sz : Nat) : Array Value → State → Prop := fun v U =>
  v = av.toArray ∧ U.heap.size = sz ∧ (∃ ws : va_W, av_rep dA h ws ∧ va_P D classes ws U.heap ∧ va_D (av_AA h sz) ws) ∧ av_K tb D dA (av_AA h sz) U
def av_QQ (D : va_G) (dA : Nat → ClassId) (A : Nat → Prop) (Post : Option Value → AH → Prop) : Array Value → State → Outcome → State → Prop := fun _ s oc t =>
  (∃ (v : Option Value) (h' : AH) (ws' : va_W), oc = .returned v ∧ Post v h' ∧ av_rep dA h' ws' ∧ va_P D classes ws' t.heap ∧ va_D A ws') ∧ va_F A s t
abbrev av_ws (y : MethodName) (cc : ByteArray) (nL : Nat) (ret : Option FieldType) : List Cond := Cond.code y cc nL ret :: av_tb
/-- A METHOD'S CONTRACT: called with av on the heap h it returns, with an answer and a heap that Post allows; at most mc cells of ms slots are new -/
def AM (tb : Nat → Nat) (y : MethodName) (cc : ByteArray) (nL : Nat) (ret : Option FieldType) (fr lo : Nat) (av : List Value) (h : AH) (mc ms : Nat) (Post : Option Value → AH → Prop) : Prop :=
  ∀ (l : Launch) (D : va_G) (dA : Nat → ClassId) (sz : Nat), Met l y (av_ws y cc nL ret) { frames := fr, cells := mc, slots := ms, locals := lo } (av_Pre tb D dA av h sz) (av_QQ D dA (av_AA h sz) Post) mc ms (av_AA h sz)
theorem am_of {tb : Nat → Nat} {y : MethodName} {cc : ByteArray} {nL : Nat} {ret : Option FieldType} {ini : Bool} {fr lo : Nat} {av : List Value} {h : AH} {mc ms : Nat} {Post : Option Value → AH → Prop} (L : List (Option Value)) (hy : plainName y.cls = true) (hn : ini = true → y.name = "<init>") (hlen : (lg_sl av).length ≤ nL) (hL : av_prs 0 L = lv_args 0 av)
    (body : AW tb y.cls cc nL ret ini none fr lo Post 0 L [] h mc ms) : AM tb y cc nL ret fr lo av h mc ms Post := by
  intro l D dA sz
  refine Met.ofW (cc := cc) (maxL := nL) (ret := ret) hy rfl ?_
  intro p e s m args below meth c s₁ B hml hv
  obtain ⟨rfl, hsz, ⟨ws, hr, hP, hD⟩, hK⟩ := hv
  subst hsz
  have hl := lv_entry av (n := nL) hlen
  rw [lg_entry_eq]
  rw [← hL] at hl
  have hts := atoms_spec (ws := av_ws y cc nL ret) B.pre
  refine body p l e _ s m _ below meth c D dA (av_AA h s.heap.size) s.heap [] 0 0 _ _ ws ⟨B.exec, B.bytes, hml, findClass_of_methodNamed B.named, fun w hw => hts w (List.mem_cons_of_mem _ hw), hK, fun q hq => Or.inr hq, fun hi => (name_of_methodNamed B.named B.method).1.trans (hn hi), Nat.le_refl _, Nat.le_refl _, (fun x hx => by cases hx), ?_⟩ hr hP hD va_S.rf hl (Nat.le_of_eq (Nat.zero_add mc)) (Nat.le_of_eq (Nat.zero_add ms))
  intro H locs ls ws pc v h' i hpost hrep hP hD hS hdec hi
  rcases hi with ⟨rfl, x, rt, rfl, hret, hnw⟩ | ⟨rfl, a, rt, rfl, hret, hrt⟩ | ⟨rfl, rfl, hret⟩
  · exact W.zret B.exec B.bytes (B.returns.trans hret) hnw (fun t ht hW => ⟨⟨_, h', ws, rfl, hpost, hrep, by rw [ht]; exact hP, hD⟩, hS.F ht⟩) hS.2.2 hdec (hlocks := B.notSynchronized)
  · exact W.aret B.exec B.bytes (B.returns.trans hret) hrt (Or.inr ⟨a, rfl⟩) (fun t ht hW => ⟨⟨_, h', ws, rfl, hpost, hrep, by rw [ht]; exact hP, hD⟩, hS.F ht⟩) hS.2.2 hdec (hlocks := B.notSynchronized)
  · exact W.vret B.exec B.bytes (B.returns.trans hret) (fun t ht hW => ⟨⟨_, h', ws, rfl, hpost, hrep, by rw [ht]; exact hP, hD⟩, hS.F ht⟩) hS.2.2 hdec (hlocks := B.notSynchronized)
theorem av_sub {dA : Nat → ClassId} {h : AH} {ws : va_W} {A : Nat → Prop} {H0 H : Heap} {locs : List Loc} (hr : av_rep dA h ws) (hD : va_D A ws) (hS : va_S A H0 H locs) (hA : ∀ q, H0.size ≤ q → A q) : ∀ q, av_AA h H.size q → A q := by
  intro q hq
  rcases hq with ⟨e, he⟩ | hq
  · obtain ⟨k, hk⟩ := hr.1 q e he
    exact hD.2 k _ hk
  · exact hA q (Nat.le_trans hS.1 hq)
theorem av_blind {tb : Nat → Nat} {D : va_G} {dA : Nat → ClassId} {av : List Value} {h : AH} {sz : Nat} : FrameBlind (av_Pre tb D dA av h sz) := fun _ _ _ _ q => ⟨q.1, q.2.1, q.2.2.1, q.2.2.2.calling⟩
theorem av_pre {tb : Nat → Nat} {D : va_G} {dA : Nat → ClassId} {av : List Value} {h : AH} {ws : va_W} {A : Nat → Prop} {s : State} {H : Heap} {locs : List Loc} (hK : av_K tb D dA A s) (hr : av_rep dA h ws) (hP : va_P D classes ws H) (hD : va_D A ws) (hS : va_S A s.heap H locs) (hA : ∀ q, s.heap.size ≤ q → A q) : ∀ U : State, U.heap = H → s.WarmedH U.vm → av_Pre tb D dA av h H.size av.toArray U := by
  intro U hU hW
  refine ⟨rfl, by rw [hU], ⟨ws, hr, by rw [hU]; exact hP, hD.weaken (fun k q hk _ => Or.inl (hr.2 k q hk))⟩, hK.call hS (av_sub hr hD hS hA) hU hW⟩
theorem av_after {p : Program} {l : Launch} {e : Env} {R : Room} {s : State} {m : MethodId} {args : Array Value} {below : List Frame} {meth : Method} {c : Code} {H : Heap} {locs : List Loc} {cells slots : Nat} {Q : State → Prop} {D : va_G} {dA : Nat → ClassId} {A : Nat → Prop} {ws : va_W} {h : AH} {pc : Nat} {ls : Array Slot} {st0 rest : List Value} {a : Array Value} {mc ms : Nat} {Post : Option Value → AH → Prop}
    (hrn : va_Run p l e R s m args below meth c H locs cells slots mc ms (F0 m pc ls st0) rest (av_QQ D dA (av_AA h H.size) Post a) (av_AA h H.size)) (hr : av_rep dA h ws) (hD : va_D A ws) (hS : va_S A s.heap H locs) (hA : ∀ q, s.heap.size ≤ q → A q)
    (kk : ∀ (v : Option Value) (h' : AH) (ws' : va_W) (H1 : Heap) (locs1 : List Loc), Post v h' → av_rep dA h' ws' → va_P D classes ws' H1 → va_D A ws' → va_S A s.heap H1 locs1 → W p l e R s m args below meth c H1 locs1 (cells + mc) (slots + ms) Q (F0 m (pc + 3) ls (v.toList ++ rest))) : W p l e R s m args below meth c H locs cells slots Q (F0 m pc ls st0) := by
  intro T hT X
  obtain ⟨v, st₀, t, T', L, h0, X', hL, e1, e2, ⟨⟨v', h', ws', hv, hp, hrep', hP', hD'⟩, hz, hk⟩, stp⟩ := hrn T hT X
  cases hv
  rw [h0] at hz hk
  have hsub := av_sub hr hD hS hA
  obtain ⟨t2, a1, b1⟩ := kk v h' ws' T'.heap (locs ++ L) hp hrep' (by rw [e1]; exact hP') (hD'.weaken (fun _ q _ hq => hsub _ hq))
    ⟨Nat.le_trans hS.1 (by rw [e1]; exact hz), fun q h1 h2 => by rw [e1, hk q (Nat.lt_of_lt_of_le h1 hS.1) (fun z => h2 (hsub q z))]; exact hS.2.1 q h1 h2, fun q hq => by
      rcases List.mem_append.mp hq with h | h
      · exact hS.2.2 q h
      · exact hsub _ (hL q h)⟩ T' rfl X'
  exact ⟨t2, stp t2 a1, b1⟩
theorem av_good {X : List Cond} (h : ∀ w ∈ X, w ∈ av_tb) : GoodIn av_tb X := fun w hw => ⟨h w hw, av_tb_ok w (h w hw)⟩

section AWrows
variable {tb : Nat → Nat} {own : String} {cc : ByteArray} {nL : Nat} {ret : Option FieldType} {ini : Bool} {sc : Option (Nat × Nat × (Nat → Int32))} {fr lo : Nat} {Post : Option Value → AH → Prop} {pc : Nat} {L : List (Option Value)} {st : List Value} {h : AH} {mc ms : Nat}
theorem aw_iconst {n : Int} {v : Int32} (hd : decode cc pc = .ok (.iconst n, 1)) (hv : Int32.ofInt n = v) (k : AW tb own cc nL ret ini sc fr lo Post (pc + 1) L (.int v :: st) h mc ms) : AW tb own cc nL ret ini sc fr lo Post pc L (st) h mc ms := by
  intro p l e R s m args below meth c D dA A H locs cells slots Q ls ws F hr hP hD hS hl hc hs
  exact lv_iconst F.1 F.2.1 hd hv (k p l e R s m args below meth c D dA A H locs cells slots Q ls ws F hr hP hD hS hl hc hs)
theorem aw_bipush {n : Int} {v : Int32} (hd : decode cc pc = .ok (.bipush n, 2)) (hv : (Int8.ofInt n).toInt32 = v) (k : AW tb own cc nL ret ini sc fr lo Post (pc + 2) L (.int v :: st) h mc ms) : AW tb own cc nL ret ini sc fr lo Post pc L (st) h mc ms := by
  intro p l e R s m args below meth c D dA A H locs cells slots Q ls ws F hr hP hD hS hl hc hs
  exact lv_bipush F.1 F.2.1 hd hv (k p l e R s m args below meth c D dA A H locs cells slots Q ls ws F hr hP hD hS hl hc hs)
theorem aw_sipush {n : Int} {v : Int32} (hd : decode cc pc = .ok (.sipush n, 3)) (hv : (Int16.ofInt n).toInt32 = v) (k : AW tb own cc nL ret ini sc fr lo Post (pc + 3) L (.int v :: st) h mc ms) : AW tb own cc nL ret ini sc fr lo Post pc L (st) h mc ms := by
  intro p l e R s m args below meth c D dA A H locs cells slots Q ls ws F hr hP hD hS hl hc hs
  exact lv_sipush F.1 F.2.1 hd hv (k p l e R s m args below meth c D dA A H locs cells slots Q ls ws F hr hP hD hS hl hc hs)
theorem aw_ldc {n : Nat} {v : Int32} (hd : decode cc pc = .ok (.ldc n, 2)) (hw : Cond.constant own n v ∈ av_tb) (k : AW tb own cc nL ret ini sc fr lo Post (pc + 2) L (.int v :: st) h mc ms) : AW tb own cc nL ret ini sc fr lo Post pc L (st) h mc ms := by
  intro p l e R s m args below meth c D dA A H locs cells slots Q ls ws F hr hP hD hS hl hc hs
  exact lv_ldc F.1 F.2.1 F.2.2.2.1 (F.2.2.2.2.1 _ hw) hd (k p l e R s m args below meth c D dA A H locs cells slots Q ls ws F hr hP hD hS hl hc hs)
theorem aw_null  (hd : decode cc pc = .ok (.aconst_null, 1))  (k : AW tb own cc nL ret ini sc fr lo Post (pc + 1) L (.null :: st) h mc ms) : AW tb own cc nL ret ini sc fr lo Post pc L (st) h mc ms := by
  intro p l e R s m args below meth c D dA A H locs cells slots Q ls ws F hr hP hD hS hl hc hs
  exact lv_null F.1 F.2.1 hd (k p l e R s m args below meth c D dA A H locs cells slots Q ls ws F hr hP hD hS hl hc hs)
theorem aw_iload_n {i : Fin 4} {x : Int32} (hd : decode cc pc = .ok (.iload_n i, 1)) (hv : L[(i : Nat)]? = some (some (.int x))) (k : AW tb own cc nL ret ini sc fr lo Post (pc + 1) L (.int x :: st) h mc ms) : AW tb own cc nL ret ini sc fr lo Post pc L (st) h mc ms := by
  intro p l e R s m args below meth c D dA A H locs cells slots Q ls ws F hr hP hD hS hl hc hs
  exact lv_iload_n F.1 F.2.1 hd rfl (av_at hl hv) (k p l e R s m args below meth c D dA A H locs cells slots Q ls ws F hr hP hD hS hl hc hs)
theorem aw_iload {i : Nat} {x : Int32} (hd : decode cc pc = .ok (.iload i, 2)) (hv : L[i]? = some (some (.int x))) (k : AW tb own cc nL ret ini sc fr lo Post (pc + 2) L (.int x :: st) h mc ms) : AW tb own cc nL ret ini sc fr lo Post pc L (st) h mc ms := by
  intro p l e R s m args below meth c D dA A H locs cells slots Q ls ws F hr hP hD hS hl hc hs
  exact lv_iload F.1 F.2.1 hd (av_at hl hv) (k p l e R s m args below meth c D dA A H locs cells slots Q ls ws F hr hP hD hS hl hc hs)
theorem aw_aload_n {i : Fin 4} {x : Nat} (hd : decode cc pc = .ok (.aload_n i, 1)) (hv : L[(i : Nat)]? = some (some (.ref x))) (k : AW tb own cc nL ret ini sc fr lo Post (pc + 1) L (.ref x :: st) h mc ms) : AW tb own cc nL ret ini sc fr lo Post pc L (st) h mc ms := by
  intro p l e R s m args below meth c D dA A H locs cells slots Q ls ws F hr hP hD hS hl hc hs
  exact lv_aload_n F.1 F.2.1 hd rfl (av_at hl hv) (k p l e R s m args below meth c D dA A H locs cells slots Q ls ws F hr hP hD hS hl hc hs)
theorem aw_aload {i : Nat} {x : Nat} (hd : decode cc pc = .ok (.aload i, 2)) (hv : L[i]? = some (some (.ref x))) (k : AW tb own cc nL ret ini sc fr lo Post (pc + 2) L (.ref x :: st) h mc ms) : AW tb own cc nL ret ini sc fr lo Post pc L (st) h mc ms := by
  intro p l e R s m args below meth c D dA A H locs cells slots Q ls ws F hr hP hD hS hl hc hs
  exact lv_aload F.1 F.2.1 hd (av_at hl hv) (k p l e R s m args below meth c D dA A H locs cells slots Q ls ws F hr hP hD hS hl hc hs)
theorem aw_iadd {x y v : Int32} (hd : decode cc pc = .ok (.iadd, 1)) (hv : x + y = v) (k : AW tb own cc nL ret ini sc fr lo Post (pc + 1) L (.int v :: st) h mc ms) : AW tb own cc nL ret ini sc fr lo Post pc L (.int y :: .int x :: st) h mc ms := by
  intro p l e R s m args below meth c D dA A H locs cells slots Q ls ws F hr hP hD hS hl hc hs
  exact lv_iadd F.1 F.2.1 hd <| by subst hv; exact (k p l e R s m args below meth c D dA A H locs cells slots Q ls ws F hr hP hD hS hl hc hs)
theorem aw_isub {x y v : Int32} (hd : decode cc pc = .ok (.isub, 1)) (hv : x - y = v) (k : AW tb own cc nL ret ini sc fr lo Post (pc + 1) L (.int v :: st) h mc ms) : AW tb own cc nL ret ini sc fr lo Post pc L (.int y :: .int x :: st) h mc ms := by
  intro p l e R s m args below meth c D dA A H locs cells slots Q ls ws F hr hP hD hS hl hc hs
  exact lv_isub F.1 F.2.1 hd <| by subst hv; exact (k p l e R s m args below meth c D dA A H locs cells slots Q ls ws F hr hP hD hS hl hc hs)
theorem aw_imul {x y v : Int32} (hd : decode cc pc = .ok (.imul, 1)) (hv : x * y = v) (k : AW tb own cc nL ret ini sc fr lo Post (pc + 1) L (.int v :: st) h mc ms) : AW tb own cc nL ret ini sc fr lo Post pc L (.int y :: .int x :: st) h mc ms := by
  intro p l e R s m args below meth c D dA A H locs cells slots Q ls ws F hr hP hD hS hl hc hs
  exact lv_imul F.1 F.2.1 hd <| by subst hv; exact (k p l e R s m args below meth c D dA A H locs cells slots Q ls ws F hr hP hD hS hl hc hs)
theorem aw_iand {x y v : Int32} (hd : decode cc pc = .ok (.iand, 1)) (hv : x &&& y = v) (k : AW tb own cc nL ret ini sc fr lo Post (pc + 1) L (.int v :: st) h mc ms) : AW tb own cc nL ret ini sc fr lo Post pc L (.int y :: .int x :: st) h mc ms := by
  intro p l e R s m args below meth c D dA A H locs cells slots Q ls ws F hr hP hD hS hl hc hs
  exact lv_iand F.1 F.2.1 hd <| by subst hv; exact (k p l e R s m args below meth c D dA A H locs cells slots Q ls ws F hr hP hD hS hl hc hs)
theorem aw_ior {x y v : Int32} (hd : decode cc pc = .ok (.ior, 1)) (hv : x ||| y = v) (k : AW tb own cc nL ret ini sc fr lo Post (pc + 1) L (.int v :: st) h mc ms) : AW tb own cc nL ret ini sc fr lo Post pc L (.int y :: .int x :: st) h mc ms := by
  intro p l e R s m args below meth c D dA A H locs cells slots Q ls ws F hr hP hD hS hl hc hs
  exact lv_ior F.1 F.2.1 hd <| by subst hv; exact (k p l e R s m args below meth c D dA A H locs cells slots Q ls ws F hr hP hD hS hl hc hs)
theorem aw_ixor {x y v : Int32} (hd : decode cc pc = .ok (.ixor, 1)) (hv : x ^^^ y = v) (k : AW tb own cc nL ret ini sc fr lo Post (pc + 1) L (.int v :: st) h mc ms) : AW tb own cc nL ret ini sc fr lo Post pc L (.int y :: .int x :: st) h mc ms := by
  intro p l e R s m args below meth c D dA A H locs cells slots Q ls ws F hr hP hD hS hl hc hs
  exact lv_ixor F.1 F.2.1 hd <| by subst hv; exact (k p l e R s m args below meth c D dA A H locs cells slots Q ls ws F hr hP hD hS hl hc hs)
theorem aw_ishl {x y v : Int32} (hd : decode cc pc = .ok (.ishl, 1)) (hv : x <<< (y &&& 31) = v) (k : AW tb own cc nL ret ini sc fr lo Post (pc + 1) L (.int v :: st) h mc ms) : AW tb own cc nL ret ini sc fr lo Post pc L (.int y :: .int x :: st) h mc ms := by
  intro p l e R s m args below meth c D dA A H locs cells slots Q ls ws F hr hP hD hS hl hc hs
  exact lv_ishl F.1 F.2.1 hd <| by subst hv; exact (k p l e R s m args below meth c D dA A H locs cells slots Q ls ws F hr hP hD hS hl hc hs)
theorem aw_ishr {x y v : Int32} (hd : decode cc pc = .ok (.ishr, 1)) (hv : x >>> (y &&& 31) = v) (k : AW tb own cc nL ret ini sc fr lo Post (pc + 1) L (.int v :: st) h mc ms) : AW tb own cc nL ret ini sc fr lo Post pc L (.int y :: .int x :: st) h mc ms := by
  intro p l e R s m args below meth c D dA A H locs cells slots Q ls ws F hr hP hD hS hl hc hs
  exact lv_ishr F.1 F.2.1 hd <| by subst hv; exact (k p l e R s m args below meth c D dA A H locs cells slots Q ls ws F hr hP hD hS hl hc hs)
theorem aw_iushr {x y v : Int32} (hd : decode cc pc = .ok (.iushr, 1)) (hv : (x.toUInt32 >>> (y.toUInt32 &&& Int32.toUInt32 31)).toInt32 = v) (k : AW tb own cc nL ret ini sc fr lo Post (pc + 1) L (.int v :: st) h mc ms) : AW tb own cc nL ret ini sc fr lo Post pc L (.int y :: .int x :: st) h mc ms := by
  intro p l e R s m args below meth c D dA A H locs cells slots Q ls ws F hr hP hD hS hl hc hs
  exact lv_iushr F.1 F.2.1 hd hv (k p l e R s m args below meth c D dA A H locs cells slots Q ls ws F hr hP hD hS hl hc hs)
theorem aw_idiv {x y v : Int32} (hd : decode cc pc = .ok (.idiv, 1)) (hne : ¬ y = 0) (hv : x / y = v) (k : AW tb own cc nL ret ini sc fr lo Post (pc + 1) L (.int v :: st) h mc ms) : AW tb own cc nL ret ini sc fr lo Post pc L (.int y :: .int x :: st) h mc ms := by
  intro p l e R s m args below meth c D dA A H locs cells slots Q ls ws F hr hP hD hS hl hc hs
  exact lv_idiv F.1 F.2.1 hd hne <| by subst hv; exact (k p l e R s m args below meth c D dA A H locs cells slots Q ls ws F hr hP hD hS hl hc hs)
theorem aw_irem {x y v : Int32} (hd : decode cc pc = .ok (.irem, 1)) (hne : ¬ y = 0) (hv : x - x / y * y = v) (k : AW tb own cc nL ret ini sc fr lo Post (pc + 1) L (.int v :: st) h mc ms) : AW tb own cc nL ret ini sc fr lo Post pc L (.int y :: .int x :: st) h mc ms := by
  intro p l e R s m args below meth c D dA A H locs cells slots Q ls ws F hr hP hD hS hl hc hs
  exact lv_irem F.1 F.2.1 hd hne <| by subst hv; exact (k p l e R s m args below meth c D dA A H locs cells slots Q ls ws F hr hP hD hS hl hc hs)
theorem aw_ineg {x v : Int32} (hd : decode cc pc = .ok (.ineg, 1)) (hv : -x = v) (k : AW tb own cc nL ret ini sc fr lo Post (pc + 1) L (.int v :: st) h mc ms) : AW tb own cc nL ret ini sc fr lo Post pc L (.int x :: st) h mc ms := by
  intro p l e R s m args below meth c D dA A H locs cells slots Q ls ws F hr hP hD hS hl hc hs
  exact lv_ineg F.1 F.2.1 hd <| by subst hv; exact (k p l e R s m args below meth c D dA A H locs cells slots Q ls ws F hr hP hD hS hl hc hs)
theorem aw_i2b {x v : Int32} (hd : decode cc pc = .ok (.i2b, 1)) (hv : x.toInt8.toInt32 = v) (k : AW tb own cc nL ret ini sc fr lo Post (pc + 1) L (.int v :: st) h mc ms) : AW tb own cc nL ret ini sc fr lo Post pc L (.int x :: st) h mc ms := by
  intro p l e R s m args below meth c D dA A H locs cells slots Q ls ws F hr hP hD hS hl hc hs
  exact lv_i2b F.1 F.2.1 hd hv (k p l e R s m args below meth c D dA A H locs cells slots Q ls ws F hr hP hD hS hl hc hs)
theorem aw_i2l {x : Int32} {v : Int64} (hd : decode cc pc = .ok (.i2l, 1)) (hv : x.toInt64 = v) (k : AW tb own cc nL ret ini sc fr lo Post (pc + 1) L (.long v :: st) h mc ms) : AW tb own cc nL ret ini sc fr lo Post pc L (.int x :: st) h mc ms := by
  intro p l e R s m args below meth c D dA A H locs cells slots Q ls ws F hr hP hD hS hl hc hs
  exact lv_i2l F.1 F.2.1 hd hv (k p l e R s m args below meth c D dA A H locs cells slots Q ls ws F hr hP hD hS hl hc hs)
theorem aw_l2i {x : Int64} {v : Int32} (hd : decode cc pc = .ok (.l2i, 1)) (hv : x.toInt32 = v) (k : AW tb own cc nL ret ini sc fr lo Post (pc + 1) L (.int v :: st) h mc ms) : AW tb own cc nL ret ini sc fr lo Post pc L (.long x :: st) h mc ms := by
  intro p l e R s m args below meth c D dA A H locs cells slots Q ls ws F hr hP hD hS hl hc hs
  exact lv_l2i F.1 F.2.1 hd hv (k p l e R s m args below meth c D dA A H locs cells slots Q ls ws F hr hP hD hS hl hc hs)
theorem aw_dup {va : Value} (hd : decode cc pc = .ok (.dup, 1)) (h1 : va.category = 1) (k : AW tb own cc nL ret ini sc fr lo Post (pc + 1) L (va :: va :: st) h mc ms) : AW tb own cc nL ret ini sc fr lo Post pc L (va :: st) h mc ms := by
  intro p l e R s m args below meth c D dA A H locs cells slots Q ls ws F hr hP hD hS hl hc hs
  exact lv_dup F.1 F.2.1 hd h1 (k p l e R s m args below meth c D dA A H locs cells slots Q ls ws F hr hP hD hS hl hc hs)
theorem aw_pop {va : Value} (hd : decode cc pc = .ok (.pop, 1)) (h1 : va.category = 1) (k : AW tb own cc nL ret ini sc fr lo Post (pc + 1) L (st) h mc ms) : AW tb own cc nL ret ini sc fr lo Post pc L (va :: st) h mc ms := by
  intro p l e R s m args below meth c D dA A H locs cells slots Q ls ws F hr hP hD hS hl hc hs
  exact lv_pop F.1 F.2.1 hd h1 (k p l e R s m args below meth c D dA A H locs cells slots Q ls ws F hr hP hD hS hl hc hs)
theorem aw_dup_x1 {va vb : Value} (hd : decode cc pc = .ok (.dup_x1, 1)) (h1 : va.category = 1) (h2 : vb.category = 1) (k : AW tb own cc nL ret ini sc fr lo Post (pc + 1) L (va :: vb :: va :: st) h mc ms) : AW tb own cc nL ret ini sc fr lo Post pc L (va :: vb :: st) h mc ms := by
  intro p l e R s m args below meth c D dA A H locs cells slots Q ls ws F hr hP hD hS hl hc hs
  exact lv_dup_x1 F.1 F.2.1 hd h1 h2 (k p l e R s m args below meth c D dA A H locs cells slots Q ls ws F hr hP hD hS hl hc hs)
theorem aw_dup_x2 {va vb vd : Value} (hd : decode cc pc = .ok (.dup_x2, 1)) (h1 : va.category = 1) (h2 : vb.category = 1) (h3 : vd.category = 1) (k : AW tb own cc nL ret ini sc fr lo Post (pc + 1) L (va :: vb :: vd :: va :: st) h mc ms) : AW tb own cc nL ret ini sc fr lo Post pc L (va :: vb :: vd :: st) h mc ms := by
  intro p l e R s m args below meth c D dA A H locs cells slots Q ls ws F hr hP hD hS hl hc hs
  exact lv_dup_x2 F.1 F.2.1 hd h1 h2 h3 (k p l e R s m args below meth c D dA A H locs cells slots Q ls ws F hr hP hD hS hl hc hs)
theorem aw_dup2 {va vb : Value} (hd : decode cc pc = .ok (.dup2, 1)) (h1 : va.category = 1) (h2 : vb.category = 1) (k : AW tb own cc nL ret ini sc fr lo Post (pc + 1) L (va :: vb :: va :: vb :: st) h mc ms) : AW tb own cc nL ret ini sc fr lo Post pc L (va :: vb :: st) h mc ms := by
  intro p l e R s m args below meth c D dA A H locs cells slots Q ls ws F hr hP hD hS hl hc hs
  exact lv_dup2_11 F.1 F.2.1 hd h1 h2 (k p l e R s m args below meth c D dA A H locs cells slots Q ls ws F hr hP hD hS hl hc hs)
theorem aw_istore_n {i : Fin 4} {x : Int32} {L' : List (Option Value)} (hd : decode cc pc = .ok (.istore_n i, 1)) (hn : (i : Nat) < nL) (h1 : av_c1 L = true) (hL : L.set (i : Nat) (some (Value.int x)) = L') (k : AW tb own cc nL ret ini sc fr lo Post (pc + 1) L' st h mc ms) : AW tb own cc nL ret ini sc fr lo Post pc L (Value.int x :: st) h mc ms := by
  intro p l e R s m args below meth c D dA A H locs cells slots Q ls ws F hr hP hD hS hl hc hs
  exact lv_istore_n F.1 F.2.1 hd rfl hl hn rfl (fun ls' hl' => k p l e R s m args below meth c D dA A H locs cells slots Q ls' ws F hr hP hD hS (av_stored hl' h1 hL) hc hs)
theorem aw_istore {i : Nat} {x : Int32} {L' : List (Option Value)} (hd : decode cc pc = .ok (.istore i, 2)) (hn : i < nL) (h1 : av_c1 L = true) (hL : L.set i (some (Value.int x)) = L') (k : AW tb own cc nL ret ini sc fr lo Post (pc + 2) L' st h mc ms) : AW tb own cc nL ret ini sc fr lo Post pc L (Value.int x :: st) h mc ms := by
  intro p l e R s m args below meth c D dA A H locs cells slots Q ls ws F hr hP hD hS hl hc hs
  exact lv_istore F.1 F.2.1 hd hl hn rfl (fun ls' hl' => k p l e R s m args below meth c D dA A H locs cells slots Q ls' ws F hr hP hD hS (av_stored hl' h1 hL) hc hs)
theorem aw_astore_n {i : Fin 4} {x : Nat} {L' : List (Option Value)} (hd : decode cc pc = .ok (.astore_n i, 1)) (hn : (i : Nat) < nL) (h1 : av_c1 L = true) (hL : L.set (i : Nat) (some (Value.ref x)) = L') (k : AW tb own cc nL ret ini sc fr lo Post (pc + 1) L' st h mc ms) : AW tb own cc nL ret ini sc fr lo Post pc L (Value.ref x :: st) h mc ms := by
  intro p l e R s m args below meth c D dA A H locs cells slots Q ls ws F hr hP hD hS hl hc hs
  exact lv_astore_n F.1 F.2.1 hd rfl hl hn rfl (fun ls' hl' => k p l e R s m args below meth c D dA A H locs cells slots Q ls' ws F hr hP hD hS (av_stored hl' h1 hL) hc hs)
theorem aw_astore {i : Nat} {x : Nat} {L' : List (Option Value)} (hd : decode cc pc = .ok (.astore i, 2)) (hn : i < nL) (h1 : av_c1 L = true) (hL : L.set i (some (Value.ref x)) = L') (k : AW tb own cc nL ret ini sc fr lo Post (pc + 2) L' st h mc ms) : AW tb own cc nL ret ini sc fr lo Post pc L (Value.ref x :: st) h mc ms := by
  intro p l e R s m args below meth c D dA A H locs cells slots Q ls ws F hr hP hD hS hl hc hs
  exact lv_astore F.1 F.2.1 hd hl hn rfl (fun ls' hl' => k p l e R s m args below meth c D dA A H locs cells slots Q ls' ws F hr hP hD hS (av_stored hl' h1 hL) hc hs)
theorem aw_iinc {i : Nat} {n : Int} {x v : Int32} {L' : List (Option Value)} (hd : decode cc pc = .ok (.iinc i n, 3)) (hv : L[i]? = some (some (.int x))) (he : x + Int32.ofInt n = v) (hn : i < nL) (h1 : av_c1 L = true) (hL : L.set i (some (.int v)) = L') (k : AW tb own cc nL ret ini sc fr lo Post (pc + 3) L' st h mc ms) : AW tb own cc nL ret ini sc fr lo Post pc L st h mc ms := by
  intro p l e R s m args below meth c D dA A H locs cells slots Q ls ws F hr hP hD hS hl hc hs
  have hm : (i, Value.int x) ∈ av_prs 0 L := (av_prs_mem L 0 (i, .int x)).mpr ⟨i, (Nat.zero_add i).symm, hv⟩
  obtain ⟨j, hj⟩ := List.getElem?_of_mem hm
  exact lv_iinc F.1 F.2.1 hd hl hj he hn rfl (fun ls' hl' => k p l e R s m args below meth c D dA A H locs cells slots Q ls' ws F hr hP hD hS (av_stored hl' h1 hL) hc hs)
theorem aw_if_eq {x : Int32} {off : Int} {tgt : Nat} (hd : decode cc pc = .ok (.ifCond .eq off, 3)) (ht : (pc : Int) + off = (tgt : Int)) (kt : x = 0 → AW tb own cc nL ret ini sc fr lo Post tgt L st h mc ms) (kf : ¬ x = 0 → AW tb own cc nL ret ini sc fr lo Post (pc + 3) L st h mc ms) : AW tb own cc nL ret ini sc fr lo Post pc L (.int x :: st) h mc ms := by
  intro p l e R s m args below meth c D dA A H locs cells slots Q ls ws F hr hP hD hS hl hc hs
  exact lv_if_eq F.1 F.2.1 hd ht (fun q => kt q p l e R s m args below meth c D dA A H locs cells slots Q ls ws F hr hP hD hS hl hc hs) (fun q => kf q p l e R s m args below meth c D dA A H locs cells slots Q ls ws F hr hP hD hS hl hc hs)
theorem aw_if_ne {x : Int32} {off : Int} {tgt : Nat} (hd : decode cc pc = .ok (.ifCond .ne off, 3)) (ht : (pc : Int) + off = (tgt : Int)) (kt : ¬ x = 0 → AW tb own cc nL ret ini sc fr lo Post tgt L st h mc ms) (kf : x = 0 → AW tb own cc nL ret ini sc fr lo Post (pc + 3) L st h mc ms) : AW tb own cc nL ret ini sc fr lo Post pc L (.int x :: st) h mc ms := by
  intro p l e R s m args below meth c D dA A H locs cells slots Q ls ws F hr hP hD hS hl hc hs
  exact lv_if_ne F.1 F.2.1 hd ht (fun q => kt q p l e R s m args below meth c D dA A H locs cells slots Q ls ws F hr hP hD hS hl hc hs) (fun q => kf q p l e R s m args below meth c D dA A H locs cells slots Q ls ws F hr hP hD hS hl hc hs)
theorem aw_if_lt {x : Int32} {off : Int} {tgt : Nat} (hd : decode cc pc = .ok (.ifCond .lt off, 3)) (ht : (pc : Int) + off = (tgt : Int)) (kt : x < 0 → AW tb own cc nL ret ini sc fr lo Post tgt L st h mc ms) (kf : ¬ x < 0 → AW tb own cc nL ret ini sc fr lo Post (pc + 3) L st h mc ms) : AW tb own cc nL ret ini sc fr lo Post pc L (.int x :: st) h mc ms := by
  intro p l e R s m args below meth c D dA A H locs cells slots Q ls ws F hr hP hD hS hl hc hs
  exact lv_if_lt F.1 F.2.1 hd ht (fun q => kt q p l e R s m args below meth c D dA A H locs cells slots Q ls ws F hr hP hD hS hl hc hs) (fun q => kf q p l e R s m args below meth c D dA A H locs cells slots Q ls ws F hr hP hD hS hl hc hs)
theorem aw_if_ge {x : Int32} {off : Int} {tgt : Nat} (hd : decode cc pc = .ok (.ifCond .ge off, 3)) (ht : (pc : Int) + off = (tgt : Int)) (kt : 0 ≤ x → AW tb own cc nL ret ini sc fr lo Post tgt L st h mc ms) (kf : ¬ 0 ≤ x → AW tb own cc nL ret ini sc fr lo Post (pc + 3) L st h mc ms) : AW tb own cc nL ret ini sc fr lo Post pc L (.int x :: st) h mc ms := by
  intro p l e R s m args below meth c D dA A H locs cells slots Q ls ws F hr hP hD hS hl hc hs
  exact lv_if_ge F.1 F.2.1 hd ht (fun q => kt q p l e R s m args below meth c D dA A H locs cells slots Q ls ws F hr hP hD hS hl hc hs) (fun q => kf q p l e R s m args below meth c D dA A H locs cells slots Q ls ws F hr hP hD hS hl hc hs)
theorem aw_if_gt {x : Int32} {off : Int} {tgt : Nat} (hd : decode cc pc = .ok (.ifCond .gt off, 3)) (ht : (pc : Int) + off = (tgt : Int)) (kt : 0 < x → AW tb own cc nL ret ini sc fr lo Post tgt L st h mc ms) (kf : ¬ 0 < x → AW tb own cc nL ret ini sc fr lo Post (pc + 3) L st h mc ms) : AW tb own cc nL ret ini sc fr lo Post pc L (.int x :: st) h mc ms := by
  intro p l e R s m args below meth c D dA A H locs cells slots Q ls ws F hr hP hD hS hl hc hs
  exact lv_if_gt F.1 F.2.1 hd ht (fun q => kt q p l e R s m args below meth c D dA A H locs cells slots Q ls ws F hr hP hD hS hl hc hs) (fun q => kf q p l e R s m args below meth c D dA A H locs cells slots Q ls ws F hr hP hD hS hl hc hs)
theorem aw_if_le {x : Int32} {off : Int} {tgt : Nat} (hd : decode cc pc = .ok (.ifCond .le off, 3)) (ht : (pc : Int) + off = (tgt : Int)) (kt : x ≤ 0 → AW tb own cc nL ret ini sc fr lo Post tgt L st h mc ms) (kf : ¬ x ≤ 0 → AW tb own cc nL ret ini sc fr lo Post (pc + 3) L st h mc ms) : AW tb own cc nL ret ini sc fr lo Post pc L (.int x :: st) h mc ms := by
  intro p l e R s m args below meth c D dA A H locs cells slots Q ls ws F hr hP hD hS hl hc hs
  exact lv_if_le F.1 F.2.1 hd ht (fun q => kt q p l e R s m args below meth c D dA A H locs cells slots Q ls ws F hr hP hD hS hl hc hs) (fun q => kf q p l e R s m args below meth c D dA A H locs cells slots Q ls ws F hr hP hD hS hl hc hs)
theorem aw_icmp_eq {x y : Int32} {off : Int} {tgt : Nat} (hd : decode cc pc = .ok (.if_icmp .eq off, 3)) (ht : (pc : Int) + off = (tgt : Int)) (kt : x = y → AW tb own cc nL ret ini sc fr lo Post tgt L st h mc ms) (kf : ¬ x = y → AW tb own cc nL ret ini sc fr lo Post (pc + 3) L st h mc ms) : AW tb own cc nL ret ini sc fr lo Post pc L (.int y :: .int x :: st) h mc ms := by
  intro p l e R s m args below meth c D dA A H locs cells slots Q ls ws F hr hP hD hS hl hc hs
  exact lv_icmp_eq F.1 F.2.1 hd ht (fun q => kt q p l e R s m args below meth c D dA A H locs cells slots Q ls ws F hr hP hD hS hl hc hs) (fun q => kf q p l e R s m args below meth c D dA A H locs cells slots Q ls ws F hr hP hD hS hl hc hs)
theorem aw_icmp_ne {x y : Int32} {off : Int} {tgt : Nat} (hd : decode cc pc = .ok (.if_icmp .ne off, 3)) (ht : (pc : Int) + off = (tgt : Int)) (kt : ¬ x = y → AW tb own cc nL ret ini sc fr lo Post tgt L st h mc ms) (kf : x = y → AW tb own cc nL ret ini sc fr lo Post (pc + 3) L st h mc ms) : AW tb own cc nL ret ini sc fr lo Post pc L (.int y :: .int x :: st) h mc ms := by
  intro p l e R s m args below meth c D dA A H locs cells slots Q ls ws F hr hP hD hS hl hc hs
  exact lv_icmp_ne F.1 F.2.1 hd ht (fun q => kt q p l e R s m args below meth c D dA A H locs cells slots Q ls ws F hr hP hD hS hl hc hs) (fun q => kf q p l e R s m args below meth c D dA A H locs cells slots Q ls ws F hr hP hD hS hl hc hs)
theorem aw_icmp_lt {x y : Int32} {off : Int} {tgt : Nat} (hd : decode cc pc = .ok (.if_icmp .lt off, 3)) (ht : (pc : Int) + off = (tgt : Int)) (kt : x < y → AW tb own cc nL ret ini sc fr lo Post tgt L st h mc ms) (kf : ¬ x < y → AW tb own cc nL ret ini sc fr lo Post (pc + 3) L st h mc ms) : AW tb own cc nL ret ini sc fr lo Post pc L (.int y :: .int x :: st) h mc ms := by
  intro p l e R s m args below meth c D dA A H locs cells slots Q ls ws F hr hP hD hS hl hc hs
  exact lv_icmp_lt F.1 F.2.1 hd ht (fun q => kt q p l e R s m args below meth c D dA A H locs cells slots Q ls ws F hr hP hD hS hl hc hs) (fun q => kf q p l e R s m args below meth c D dA A H locs cells slots Q ls ws F hr hP hD hS hl hc hs)
theorem aw_icmp_ge {x y : Int32} {off : Int} {tgt : Nat} (hd : decode cc pc = .ok (.if_icmp .ge off, 3)) (ht : (pc : Int) + off = (tgt : Int)) (kt : y ≤ x → AW tb own cc nL ret ini sc fr lo Post tgt L st h mc ms) (kf : ¬ y ≤ x → AW tb own cc nL ret ini sc fr lo Post (pc + 3) L st h mc ms) : AW tb own cc nL ret ini sc fr lo Post pc L (.int y :: .int x :: st) h mc ms := by
  intro p l e R s m args below meth c D dA A H locs cells slots Q ls ws F hr hP hD hS hl hc hs
  exact lv_icmp_ge F.1 F.2.1 hd ht (fun q => kt q p l e R s m args below meth c D dA A H locs cells slots Q ls ws F hr hP hD hS hl hc hs) (fun q => kf q p l e R s m args below meth c D dA A H locs cells slots Q ls ws F hr hP hD hS hl hc hs)
theorem aw_icmp_gt {x y : Int32} {off : Int} {tgt : Nat} (hd : decode cc pc = .ok (.if_icmp .gt off, 3)) (ht : (pc : Int) + off = (tgt : Int)) (kt : y < x → AW tb own cc nL ret ini sc fr lo Post tgt L st h mc ms) (kf : ¬ y < x → AW tb own cc nL ret ini sc fr lo Post (pc + 3) L st h mc ms) : AW tb own cc nL ret ini sc fr lo Post pc L (.int y :: .int x :: st) h mc ms := by
  intro p l e R s m args below meth c D dA A H locs cells slots Q ls ws F hr hP hD hS hl hc hs
  exact lv_icmp_gt F.1 F.2.1 hd ht (fun q => kt q p l e R s m args below meth c D dA A H locs cells slots Q ls ws F hr hP hD hS hl hc hs) (fun q => kf q p l e R s m args below meth c D dA A H locs cells slots Q ls ws F hr hP hD hS hl hc hs)
theorem aw_icmp_le {x y : Int32} {off : Int} {tgt : Nat} (hd : decode cc pc = .ok (.if_icmp .le off, 3)) (ht : (pc : Int) + off = (tgt : Int)) (kt : x ≤ y → AW tb own cc nL ret ini sc fr lo Post tgt L st h mc ms) (kf : ¬ x ≤ y → AW tb own cc nL ret ini sc fr lo Post (pc + 3) L st h mc ms) : AW tb own cc nL ret ini sc fr lo Post pc L (.int y :: .int x :: st) h mc ms := by
  intro p l e R s m args below meth c D dA A H locs cells slots Q ls ws F hr hP hD hS hl hc hs
  exact lv_icmp_le F.1 F.2.1 hd ht (fun q => kt q p l e R s m args below meth c D dA A H locs cells slots Q ls ws F hr hP hD hS hl hc hs) (fun q => kf q p l e R s m args below meth c D dA A H locs cells slots Q ls ws F hr hP hD hS hl hc hs)
theorem aw_acmp_eq {x y : Nat} {off : Int} {tgt : Nat} (hd : decode cc pc = .ok (.if_acmp .eq off, 3)) (ht : (pc : Int) + off = (tgt : Int)) (kt : x = y → AW tb own cc nL ret ini sc fr lo Post tgt L st h mc ms) (kf : ¬ x = y → AW tb own cc nL ret ini sc fr lo Post (pc + 3) L st h mc ms) : AW tb own cc nL ret ini sc fr lo Post pc L (.ref y :: .ref x :: st) h mc ms := by
  intro p l e R s m args below meth c D dA A H locs cells slots Q ls ws F hr hP hD hS hl hc hs
  exact lv_acmp_eq (rx := some x) (ry := some y) F.1 F.2.1 hd ht (fun q => kt (by simpa using q) p l e R s m args below meth c D dA A H locs cells slots Q ls ws F hr hP hD hS hl hc hs) (fun q => kf (by simpa using q) p l e R s m args below meth c D dA A H locs cells slots Q ls ws F hr hP hD hS hl hc hs)
theorem aw_acmp_ne {x y : Nat} {off : Int} {tgt : Nat} (hd : decode cc pc = .ok (.if_acmp .ne off, 3)) (ht : (pc : Int) + off = (tgt : Int)) (kt : ¬ x = y → AW tb own cc nL ret ini sc fr lo Post tgt L st h mc ms) (kf : x = y → AW tb own cc nL ret ini sc fr lo Post (pc + 3) L st h mc ms) : AW tb own cc nL ret ini sc fr lo Post pc L (.ref y :: .ref x :: st) h mc ms := by
  intro p l e R s m args below meth c D dA A H locs cells slots Q ls ws F hr hP hD hS hl hc hs
  exact lv_acmp_ne (rx := some x) (ry := some y) F.1 F.2.1 hd ht (fun q => kt (by simpa using q) p l e R s m args below meth c D dA A H locs cells slots Q ls ws F hr hP hD hS hl hc hs) (fun q => kf (by simpa using q) p l e R s m args below meth c D dA A H locs cells slots Q ls ws F hr hP hD hS hl hc hs)
theorem aw_goto {off : Int} {tgt : Nat} (hd : decode cc pc = .ok (.goto off, 3)) (ht : (pc : Int) + off = (tgt : Int)) (k : AW tb own cc nL ret ini sc fr lo Post tgt L st h mc ms) : AW tb own cc nL ret ini sc fr lo Post pc L st h mc ms := by
  intro p l e R s m args below meth c D dA A H locs cells slots Q ls ws F hr hP hD hS hl hc hs
  exact lv_goto F.1 F.2.1 hd ht (k p l e R s m args below meth c D dA A H locs cells slots Q ls ws F hr hP hD hS hl hc hs)
theorem aw_ifnonnull {x : Nat} {off : Int} {tgt : Nat} (hd : decode cc pc = .ok (.ifnonnull off, 3)) (ht : (pc : Int) + off = (tgt : Int)) (k : AW tb own cc nL ret ini sc fr lo Post tgt L st h mc ms) : AW tb own cc nL ret ini sc fr lo Post pc L (.ref x :: st) h mc ms := by
  intro p l e R s m args below meth c D dA A H locs cells slots Q ls ws F hr hP hD hS hl hc hs
  exact lv_ifnonnull F.1 F.2.1 hd ht (k p l e R s m args below meth c D dA A H locs cells slots Q ls ws F hr hP hD hS hl hc hs)
theorem aw_ifnull {x : Nat} {off : Int} (hd : decode cc pc = .ok (.ifnull off, 3)) (k : AW tb own cc nL ret ini sc fr lo Post (pc + 3) L st h mc ms) : AW tb own cc nL ret ini sc fr lo Post pc L (.ref x :: st) h mc ms := by
  intro p l e R s m args below meth c D dA A H locs cells slots Q ls ws F hr hP hD hS hl hc hs
  exact lv_ifnull F.1 F.2.1 hd (k p l e R s m args below meth c D dA A H locs cells slots Q ls ws F hr hP hD hS hl hc hs)
theorem aw_iret {x : Int32} {rt : FieldType} (hd : decode cc pc = .ok (.ireturn, 1)) (hr0 : ret = some rt) (hn : narrow rt (.int x) = .int x) (hp : Post (some (.int x)) h) : AW tb own cc nL ret ini sc fr lo Post pc L [.int x] h mc ms := by
  intro p l e R s m args below meth c D dA A H locs cells slots Q ls ws F hr hP hD hS hl hc hs
  refine W.widen (k := R.cells) (n := R.slots) (by omega) (by omega) ?_
  exact F.2.2.2.2.2.2.2.2.2.2.2 H locs ls ws pc (some (.int x)) h _ hp hr hP hD hS hd (Or.inl ⟨rfl, x, rt, rfl, hr0, hn⟩)
theorem aw_aret {x : Nat} {rt : FieldType} (hd : decode cc pc = .ok (.areturn, 1)) (hr0 : ret = some rt) (hn : (∃ n, rt = .object n) ∨ ∃ t, rt = .array t) (hp : Post (some (.ref x)) h) : AW tb own cc nL ret ini sc fr lo Post pc L [.ref x] h mc ms := by
  intro p l e R s m args below meth c D dA A H locs cells slots Q ls ws F hr hP hD hS hl hc hs
  refine W.widen (k := R.cells) (n := R.slots) (by omega) (by omega) ?_
  exact F.2.2.2.2.2.2.2.2.2.2.2 H locs ls ws pc (some (.ref x)) h _ hp hr hP hD hS hd (Or.inr (Or.inl ⟨rfl, x, rt, rfl, hr0, hn⟩))
theorem aw_vret (hd : decode cc pc = .ok (.return_, 1)) (hr0 : ret = none) (hp : Post none h) : AW tb own cc nL ret ini sc fr lo Post pc L [] h mc ms := by
  intro p l e R s m args below meth c D dA A H locs cells slots Q ls ws F hr hP hD hS hl hc hs
  refine W.widen (k := R.cells) (n := R.slots) (by omega) (by omega) ?_
  exact F.2.2.2.2.2.2.2.2.2.2.2 H locs ls ws pc none h _ hp hr hP hD hS hd (Or.inr (Or.inr ⟨rfl, rfl, hr0⟩))
theorem aw_less {mc' ms' : Nat} (h1 : mc' ≤ mc) (h2 : ms' ≤ ms) (k : AW tb own cc nL ret ini sc fr lo Post pc L st h mc' ms') : AW tb own cc nL ret ini sc fr lo Post pc L st h mc ms := by
  intro p l e R s m args below meth c D dA A H locs cells slots Q ls ws F hr hP hD hS hl hc hs
  exact k p l e R s m args below meth c D dA A H locs cells slots Q ls ws F hr hP hD hS hl (by omega) (by omega)
theorem aw_post {Post' : Option Value → AH → Prop} (hp : ∀ v h, Post' v h → Post v h) (k : AW tb own cc nL ret ini sc fr lo Post' pc L st h mc ms) : AW tb own cc nL ret ini sc fr lo Post pc L st h mc ms := by
  intro p l e R s m args below meth c D dA A H locs cells slots Q ls ws F hr hP hD hS hl hc hs
  obtain ⟨f1, f2, f3, f4, f5, f6, f7, f8, f9, f10, f11, f12⟩ := F
  exact k p l e R s m args below meth c D dA A H locs cells slots Q ls ws ⟨f1, f2, f3, f4, f5, f6, f7, f8, f9, f10, f11, fun H locs ls ws pc v h i a b c d e f g => f12 H locs ls ws pc v h i (hp v h a) b c d e f g⟩ hr hP hD hS hl hc hs
/-- fewer known locals -/
theorem aw_loc {L' : List (Option Value)} (hsub : ∀ (i : Nat) (v : Value), L'[i]? = some (some v) → L[i]? = some (some v)) (k : AW tb own cc nL ret ini sc fr lo Post pc L' st h mc ms) : AW tb own cc nL ret ini sc fr lo Post pc L st h mc ms := by
  intro p l e R s m args below meth c D dA A H locs cells slots Q ls ws F hr hP hD hS hl hc hs
  refine k p l e R s m args below meth c D dA A H locs cells slots Q ls ws F hr hP hD hS ⟨hl.1, hl.2.1, fun q hq => ?_⟩ hc hs
  obtain ⟨j, h1, h2⟩ := (av_prs_mem L' 0 q).mp hq
  exact hl.2.2 q ((av_prs_mem L 0 q).mpr ⟨j, h1, hsub j _ h2⟩)
/-- a field by its place in the constant pool: class ci of 'classes', slot k -/
def av_fld (own : String) (idx ci k : Nat) : Prop := ∃ (C : String) (T : u_T) (N : Nat), classes[ci]? = some (C, T, N) ∧ (∀ w ∈ u_ws C T N, w ∈ av_tb) ∧ k < N ∧
  (Cond.fieldLink own idx (T k).1 (T k).2.1 (T k).2.2.1 ∈ av_tb ∨ ∃ host : String, Cond.fieldLinkNest own idx (T k).1 (T k).2.1 (T k).2.2.1 host ∈ av_nw)
def av_put (own : String) (idx ci k : Nat) (ini : Bool) (ty : FieldType) : Prop := ∃ (C : String) (T : u_T) (N : Nat) (ty0 : Nat → FieldType), classes[ci]? = some (C, T, N) ∧ (∀ w ∈ u_ws C T N, w ∈ av_tb) ∧ k < N ∧ (∀ j, j < N → parseFieldDescriptor (T j).2.2.1 = some (ty0 j)) ∧ (∀ a, a < N → ∀ b, b < N → a ≠ b → (T a).2.1 ≠ (T b).2.1) ∧ ty0 k = ty ∧
  ((T k).2.2.2 = false ∨ (ini = true ∧ (T k).1 = own)) ∧ (Cond.fieldLink own idx (T k).1 (T k).2.1 (T k).2.2.1 ∈ av_tb ∨ ((T k).2.2.2 = false ∧ ∃ host : String, Cond.fieldLinkNest own idx (T k).1 (T k).2.1 (T k).2.2.1 host ∈ av_nw))
theorem aw_get {idx ci k a : Nat} {fs : List Value} {v : Value} (hf : av_fld own idx ci k) (hd : decode cc pc = .ok (.getfield idx, 3)) (ha : h a = some (.inr (ci, fs))) (hv : fs[k]? = some v) (kk : AW tb own cc nL ret ini sc fr lo Post (pc + 3) L (v :: st) h mc ms) : AW tb own cc nL ret ini sc fr lo Post pc L (.ref a :: st) h mc ms := by
  intro p l e R s m args below meth c D dA A H locs cells slots Q ls ws F hr hP hD hS hl hc hs
  obtain ⟨C, T, N, h1, h2, h3, h4⟩ := hf
  obtain ⟨j, hj⟩ := hr.1 a _ ha
  rcases h4 with h4 | ⟨host, h4⟩
  · exact va_get F.1 F.2.1 F.2.2.2.2.1 h2 F.2.2.2.1 F.2.2.2.2.2.1.1 hP j hj h1 k h3 (F.2.2.2.2.1 _ h4) (fun _ q => q) hv hd (kk p l e R s m args below meth c D dA A H locs cells slots Q ls ws F hr hP hD hS hl hc hs)
  · exact va_getN F.1 F.2.1 F.2.2.2.2.1 h2 F.2.2.2.1 F.2.2.2.2.2.1.1 hP j hj h1 k h3 (va_Nw.use rfl (F.2.2.2.2.2.1.2.1 _ h4)) (fun _ q => q) hv hd (kk p l e R s m args below meth c D dA A H locs cells slots Q ls ws F hr hP hD hS hl hc hs)
theorem aw_put {idx ci k a : Nat} {fs fs' : List Value} {v : Value} {ty : FieldType} (hf : av_put own idx ci k ini ty) (hd : decode cc pc = .ok (.putfield idx, 3)) (ha : h a = some (.inr (ci, fs))) (hn : narrow ty v = v) (hfit : fits ty v = true) (hk : k < fs.length) (hfs : fs.set k v = fs') (kk : AW tb own cc nL ret ini sc fr lo Post (pc + 3) L st (av_up h a (.inr (ci, fs'))) mc ms) : AW tb own cc nL ret ini sc fr lo Post pc L (v :: .ref a :: st) h mc ms := by
  intro p l e R s m args below meth c D dA A H locs cells slots Q ls ws F hr hP hD hS hl hc hs
  obtain ⟨C, T, N, ty0, h1, h2, h3, h4, h5, h6, h7, h8⟩ := hf
  obtain ⟨j, hj⟩ := hr.1 a _ ha
  subst hfs
  have hty : parseFieldDescriptor (T k).2.2.1 = some ty := by rw [h4 k h3, h6]
  rcases h8 with h8 | ⟨h9, host, h8⟩
  · rcases h7 with h7 | ⟨h7, h10⟩
    · exact va_put F.1 F.2.1 F.2.2.2.2.1 h2 ty0 h4 h5 F.2.2.2.1 F.2.2.2.2.2.1.1 hP hD hS j hj h1 k h3 (F.2.2.2.2.1 _ h8) (fun _ q => q) h7 hty hn hfit hk hd (fun H1 locs1 hP1 hD1 hS1 => kk p l e R s m args below meth c D dA A H1 locs1 cells slots Q ls _ F (hr.set (e := .inr (ci, fs.set k v)) hj) hP1 hD1 hS1 hl hc hs)
    · cases hq : (T k).2.2.2 with
      | false => exact va_put F.1 F.2.1 F.2.2.2.2.1 h2 ty0 h4 h5 F.2.2.2.1 F.2.2.2.2.2.1.1 hP hD hS j hj h1 k h3 (F.2.2.2.2.1 _ h8) (fun _ q => q) hq hty hn hfit hk hd (fun H1 locs1 hP1 hD1 hS1 => kk p l e R s m args below meth c D dA A H1 locs1 cells slots Q ls _ F (hr.set (e := .inr (ci, fs.set k v)) hj) hP1 hD1 hS1 hl hc hs)
      | true => exact va_putF F.1 F.2.1 F.2.2.2.2.1 h2 ty0 h4 h5 F.2.2.2.1 F.2.2.2.2.2.1.1 hP hD hS j hj h1 k h3 (F.2.2.2.2.1 _ h8) (fun _ q => q) hq (F.2.2.2.2.2.2.2.1 h7) h10 hty hn hfit hk hd (fun H1 locs1 hP1 hD1 hS1 => kk p l e R s m args below meth c D dA A H1 locs1 cells slots Q ls _ F (hr.set (e := .inr (ci, fs.set k v)) hj) hP1 hD1 hS1 hl hc hs)
  · exact va_putN F.1 F.2.1 F.2.2.2.2.1 h2 ty0 h4 h5 F.2.2.2.1 F.2.2.2.2.2.1.1 hP hD hS j hj h1 k h3 (va_Nw.use rfl (F.2.2.2.2.2.1.2.1 _ h8)) (fun _ q => q) h9 hty hn hfit hk hd (fun H1 locs1 hP1 hD1 hS1 => kk p l e R s m args below meth c D dA A H1 locs1 cells slots Q ls _ F (hr.set (e := .inr (ci, fs.set k v)) hj) hP1 hD1 hS1 hl hc hs)
theorem aw_iald {a n : Nat} {f : Nat → Int32} {i x : Int32} (hd : decode cc pc = .ok (.iaload, 1)) (ha : h a = some (.inl (0, n, .inl f))) (hin : vp_in i n) (hx : f i.toNatClampNeg = x) (k : AW tb own cc nL ret ini sc fr lo Post (pc + 1) L (.int x :: st) h mc ms) : AW tb own cc nL ret ini sc fr lo Post pc L (.int i :: .ref a :: st) h mc ms := by
  intro p l e R s m args below meth c D dA A H locs cells slots Q ls ws F hr hP hD hS hl hc hs
  obtain ⟨j, hj⟩ := hr.1 a _ ha
  subst hx
  exact va_iald F.1 F.2.1 F.2.2.2.2.2.1.1 hP j 0 hj rfl hin hd (k p l e R s m args below meth c D dA A H locs cells slots Q ls ws F hr hP hD hS hl hc hs)
theorem aw_bald {a n : Nat} {f : Nat → Int32} {i x : Int32} (hd : decode cc pc = .ok (.baload, 1)) (ha : h a = some (.inl (1, n, .inl f))) (hin : vp_in i n) (hx : f i.toNatClampNeg = x) (k : AW tb own cc nL ret ini sc fr lo Post (pc + 1) L (.int x :: st) h mc ms) : AW tb own cc nL ret ini sc fr lo Post pc L (.int i :: .ref a :: st) h mc ms := by
  intro p l e R s m args below meth c D dA A H locs cells slots Q ls ws F hr hP hD hS hl hc hs
  obtain ⟨j, hj⟩ := hr.1 a _ ha
  subst hx
  exact va_bald F.1 F.2.1 F.2.2.2.2.2.1.1 hP j 1 hj rfl hin hd (k p l e R s m args below meth c D dA A H locs cells slots Q ls ws F hr hP hD hS hl hc hs)
theorem aw_iast {a n : Nat} {f f' : Nat → Int32} {i x : Int32} (hd : decode cc pc = .ok (.iastore, 1)) (ha : h a = some (.inl (0, n, .inl f))) (hin : vp_in i n) (hx : upd f i.toNatClampNeg x = f') (k : AW tb own cc nL ret ini sc fr lo Post (pc + 1) L st (av_up h a (.inl (0, n, .inl f'))) mc ms) : AW tb own cc nL ret ini sc fr lo Post pc L (.int x :: .int i :: .ref a :: st) h mc ms := by
  intro p l e R s m args below meth c D dA A H locs cells slots Q ls ws F hr hP hD hS hl hc hs
  obtain ⟨j, hj⟩ := hr.1 a _ ha
  subst hx
  exact va_iast F.1 F.2.1 F.2.2.2.2.2.1.1 hP hD hS j 0 hj rfl hin hd (fun H1 locs1 hP1 hD1 hS1 => k p l e R s m args below meth c D dA A H1 locs1 cells slots Q ls _ F (hr.set (e := .inl (0, n, .inl (upd f i.toNatClampNeg x))) hj) hP1 hD1 hS1 hl hc hs)
theorem aw_bast {a n : Nat} {f f' : Nat → Int32} {i x : Int32} (hd : decode cc pc = .ok (.bastore, 1)) (ha : h a = some (.inl (1, n, .inl f))) (hin : vp_in i n) (hx : upd f i.toNatClampNeg (vp_nar .byte x) = f') (k : AW tb own cc nL ret ini sc fr lo Post (pc + 1) L st (av_up h a (.inl (1, n, .inl f'))) mc ms) : AW tb own cc nL ret ini sc fr lo Post pc L (.int x :: .int i :: .ref a :: st) h mc ms := by
  intro p l e R s m args below meth c D dA A H locs cells slots Q ls ws F hr hP hD hS hl hc hs
  obtain ⟨j, hj⟩ := hr.1 a _ ha
  subst hx
  exact va_bast F.1 F.2.1 F.2.2.2.2.2.1.1 hP hD hS j 1 hj rfl hin hd (fun H1 locs1 hP1 hD1 hS1 => k p l e R s m args below meth c D dA A H1 locs1 cells slots Q ls _ F (hr.set (e := .inl (1, n, .inl (upd f i.toNatClampNeg (vp_nar .byte x)))) hj) hP1 hD1 hS1 hl hc hs)
theorem aw_alen {a t : Nat} {x : vp_A} {v : Int32} (hd : decode cc pc = .ok (.arraylength, 1)) (ha : h a = some (.inl (t, x))) (ht : ∀ dA : Nat → ClassId, (av_tys dA)[t]? = some (dA t, av_t t)) (hv : nI x.1 = v) (k : AW tb own cc nL ret ini sc fr lo Post (pc + 1) L (.int v :: st) h mc ms) : AW tb own cc nL ret ini sc fr lo Post pc L (.ref a :: st) h mc ms := by
  intro p l e R s m args below meth c D dA A H locs cells slots Q ls ws F hr hP hD hS hl hc hs
  obtain ⟨j, hj⟩ := hr.1 a _ ha
  exact va_alen F.1 F.2.1 F.2.2.2.2.2.1.1 hP j t hj (ht dA) hv hd (k p l e R s m args below meth c D dA A H locs cells slots Q ls ws F hr hP hD hS hl hc hs)
theorem aw_newa {t N mc2 ms2 : Nat} {n : Int32} {at0 : ClassFile.ArrayType} {z : vp_A} (hd : decode cc pc = .ok (.newarray at0, 2)) (hw : Cond.arrayClass (newarray.typeOf at0) ∈ av_tb) (ht : ∀ dA : Nat → ClassId, (av_tys dA)[t]? = some (dA t, newarray.typeOf at0)) (hp : ∀ (U : State) (cA : ClassId), va_RA U cA (newarray.typeOf at0) → U.vm.findClass ("[" ++ (newarray.typeOf at0).toString) = some cA) (hz : ∀ cA : ClassId, vp_cell cA z = arrV cA N (fun _ => defaultValue (newarray.typeOf at0))) (hn : ¬ n < 0) (hN : n.toNatClampNeg = N) (hby : N * componentBytes (newarray.typeOf at0) ≤ 536870912) (h1 : mc2 + 1 ≤ mc) (h2 : ms2 + N ≤ ms)
    (k : ∀ q : Nat, h q = none → AW tb own cc nL ret ini sc fr lo Post (pc + 2) L (.ref q :: st) (av_up h q (.inl (t, z))) mc2 ms2) : AW tb own cc nL ret ini sc fr lo Post pc L (.int n :: st) h mc ms := by
  intro p l e R s m args below meth c D dA A H locs cells slots Q ls ws F hr hP hD hS hl hc hs
  refine va_newa F.1 F.2.1 (F.2.2.2.2.1 _ hw) rfl F.2.2.2.2.2.1.1 hP hD hS F.2.2.2.2.2.2.1 hz hn hN hby (by omega) (by omega) hd (fun q cA H1 hK1 hP1 hD1 hS1 => ?_)
  have hc1 : cA = dA t := by
    have e1 := (hK1.2 (av_tys dA).length (cA, newarray.typeOf at0) (by simp)).2
    have e2 := (F.2.2.2.2.2.1.1.2 t _ (ht dA)).2
    exact Option.some.inj ((hp s cA e1).symm.trans (hp s (dA t) e2))
  subst hc1
  have hf := av_fresh hr hD1
  exact k q hf p l e R s m args below meth c D dA A H1 locs (cells + 1) (slots + N) Q ls _ F (hr.push (e := .inl (t, z)) hf) hP1 hD1 hS1 hl (by omega) (by omega)
/-- a class by its place in the constant pool: new objects of it, with all fields at their first values fs -/
def av_cls (own : String) (idx ci : Nat) (fs : List Value) (N : Nat) : Prop := ∃ (C : String) (T : u_T) (ty : Nat → FieldType), classes[ci]? = some (C, T, N) ∧ (∀ w ∈ u_ws C T N, w ∈ av_tb) ∧ (∀ j, j < N → parseFieldDescriptor (T j).2.2.1 = some (ty j)) ∧ Cond.classLink own idx C ∈ av_tb ∧ Cond.instantiable C N ∈ av_tb ∧ Cond.initialized C ∈ av_tb ∧ (∀ j, j < N → defaultValue (ty j) = vp_V fs j)
theorem aw_new {idx ci N mc2 ms2 : Nat} {fs : List Value} (hf : av_cls own idx ci fs N) (hd : decode cc pc = .ok (.new idx, 3)) (h1 : mc2 + 1 ≤ mc) (h2 : ms2 + N ≤ ms) (k : ∀ q : Nat, h q = none → AW tb own cc nL ret ini sc fr lo Post (pc + 3) L (.ref q :: st) (av_up h q (.inr (ci, fs))) mc2 ms2) : AW tb own cc nL ret ini sc fr lo Post pc L st h mc ms := by
  intro p l e R s m args below meth c D dA A H locs cells slots Q ls ws F hr hP hD hS hl hc hs
  obtain ⟨C, T, ty, g1, g2, g3, g4, g5, g6, g7⟩ := hf
  refine va_new F.1 F.2.1 F.2.2.2.2.1 g2 ty g3 F.2.2.2.1 (F.2.2.2.2.1 _ g4) (F.2.2.2.2.1 _ g5) (F.2.2.2.2.1 _ g6) F.2.2.2.2.2.1.1 hP hD hS F.2.2.2.2.2.2.1 g1 g7 (by omega) (by omega) hd (fun q H1 hP1 hD1 hS1 => ?_)
  have hf := av_fresh hr hD1
  exact k q hf p l e R s m args below meth c D dA A H1 locs (cells + 1) (slots + N) Q ls _ F (hr.push (e := .inr (ci, fs)) hf) hP1 hD1 hS1 hl (by omega) (by omega)
theorem aw_objInit {idx a : Nat} (hd : decode cc pc = .ok (.invokespecial idx, 3)) (h1 : Cond.methodLink own idx Lib.objectInit ∈ av_tb) (h2 : Cond.instanceMethod Lib.objectInit ∈ av_tb) (h3 : Cond.code Lib.objectInit ⟨#[0xb1]⟩ 1 none ∈ av_tb) (h4 : 1 ≤ fr) (h5 : 20 ≤ lo) (hW : (st.map fun v => v.category).sum ≤ 8) (k : AW tb own cc nL ret ini sc fr lo Post (pc + 3) L st h mc ms) : AW tb own cc nL ret ini sc fr lo Post pc L (.ref a :: st) h mc ms := by
  intro p l e R s m args below meth c D dA A H locs cells slots Q ls ws F hr hP hD hS hl hc hs
  obtain ⟨hx, hb, hml, hown, hts, hK, hA, hini, hfr, hlo, hsc, hret⟩ := id F
  refine W.objInit hx hb hown (hts _ h1) (hts _ h2) (hts _ h3) rfl (by rw [hml]; exact hl.1) rfl hd (Nat.le_trans h4 hfr) ?_ ?_
  · have := lv_room (m := m) (pc := pc) (ls := ls) (rest := .ref a :: st) hW
    omega
  · exact k p l e R s m args below meth c D dA A H locs cells slots Q ls ws F hr hP hD hS hl hc hs
theorem aw_sld {b N : Nat} {xs : Nat → Int32} {i x : Int32} (hsc : sc = some (b, N, xs)) (hd : decode cc pc = .ok (.iaload, 1)) (hin : vp_in i N) (hx : xs i.toNatClampNeg = x) (k : AW tb own cc nL ret ini sc fr lo Post (pc + 1) L (.int x :: st) h mc ms) : AW tb own cc nL ret ini sc fr lo Post pc L (.int i :: .ref b :: st) h mc ms := by
  intro p l e R s m args below meth c D dA A H locs cells slots Q ls ws F hr hP hD hS hl hc hs
  obtain ⟨q1, q2, q3⟩ := F.2.2.2.2.2.2.2.2.2.2.1 _ hsc
  subst hx
  exact va_sld F.1 F.2.1 q1 q2 q3 hS hin hd (k p l e R s m args below meth c D dA A H locs cells slots Q ls ws F hr hP hD hS hl hc hs)
theorem aw_slen {b N : Nat} {xs : Nat → Int32} (hsc : sc = some (b, N, xs)) (hd : decode cc pc = .ok (.arraylength, 1)) (k : AW tb own cc nL ret ini sc fr lo Post (pc + 1) L (.int (nI N) :: st) h mc ms) : AW tb own cc nL ret ini sc fr lo Post pc L (.ref b :: st) h mc ms := by
  intro p l e R s m args below meth c D dA A H locs cells slots Q ls ws F hr hP hD hS hl hc hs
  obtain ⟨q1, q2, q3⟩ := F.2.2.2.2.2.2.2.2.2.2.1 _ hsc
  exact va_slen F.1 F.2.1 q1 q2 q3 hS hd (k p l e R s m args below meth c D dA A H locs cells slots Q ls ws F hr hP hD hS hl hc hs)
def av_nm (y : MethodName) (n : Nat) : Prop := y.cls ≠ "java/lang/invoke/MethodHandle" ∧ y.cls ≠ "java/lang/invoke/VarHandle" ∧ (parseMethodDescriptor y.desc).map (fun d => d.parameters.length) = some n
def av_cV (own : String) (idx : Nat) (y : MethodName) (cc : ByteArray) (nL : Nat) (ret : Option FieldType) (n : Nat) : Prop := (Cond.instanceMethod y ∈ av_tb ∧ Cond.selects y.cls y y ∈ av_tb ∧ Cond.initialized y.cls ∈ av_tb ∧ Cond.code y cc nL ret ∈ av_tb) ∧ av_nm y n ∧ (Cond.methodLink own idx y ∈ av_tb ∨ ∃ host : String, Cond.methodLinkNest own idx y host ∈ av_nw)
def av_cS (own : String) (idx : Nat) (y : MethodName) (cc : ByteArray) (nL : Nat) (ret : Option FieldType) (n : Nat) : Prop := (Cond.static y ∈ av_tb ∧ Cond.initialized y.cls ∈ av_tb ∧ Cond.code y cc nL ret ∈ av_tb) ∧ av_nm y n ∧ (Cond.methodLink own idx y ∈ av_tb ∨ ∃ host : String, Cond.methodLinkNest own idx y host ∈ av_nw)
def av_cI (own : String) (idx : Nat) (y : MethodName) (cc : ByteArray) (nL : Nat) (n : Nat) : Prop := (Cond.instanceMethod y ∈ av_tb ∧ Cond.initialized y.cls ∈ av_tb ∧ Cond.code y cc nL none ∈ av_tb ∧ y.name = "<init>") ∧ av_nm y n ∧ (Cond.methodLink own idx y ∈ av_tb ∨ ∃ host : String, Cond.methodLinkNest own idx y host ∈ av_nw)
theorem av_ws_in {y : MethodName} {cc : ByteArray} {nL : Nat} {ret : Option FieldType} (h : Cond.code y cc nL ret ∈ av_tb) : ∀ w ∈ av_ws y cc nL ret, w ∈ av_tb := fun w hw => by
  rcases List.mem_cons.mp hw with rfl | hw
  · exact h
  · exact hw
theorem aw_callV {y : MethodName} {cc' : ByteArray} {nL' : Nat} {ret' : Option FieldType} {fr' lo' mc' ms' mc2 ms2 : Nat} {Post' : Option Value → AH → Prop} {idx n b ci : Nat} {fs As rest : List Value} (hM : AM tb y cc' nL' ret' fr' lo' (.ref b :: As) h mc' ms' Post') (hcs : av_cV own idx y cc' nL' ret' n) (hd : decode cc pc = .ok (.invokevirtual idx, 3)) (hb0 : h b = some (.inr (ci, fs))) (hci : (classes[ci]?).map (fun x => x.1) = some y.cls) (hn : As.length = n) (hst : st = As.reverse ++ .ref b :: rest) (hW : (rest.map fun v => v.category).sum ≤ 8) (h1 : fr' + 1 ≤ fr) (h2 : 8 + (nL' + 11) + lo' ≤ lo) (h3 : mc' + mc2 ≤ mc) (h4 : ms' + ms2 ≤ ms)
    (kk : ∀ (v : Option Value) (h' : AH), Post' v h' → AW tb own cc nL ret ini sc fr lo Post (pc + 3) L (v.toList ++ rest) h' mc2 ms2) : AW tb own cc nL ret ini sc fr lo Post pc L st h mc ms := by
  intro p l e R s m args below meth c D dA A H locs cells slots Q ls ws F hr hP hD hS hl hc hs
  obtain ⟨hx, hb, hml, hown, hts, hK, hA, hini, hfr, hlo, hsc, hret⟩ := id F
  obtain ⟨⟨g1, g2, g3, g4⟩, gn, g5⟩ := hcs
  subst hst
  obtain ⟨j, hj⟩ := hr.1 b _ hb0
  obtain ⟨q, hq, hqc⟩ : ∃ q, classes[ci]? = some q ∧ q.1 = y.cls := by
    cases hz : classes[ci]? with
    | none => rw [hz] at hci; cases hci
    | some q => rw [hz] at hci; exact ⟨q, rfl, Option.some.inj hci⟩
  have hrec := va_recv hK.1 hP hq hj
  rw [hqc] at hrec
  have hpre : PreV s H y.cls b (av_Pre tb D dA (.ref b :: As) h H.size) As := ⟨av_blind, hrec, av_pre (av := .ref b :: As) hK hr hP hD hS hA⟩
  have hgood : GoodIn av_tb (av_ws y cc' nL' ret') := av_good (av_ws_in g4)
  have hrm : ({ frames := fr', cells := mc', slots := ms', locals := lo' } : Room).frames + 1 ≤ R.frames ∧ 8 + (nL' + 11) + ({ frames := fr', cells := mc', slots := ms', locals := lo' } : Room).locals ≤ R.locals := ⟨Nat.le_trans h1 hfr, Nat.le_trans h2 hlo⟩
  have hfit : cells + mc' ≤ R.cells ∧ slots + ms' ≤ R.slots := ⟨by omega, by omega⟩
  rcases g5 with g5 | ⟨host, g5⟩
  · refine av_after (va_runV (As := As) (rest := rest) ⟨hx, hb, hml, hown, hts⟩ (hM l D dA H.size) ⟨callB_of n hts hgood rfl rfl rfl (hts _ g3) (hts _ g5) gn hrm, hts _ g1, hts _ g2⟩ hpre rfl hn hl.1 rfl (lv_room hW) hd hfit) hr hD hS hA ?_
    intro v h' ws' H1 locs1 hp hr1 hP1 hD1 hS1
    exact kk v h' hp p l e R s m args below meth c D dA A H1 locs1 _ _ Q ls ws' F hr1 hP1 hD1 hS1 hl (by omega) (by omega)
  · refine av_after (va_runVN (As := As) (rest := rest) ⟨hx, hb, hml, hown, hts⟩ (hM l D dA H.size) ⟨va_cnB n hts hgood rfl rfl rfl (hK.2.1 _ g5) (hts _ g3) gn hrm, hts _ g1, hts _ g2⟩ hpre rfl hn hl.1 rfl (lv_room hW) hd hfit) hr hD hS hA ?_
    intro v h' ws' H1 locs1 hp hr1 hP1 hD1 hS1
    exact kk v h' hp p l e R s m args below meth c D dA A H1 locs1 _ _ Q ls ws' F hr1 hP1 hD1 hS1 hl (by omega) (by omega)
theorem aw_callS {y : MethodName} {cc' : ByteArray} {nL' : Nat} {ret' : Option FieldType} {fr' lo' mc' ms' mc2 ms2 : Nat} {Post' : Option Value → AH → Prop} {idx n : Nat} {As rest : List Value} (hM : AM tb y cc' nL' ret' fr' lo' As h mc' ms' Post') (hcs : av_cS own idx y cc' nL' ret' n) (hd : decode cc pc = .ok (.invokestatic idx, 3)) (hn : As.length = n) (hst : st = As.reverse ++ rest) (hW : (rest.map fun v => v.category).sum ≤ 8) (h1 : fr' + 1 ≤ fr) (h2 : 8 + (nL' + 11) + lo' ≤ lo) (h3 : mc' + mc2 ≤ mc) (h4 : ms' + ms2 ≤ ms)
    (kk : ∀ (v : Option Value) (h' : AH), Post' v h' → AW tb own cc nL ret ini sc fr lo Post (pc + 3) L (v.toList ++ rest) h' mc2 ms2) : AW tb own cc nL ret ini sc fr lo Post pc L st h mc ms := by
  intro p l e R s m args below meth c D dA A H locs cells slots Q ls ws F hr hP hD hS hl hc hs
  obtain ⟨hx, hb, hml, hown, hts, hK, hA, hini, hfr, hlo, hsc, hret⟩ := id F
  obtain ⟨⟨g1, g3, g4⟩, gn, g5⟩ := hcs
  subst hst
  have hpre : PreS s H (av_Pre tb D dA As h H.size) As := ⟨av_blind, av_pre (av := As) hK hr hP hD hS hA⟩
  have hgood : GoodIn av_tb (av_ws y cc' nL' ret') := av_good (av_ws_in g4)
  have hrm : ({ frames := fr', cells := mc', slots := ms', locals := lo' } : Room).frames + 1 ≤ R.frames ∧ 8 + (nL' + 11) + ({ frames := fr', cells := mc', slots := ms', locals := lo' } : Room).locals ≤ R.locals := ⟨Nat.le_trans h1 hfr, Nat.le_trans h2 hlo⟩
  have hfit : cells + mc' ≤ R.cells ∧ slots + ms' ≤ R.slots := ⟨by omega, by omega⟩
  rcases g5 with g5 | ⟨host, g5⟩
  · refine av_after (va_runS (As := As) (rest := rest) ⟨hx, hb, hml, hown, hts⟩ (hM l D dA H.size) ⟨callB_of n hts hgood rfl rfl rfl (hts _ g3) (hts _ g5) gn hrm, hts _ g1⟩ hpre rfl hn hl.1 rfl (lv_room hW) hd hfit) hr hD hS hA ?_
    intro v h' ws' H1 locs1 hp hr1 hP1 hD1 hS1
    exact kk v h' hp p l e R s m args below meth c D dA A H1 locs1 _ _ Q ls ws' F hr1 hP1 hD1 hS1 hl (by omega) (by omega)
  · refine av_after (va_runSN (As := As) (rest := rest) ⟨hx, hb, hml, hown, hts⟩ (hM l D dA H.size) ⟨va_cnB n hts hgood rfl rfl rfl (hK.2.1 _ g5) (hts _ g3) gn hrm, hts _ g1, trivial⟩ hpre rfl hn hl.1 rfl (lv_room hW) hd hfit) hr hD hS hA ?_
    intro v h' ws' H1 locs1 hp hr1 hP1 hD1 hS1
    exact kk v h' hp p l e R s m args below meth c D dA A H1 locs1 _ _ Q ls ws' F hr1 hP1 hD1 hS1 hl (by omega) (by omega)
theorem aw_callI {y : MethodName} {cc' : ByteArray} {nL' : Nat} {fr' lo' mc' ms' mc2 ms2 : Nat} {Post' : Option Value → AH → Prop} {idx n b : Nat} {As rest : List Value} (hM : AM tb y cc' nL' none fr' lo' (.ref b :: As) h mc' ms' Post') (hcs : av_cI own idx y cc' nL' n) (hd : decode cc pc = .ok (.invokespecial idx, 3)) (hn : As.length = n) (hst : st = As.reverse ++ .ref b :: rest) (hW : (rest.map fun v => v.category).sum ≤ 8) (h1 : fr' + 1 ≤ fr) (h2 : 8 + (nL' + 11) + lo' ≤ lo) (h3 : mc' + mc2 ≤ mc) (h4 : ms' + ms2 ≤ ms)
    (kk : ∀ (v : Option Value) (h' : AH), Post' v h' → AW tb own cc nL ret ini sc fr lo Post (pc + 3) L (v.toList ++ rest) h' mc2 ms2) : AW tb own cc nL ret ini sc fr lo Post pc L st h mc ms := by
  intro p l e R s m args below meth c D dA A H locs cells slots Q ls ws F hr hP hD hS hl hc hs
  obtain ⟨hx, hb, hml, hown, hts, hK, hA, hini, hfr, hlo, hsc, hret⟩ := id F
  obtain ⟨⟨g1, g3, g4, g6⟩, gn, g5⟩ := hcs
  subst hst
  have hpre : PreS s H (av_Pre tb D dA (.ref b :: As) h H.size) (.ref b :: As) := ⟨av_blind, av_pre (av := .ref b :: As) hK hr hP hD hS hA⟩
  have hgood : GoodIn av_tb (av_ws y cc' nL' none) := av_good (av_ws_in g4)
  have hrm : ({ frames := fr', cells := mc', slots := ms', locals := lo' } : Room).frames + 1 ≤ R.frames ∧ 8 + (nL' + 11) + ({ frames := fr', cells := mc', slots := ms', locals := lo' } : Room).locals ≤ R.locals := ⟨Nat.le_trans h1 hfr, Nat.le_trans h2 hlo⟩
  have hfit : cells + mc' ≤ R.cells ∧ slots + ms' ≤ R.slots := ⟨by omega, by omega⟩
  rcases g5 with g5 | ⟨host, g5⟩
  · refine av_after (va_runI (As := As) (rest := rest) ⟨hx, hb, hml, hown, hts⟩ (hM l D dA H.size) ⟨callB_of n hts hgood rfl rfl rfl (hts _ g3) (hts _ g5) gn hrm, g6, hts _ g1⟩ hpre rfl hn hl.1 rfl (lv_room hW) hd hfit) hr hD hS hA ?_
    intro v h' ws' H1 locs1 hp hr1 hP1 hD1 hS1
    exact kk v h' hp p l e R s m args below meth c D dA A H1 locs1 _ _ Q ls ws' F hr1 hP1 hD1 hS1 hl (by omega) (by omega)
  · refine av_after (va_runIN (As := As) (rest := rest) ⟨hx, hb, hml, hown, hts⟩ (hM l D dA H.size) ⟨va_cnB n hts hgood rfl rfl rfl (hK.2.1 _ g5) (hts _ g3) gn hrm, g6, hts _ g1⟩ hpre rfl hn hl.1 rfl (lv_room hW) hd hfit) hr hD hS hA ?_
    intro v h' ws' H1 locs1 hp hr1 hP1 hD1 hS1
    exact kk v h' hp p l e R s m args below meth c D dA A H1 locs1 _ _ Q ls ws' F hr1 hP1 hD1 hS1 hl (by omega) (by omega)
/-- the answer is r, the heap is as it was -/
def av_Pi (r : Int32) (h : AH) : Option Value → AH → Prop := fun v h' => v = some (.int r) ∧ h' = h
def av_Pr (r : Nat) (h : AH) : Option Value → AH → Prop := fun v h' => v = some (.ref r) ∧ h' = h
theorem aw_callVi {y : MethodName} {cc' : ByteArray} {nL' : Nat} {ret' : Option FieldType} {fr' lo' mc' ms' mc2 ms2 : Nat} {r : Int32} {idx n b ci : Nat} {fs As rest : List Value} (hM : AM tb y cc' nL' ret' fr' lo' (.ref b :: As) h mc' ms' (av_Pi r h)) (hcs : av_cV own idx y cc' nL' ret' n) (hd : decode cc pc = .ok (.invokevirtual idx, 3)) (hb0 : h b = some (.inr (ci, fs))) (hci : (classes[ci]?).map (fun x => x.1) = some y.cls) (hn : As.length = n) (hst : st = As.reverse ++ .ref b :: rest) (hW : (rest.map fun v => v.category).sum ≤ 8) (h1 : fr' + 1 ≤ fr) (h2 : 8 + (nL' + 11) + lo' ≤ lo) (h3 : mc' + mc2 ≤ mc) (h4 : ms' + ms2 ≤ ms)
    (kk : AW tb own cc nL ret ini sc fr lo Post (pc + 3) L (Value.int r :: rest) h mc2 ms2) : AW tb own cc nL ret ini sc fr lo Post pc L st h mc ms :=
  aw_callV hM hcs hd hb0 hci hn hst hW h1 h2 h3 h4 (fun v h' q => by
    obtain ⟨q1, q2⟩ := q
    rw [q1, q2]
    exact kk)
theorem aw_callSi {y : MethodName} {cc' : ByteArray} {nL' : Nat} {ret' : Option FieldType} {fr' lo' mc' ms' mc2 ms2 : Nat} {r : Int32} {idx n : Nat} {As rest : List Value} (hM : AM tb y cc' nL' ret' fr' lo' As h mc' ms' (av_Pi r h)) (hcs : av_cS own idx y cc' nL' ret' n) (hd : decode cc pc = .ok (.invokestatic idx, 3)) (hn : As.length = n) (hst : st = As.reverse ++ rest) (hW : (rest.map fun v => v.category).sum ≤ 8) (h1 : fr' + 1 ≤ fr) (h2 : 8 + (nL' + 11) + lo' ≤ lo) (h3 : mc' + mc2 ≤ mc) (h4 : ms' + ms2 ≤ ms)
    (kk : AW tb own cc nL ret ini sc fr lo Post (pc + 3) L (Value.int r :: rest) h mc2 ms2) : AW tb own cc nL ret ini sc fr lo Post pc L st h mc ms :=
  aw_callS hM hcs hd hn hst hW h1 h2 h3 h4 (fun v h' q => by
    obtain ⟨q1, q2⟩ := q
    rw [q1, q2]
    exact kk)
theorem aw_callVr {y : MethodName} {cc' : ByteArray} {nL' : Nat} {ret' : Option FieldType} {fr' lo' mc' ms' mc2 ms2 : Nat} {r : Nat} {idx n b ci : Nat} {fs As rest : List Value} (hM : AM tb y cc' nL' ret' fr' lo' (.ref b :: As) h mc' ms' (av_Pr r h)) (hcs : av_cV own idx y cc' nL' ret' n) (hd : decode cc pc = .ok (.invokevirtual idx, 3)) (hb0 : h b = some (.inr (ci, fs))) (hci : (classes[ci]?).map (fun x => x.1) = some y.cls) (hn : As.length = n) (hst : st = As.reverse ++ .ref b :: rest) (hW : (rest.map fun v => v.category).sum ≤ 8) (h1 : fr' + 1 ≤ fr) (h2 : 8 + (nL' + 11) + lo' ≤ lo) (h3 : mc' + mc2 ≤ mc) (h4 : ms' + ms2 ≤ ms)
    (kk : AW tb own cc nL ret ini sc fr lo Post (pc + 3) L (Value.ref r :: rest) h mc2 ms2) : AW tb own cc nL ret ini sc fr lo Post pc L st h mc ms :=
  aw_callV hM hcs hd hb0 hci hn hst hW h1 h2 h3 h4 (fun v h' q => by
    obtain ⟨q1, q2⟩ := q
    rw [q1, q2]
    exact kk)
theorem aw_callSr {y : MethodName} {cc' : ByteArray} {nL' : Nat} {ret' : Option FieldType} {fr' lo' mc' ms' mc2 ms2 : Nat} {r : Nat} {idx n : Nat} {As rest : List Value} (hM : AM tb y cc' nL' ret' fr' lo' As h mc' ms' (av_Pr r h)) (hcs : av_cS own idx y cc' nL' ret' n) (hd : decode cc pc = .ok (.invokestatic idx, 3)) (hn : As.length = n) (hst : st = As.reverse ++ rest) (hW : (rest.map fun v => v.category).sum ≤ 8) (h1 : fr' + 1 ≤ fr) (h2 : 8 + (nL' + 11) + lo' ≤ lo) (h3 : mc' + mc2 ≤ mc) (h4 : ms' + ms2 ≤ ms)
    (kk : AW tb own cc nL ret ini sc fr lo Post (pc + 3) L (Value.ref r :: rest) h mc2 ms2) : AW tb own cc nL ret ini sc fr lo Post pc L st h mc ms :=
  aw_callS hM hcs hd hn hst hW h1 h2 h3 h4 (fun v h' q => by
    obtain ⟨q1, q2⟩ := q
    rw [q1, q2]
    exact kk)
end AWrows
end
section
/-! ===== words by their places, fields, classes, calls ===== -/
theorem tw_1 : (Jvm.Cond.initialized "ImageReader") ∈ av_tb := List.mem_filter.mpr ⟨List.mem_append_right _ (List.mem_of_getElem? (i := 1) (by decide +kernel)), by decide +kernel⟩
theorem tw_2 : (Jvm.Cond.initialized "ImageReader$Bytes") ∈ av_tb := List.mem_filter.mpr ⟨List.mem_append_right _ (List.mem_of_getElem? (i := 2) (by decide +kernel)), by decide +kernel⟩
theorem tw_3 : (Jvm.Cond.initialized "ImageReader$Image") ∈ av_tb := List.mem_filter.mpr ⟨List.mem_append_right _ (List.mem_of_getElem? (i := 3) (by decide +kernel)), by decide +kernel⟩
theorem tw_4 : (Jvm.Cond.initialized "ImageReader$Walk") ∈ av_tb := List.mem_filter.mpr ⟨List.mem_append_right _ (List.mem_of_getElem? (i := 4) (by decide +kernel)), by decide +kernel⟩
theorem tw_5 : (Jvm.Cond.initialized "ImageReader$Pairing") ∈ av_tb := List.mem_filter.mpr ⟨List.mem_append_right _ (List.mem_of_getElem? (i := 5) (by decide +kernel)), by decide +kernel⟩
theorem tw_6 : (Jvm.Cond.initialized "ImageReaderModel") ∈ av_tb := List.mem_filter.mpr ⟨List.mem_append_right _ (List.mem_of_getElem? (i := 6) (by decide +kernel)), by decide +kernel⟩
theorem tw_11 : (Jvm.Cond.initialized "java/util/Arrays") ∈ av_tb := List.mem_filter.mpr ⟨List.mem_append_right _ (List.mem_of_getElem? (i := 11) (by decide +kernel)), by decide +kernel⟩
theorem tw_12 : (Jvm.Cond.initialized "java/lang/Math") ∈ av_tb := List.mem_filter.mpr ⟨List.mem_append_right _ (List.mem_of_getElem? (i := 12) (by decide +kernel)), by decide +kernel⟩
theorem tw_13 : (Jvm.Cond.initialized "java/lang/System") ∈ av_tb := List.mem_filter.mpr ⟨List.mem_append_right _ (List.mem_of_getElem? (i := 13) (by decide +kernel)), by decide +kernel⟩
theorem tw_15 : (Jvm.Cond.initialized "ImageReader$Layout") ∈ av_tb := List.mem_filter.mpr ⟨List.mem_append_right _ (List.mem_of_getElem? (i := 15) (by decide +kernel)), by decide +kernel⟩
theorem tw_16 : (Jvm.Cond.initialized "ImageReader$Form") ∈ av_tb := List.mem_filter.mpr ⟨List.mem_append_right _ (List.mem_of_getElem? (i := 16) (by decide +kernel)), by decide +kernel⟩
theorem tw_17 : (Jvm.Cond.classLink "ImageReaderLaw" (8 : Nat) "ImageReader") ∈ av_tb := List.mem_filter.mpr ⟨List.mem_append_right _ (List.mem_of_getElem? (i := 17) (by decide +kernel)), by decide +kernel⟩
theorem tw_18 : (Jvm.Cond.instantiable "ImageReader" (8 : Nat)) ∈ av_tb := List.mem_filter.mpr ⟨List.mem_append_right _ (List.mem_of_getElem? (i := 18) (by decide +kernel)), by decide +kernel⟩
theorem tw_19 : (Jvm.Cond.methodLink "ImageReaderLaw" (21 : Nat) ({ cls := "ImageReader", name := "<init>", desc := "()V" } : Jvm.MethodName)) ∈ av_tb := List.mem_filter.mpr ⟨List.mem_append_right _ (List.mem_of_getElem? (i := 19) (by decide +kernel)), by decide +kernel⟩
theorem tw_20 : (Jvm.Cond.instanceMethod ({ cls := "ImageReader", name := "<init>", desc := "()V" } : Jvm.MethodName)) ∈ av_tb := List.mem_filter.mpr ⟨List.mem_append_right _ (List.mem_of_getElem? (i := 20) (by decide +kernel)), by decide +kernel⟩
theorem tw_21 : (Jvm.Cond.code ({ cls := "ImageReader", name := "<init>", desc := "()V" } : Jvm.MethodName) prog_1_method_1_code (1 : Nat) (Option.none : Option Jvm.ClassFile.FieldType)) ∈ av_tb := List.mem_filter.mpr ⟨List.mem_append_right _ (List.mem_of_getElem? (i := 21) (by decide +kernel)), by decide +kernel⟩
theorem tw_22 : (Jvm.Cond.methodLink "ImageReader" (1 : Nat) ({ cls := "java/lang/Object", name := "<init>", desc := "()V" } : Jvm.MethodName)) ∈ av_tb := List.mem_filter.mpr ⟨List.mem_append_right _ (List.mem_of_getElem? (i := 22) (by decide +kernel)), by decide +kernel⟩
theorem tw_23 : (Jvm.Cond.instanceMethod ({ cls := "java/lang/Object", name := "<init>", desc := "()V" } : Jvm.MethodName)) ∈ av_tb := List.mem_filter.mpr ⟨List.mem_append_right _ (List.mem_of_getElem? (i := 23) (by decide +kernel)), by decide +kernel⟩
theorem tw_24 : (Jvm.Cond.code ({ cls := "java/lang/Object", name := "<init>", desc := "()V" } : Jvm.MethodName) object_method_1_code (1 : Nat) (Option.none : Option Jvm.ClassFile.FieldType)) ∈ av_tb := List.mem_filter.mpr ⟨List.mem_append_right _ (List.mem_of_getElem? (i := 24) (by decide +kernel)), by decide +kernel⟩
theorem tw_25 : (Jvm.Cond.classLink "ImageReader" (7 : Nat) "ImageReader$Bytes") ∈ av_tb := List.mem_filter.mpr ⟨List.mem_append_right _ (List.mem_of_getElem? (i := 25) (by decide +kernel)), by decide +kernel⟩
theorem tw_26 : (Jvm.Cond.instantiable "ImageReader$Bytes" (2 : Nat)) ∈ av_tb := List.mem_filter.mpr ⟨List.mem_append_right _ (List.mem_of_getElem? (i := 26) (by decide +kernel)), by decide +kernel⟩
theorem nw_27 : (Jvm.Cond.methodLinkNest "ImageReader" (9 : Nat) ({ cls := "ImageReader$Bytes", name := "<init>", desc := "()V" } : Jvm.MethodName) "ImageReader") ∈ av_nw := List.mem_filter.mpr ⟨List.mem_append_right _ (List.mem_of_getElem? (i := 27) (by decide +kernel)), by decide +kernel⟩
theorem tw_28 : (Jvm.Cond.instanceMethod ({ cls := "ImageReader$Bytes", name := "<init>", desc := "()V" } : Jvm.MethodName)) ∈ av_tb := List.mem_filter.mpr ⟨List.mem_append_right _ (List.mem_of_getElem? (i := 28) (by decide +kernel)), by decide +kernel⟩
theorem tw_29 : (Jvm.Cond.code ({ cls := "ImageReader$Bytes", name := "<init>", desc := "()V" } : Jvm.MethodName) prog_2_method_1_code (1 : Nat) (Option.none : Option Jvm.ClassFile.FieldType)) ∈ av_tb := List.mem_filter.mpr ⟨List.mem_append_right _ (List.mem_of_getElem? (i := 29) (by decide +kernel)), by decide +kernel⟩
theorem tw_30 : (Jvm.Cond.methodLink "ImageReader$Bytes" (3 : Nat) ({ cls := "java/lang/Object", name := "<init>", desc := "()V" } : Jvm.MethodName)) ∈ av_tb := List.mem_filter.mpr ⟨List.mem_append_right _ (List.mem_of_getElem? (i := 30) (by decide +kernel)), by decide +kernel⟩
theorem tw_31 : (Jvm.Cond.fieldLink "ImageReader$Bytes" (9 : Nat) "ImageReader$Bytes" "row" "[B") ∈ av_tb := List.mem_filter.mpr ⟨List.mem_append_right _ (List.mem_of_getElem? (i := 31) (by decide +kernel)), by decide +kernel⟩
theorem nw_32 : (Jvm.Cond.fieldLinkNest "ImageReader" (74 : Nat) "ImageReader$Bytes" "row" "[B" "ImageReader") ∈ av_nw := List.mem_filter.mpr ⟨List.mem_append_right _ (List.mem_of_getElem? (i := 32) (by decide +kernel)), by decide +kernel⟩
theorem nw_33 : (Jvm.Cond.fieldLinkNest "ImageReader" (49 : Nat) "ImageReader$Bytes" "length" "I" "ImageReader") ∈ av_nw := List.mem_filter.mpr ⟨List.mem_append_right _ (List.mem_of_getElem? (i := 33) (by decide +kernel)), by decide +kernel⟩
theorem tw_34 : (Jvm.Cond.fieldLink "ImageReader$Bytes" (15 : Nat) "ImageReader$Bytes" "length" "I") ∈ av_tb := List.mem_filter.mpr ⟨List.mem_append_right _ (List.mem_of_getElem? (i := 34) (by decide +kernel)), by decide +kernel⟩
theorem nw_35 : (Jvm.Cond.fieldLinkNest "ImageReader$Layout" (26 : Nat) "ImageReader$Bytes" "length" "I" "ImageReader") ∈ av_nw := List.mem_filter.mpr ⟨List.mem_append_right _ (List.mem_of_getElem? (i := 35) (by decide +kernel)), by decide +kernel⟩
theorem tw_41 : (Jvm.Cond.arrayClass Jvm.ClassFile.FieldType.byte) ∈ av_tb := List.mem_filter.mpr ⟨List.mem_append_right _ (List.mem_of_getElem? (i := 41) (by decide +kernel)), by decide +kernel⟩
theorem tw_42 : (Jvm.Cond.classLink "ImageReader" (16 : Nat) "ImageReader$Image") ∈ av_tb := List.mem_filter.mpr ⟨List.mem_append_right _ (List.mem_of_getElem? (i := 42) (by decide +kernel)), by decide +kernel⟩
theorem tw_43 : (Jvm.Cond.instantiable "ImageReader$Image" (11 : Nat)) ∈ av_tb := List.mem_filter.mpr ⟨List.mem_append_right _ (List.mem_of_getElem? (i := 43) (by decide +kernel)), by decide +kernel⟩
theorem nw_44 : (Jvm.Cond.methodLinkNest "ImageReader" (18 : Nat) ({ cls := "ImageReader$Image", name := "<init>", desc := "()V" } : Jvm.MethodName) "ImageReader") ∈ av_nw := List.mem_filter.mpr ⟨List.mem_append_right _ (List.mem_of_getElem? (i := 44) (by decide +kernel)), by decide +kernel⟩
theorem tw_45 : (Jvm.Cond.instanceMethod ({ cls := "ImageReader$Image", name := "<init>", desc := "()V" } : Jvm.MethodName)) ∈ av_tb := List.mem_filter.mpr ⟨List.mem_append_right _ (List.mem_of_getElem? (i := 45) (by decide +kernel)), by decide +kernel⟩
theorem tw_46 : (Jvm.Cond.code ({ cls := "ImageReader$Image", name := "<init>", desc := "()V" } : Jvm.MethodName) prog_4_method_1_code (1 : Nat) (Option.none : Option Jvm.ClassFile.FieldType)) ∈ av_tb := List.mem_filter.mpr ⟨List.mem_append_right _ (List.mem_of_getElem? (i := 46) (by decide +kernel)), by decide +kernel⟩
theorem tw_47 : (Jvm.Cond.methodLink "ImageReader$Image" (3 : Nat) ({ cls := "java/lang/Object", name := "<init>", desc := "()V" } : Jvm.MethodName)) ∈ av_tb := List.mem_filter.mpr ⟨List.mem_append_right _ (List.mem_of_getElem? (i := 47) (by decide +kernel)), by decide +kernel⟩
theorem tw_48 : (Jvm.Cond.fieldLink "ImageReader$Image" (9 : Nat) "ImageReader$Image" "specials" "[I") ∈ av_tb := List.mem_filter.mpr ⟨List.mem_append_right _ (List.mem_of_getElem? (i := 48) (by decide +kernel)), by decide +kernel⟩
theorem nw_49 : (Jvm.Cond.fieldLinkNest "ImageReader$Walk" (22 : Nat) "ImageReader$Image" "specials" "[I" "ImageReader") ∈ av_nw := List.mem_filter.mpr ⟨List.mem_append_right _ (List.mem_of_getElem? (i := 49) (by decide +kernel)), by decide +kernel⟩
theorem nw_50 : (Jvm.Cond.fieldLinkNest "ImageReader$Pairing" (34 : Nat) "ImageReader$Image" "specials" "[I" "ImageReader") ∈ av_nw := List.mem_filter.mpr ⟨List.mem_append_right _ (List.mem_of_getElem? (i := 50) (by decide +kernel)), by decide +kernel⟩
theorem nw_51 : (Jvm.Cond.fieldLinkNest "ImageReader$Layout" (50 : Nat) "ImageReader$Image" "specials" "[I" "ImageReader") ∈ av_nw := List.mem_filter.mpr ⟨List.mem_append_right _ (List.mem_of_getElem? (i := 51) (by decide +kernel)), by decide +kernel⟩
theorem nw_52 : (Jvm.Cond.fieldLinkNest "ImageReader" (130 : Nat) "ImageReader$Image" "specials" "[I" "ImageReader") ∈ av_nw := List.mem_filter.mpr ⟨List.mem_append_right _ (List.mem_of_getElem? (i := 52) (by decide +kernel)), by decide +kernel⟩
theorem tw_53 : (Jvm.Cond.fieldLink "ImageReader$Image" (15 : Nat) "ImageReader$Image" "classes" "[I") ∈ av_tb := List.mem_filter.mpr ⟨List.mem_append_right _ (List.mem_of_getElem? (i := 53) (by decide +kernel)), by decide +kernel⟩
theorem nw_54 : (Jvm.Cond.fieldLinkNest "ImageReader$Pairing" (50 : Nat) "ImageReader$Image" "classes" "[I" "ImageReader") ∈ av_nw := List.mem_filter.mpr ⟨List.mem_append_right _ (List.mem_of_getElem? (i := 54) (by decide +kernel)), by decide +kernel⟩
theorem nw_55 : (Jvm.Cond.fieldLinkNest "ImageReader$Walk" (52 : Nat) "ImageReader$Image" "classes" "[I" "ImageReader") ∈ av_nw := List.mem_filter.mpr ⟨List.mem_append_right _ (List.mem_of_getElem? (i := 55) (by decide +kernel)), by decide +kernel⟩
theorem nw_56 : (Jvm.Cond.fieldLinkNest "ImageReader" (189 : Nat) "ImageReader$Image" "classes" "[I" "ImageReader") ∈ av_nw := List.mem_filter.mpr ⟨List.mem_append_right _ (List.mem_of_getElem? (i := 56) (by decide +kernel)), by decide +kernel⟩
theorem tw_57 : (Jvm.Cond.fieldLink "ImageReader$Image" (18 : Nat) "ImageReader$Image" "kinds" "[I") ∈ av_tb := List.mem_filter.mpr ⟨List.mem_append_right _ (List.mem_of_getElem? (i := 57) (by decide +kernel)), by decide +kernel⟩
theorem nw_58 : (Jvm.Cond.fieldLinkNest "ImageReader$Pairing" (69 : Nat) "ImageReader$Image" "kinds" "[I" "ImageReader") ∈ av_nw := List.mem_filter.mpr ⟨List.mem_append_right _ (List.mem_of_getElem? (i := 58) (by decide +kernel)), by decide +kernel⟩
theorem nw_59 : (Jvm.Cond.fieldLinkNest "ImageReader$Form" (63 : Nat) "ImageReader$Image" "kinds" "[I" "ImageReader") ∈ av_nw := List.mem_filter.mpr ⟨List.mem_append_right _ (List.mem_of_getElem? (i := 59) (by decide +kernel)), by decide +kernel⟩
theorem nw_60 : (Jvm.Cond.fieldLinkNest "ImageReader" (103 : Nat) "ImageReader$Image" "kinds" "[I" "ImageReader") ∈ av_nw := List.mem_filter.mpr ⟨List.mem_append_right _ (List.mem_of_getElem? (i := 60) (by decide +kernel)), by decide +kernel⟩
theorem tw_61 : (Jvm.Cond.fieldLink "ImageReader$Image" (21 : Nat) "ImageReader$Image" "sizes" "[I") ∈ av_tb := List.mem_filter.mpr ⟨List.mem_append_right _ (List.mem_of_getElem? (i := 61) (by decide +kernel)), by decide +kernel⟩
theorem nw_62 : (Jvm.Cond.fieldLinkNest "ImageReader$Pairing" (72 : Nat) "ImageReader$Image" "sizes" "[I" "ImageReader") ∈ av_nw := List.mem_filter.mpr ⟨List.mem_append_right _ (List.mem_of_getElem? (i := 62) (by decide +kernel)), by decide +kernel⟩
theorem nw_63 : (Jvm.Cond.fieldLinkNest "ImageReader$Form" (67 : Nat) "ImageReader$Image" "sizes" "[I" "ImageReader") ∈ av_nw := List.mem_filter.mpr ⟨List.mem_append_right _ (List.mem_of_getElem? (i := 63) (by decide +kernel)), by decide +kernel⟩
theorem nw_64 : (Jvm.Cond.fieldLinkNest "ImageReader" (110 : Nat) "ImageReader$Image" "sizes" "[I" "ImageReader") ∈ av_nw := List.mem_filter.mpr ⟨List.mem_append_right _ (List.mem_of_getElem? (i := 64) (by decide +kernel)), by decide +kernel⟩
theorem tw_65 : (Jvm.Cond.fieldLink "ImageReader$Image" (24 : Nat) "ImageReader$Image" "starts" "[I") ∈ av_tb := List.mem_filter.mpr ⟨List.mem_append_right _ (List.mem_of_getElem? (i := 65) (by decide +kernel)), by decide +kernel⟩
theorem nw_66 : (Jvm.Cond.fieldLinkNest "ImageReader$Pairing" (78 : Nat) "ImageReader$Image" "starts" "[I" "ImageReader") ∈ av_nw := List.mem_filter.mpr ⟨List.mem_append_right _ (List.mem_of_getElem? (i := 66) (by decide +kernel)), by decide +kernel⟩
theorem nw_67 : (Jvm.Cond.fieldLinkNest "ImageReader" (195 : Nat) "ImageReader$Image" "starts" "[I" "ImageReader") ∈ av_nw := List.mem_filter.mpr ⟨List.mem_append_right _ (List.mem_of_getElem? (i := 67) (by decide +kernel)), by decide +kernel⟩
theorem tw_68 : (Jvm.Cond.fieldLink "ImageReader$Image" (27 : Nat) "ImageReader$Image" "parts" "[I") ∈ av_tb := List.mem_filter.mpr ⟨List.mem_append_right _ (List.mem_of_getElem? (i := 68) (by decide +kernel)), by decide +kernel⟩
theorem nw_69 : (Jvm.Cond.fieldLinkNest "ImageReader$Pairing" (75 : Nat) "ImageReader$Image" "parts" "[I" "ImageReader") ∈ av_nw := List.mem_filter.mpr ⟨List.mem_append_right _ (List.mem_of_getElem? (i := 69) (by decide +kernel)), by decide +kernel⟩
theorem nw_70 : (Jvm.Cond.fieldLinkNest "ImageReader" (192 : Nat) "ImageReader$Image" "parts" "[I" "ImageReader") ∈ av_nw := List.mem_filter.mpr ⟨List.mem_append_right _ (List.mem_of_getElem? (i := 70) (by decide +kernel)), by decide +kernel⟩
theorem tw_71 : (Jvm.Cond.fieldLink "ImageReader$Image" (30 : Nat) "ImageReader$Image" "used" "I") ∈ av_tb := List.mem_filter.mpr ⟨List.mem_append_right _ (List.mem_of_getElem? (i := 71) (by decide +kernel)), by decide +kernel⟩
theorem tw_72 : (Jvm.Cond.fieldLink "ImageReader$Image" (34 : Nat) "ImageReader$Image" "count" "I") ∈ av_tb := List.mem_filter.mpr ⟨List.mem_append_right _ (List.mem_of_getElem? (i := 72) (by decide +kernel)), by decide +kernel⟩
theorem nw_73 : (Jvm.Cond.fieldLinkNest "ImageReader$Form" (18 : Nat) "ImageReader$Image" "count" "I" "ImageReader") ∈ av_nw := List.mem_filter.mpr ⟨List.mem_append_right _ (List.mem_of_getElem? (i := 73) (by decide +kernel)), by decide +kernel⟩
theorem nw_74 : (Jvm.Cond.fieldLinkNest "ImageReader$Walk" (39 : Nat) "ImageReader$Image" "count" "I" "ImageReader") ∈ av_nw := List.mem_filter.mpr ⟨List.mem_append_right _ (List.mem_of_getElem? (i := 74) (by decide +kernel)), by decide +kernel⟩
theorem nw_75 : (Jvm.Cond.fieldLinkNest "ImageReader$Pairing" (44 : Nat) "ImageReader$Image" "count" "I" "ImageReader") ∈ av_nw := List.mem_filter.mpr ⟨List.mem_append_right _ (List.mem_of_getElem? (i := 75) (by decide +kernel)), by decide +kernel⟩
theorem nw_76 : (Jvm.Cond.fieldLinkNest "ImageReader" (86 : Nat) "ImageReader$Image" "count" "I" "ImageReader") ∈ av_nw := List.mem_filter.mpr ⟨List.mem_append_right _ (List.mem_of_getElem? (i := 76) (by decide +kernel)), by decide +kernel⟩
theorem nw_77 : (Jvm.Cond.fieldLinkNest "ImageReader$Form" (9 : Nat) "ImageReader$Image" "words" "I" "ImageReader") ∈ av_nw := List.mem_filter.mpr ⟨List.mem_append_right _ (List.mem_of_getElem? (i := 77) (by decide +kernel)), by decide +kernel⟩
theorem tw_78 : (Jvm.Cond.fieldLink "ImageReader$Image" (37 : Nat) "ImageReader$Image" "words" "I") ∈ av_tb := List.mem_filter.mpr ⟨List.mem_append_right _ (List.mem_of_getElem? (i := 78) (by decide +kernel)), by decide +kernel⟩
theorem nw_79 : (Jvm.Cond.fieldLinkNest "ImageReader" (89 : Nat) "ImageReader$Image" "words" "I" "ImageReader") ∈ av_nw := List.mem_filter.mpr ⟨List.mem_append_right _ (List.mem_of_getElem? (i := 79) (by decide +kernel)), by decide +kernel⟩
theorem nw_80 : (Jvm.Cond.fieldLinkNest "ImageReader$Form" (15 : Nat) "ImageReader$Image" "wordsPower" "I" "ImageReader") ∈ av_nw := List.mem_filter.mpr ⟨List.mem_append_right _ (List.mem_of_getElem? (i := 80) (by decide +kernel)), by decide +kernel⟩
theorem nw_81 : (Jvm.Cond.fieldLinkNest "ImageReader$Pairing" (25 : Nat) "ImageReader$Image" "wordsPower" "I" "ImageReader") ∈ av_nw := List.mem_filter.mpr ⟨List.mem_append_right _ (List.mem_of_getElem? (i := 81) (by decide +kernel)), by decide +kernel⟩
theorem nw_82 : (Jvm.Cond.fieldLinkNest "ImageReader$Layout" (38 : Nat) "ImageReader$Image" "wordsPower" "I" "ImageReader") ∈ av_nw := List.mem_filter.mpr ⟨List.mem_append_right _ (List.mem_of_getElem? (i := 82) (by decide +kernel)), by decide +kernel⟩
theorem nw_83 : (Jvm.Cond.fieldLinkNest "ImageReader" (180 : Nat) "ImageReader$Image" "wordsPower" "I" "ImageReader") ∈ av_nw := List.mem_filter.mpr ⟨List.mem_append_right _ (List.mem_of_getElem? (i := 83) (by decide +kernel)), by decide +kernel⟩
theorem nw_84 : (Jvm.Cond.fieldLinkNest "ImageReader$Pairing" (31 : Nat) "ImageReader$Image" "countPower" "I" "ImageReader") ∈ av_nw := List.mem_filter.mpr ⟨List.mem_append_right _ (List.mem_of_getElem? (i := 84) (by decide +kernel)), by decide +kernel⟩
theorem nw_85 : (Jvm.Cond.fieldLinkNest "ImageReader$Form" (21 : Nat) "ImageReader$Image" "countPower" "I" "ImageReader") ∈ av_nw := List.mem_filter.mpr ⟨List.mem_append_right _ (List.mem_of_getElem? (i := 85) (by decide +kernel)), by decide +kernel⟩
theorem nw_86 : (Jvm.Cond.fieldLinkNest "ImageReader$Layout" (41 : Nat) "ImageReader$Image" "countPower" "I" "ImageReader") ∈ av_nw := List.mem_filter.mpr ⟨List.mem_append_right _ (List.mem_of_getElem? (i := 86) (by decide +kernel)), by decide +kernel⟩
theorem nw_87 : (Jvm.Cond.fieldLinkNest "ImageReader" (183 : Nat) "ImageReader$Image" "countPower" "I" "ImageReader") ∈ av_nw := List.mem_filter.mpr ⟨List.mem_append_right _ (List.mem_of_getElem? (i := 87) (by decide +kernel)), by decide +kernel⟩
theorem tw_111 : (Jvm.Cond.arrayClass Jvm.ClassFile.FieldType.int) ∈ av_tb := List.mem_filter.mpr ⟨List.mem_append_right _ (List.mem_of_getElem? (i := 111) (by decide +kernel)), by decide +kernel⟩
theorem tw_112 : (Jvm.Cond.classLink "ImageReader" (29 : Nat) "ImageReader$Walk") ∈ av_tb := List.mem_filter.mpr ⟨List.mem_append_right _ (List.mem_of_getElem? (i := 112) (by decide +kernel)), by decide +kernel⟩
theorem tw_113 : (Jvm.Cond.instantiable "ImageReader$Walk" (3 : Nat)) ∈ av_tb := List.mem_filter.mpr ⟨List.mem_append_right _ (List.mem_of_getElem? (i := 113) (by decide +kernel)), by decide +kernel⟩
theorem nw_114 : (Jvm.Cond.methodLinkNest "ImageReader" (31 : Nat) ({ cls := "ImageReader$Walk", name := "<init>", desc := "()V" } : Jvm.MethodName) "ImageReader") ∈ av_nw := List.mem_filter.mpr ⟨List.mem_append_right _ (List.mem_of_getElem? (i := 114) (by decide +kernel)), by decide +kernel⟩
theorem tw_115 : (Jvm.Cond.instanceMethod ({ cls := "ImageReader$Walk", name := "<init>", desc := "()V" } : Jvm.MethodName)) ∈ av_tb := List.mem_filter.mpr ⟨List.mem_append_right _ (List.mem_of_getElem? (i := 115) (by decide +kernel)), by decide +kernel⟩
theorem tw_116 : (Jvm.Cond.code ({ cls := "ImageReader$Walk", name := "<init>", desc := "()V" } : Jvm.MethodName) prog_7_method_1_code (1 : Nat) (Option.none : Option Jvm.ClassFile.FieldType)) ∈ av_tb := List.mem_filter.mpr ⟨List.mem_append_right _ (List.mem_of_getElem? (i := 116) (by decide +kernel)), by decide +kernel⟩
theorem tw_117 : (Jvm.Cond.methodLink "ImageReader$Walk" (3 : Nat) ({ cls := "java/lang/Object", name := "<init>", desc := "()V" } : Jvm.MethodName)) ∈ av_tb := List.mem_filter.mpr ⟨List.mem_append_right _ (List.mem_of_getElem? (i := 117) (by decide +kernel)), by decide +kernel⟩
theorem tw_118 : (Jvm.Cond.fieldLink "ImageReader$Walk" (9 : Nat) "ImageReader$Walk" "numbers" "[I") ∈ av_tb := List.mem_filter.mpr ⟨List.mem_append_right _ (List.mem_of_getElem? (i := 118) (by decide +kernel)), by decide +kernel⟩
theorem nw_119 : (Jvm.Cond.fieldLinkNest "ImageReader" (137 : Nat) "ImageReader$Walk" "numbers" "[I" "ImageReader") ∈ av_nw := List.mem_filter.mpr ⟨List.mem_append_right _ (List.mem_of_getElem? (i := 119) (by decide +kernel)), by decide +kernel⟩
theorem tw_120 : (Jvm.Cond.fieldLink "ImageReader$Walk" (15 : Nat) "ImageReader$Walk" "queue" "[I") ∈ av_tb := List.mem_filter.mpr ⟨List.mem_append_right _ (List.mem_of_getElem? (i := 120) (by decide +kernel)), by decide +kernel⟩
theorem tw_121 : (Jvm.Cond.fieldLink "ImageReader$Walk" (35 : Nat) "ImageReader$Walk" "reached" "I") ∈ av_tb := List.mem_filter.mpr ⟨List.mem_append_right _ (List.mem_of_getElem? (i := 121) (by decide +kernel)), by decide +kernel⟩
theorem tw_129 : (Jvm.Cond.classLink "ImageReader" (36 : Nat) "ImageReader$Pairing") ∈ av_tb := List.mem_filter.mpr ⟨List.mem_append_right _ (List.mem_of_getElem? (i := 129) (by decide +kernel)), by decide +kernel⟩
theorem tw_130 : (Jvm.Cond.instantiable "ImageReader$Pairing" (4 : Nat)) ∈ av_tb := List.mem_filter.mpr ⟨List.mem_append_right _ (List.mem_of_getElem? (i := 130) (by decide +kernel)), by decide +kernel⟩
theorem nw_131 : (Jvm.Cond.methodLinkNest "ImageReader" (38 : Nat) ({ cls := "ImageReader$Pairing", name := "<init>", desc := "()V" } : Jvm.MethodName) "ImageReader") ∈ av_nw := List.mem_filter.mpr ⟨List.mem_append_right _ (List.mem_of_getElem? (i := 131) (by decide +kernel)), by decide +kernel⟩
theorem tw_132 : (Jvm.Cond.instanceMethod ({ cls := "ImageReader$Pairing", name := "<init>", desc := "()V" } : Jvm.MethodName)) ∈ av_tb := List.mem_filter.mpr ⟨List.mem_append_right _ (List.mem_of_getElem? (i := 132) (by decide +kernel)), by decide +kernel⟩
theorem tw_133 : (Jvm.Cond.code ({ cls := "ImageReader$Pairing", name := "<init>", desc := "()V" } : Jvm.MethodName) prog_6_method_1_code (1 : Nat) (Option.none : Option Jvm.ClassFile.FieldType)) ∈ av_tb := List.mem_filter.mpr ⟨List.mem_append_right _ (List.mem_of_getElem? (i := 133) (by decide +kernel)), by decide +kernel⟩
theorem tw_134 : (Jvm.Cond.methodLink "ImageReader$Pairing" (3 : Nat) ({ cls := "java/lang/Object", name := "<init>", desc := "()V" } : Jvm.MethodName)) ∈ av_tb := List.mem_filter.mpr ⟨List.mem_append_right _ (List.mem_of_getElem? (i := 134) (by decide +kernel)), by decide +kernel⟩
theorem tw_135 : (Jvm.Cond.fieldLink "ImageReader$Pairing" (9 : Nat) "ImageReader$Pairing" "partners" "[I") ∈ av_tb := List.mem_filter.mpr ⟨List.mem_append_right _ (List.mem_of_getElem? (i := 135) (by decide +kernel)), by decide +kernel⟩
theorem tw_136 : (Jvm.Cond.fieldLink "ImageReader$Pairing" (15 : Nat) "ImageReader$Pairing" "partnersBack" "[I") ∈ av_tb := List.mem_filter.mpr ⟨List.mem_append_right _ (List.mem_of_getElem? (i := 136) (by decide +kernel)), by decide +kernel⟩
theorem tw_137 : (Jvm.Cond.fieldLink "ImageReader$Pairing" (18 : Nat) "ImageReader$Pairing" "queue" "[I") ∈ av_tb := List.mem_filter.mpr ⟨List.mem_append_right _ (List.mem_of_getElem? (i := 137) (by decide +kernel)), by decide +kernel⟩
theorem tw_138 : (Jvm.Cond.fieldLink "ImageReader$Pairing" (41 : Nat) "ImageReader$Pairing" "paired" "I") ∈ av_tb := List.mem_filter.mpr ⟨List.mem_append_right _ (List.mem_of_getElem? (i := 138) (by decide +kernel)), by decide +kernel⟩
theorem tw_148 : (Jvm.Cond.fieldLink "ImageReader" (10 : Nat) "ImageReader" "incoming" "LImageReader$Bytes;") ∈ av_tb := List.mem_filter.mpr ⟨List.mem_append_right _ (List.mem_of_getElem? (i := 148) (by decide +kernel)), by decide +kernel⟩
theorem tw_149 : (Jvm.Cond.fieldLink "ImageReader" (19 : Nat) "ImageReader" "first" "LImageReader$Image;") ∈ av_tb := List.mem_filter.mpr ⟨List.mem_append_right _ (List.mem_of_getElem? (i := 149) (by decide +kernel)), by decide +kernel⟩
theorem tw_150 : (Jvm.Cond.fieldLink "ImageReader" (23 : Nat) "ImageReader" "second" "LImageReader$Image;") ∈ av_tb := List.mem_filter.mpr ⟨List.mem_append_right _ (List.mem_of_getElem? (i := 150) (by decide +kernel)), by decide +kernel⟩
theorem tw_151 : (Jvm.Cond.fieldLink "ImageReader" (26 : Nat) "ImageReader" "third" "LImageReader$Image;") ∈ av_tb := List.mem_filter.mpr ⟨List.mem_append_right _ (List.mem_of_getElem? (i := 151) (by decide +kernel)), by decide +kernel⟩
theorem tw_152 : (Jvm.Cond.fieldLink "ImageReader" (32 : Nat) "ImageReader" "walk" "LImageReader$Walk;") ∈ av_tb := List.mem_filter.mpr ⟨List.mem_append_right _ (List.mem_of_getElem? (i := 152) (by decide +kernel)), by decide +kernel⟩
theorem tw_153 : (Jvm.Cond.fieldLink "ImageReader" (39 : Nat) "ImageReader" "pairing" "LImageReader$Pairing;") ∈ av_tb := List.mem_filter.mpr ⟨List.mem_append_right _ (List.mem_of_getElem? (i := 153) (by decide +kernel)), by decide +kernel⟩
theorem tw_154 : (Jvm.Cond.fieldLink "ImageReader" (43 : Nat) "ImageReader" "hand" "LImageReader$Image;") ∈ av_tb := List.mem_filter.mpr ⟨List.mem_append_right _ (List.mem_of_getElem? (i := 154) (by decide +kernel)), by decide +kernel⟩
theorem tw_155 : (Jvm.Cond.fieldLink "ImageReader" (46 : Nat) "ImageReader" "kept" "LImageReader$Image;") ∈ av_tb := List.mem_filter.mpr ⟨List.mem_append_right _ (List.mem_of_getElem? (i := 155) (by decide +kernel)), by decide +kernel⟩
theorem tw_173 : (Jvm.Cond.methodLink "ImageReaderLaw" (39 : Nat) ({ cls := "ImageReader", name := "change", desc := "(II)I" } : Jvm.MethodName)) ∈ av_tb := List.mem_filter.mpr ⟨List.mem_append_right _ (List.mem_of_getElem? (i := 173) (by decide +kernel)), by decide +kernel⟩
theorem tw_174 : (Jvm.Cond.instanceMethod ({ cls := "ImageReader", name := "change", desc := "(II)I" } : Jvm.MethodName)) ∈ av_tb := List.mem_filter.mpr ⟨List.mem_append_right _ (List.mem_of_getElem? (i := 174) (by decide +kernel)), by decide +kernel⟩
theorem tw_175 : (Jvm.Cond.selects "ImageReader" ({ cls := "ImageReader", name := "change", desc := "(II)I" } : Jvm.MethodName) ({ cls := "ImageReader", name := "change", desc := "(II)I" } : Jvm.MethodName)) ∈ av_tb := List.mem_filter.mpr ⟨List.mem_append_right _ (List.mem_of_getElem? (i := 175) (by decide +kernel)), by decide +kernel⟩
theorem tw_176 : (Jvm.Cond.code ({ cls := "ImageReader", name := "change", desc := "(II)I" } : Jvm.MethodName) prog_1_method_4_code (4 : Nat) (Option.some Jvm.ClassFile.FieldType.int)) ∈ av_tb := List.mem_filter.mpr ⟨List.mem_append_right _ (List.mem_of_getElem? (i := 176) (by decide +kernel)), by decide +kernel⟩
theorem nw_177 : (Jvm.Cond.methodLinkNest "ImageReader" (70 : Nat) ({ cls := "ImageReader$Bytes", name := "at", desc := "(I)I" } : Jvm.MethodName) "ImageReader") ∈ av_nw := List.mem_filter.mpr ⟨List.mem_append_right _ (List.mem_of_getElem? (i := 177) (by decide +kernel)), by decide +kernel⟩
theorem tw_179 : (Jvm.Cond.instanceMethod ({ cls := "ImageReader$Bytes", name := "at", desc := "(I)I" } : Jvm.MethodName)) ∈ av_tb := List.mem_filter.mpr ⟨List.mem_append_right _ (List.mem_of_getElem? (i := 179) (by decide +kernel)), by decide +kernel⟩
theorem tw_180 : (Jvm.Cond.code ({ cls := "ImageReader$Bytes", name := "at", desc := "(I)I" } : Jvm.MethodName) prog_2_method_2_code (2 : Nat) (Option.some Jvm.ClassFile.FieldType.int)) ∈ av_tb := List.mem_filter.mpr ⟨List.mem_append_right _ (List.mem_of_getElem? (i := 180) (by decide +kernel)), by decide +kernel⟩
theorem tw_181 : (Jvm.Cond.methodLink "ImageReaderLaw" (44 : Nat) ({ cls := "ImageReader", name := "read", desc := "()I" } : Jvm.MethodName)) ∈ av_tb := List.mem_filter.mpr ⟨List.mem_append_right _ (List.mem_of_getElem? (i := 181) (by decide +kernel)), by decide +kernel⟩
theorem tw_182 : (Jvm.Cond.instanceMethod ({ cls := "ImageReader", name := "read", desc := "()I" } : Jvm.MethodName)) ∈ av_tb := List.mem_filter.mpr ⟨List.mem_append_right _ (List.mem_of_getElem? (i := 182) (by decide +kernel)), by decide +kernel⟩
theorem tw_183 : (Jvm.Cond.selects "ImageReader" ({ cls := "ImageReader", name := "read", desc := "()I" } : Jvm.MethodName) ({ cls := "ImageReader", name := "read", desc := "()I" } : Jvm.MethodName)) ∈ av_tb := List.mem_filter.mpr ⟨List.mem_append_right _ (List.mem_of_getElem? (i := 183) (by decide +kernel)), by decide +kernel⟩
theorem tw_184 : (Jvm.Cond.code ({ cls := "ImageReader", name := "read", desc := "()I" } : Jvm.MethodName) prog_1_method_5_code (3 : Nat) (Option.some Jvm.ClassFile.FieldType.int)) ∈ av_tb := List.mem_filter.mpr ⟨List.mem_append_right _ (List.mem_of_getElem? (i := 184) (by decide +kernel)), by decide +kernel⟩
theorem tw_185 : (Jvm.Cond.methodLink "ImageReader" (78 : Nat) ({ cls := "ImageReader", name := "spareImage", desc := "()LImageReader$Image;" } : Jvm.MethodName)) ∈ av_tb := List.mem_filter.mpr ⟨List.mem_append_right _ (List.mem_of_getElem? (i := 185) (by decide +kernel)), by decide +kernel⟩
theorem tw_187 : (Jvm.Cond.instanceMethod ({ cls := "ImageReader", name := "spareImage", desc := "()LImageReader$Image;" } : Jvm.MethodName)) ∈ av_tb := List.mem_filter.mpr ⟨List.mem_append_right _ (List.mem_of_getElem? (i := 187) (by decide +kernel)), by decide +kernel⟩
theorem tw_188 : (Jvm.Cond.code ({ cls := "ImageReader", name := "spareImage", desc := "()LImageReader$Image;" } : Jvm.MethodName) prog_1_method_19_code (1 : Nat) (Option.some (Jvm.ClassFile.FieldType.object "ImageReader$Image"))) ∈ av_tb := List.mem_filter.mpr ⟨List.mem_append_right _ (List.mem_of_getElem? (i := 188) (by decide +kernel)), by decide +kernel⟩
theorem tw_189 : (Jvm.Cond.methodLink "ImageReader" (82 : Nat) ({ cls := "ImageReader", name := "placeOfRefusal", desc := "(LImageReader$Image;)I" } : Jvm.MethodName)) ∈ av_tb := List.mem_filter.mpr ⟨List.mem_append_right _ (List.mem_of_getElem? (i := 189) (by decide +kernel)), by decide +kernel⟩
theorem tw_191 : (Jvm.Cond.instanceMethod ({ cls := "ImageReader", name := "placeOfRefusal", desc := "(LImageReader$Image;)I" } : Jvm.MethodName)) ∈ av_tb := List.mem_filter.mpr ⟨List.mem_append_right _ (List.mem_of_getElem? (i := 191) (by decide +kernel)), by decide +kernel⟩
theorem tw_192 : (Jvm.Cond.code ({ cls := "ImageReader", name := "placeOfRefusal", desc := "(LImageReader$Image;)I" } : Jvm.MethodName) prog_1_method_20_code (3 : Nat) (Option.some Jvm.ClassFile.FieldType.int)) ∈ av_tb := List.mem_filter.mpr ⟨List.mem_append_right _ (List.mem_of_getElem? (i := 192) (by decide +kernel)), by decide +kernel⟩
theorem nw_193 : (Jvm.Cond.methodLinkNest "ImageReader" (147 : Nat) ({ cls := "ImageReader$Layout", name := "headPlace", desc := "(LImageReader$Bytes;)I" } : Jvm.MethodName) "ImageReader") ∈ av_nw := List.mem_filter.mpr ⟨List.mem_append_right _ (List.mem_of_getElem? (i := 193) (by decide +kernel)), by decide +kernel⟩
theorem tw_194 : (Jvm.Cond.static ({ cls := "ImageReader$Layout", name := "headPlace", desc := "(LImageReader$Bytes;)I" } : Jvm.MethodName)) ∈ av_tb := List.mem_filter.mpr ⟨List.mem_append_right _ (List.mem_of_getElem? (i := 194) (by decide +kernel)), by decide +kernel⟩
theorem tw_195 : (Jvm.Cond.code ({ cls := "ImageReader$Layout", name := "headPlace", desc := "(LImageReader$Bytes;)I" } : Jvm.MethodName) prog_5_method_2_code (3 : Nat) (Option.some Jvm.ClassFile.FieldType.int)) ∈ av_tb := List.mem_filter.mpr ⟨List.mem_append_right _ (List.mem_of_getElem? (i := 195) (by decide +kernel)), by decide +kernel⟩
theorem nw_198 : (Jvm.Cond.methodLinkNest "ImageReader$Layout" (13 : Nat) ({ cls := "ImageReader$Bytes", name := "at", desc := "(I)I" } : Jvm.MethodName) "ImageReader") ∈ av_nw := List.mem_filter.mpr ⟨List.mem_append_right _ (List.mem_of_getElem? (i := 198) (by decide +kernel)), by decide +kernel⟩
theorem nw_201 : (Jvm.Cond.methodLinkNest "ImageReader$Layout" (22 : Nat) ({ cls := "ImageReader$Bytes", name := "reaches", desc := "(II)Z" } : Jvm.MethodName) "ImageReader") ∈ av_nw := List.mem_filter.mpr ⟨List.mem_append_right _ (List.mem_of_getElem? (i := 201) (by decide +kernel)), by decide +kernel⟩
theorem tw_203 : (Jvm.Cond.instanceMethod ({ cls := "ImageReader$Bytes", name := "reaches", desc := "(II)Z" } : Jvm.MethodName)) ∈ av_tb := List.mem_filter.mpr ⟨List.mem_append_right _ (List.mem_of_getElem? (i := 203) (by decide +kernel)), by decide +kernel⟩
theorem tw_204 : (Jvm.Cond.code ({ cls := "ImageReader$Bytes", name := "reaches", desc := "(II)Z" } : Jvm.MethodName) prog_2_method_3_code (3 : Nat) (Option.some Jvm.ClassFile.FieldType.boolean)) ∈ av_tb := List.mem_filter.mpr ⟨List.mem_append_right _ (List.mem_of_getElem? (i := 204) (by decide +kernel)), by decide +kernel⟩
theorem nw_205 : (Jvm.Cond.methodLinkNest "ImageReader$Layout" (30 : Nat) ({ cls := "ImageReader$Bytes", name := "pairAt", desc := "(I)I" } : Jvm.MethodName) "ImageReader") ∈ av_nw := List.mem_filter.mpr ⟨List.mem_append_right _ (List.mem_of_getElem? (i := 205) (by decide +kernel)), by decide +kernel⟩
theorem tw_207 : (Jvm.Cond.instanceMethod ({ cls := "ImageReader$Bytes", name := "pairAt", desc := "(I)I" } : Jvm.MethodName)) ∈ av_tb := List.mem_filter.mpr ⟨List.mem_append_right _ (List.mem_of_getElem? (i := 207) (by decide +kernel)), by decide +kernel⟩
theorem tw_208 : (Jvm.Cond.code ({ cls := "ImageReader$Bytes", name := "pairAt", desc := "(I)I" } : Jvm.MethodName) prog_2_method_4_code (2 : Nat) (Option.some Jvm.ClassFile.FieldType.int)) ∈ av_tb := List.mem_filter.mpr ⟨List.mem_append_right _ (List.mem_of_getElem? (i := 208) (by decide +kernel)), by decide +kernel⟩
theorem tw_209 : (Jvm.Cond.methodLink "ImageReader$Bytes" (19 : Nat) ({ cls := "ImageReader$Bytes", name := "at", desc := "(I)I" } : Jvm.MethodName)) ∈ av_tb := List.mem_filter.mpr ⟨List.mem_append_right _ (List.mem_of_getElem? (i := 209) (by decide +kernel)), by decide +kernel⟩
theorem nw_210 : (Jvm.Cond.methodLinkNest "ImageReader" (153 : Nat) ({ cls := "ImageReader$Layout", name := "takeSpecials", desc := "(LImageReader$Bytes;LImageReader$Image;)I" } : Jvm.MethodName) "ImageReader") ∈ av_nw := List.mem_filter.mpr ⟨List.mem_append_right _ (List.mem_of_getElem? (i := 210) (by decide +kernel)), by decide +kernel⟩
theorem tw_211 : (Jvm.Cond.static ({ cls := "ImageReader$Layout", name := "takeSpecials", desc := "(LImageReader$Bytes;LImageReader$Image;)I" } : Jvm.MethodName)) ∈ av_tb := List.mem_filter.mpr ⟨List.mem_append_right _ (List.mem_of_getElem? (i := 211) (by decide +kernel)), by decide +kernel⟩
theorem tw_212 : (Jvm.Cond.code ({ cls := "ImageReader$Layout", name := "takeSpecials", desc := "(LImageReader$Bytes;LImageReader$Image;)I" } : Jvm.MethodName) prog_5_method_3_code (5 : Nat) (Option.some Jvm.ClassFile.FieldType.int)) ∈ av_tb := List.mem_filter.mpr ⟨List.mem_append_right _ (List.mem_of_getElem? (i := 212) (by decide +kernel)), by decide +kernel⟩
theorem nw_213 : (Jvm.Cond.methodLinkNest "ImageReader$Layout" (33 : Nat) ({ cls := "ImageReader$Image", name := "clear", desc := "()V" } : Jvm.MethodName) "ImageReader") ∈ av_nw := List.mem_filter.mpr ⟨List.mem_append_right _ (List.mem_of_getElem? (i := 213) (by decide +kernel)), by decide +kernel⟩
theorem tw_215 : (Jvm.Cond.instanceMethod ({ cls := "ImageReader$Image", name := "clear", desc := "()V" } : Jvm.MethodName)) ∈ av_tb := List.mem_filter.mpr ⟨List.mem_append_right _ (List.mem_of_getElem? (i := 215) (by decide +kernel)), by decide +kernel⟩
theorem tw_216 : (Jvm.Cond.code ({ cls := "ImageReader$Image", name := "clear", desc := "()V" } : Jvm.MethodName) prog_4_method_2_code (1 : Nat) (Option.none : Option Jvm.ClassFile.FieldType)) ∈ av_tb := List.mem_filter.mpr ⟨List.mem_append_right _ (List.mem_of_getElem? (i := 216) (by decide +kernel)), by decide +kernel⟩
theorem tw_217 : (Jvm.Cond.methodLink "ImageReader$Layout" (44 : Nat) ({ cls := "ImageReader$Layout", name := "isValueAt", desc := "(LImageReader$Bytes;II)Z" } : Jvm.MethodName)) ∈ av_tb := List.mem_filter.mpr ⟨List.mem_append_right _ (List.mem_of_getElem? (i := 217) (by decide +kernel)), by decide +kernel⟩
theorem tw_218 : (Jvm.Cond.static ({ cls := "ImageReader$Layout", name := "isValueAt", desc := "(LImageReader$Bytes;II)Z" } : Jvm.MethodName)) ∈ av_tb := List.mem_filter.mpr ⟨List.mem_append_right _ (List.mem_of_getElem? (i := 218) (by decide +kernel)), by decide +kernel⟩
theorem tw_219 : (Jvm.Cond.code ({ cls := "ImageReader$Layout", name := "isValueAt", desc := "(LImageReader$Bytes;II)Z" } : Jvm.MethodName) prog_5_method_9_code (4 : Nat) (Option.some Jvm.ClassFile.FieldType.boolean)) ∈ av_tb := List.mem_filter.mpr ⟨List.mem_append_right _ (List.mem_of_getElem? (i := 219) (by decide +kernel)), by decide +kernel⟩
theorem nw_220 : (Jvm.Cond.methodLinkNest "ImageReader$Layout" (53 : Nat) ({ cls := "ImageReader$Bytes", name := "wordAt", desc := "(I)I" } : Jvm.MethodName) "ImageReader") ∈ av_nw := List.mem_filter.mpr ⟨List.mem_append_right _ (List.mem_of_getElem? (i := 220) (by decide +kernel)), by decide +kernel⟩
theorem tw_222 : (Jvm.Cond.instanceMethod ({ cls := "ImageReader$Bytes", name := "wordAt", desc := "(I)I" } : Jvm.MethodName)) ∈ av_tb := List.mem_filter.mpr ⟨List.mem_append_right _ (List.mem_of_getElem? (i := 222) (by decide +kernel)), by decide +kernel⟩
theorem tw_223 : (Jvm.Cond.code ({ cls := "ImageReader$Bytes", name := "wordAt", desc := "(I)I" } : Jvm.MethodName) prog_2_method_5_code (2 : Nat) (Option.some Jvm.ClassFile.FieldType.int)) ∈ av_tb := List.mem_filter.mpr ⟨List.mem_append_right _ (List.mem_of_getElem? (i := 223) (by decide +kernel)), by decide +kernel⟩
theorem nw_224 : (Jvm.Cond.methodLinkNest "ImageReader$Layout" (80 : Nat) ({ cls := "ImageReader", name := "isNumber", desc := "(I)Z" } : Jvm.MethodName) "ImageReader") ∈ av_nw := List.mem_filter.mpr ⟨List.mem_append_right _ (List.mem_of_getElem? (i := 224) (by decide +kernel)), by decide +kernel⟩
theorem tw_225 : (Jvm.Cond.static ({ cls := "ImageReader", name := "isNumber", desc := "(I)Z" } : Jvm.MethodName)) ∈ av_tb := List.mem_filter.mpr ⟨List.mem_append_right _ (List.mem_of_getElem? (i := 225) (by decide +kernel)), by decide +kernel⟩
theorem tw_226 : (Jvm.Cond.code ({ cls := "ImageReader", name := "isNumber", desc := "(I)Z" } : Jvm.MethodName) prog_1_method_23_code (1 : Nat) (Option.some Jvm.ClassFile.FieldType.boolean)) ∈ av_tb := List.mem_filter.mpr ⟨List.mem_append_right _ (List.mem_of_getElem? (i := 226) (by decide +kernel)), by decide +kernel⟩
theorem nw_227 : (Jvm.Cond.methodLinkNest "ImageReader" (157 : Nat) ({ cls := "ImageReader$Layout", name := "takeObjects", desc := "(LImageReader$Bytes;LImageReader$Image;)I" } : Jvm.MethodName) "ImageReader") ∈ av_nw := List.mem_filter.mpr ⟨List.mem_append_right _ (List.mem_of_getElem? (i := 227) (by decide +kernel)), by decide +kernel⟩
theorem tw_228 : (Jvm.Cond.static ({ cls := "ImageReader$Layout", name := "takeObjects", desc := "(LImageReader$Bytes;LImageReader$Image;)I" } : Jvm.MethodName)) ∈ av_tb := List.mem_filter.mpr ⟨List.mem_append_right _ (List.mem_of_getElem? (i := 228) (by decide +kernel)), by decide +kernel⟩
theorem tw_229 : (Jvm.Cond.code ({ cls := "ImageReader$Layout", name := "takeObjects", desc := "(LImageReader$Bytes;LImageReader$Image;)I" } : Jvm.MethodName) prog_5_method_4_code (8 : Nat) (Option.some Jvm.ClassFile.FieldType.int)) ∈ av_tb := List.mem_filter.mpr ⟨List.mem_append_right _ (List.mem_of_getElem? (i := 229) (by decide +kernel)), by decide +kernel⟩
theorem tw_230 : (Jvm.Cond.methodLink "ImageReader$Layout" (56 : Nat) ({ cls := "ImageReader$Layout", name := "objectHeadPlace", desc := "(LImageReader$Bytes;II)I" } : Jvm.MethodName)) ∈ av_tb := List.mem_filter.mpr ⟨List.mem_append_right _ (List.mem_of_getElem? (i := 230) (by decide +kernel)), by decide +kernel⟩
theorem tw_231 : (Jvm.Cond.static ({ cls := "ImageReader$Layout", name := "objectHeadPlace", desc := "(LImageReader$Bytes;II)I" } : Jvm.MethodName)) ∈ av_tb := List.mem_filter.mpr ⟨List.mem_append_right _ (List.mem_of_getElem? (i := 231) (by decide +kernel)), by decide +kernel⟩
theorem tw_232 : (Jvm.Cond.code ({ cls := "ImageReader$Layout", name := "objectHeadPlace", desc := "(LImageReader$Bytes;II)I" } : Jvm.MethodName) prog_5_method_5_code (4 : Nat) (Option.some Jvm.ClassFile.FieldType.int)) ∈ av_tb := List.mem_filter.mpr ⟨List.mem_append_right _ (List.mem_of_getElem? (i := 232) (by decide +kernel)), by decide +kernel⟩
theorem nw_233 : (Jvm.Cond.methodLinkNest "ImageReader$Layout" (60 : Nat) ({ cls := "ImageReader$Image", name := "addObject", desc := "(III)V" } : Jvm.MethodName) "ImageReader") ∈ av_nw := List.mem_filter.mpr ⟨List.mem_append_right _ (List.mem_of_getElem? (i := 233) (by decide +kernel)), by decide +kernel⟩
theorem tw_235 : (Jvm.Cond.instanceMethod ({ cls := "ImageReader$Image", name := "addObject", desc := "(III)V" } : Jvm.MethodName)) ∈ av_tb := List.mem_filter.mpr ⟨List.mem_append_right _ (List.mem_of_getElem? (i := 235) (by decide +kernel)), by decide +kernel⟩
theorem tw_236 : (Jvm.Cond.code ({ cls := "ImageReader$Image", name := "addObject", desc := "(III)V" } : Jvm.MethodName) prog_4_method_3_code (5 : Nat) (Option.none : Option Jvm.ClassFile.FieldType)) ∈ av_tb := List.mem_filter.mpr ⟨List.mem_append_right _ (List.mem_of_getElem? (i := 236) (by decide +kernel)), by decide +kernel⟩
theorem tw_237 : (Jvm.Cond.methodLink "ImageReader$Image" (40 : Nat) ({ cls := "java/util/Arrays", name := "copyOf", desc := "([II)[I" } : Jvm.MethodName)) ∈ av_tb := List.mem_filter.mpr ⟨List.mem_append_right _ (List.mem_of_getElem? (i := 237) (by decide +kernel)), by decide +kernel⟩
theorem tw_238 : (Jvm.Cond.static ({ cls := "java/util/Arrays", name := "copyOf", desc := "([II)[I" } : Jvm.MethodName)) ∈ av_tb := List.mem_filter.mpr ⟨List.mem_append_right _ (List.mem_of_getElem? (i := 238) (by decide +kernel)), by decide +kernel⟩
theorem tw_239 : (Jvm.Cond.code ({ cls := "java/util/Arrays", name := "copyOf", desc := "([II)[I" } : Jvm.MethodName) prog_19_method_123_code (3 : Nat) (Option.some (Jvm.ClassFile.FieldType.array Jvm.ClassFile.FieldType.int))) ∈ av_tb := List.mem_filter.mpr ⟨List.mem_append_right _ (List.mem_of_getElem? (i := 239) (by decide +kernel)), by decide +kernel⟩
theorem tw_242 : (Jvm.Cond.native ({ cls := "java/lang/Object", name := "clone", desc := "()Ljava/lang/Object;" } : Jvm.MethodName)) ∈ av_tb := List.mem_filter.mpr ⟨List.mem_append_right _ (List.mem_of_getElem? (i := 242) (by decide +kernel)), by decide +kernel⟩
theorem tw_247 : (Jvm.Cond.methodLink "java/util/Arrays" (304 : Nat) ({ cls := "java/lang/Math", name := "min", desc := "(II)I" } : Jvm.MethodName)) ∈ av_tb := List.mem_filter.mpr ⟨List.mem_append_right _ (List.mem_of_getElem? (i := 247) (by decide +kernel)), by decide +kernel⟩
theorem tw_248 : (Jvm.Cond.static ({ cls := "java/lang/Math", name := "min", desc := "(II)I" } : Jvm.MethodName)) ∈ av_tb := List.mem_filter.mpr ⟨List.mem_append_right _ (List.mem_of_getElem? (i := 248) (by decide +kernel)), by decide +kernel⟩
theorem tw_249 : (Jvm.Cond.code ({ cls := "java/lang/Math", name := "min", desc := "(II)I" } : Jvm.MethodName) prog_14_method_69_code (2 : Nat) (Option.some Jvm.ClassFile.FieldType.int)) ∈ av_tb := List.mem_filter.mpr ⟨List.mem_append_right _ (List.mem_of_getElem? (i := 249) (by decide +kernel)), by decide +kernel⟩
theorem tw_251 : (Jvm.Cond.static ({ cls := "java/lang/System", name := "arraycopy", desc := "(Ljava/lang/Object;ILjava/lang/Object;II)V" } : Jvm.MethodName)) ∈ av_tb := List.mem_filter.mpr ⟨List.mem_append_right _ (List.mem_of_getElem? (i := 251) (by decide +kernel)), by decide +kernel⟩
theorem tw_252 : (Jvm.Cond.native ({ cls := "java/lang/System", name := "arraycopy", desc := "(Ljava/lang/Object;ILjava/lang/Object;II)V" } : Jvm.MethodName)) ∈ av_tb := List.mem_filter.mpr ⟨List.mem_append_right _ (List.mem_of_getElem? (i := 252) (by decide +kernel)), by decide +kernel⟩
theorem tw_253 : (Jvm.Cond.methodLink "ImageReader$Layout" (64 : Nat) ({ cls := "ImageReader$Layout", name := "takeBytes", desc := "(LImageReader$Bytes;IILImageReader$Image;)I" } : Jvm.MethodName)) ∈ av_tb := List.mem_filter.mpr ⟨List.mem_append_right _ (List.mem_of_getElem? (i := 253) (by decide +kernel)), by decide +kernel⟩
theorem tw_254 : (Jvm.Cond.static ({ cls := "ImageReader$Layout", name := "takeBytes", desc := "(LImageReader$Bytes;IILImageReader$Image;)I" } : Jvm.MethodName)) ∈ av_tb := List.mem_filter.mpr ⟨List.mem_append_right _ (List.mem_of_getElem? (i := 254) (by decide +kernel)), by decide +kernel⟩
theorem tw_255 : (Jvm.Cond.code ({ cls := "ImageReader$Layout", name := "takeBytes", desc := "(LImageReader$Bytes;IILImageReader$Image;)I" } : Jvm.MethodName) prog_5_method_6_code (5 : Nat) (Option.some Jvm.ClassFile.FieldType.int)) ∈ av_tb := List.mem_filter.mpr ⟨List.mem_append_right _ (List.mem_of_getElem? (i := 255) (by decide +kernel)), by decide +kernel⟩
theorem nw_256 : (Jvm.Cond.methodLinkNest "ImageReader$Layout" (76 : Nat) ({ cls := "ImageReader$Image", name := "addPart", desc := "(I)V" } : Jvm.MethodName) "ImageReader") ∈ av_nw := List.mem_filter.mpr ⟨List.mem_append_right _ (List.mem_of_getElem? (i := 256) (by decide +kernel)), by decide +kernel⟩
theorem tw_258 : (Jvm.Cond.instanceMethod ({ cls := "ImageReader$Image", name := "addPart", desc := "(I)V" } : Jvm.MethodName)) ∈ av_tb := List.mem_filter.mpr ⟨List.mem_append_right _ (List.mem_of_getElem? (i := 258) (by decide +kernel)), by decide +kernel⟩
theorem tw_259 : (Jvm.Cond.code ({ cls := "ImageReader$Image", name := "addPart", desc := "(I)V" } : Jvm.MethodName) prog_4_method_4_code (2 : Nat) (Option.none : Option Jvm.ClassFile.FieldType)) ∈ av_tb := List.mem_filter.mpr ⟨List.mem_append_right _ (List.mem_of_getElem? (i := 259) (by decide +kernel)), by decide +kernel⟩
theorem tw_260 : (Jvm.Cond.methodLink "ImageReader$Layout" (68 : Nat) ({ cls := "ImageReader$Layout", name := "takeFields", desc := "(LImageReader$Bytes;IIILImageReader$Image;)I" } : Jvm.MethodName)) ∈ av_tb := List.mem_filter.mpr ⟨List.mem_append_right _ (List.mem_of_getElem? (i := 260) (by decide +kernel)), by decide +kernel⟩
theorem tw_261 : (Jvm.Cond.static ({ cls := "ImageReader$Layout", name := "takeFields", desc := "(LImageReader$Bytes;IIILImageReader$Image;)I" } : Jvm.MethodName)) ∈ av_tb := List.mem_filter.mpr ⟨List.mem_append_right _ (List.mem_of_getElem? (i := 261) (by decide +kernel)), by decide +kernel⟩
theorem tw_262 : (Jvm.Cond.code ({ cls := "ImageReader$Layout", name := "takeFields", desc := "(LImageReader$Bytes;IIILImageReader$Image;)I" } : Jvm.MethodName) prog_5_method_7_code (7 : Nat) (Option.some Jvm.ClassFile.FieldType.int)) ∈ av_tb := List.mem_filter.mpr ⟨List.mem_append_right _ (List.mem_of_getElem? (i := 262) (by decide +kernel)), by decide +kernel⟩
theorem tw_263 : (Jvm.Cond.methodLink "ImageReader$Layout" (72 : Nat) ({ cls := "ImageReader$Layout", name := "bodyLength", desc := "(II)I" } : Jvm.MethodName)) ∈ av_tb := List.mem_filter.mpr ⟨List.mem_append_right _ (List.mem_of_getElem? (i := 263) (by decide +kernel)), by decide +kernel⟩
theorem tw_264 : (Jvm.Cond.static ({ cls := "ImageReader$Layout", name := "bodyLength", desc := "(II)I" } : Jvm.MethodName)) ∈ av_tb := List.mem_filter.mpr ⟨List.mem_append_right _ (List.mem_of_getElem? (i := 264) (by decide +kernel)), by decide +kernel⟩
theorem tw_265 : (Jvm.Cond.code ({ cls := "ImageReader$Layout", name := "bodyLength", desc := "(II)I" } : Jvm.MethodName) prog_5_method_8_code (2 : Nat) (Option.some Jvm.ClassFile.FieldType.int)) ∈ av_tb := List.mem_filter.mpr ⟨List.mem_append_right _ (List.mem_of_getElem? (i := 265) (by decide +kernel)), by decide +kernel⟩
theorem nw_266 : (Jvm.Cond.methodLinkNest "ImageReader" (160 : Nat) ({ cls := "ImageReader$Form", name := "roomPlace", desc := "(LImageReader$Image;)I" } : Jvm.MethodName) "ImageReader") ∈ av_nw := List.mem_filter.mpr ⟨List.mem_append_right _ (List.mem_of_getElem? (i := 266) (by decide +kernel)), by decide +kernel⟩
theorem tw_267 : (Jvm.Cond.static ({ cls := "ImageReader$Form", name := "roomPlace", desc := "(LImageReader$Image;)I" } : Jvm.MethodName)) ∈ av_tb := List.mem_filter.mpr ⟨List.mem_append_right _ (List.mem_of_getElem? (i := 267) (by decide +kernel)), by decide +kernel⟩
theorem tw_268 : (Jvm.Cond.code ({ cls := "ImageReader$Form", name := "roomPlace", desc := "(LImageReader$Image;)I" } : Jvm.MethodName) prog_3_method_2_code (1 : Nat) (Option.some Jvm.ClassFile.FieldType.int)) ∈ av_tb := List.mem_filter.mpr ⟨List.mem_append_right _ (List.mem_of_getElem? (i := 268) (by decide +kernel)), by decide +kernel⟩
theorem nw_269 : (Jvm.Cond.methodLinkNest "ImageReader" (165 : Nat) ({ cls := "ImageReader$Form", name := "specialsPlace", desc := "(LImageReader$Image;)I" } : Jvm.MethodName) "ImageReader") ∈ av_nw := List.mem_filter.mpr ⟨List.mem_append_right _ (List.mem_of_getElem? (i := 269) (by decide +kernel)), by decide +kernel⟩
theorem tw_270 : (Jvm.Cond.static ({ cls := "ImageReader$Form", name := "specialsPlace", desc := "(LImageReader$Image;)I" } : Jvm.MethodName)) ∈ av_tb := List.mem_filter.mpr ⟨List.mem_append_right _ (List.mem_of_getElem? (i := 270) (by decide +kernel)), by decide +kernel⟩
theorem tw_271 : (Jvm.Cond.code ({ cls := "ImageReader$Form", name := "specialsPlace", desc := "(LImageReader$Image;)I" } : Jvm.MethodName) prog_3_method_3_code (2 : Nat) (Option.some Jvm.ClassFile.FieldType.int)) ∈ av_tb := List.mem_filter.mpr ⟨List.mem_append_right _ (List.mem_of_getElem? (i := 271) (by decide +kernel)), by decide +kernel⟩
theorem tw_272 : (Jvm.Cond.methodLink "ImageReader$Form" (24 : Nat) ({ cls := "ImageReader$Form", name := "isSpecialFit", desc := "(LImageReader$Image;I)Z" } : Jvm.MethodName)) ∈ av_tb := List.mem_filter.mpr ⟨List.mem_append_right _ (List.mem_of_getElem? (i := 272) (by decide +kernel)), by decide +kernel⟩
theorem tw_273 : (Jvm.Cond.static ({ cls := "ImageReader$Form", name := "isSpecialFit", desc := "(LImageReader$Image;I)Z" } : Jvm.MethodName)) ∈ av_tb := List.mem_filter.mpr ⟨List.mem_append_right _ (List.mem_of_getElem? (i := 273) (by decide +kernel)), by decide +kernel⟩
theorem tw_274 : (Jvm.Cond.code ({ cls := "ImageReader$Form", name := "isSpecialFit", desc := "(LImageReader$Image;I)Z" } : Jvm.MethodName) prog_3_method_4_code (3 : Nat) (Option.some Jvm.ClassFile.FieldType.boolean)) ∈ av_tb := List.mem_filter.mpr ⟨List.mem_append_right _ (List.mem_of_getElem? (i := 274) (by decide +kernel)), by decide +kernel⟩
theorem nw_275 : (Jvm.Cond.methodLinkNest "ImageReader$Form" (30 : Nat) ({ cls := "ImageReader$Image", name := "specialAt", desc := "(I)I" } : Jvm.MethodName) "ImageReader") ∈ av_nw := List.mem_filter.mpr ⟨List.mem_append_right _ (List.mem_of_getElem? (i := 275) (by decide +kernel)), by decide +kernel⟩
theorem tw_277 : (Jvm.Cond.instanceMethod ({ cls := "ImageReader$Image", name := "specialAt", desc := "(I)I" } : Jvm.MethodName)) ∈ av_tb := List.mem_filter.mpr ⟨List.mem_append_right _ (List.mem_of_getElem? (i := 277) (by decide +kernel)), by decide +kernel⟩
theorem tw_278 : (Jvm.Cond.code ({ cls := "ImageReader$Image", name := "specialAt", desc := "(I)I" } : Jvm.MethodName) prog_4_method_7_code (2 : Nat) (Option.some Jvm.ClassFile.FieldType.int)) ∈ av_tb := List.mem_filter.mpr ⟨List.mem_append_right _ (List.mem_of_getElem? (i := 278) (by decide +kernel)), by decide +kernel⟩
theorem nw_279 : (Jvm.Cond.methodLinkNest "ImageReader$Form" (34 : Nat) ({ cls := "ImageReader$Image", name := "objectOf", desc := "(I)I" } : Jvm.MethodName) "ImageReader") ∈ av_nw := List.mem_filter.mpr ⟨List.mem_append_right _ (List.mem_of_getElem? (i := 279) (by decide +kernel)), by decide +kernel⟩
theorem tw_281 : (Jvm.Cond.instanceMethod ({ cls := "ImageReader$Image", name := "objectOf", desc := "(I)I" } : Jvm.MethodName)) ∈ av_tb := List.mem_filter.mpr ⟨List.mem_append_right _ (List.mem_of_getElem? (i := 281) (by decide +kernel)), by decide +kernel⟩
theorem tw_282 : (Jvm.Cond.code ({ cls := "ImageReader$Image", name := "objectOf", desc := "(I)I" } : Jvm.MethodName) prog_4_method_6_code (2 : Nat) (Option.some Jvm.ClassFile.FieldType.int)) ∈ av_tb := List.mem_filter.mpr ⟨List.mem_append_right _ (List.mem_of_getElem? (i := 282) (by decide +kernel)), by decide +kernel⟩
theorem tw_283 : (Jvm.Cond.methodLink "ImageReader$Image" (46 : Nat) ({ cls := "ImageReader$Image", name := "holds", desc := "(I)Z" } : Jvm.MethodName)) ∈ av_tb := List.mem_filter.mpr ⟨List.mem_append_right _ (List.mem_of_getElem? (i := 283) (by decide +kernel)), by decide +kernel⟩
theorem tw_285 : (Jvm.Cond.instanceMethod ({ cls := "ImageReader$Image", name := "holds", desc := "(I)Z" } : Jvm.MethodName)) ∈ av_tb := List.mem_filter.mpr ⟨List.mem_append_right _ (List.mem_of_getElem? (i := 285) (by decide +kernel)), by decide +kernel⟩
theorem tw_286 : (Jvm.Cond.code ({ cls := "ImageReader$Image", name := "holds", desc := "(I)Z" } : Jvm.MethodName) prog_4_method_5_code (2 : Nat) (Option.some Jvm.ClassFile.FieldType.boolean)) ∈ av_tb := List.mem_filter.mpr ⟨List.mem_append_right _ (List.mem_of_getElem? (i := 286) (by decide +kernel)), by decide +kernel⟩
theorem tw_287 : (Jvm.Cond.methodLink "ImageReader$Form" (37 : Nat) ({ cls := "ImageReader$Form", name := "isNewSince", desc := "(LImageReader$Image;II)Z" } : Jvm.MethodName)) ∈ av_tb := List.mem_filter.mpr ⟨List.mem_append_right _ (List.mem_of_getElem? (i := 287) (by decide +kernel)), by decide +kernel⟩
theorem tw_288 : (Jvm.Cond.static ({ cls := "ImageReader$Form", name := "isNewSince", desc := "(LImageReader$Image;II)Z" } : Jvm.MethodName)) ∈ av_tb := List.mem_filter.mpr ⟨List.mem_append_right _ (List.mem_of_getElem? (i := 288) (by decide +kernel)), by decide +kernel⟩
theorem tw_289 : (Jvm.Cond.code ({ cls := "ImageReader$Form", name := "isNewSince", desc := "(LImageReader$Image;II)Z" } : Jvm.MethodName) prog_3_method_5_code (4 : Nat) (Option.some Jvm.ClassFile.FieldType.boolean)) ∈ av_tb := List.mem_filter.mpr ⟨List.mem_append_right _ (List.mem_of_getElem? (i := 289) (by decide +kernel)), by decide +kernel⟩
theorem tw_290 : (Jvm.Cond.methodLink "ImageReader$Form" (41 : Nat) ({ cls := "ImageReader$Form", name := "isClass", desc := "(LImageReader$Image;I)Z" } : Jvm.MethodName)) ∈ av_tb := List.mem_filter.mpr ⟨List.mem_append_right _ (List.mem_of_getElem? (i := 290) (by decide +kernel)), by decide +kernel⟩
theorem tw_291 : (Jvm.Cond.static ({ cls := "ImageReader$Form", name := "isClass", desc := "(LImageReader$Image;I)Z" } : Jvm.MethodName)) ∈ av_tb := List.mem_filter.mpr ⟨List.mem_append_right _ (List.mem_of_getElem? (i := 291) (by decide +kernel)), by decide +kernel⟩
theorem tw_292 : (Jvm.Cond.code ({ cls := "ImageReader$Form", name := "isClass", desc := "(LImageReader$Image;I)Z" } : Jvm.MethodName) prog_3_method_13_code (4 : Nat) (Option.some Jvm.ClassFile.FieldType.boolean)) ∈ av_tb := List.mem_filter.mpr ⟨List.mem_append_right _ (List.mem_of_getElem? (i := 292) (by decide +kernel)), by decide +kernel⟩
theorem nw_293 : (Jvm.Cond.methodLinkNest "ImageReader$Form" (79 : Nat) ({ cls := "ImageReader$Image", name := "fieldAt", desc := "(II)I" } : Jvm.MethodName) "ImageReader") ∈ av_nw := List.mem_filter.mpr ⟨List.mem_append_right _ (List.mem_of_getElem? (i := 293) (by decide +kernel)), by decide +kernel⟩
theorem tw_295 : (Jvm.Cond.instanceMethod ({ cls := "ImageReader$Image", name := "fieldAt", desc := "(II)I" } : Jvm.MethodName)) ∈ av_tb := List.mem_filter.mpr ⟨List.mem_append_right _ (List.mem_of_getElem? (i := 295) (by decide +kernel)), by decide +kernel⟩
theorem tw_296 : (Jvm.Cond.code ({ cls := "ImageReader$Image", name := "fieldAt", desc := "(II)I" } : Jvm.MethodName) prog_4_method_11_code (3 : Nat) (Option.some Jvm.ClassFile.FieldType.int)) ∈ av_tb := List.mem_filter.mpr ⟨List.mem_append_right _ (List.mem_of_getElem? (i := 296) (by decide +kernel)), by decide +kernel⟩
theorem tw_297 : (Jvm.Cond.methodLink "ImageReader$Image" (50 : Nat) ({ cls := "ImageReader$Image", name := "hasPart", desc := "(II)Z" } : Jvm.MethodName)) ∈ av_tb := List.mem_filter.mpr ⟨List.mem_append_right _ (List.mem_of_getElem? (i := 297) (by decide +kernel)), by decide +kernel⟩
theorem tw_299 : (Jvm.Cond.instanceMethod ({ cls := "ImageReader$Image", name := "hasPart", desc := "(II)Z" } : Jvm.MethodName)) ∈ av_tb := List.mem_filter.mpr ⟨List.mem_append_right _ (List.mem_of_getElem? (i := 299) (by decide +kernel)), by decide +kernel⟩
theorem tw_300 : (Jvm.Cond.code ({ cls := "ImageReader$Image", name := "hasPart", desc := "(II)Z" } : Jvm.MethodName) prog_4_method_13_code (3 : Nat) (Option.some Jvm.ClassFile.FieldType.boolean)) ∈ av_tb := List.mem_filter.mpr ⟨List.mem_append_right _ (List.mem_of_getElem? (i := 300) (by decide +kernel)), by decide +kernel⟩
theorem nw_301 : (Jvm.Cond.methodLinkNest "ImageReader$Form" (44 : Nat) ({ cls := "ImageReader$Image", name := "fieldCount", desc := "(I)I" } : Jvm.MethodName) "ImageReader") ∈ av_nw := List.mem_filter.mpr ⟨List.mem_append_right _ (List.mem_of_getElem? (i := 301) (by decide +kernel)), by decide +kernel⟩
theorem tw_303 : (Jvm.Cond.instanceMethod ({ cls := "ImageReader$Image", name := "fieldCount", desc := "(I)I" } : Jvm.MethodName)) ∈ av_tb := List.mem_filter.mpr ⟨List.mem_append_right _ (List.mem_of_getElem? (i := 303) (by decide +kernel)), by decide +kernel⟩
theorem tw_304 : (Jvm.Cond.code ({ cls := "ImageReader$Image", name := "fieldCount", desc := "(I)I" } : Jvm.MethodName) prog_4_method_10_code (2 : Nat) (Option.some Jvm.ClassFile.FieldType.int)) ∈ av_tb := List.mem_filter.mpr ⟨List.mem_append_right _ (List.mem_of_getElem? (i := 304) (by decide +kernel)), by decide +kernel⟩
theorem nw_305 : (Jvm.Cond.methodLinkNest "ImageReader$Form" (115 : Nat) ({ cls := "ImageReader", name := "isNumber", desc := "(I)Z" } : Jvm.MethodName) "ImageReader") ∈ av_nw := List.mem_filter.mpr ⟨List.mem_append_right _ (List.mem_of_getElem? (i := 305) (by decide +kernel)), by decide +kernel⟩
theorem nw_306 : (Jvm.Cond.methodLinkNest "ImageReader$Form" (82 : Nat) ({ cls := "ImageReader", name := "numberOf", desc := "(I)I" } : Jvm.MethodName) "ImageReader") ∈ av_nw := List.mem_filter.mpr ⟨List.mem_append_right _ (List.mem_of_getElem? (i := 306) (by decide +kernel)), by decide +kernel⟩
theorem tw_307 : (Jvm.Cond.static ({ cls := "ImageReader", name := "numberOf", desc := "(I)I" } : Jvm.MethodName)) ∈ av_tb := List.mem_filter.mpr ⟨List.mem_append_right _ (List.mem_of_getElem? (i := 307) (by decide +kernel)), by decide +kernel⟩
theorem tw_308 : (Jvm.Cond.code ({ cls := "ImageReader", name := "numberOf", desc := "(I)I" } : Jvm.MethodName) prog_1_method_25_code (1 : Nat) (Option.some Jvm.ClassFile.FieldType.int)) ∈ av_tb := List.mem_filter.mpr ⟨List.mem_append_right _ (List.mem_of_getElem? (i := 308) (by decide +kernel)), by decide +kernel⟩
theorem tw_309 : (Jvm.Cond.methodLink "ImageReader$Form" (47 : Nat) ({ cls := "ImageReader$Form", name := "isPlain", desc := "(LImageReader$Image;II)Z" } : Jvm.MethodName)) ∈ av_tb := List.mem_filter.mpr ⟨List.mem_append_right _ (List.mem_of_getElem? (i := 309) (by decide +kernel)), by decide +kernel⟩
theorem tw_310 : (Jvm.Cond.static ({ cls := "ImageReader$Form", name := "isPlain", desc := "(LImageReader$Image;II)Z" } : Jvm.MethodName)) ∈ av_tb := List.mem_filter.mpr ⟨List.mem_append_right _ (List.mem_of_getElem? (i := 310) (by decide +kernel)), by decide +kernel⟩
theorem tw_311 : (Jvm.Cond.code ({ cls := "ImageReader$Form", name := "isPlain", desc := "(LImageReader$Image;II)Z" } : Jvm.MethodName) prog_3_method_18_code (3 : Nat) (Option.some Jvm.ClassFile.FieldType.boolean)) ∈ av_tb := List.mem_filter.mpr ⟨List.mem_append_right _ (List.mem_of_getElem? (i := 311) (by decide +kernel)), by decide +kernel⟩
theorem nw_312 : (Jvm.Cond.methodLinkNest "ImageReader$Form" (111 : Nat) ({ cls := "ImageReader$Image", name := "isContext", desc := "(I)Z" } : Jvm.MethodName) "ImageReader") ∈ av_nw := List.mem_filter.mpr ⟨List.mem_append_right _ (List.mem_of_getElem? (i := 312) (by decide +kernel)), by decide +kernel⟩
theorem tw_314 : (Jvm.Cond.instanceMethod ({ cls := "ImageReader$Image", name := "isContext", desc := "(I)Z" } : Jvm.MethodName)) ∈ av_tb := List.mem_filter.mpr ⟨List.mem_append_right _ (List.mem_of_getElem? (i := 314) (by decide +kernel)), by decide +kernel⟩
theorem tw_315 : (Jvm.Cond.code ({ cls := "ImageReader$Image", name := "isContext", desc := "(I)Z" } : Jvm.MethodName) prog_4_method_15_code (2 : Nat) (Option.some Jvm.ClassFile.FieldType.boolean)) ∈ av_tb := List.mem_filter.mpr ⟨List.mem_append_right _ (List.mem_of_getElem? (i := 315) (by decide +kernel)), by decide +kernel⟩
theorem tw_316 : (Jvm.Cond.methodLink "ImageReader$Image" (54 : Nat) ({ cls := "ImageReader$Image", name := "isOfSpecialClass", desc := "(II)Z" } : Jvm.MethodName)) ∈ av_tb := List.mem_filter.mpr ⟨List.mem_append_right _ (List.mem_of_getElem? (i := 316) (by decide +kernel)), by decide +kernel⟩
theorem tw_318 : (Jvm.Cond.instanceMethod ({ cls := "ImageReader$Image", name := "isOfSpecialClass", desc := "(II)Z" } : Jvm.MethodName)) ∈ av_tb := List.mem_filter.mpr ⟨List.mem_append_right _ (List.mem_of_getElem? (i := 318) (by decide +kernel)), by decide +kernel⟩
theorem tw_319 : (Jvm.Cond.code ({ cls := "ImageReader$Image", name := "isOfSpecialClass", desc := "(II)Z" } : Jvm.MethodName) prog_4_method_14_code (3 : Nat) (Option.some Jvm.ClassFile.FieldType.boolean)) ∈ av_tb := List.mem_filter.mpr ⟨List.mem_append_right _ (List.mem_of_getElem? (i := 319) (by decide +kernel)), by decide +kernel⟩
theorem nw_320 : (Jvm.Cond.methodLinkNest "ImageReader" (168 : Nat) ({ cls := "ImageReader$Form", name := "objectsPlace", desc := "(LImageReader$Image;)I" } : Jvm.MethodName) "ImageReader") ∈ av_nw := List.mem_filter.mpr ⟨List.mem_append_right _ (List.mem_of_getElem? (i := 320) (by decide +kernel)), by decide +kernel⟩
theorem tw_321 : (Jvm.Cond.static ({ cls := "ImageReader$Form", name := "objectsPlace", desc := "(LImageReader$Image;)I" } : Jvm.MethodName)) ∈ av_tb := List.mem_filter.mpr ⟨List.mem_append_right _ (List.mem_of_getElem? (i := 321) (by decide +kernel)), by decide +kernel⟩
theorem tw_322 : (Jvm.Cond.code ({ cls := "ImageReader$Form", name := "objectsPlace", desc := "(LImageReader$Image;)I" } : Jvm.MethodName) prog_3_method_6_code (3 : Nat) (Option.some Jvm.ClassFile.FieldType.int)) ∈ av_tb := List.mem_filter.mpr ⟨List.mem_append_right _ (List.mem_of_getElem? (i := 322) (by decide +kernel)), by decide +kernel⟩
theorem tw_323 : (Jvm.Cond.methodLink "ImageReader$Form" (50 : Nat) ({ cls := "ImageReader$Form", name := "hasFitClass", desc := "(LImageReader$Image;I)Z" } : Jvm.MethodName)) ∈ av_tb := List.mem_filter.mpr ⟨List.mem_append_right _ (List.mem_of_getElem? (i := 323) (by decide +kernel)), by decide +kernel⟩
theorem tw_324 : (Jvm.Cond.static ({ cls := "ImageReader$Form", name := "hasFitClass", desc := "(LImageReader$Image;I)Z" } : Jvm.MethodName)) ∈ av_tb := List.mem_filter.mpr ⟨List.mem_append_right _ (List.mem_of_getElem? (i := 324) (by decide +kernel)), by decide +kernel⟩
theorem tw_325 : (Jvm.Cond.code ({ cls := "ImageReader$Form", name := "hasFitClass", desc := "(LImageReader$Image;I)Z" } : Jvm.MethodName) prog_3_method_7_code (7 : Nat) (Option.some Jvm.ClassFile.FieldType.boolean)) ∈ av_tb := List.mem_filter.mpr ⟨List.mem_append_right _ (List.mem_of_getElem? (i := 325) (by decide +kernel)), by decide +kernel⟩
theorem nw_326 : (Jvm.Cond.methodLinkNest "ImageReader$Form" (76 : Nat) ({ cls := "ImageReader$Image", name := "classAt", desc := "(I)I" } : Jvm.MethodName) "ImageReader") ∈ av_nw := List.mem_filter.mpr ⟨List.mem_append_right _ (List.mem_of_getElem? (i := 326) (by decide +kernel)), by decide +kernel⟩
theorem tw_328 : (Jvm.Cond.instanceMethod ({ cls := "ImageReader$Image", name := "classAt", desc := "(I)I" } : Jvm.MethodName)) ∈ av_tb := List.mem_filter.mpr ⟨List.mem_append_right _ (List.mem_of_getElem? (i := 328) (by decide +kernel)), by decide +kernel⟩
theorem tw_329 : (Jvm.Cond.code ({ cls := "ImageReader$Image", name := "classAt", desc := "(I)I" } : Jvm.MethodName) prog_4_method_8_code (2 : Nat) (Option.some Jvm.ClassFile.FieldType.int)) ∈ av_tb := List.mem_filter.mpr ⟨List.mem_append_right _ (List.mem_of_getElem? (i := 329) (by decide +kernel)), by decide +kernel⟩
theorem nw_330 : (Jvm.Cond.methodLinkNest "ImageReader$Form" (85 : Nat) ({ cls := "ImageReader$Image", name := "isOfBytes", desc := "(I)Z" } : Jvm.MethodName) "ImageReader") ∈ av_nw := List.mem_filter.mpr ⟨List.mem_append_right _ (List.mem_of_getElem? (i := 330) (by decide +kernel)), by decide +kernel⟩
theorem tw_332 : (Jvm.Cond.instanceMethod ({ cls := "ImageReader$Image", name := "isOfBytes", desc := "(I)Z" } : Jvm.MethodName)) ∈ av_tb := List.mem_filter.mpr ⟨List.mem_append_right _ (List.mem_of_getElem? (i := 332) (by decide +kernel)), by decide +kernel⟩
theorem tw_333 : (Jvm.Cond.code ({ cls := "ImageReader$Image", name := "isOfBytes", desc := "(I)Z" } : Jvm.MethodName) prog_4_method_9_code (2 : Nat) (Option.some Jvm.ClassFile.FieldType.boolean)) ∈ av_tb := List.mem_filter.mpr ⟨List.mem_append_right _ (List.mem_of_getElem? (i := 333) (by decide +kernel)), by decide +kernel⟩
theorem nw_334 : (Jvm.Cond.methodLinkNest "ImageReader$Form" (53 : Nat) ({ cls := "ImageReader$Image", name := "isOfSpecialClass", desc := "(II)Z" } : Jvm.MethodName) "ImageReader") ∈ av_nw := List.mem_filter.mpr ⟨List.mem_append_right _ (List.mem_of_getElem? (i := 334) (by decide +kernel)), by decide +kernel⟩
theorem tw_335 : (Jvm.Cond.methodLink "ImageReader$Form" (57 : Nat) ({ cls := "ImageReader$Form", name := "isMethodContext", desc := "(LImageReader$Image;I)Z" } : Jvm.MethodName)) ∈ av_tb := List.mem_filter.mpr ⟨List.mem_append_right _ (List.mem_of_getElem? (i := 335) (by decide +kernel)), by decide +kernel⟩
theorem tw_336 : (Jvm.Cond.static ({ cls := "ImageReader$Form", name := "isMethodContext", desc := "(LImageReader$Image;I)Z" } : Jvm.MethodName)) ∈ av_tb := List.mem_filter.mpr ⟨List.mem_append_right _ (List.mem_of_getElem? (i := 336) (by decide +kernel)), by decide +kernel⟩
theorem tw_337 : (Jvm.Cond.code ({ cls := "ImageReader$Form", name := "isMethodContext", desc := "(LImageReader$Image;I)Z" } : Jvm.MethodName) prog_3_method_8_code (7 : Nat) (Option.some Jvm.ClassFile.FieldType.boolean)) ∈ av_tb := List.mem_filter.mpr ⟨List.mem_append_right _ (List.mem_of_getElem? (i := 337) (by decide +kernel)), by decide +kernel⟩
theorem tw_338 : (Jvm.Cond.methodLink "ImageReader$Form" (89 : Nat) ({ cls := "ImageReader$Form", name := "isMethod", desc := "(LImageReader$Image;I)Z" } : Jvm.MethodName)) ∈ av_tb := List.mem_filter.mpr ⟨List.mem_append_right _ (List.mem_of_getElem? (i := 338) (by decide +kernel)), by decide +kernel⟩
theorem tw_339 : (Jvm.Cond.static ({ cls := "ImageReader$Form", name := "isMethod", desc := "(LImageReader$Image;I)Z" } : Jvm.MethodName)) ∈ av_tb := List.mem_filter.mpr ⟨List.mem_append_right _ (List.mem_of_getElem? (i := 339) (by decide +kernel)), by decide +kernel⟩
theorem tw_340 : (Jvm.Cond.code ({ cls := "ImageReader$Form", name := "isMethod", desc := "(LImageReader$Image;I)Z" } : Jvm.MethodName) prog_3_method_14_code (3 : Nat) (Option.some Jvm.ClassFile.FieldType.boolean)) ∈ av_tb := List.mem_filter.mpr ⟨List.mem_append_right _ (List.mem_of_getElem? (i := 340) (by decide +kernel)), by decide +kernel⟩
theorem tw_341 : (Jvm.Cond.constant "ImageReader$Form" (118 : Nat) (8388607 : Int32)) ∈ av_tb := List.mem_filter.mpr ⟨List.mem_append_right _ (List.mem_of_getElem? (i := 341) (by decide +kernel)), by decide +kernel⟩
theorem nw_342 : (Jvm.Cond.methodLinkNest "ImageReader$Form" (101 : Nat) ({ cls := "ImageReader", name := "isNumberWithin", desc := "(III)Z" } : Jvm.MethodName) "ImageReader") ∈ av_nw := List.mem_filter.mpr ⟨List.mem_append_right _ (List.mem_of_getElem? (i := 342) (by decide +kernel)), by decide +kernel⟩
theorem tw_343 : (Jvm.Cond.static ({ cls := "ImageReader", name := "isNumberWithin", desc := "(III)Z" } : Jvm.MethodName)) ∈ av_tb := List.mem_filter.mpr ⟨List.mem_append_right _ (List.mem_of_getElem? (i := 343) (by decide +kernel)), by decide +kernel⟩
theorem tw_344 : (Jvm.Cond.code ({ cls := "ImageReader", name := "isNumberWithin", desc := "(III)Z" } : Jvm.MethodName) prog_1_method_24_code (3 : Nat) (Option.some Jvm.ClassFile.FieldType.boolean)) ∈ av_tb := List.mem_filter.mpr ⟨List.mem_append_right _ (List.mem_of_getElem? (i := 344) (by decide +kernel)), by decide +kernel⟩
theorem tw_345 : (Jvm.Cond.methodLink "ImageReader" (198 : Nat) ({ cls := "ImageReader", name := "isNumber", desc := "(I)Z" } : Jvm.MethodName)) ∈ av_tb := List.mem_filter.mpr ⟨List.mem_append_right _ (List.mem_of_getElem? (i := 345) (by decide +kernel)), by decide +kernel⟩
theorem tw_346 : (Jvm.Cond.methodLink "ImageReader" (201 : Nat) ({ cls := "ImageReader", name := "numberOf", desc := "(I)I" } : Jvm.MethodName)) ∈ av_tb := List.mem_filter.mpr ⟨List.mem_append_right _ (List.mem_of_getElem? (i := 346) (by decide +kernel)), by decide +kernel⟩
theorem tw_347 : (Jvm.Cond.methodLink "ImageReader$Form" (92 : Nat) ({ cls := "ImageReader$Form", name := "temporariesOf", desc := "(I)I" } : Jvm.MethodName)) ∈ av_tb := List.mem_filter.mpr ⟨List.mem_append_right _ (List.mem_of_getElem? (i := 347) (by decide +kernel)), by decide +kernel⟩
theorem tw_348 : (Jvm.Cond.static ({ cls := "ImageReader$Form", name := "temporariesOf", desc := "(I)I" } : Jvm.MethodName)) ∈ av_tb := List.mem_filter.mpr ⟨List.mem_append_right _ (List.mem_of_getElem? (i := 348) (by decide +kernel)), by decide +kernel⟩
theorem tw_349 : (Jvm.Cond.code ({ cls := "ImageReader$Form", name := "temporariesOf", desc := "(I)I" } : Jvm.MethodName) prog_3_method_16_code (1 : Nat) (Option.some Jvm.ClassFile.FieldType.int)) ∈ av_tb := List.mem_filter.mpr ⟨List.mem_append_right _ (List.mem_of_getElem? (i := 349) (by decide +kernel)), by decide +kernel⟩
theorem tw_350 : (Jvm.Cond.methodLink "ImageReader$Form" (119 : Nat) ({ cls := "ImageReader$Form", name := "argumentsOf", desc := "(I)I" } : Jvm.MethodName)) ∈ av_tb := List.mem_filter.mpr ⟨List.mem_append_right _ (List.mem_of_getElem? (i := 350) (by decide +kernel)), by decide +kernel⟩
theorem tw_351 : (Jvm.Cond.static ({ cls := "ImageReader$Form", name := "argumentsOf", desc := "(I)I" } : Jvm.MethodName)) ∈ av_tb := List.mem_filter.mpr ⟨List.mem_append_right _ (List.mem_of_getElem? (i := 351) (by decide +kernel)), by decide +kernel⟩
theorem tw_352 : (Jvm.Cond.code ({ cls := "ImageReader$Form", name := "argumentsOf", desc := "(I)I" } : Jvm.MethodName) prog_3_method_15_code (1 : Nat) (Option.some Jvm.ClassFile.FieldType.int)) ∈ av_tb := List.mem_filter.mpr ⟨List.mem_append_right _ (List.mem_of_getElem? (i := 352) (by decide +kernel)), by decide +kernel⟩
theorem tw_353 : (Jvm.Cond.methodLink "ImageReader$Form" (95 : Nat) ({ cls := "ImageReader$Form", name := "depthOf", desc := "(I)I" } : Jvm.MethodName)) ∈ av_tb := List.mem_filter.mpr ⟨List.mem_append_right _ (List.mem_of_getElem? (i := 353) (by decide +kernel)), by decide +kernel⟩
theorem tw_354 : (Jvm.Cond.static ({ cls := "ImageReader$Form", name := "depthOf", desc := "(I)I" } : Jvm.MethodName)) ∈ av_tb := List.mem_filter.mpr ⟨List.mem_append_right _ (List.mem_of_getElem? (i := 354) (by decide +kernel)), by decide +kernel⟩
theorem tw_355 : (Jvm.Cond.code ({ cls := "ImageReader$Form", name := "depthOf", desc := "(I)I" } : Jvm.MethodName) prog_3_method_17_code (1 : Nat) (Option.some Jvm.ClassFile.FieldType.int)) ∈ av_tb := List.mem_filter.mpr ⟨List.mem_append_right _ (List.mem_of_getElem? (i := 355) (by decide +kernel)), by decide +kernel⟩
theorem tw_356 : (Jvm.Cond.methodLink "ImageReader$Form" (98 : Nat) ({ cls := "ImageReader$Form", name := "areLinksFit", desc := "(LImageReader$Image;I)Z" } : Jvm.MethodName)) ∈ av_tb := List.mem_filter.mpr ⟨List.mem_append_right _ (List.mem_of_getElem? (i := 356) (by decide +kernel)), by decide +kernel⟩
theorem tw_357 : (Jvm.Cond.static ({ cls := "ImageReader$Form", name := "areLinksFit", desc := "(LImageReader$Image;I)Z" } : Jvm.MethodName)) ∈ av_tb := List.mem_filter.mpr ⟨List.mem_append_right _ (List.mem_of_getElem? (i := 357) (by decide +kernel)), by decide +kernel⟩
theorem tw_358 : (Jvm.Cond.code ({ cls := "ImageReader$Form", name := "areLinksFit", desc := "(LImageReader$Image;I)Z" } : Jvm.MethodName) prog_3_method_10_code (3 : Nat) (Option.some Jvm.ClassFile.FieldType.boolean)) ∈ av_tb := List.mem_filter.mpr ⟨List.mem_append_right _ (List.mem_of_getElem? (i := 358) (by decide +kernel)), by decide +kernel⟩
theorem tw_359 : (Jvm.Cond.methodLink "ImageReader$Form" (108 : Nat) ({ cls := "ImageReader$Form", name := "isNilOrCounting", desc := "(I)Z" } : Jvm.MethodName)) ∈ av_tb := List.mem_filter.mpr ⟨List.mem_append_right _ (List.mem_of_getElem? (i := 359) (by decide +kernel)), by decide +kernel⟩
theorem tw_360 : (Jvm.Cond.static ({ cls := "ImageReader$Form", name := "isNilOrCounting", desc := "(I)Z" } : Jvm.MethodName)) ∈ av_tb := List.mem_filter.mpr ⟨List.mem_append_right _ (List.mem_of_getElem? (i := 360) (by decide +kernel)), by decide +kernel⟩
theorem tw_361 : (Jvm.Cond.code ({ cls := "ImageReader$Form", name := "isNilOrCounting", desc := "(I)Z" } : Jvm.MethodName) prog_3_method_11_code (1 : Nat) (Option.some Jvm.ClassFile.FieldType.boolean)) ∈ av_tb := List.mem_filter.mpr ⟨List.mem_append_right _ (List.mem_of_getElem? (i := 361) (by decide +kernel)), by decide +kernel⟩
theorem tw_362 : (Jvm.Cond.constant "ImageReader$Form" (114 : Nat) (1073741823 : Int32)) ∈ av_tb := List.mem_filter.mpr ⟨List.mem_append_right _ (List.mem_of_getElem? (i := 362) (by decide +kernel)), by decide +kernel⟩
theorem tw_363 : (Jvm.Cond.methodLink "ImageReader$Form" (105 : Nat) ({ cls := "ImageReader$Form", name := "isNilFrom", desc := "(LImageReader$Image;II)Z" } : Jvm.MethodName)) ∈ av_tb := List.mem_filter.mpr ⟨List.mem_append_right _ (List.mem_of_getElem? (i := 363) (by decide +kernel)), by decide +kernel⟩
theorem tw_364 : (Jvm.Cond.static ({ cls := "ImageReader$Form", name := "isNilFrom", desc := "(LImageReader$Image;II)Z" } : Jvm.MethodName)) ∈ av_tb := List.mem_filter.mpr ⟨List.mem_append_right _ (List.mem_of_getElem? (i := 364) (by decide +kernel)), by decide +kernel⟩
theorem tw_365 : (Jvm.Cond.code ({ cls := "ImageReader$Form", name := "isNilFrom", desc := "(LImageReader$Image;II)Z" } : Jvm.MethodName) prog_3_method_12_code (5 : Nat) (Option.some Jvm.ClassFile.FieldType.boolean)) ∈ av_tb := List.mem_filter.mpr ⟨List.mem_append_right _ (List.mem_of_getElem? (i := 365) (by decide +kernel)), by decide +kernel⟩
theorem tw_366 : (Jvm.Cond.methodLink "ImageReader$Form" (60 : Nat) ({ cls := "ImageReader$Form", name := "isBlockContext", desc := "(LImageReader$Image;I)Z" } : Jvm.MethodName)) ∈ av_tb := List.mem_filter.mpr ⟨List.mem_append_right _ (List.mem_of_getElem? (i := 366) (by decide +kernel)), by decide +kernel⟩
theorem tw_367 : (Jvm.Cond.static ({ cls := "ImageReader$Form", name := "isBlockContext", desc := "(LImageReader$Image;I)Z" } : Jvm.MethodName)) ∈ av_tb := List.mem_filter.mpr ⟨List.mem_append_right _ (List.mem_of_getElem? (i := 367) (by decide +kernel)), by decide +kernel⟩
theorem tw_368 : (Jvm.Cond.code ({ cls := "ImageReader$Form", name := "isBlockContext", desc := "(LImageReader$Image;I)Z" } : Jvm.MethodName) prog_3_method_9_code (6 : Nat) (Option.some Jvm.ClassFile.FieldType.boolean)) ∈ av_tb := List.mem_filter.mpr ⟨List.mem_append_right _ (List.mem_of_getElem? (i := 368) (by decide +kernel)), by decide +kernel⟩
theorem nw_369 : (Jvm.Cond.methodLinkNest "ImageReader$Form" (70 : Nat) ({ cls := "ImageReader$Layout", name := "bodyLength", desc := "(II)I" } : Jvm.MethodName) "ImageReader") ∈ av_nw := List.mem_filter.mpr ⟨List.mem_append_right _ (List.mem_of_getElem? (i := 369) (by decide +kernel)), by decide +kernel⟩
theorem nw_370 : (Jvm.Cond.methodLinkNest "ImageReader" (171 : Nat) ({ cls := "ImageReader$Form", name := "schedulerPlace", desc := "(LImageReader$Image;)I" } : Jvm.MethodName) "ImageReader") ∈ av_nw := List.mem_filter.mpr ⟨List.mem_append_right _ (List.mem_of_getElem? (i := 370) (by decide +kernel)), by decide +kernel⟩
theorem tw_371 : (Jvm.Cond.static ({ cls := "ImageReader$Form", name := "schedulerPlace", desc := "(LImageReader$Image;)I" } : Jvm.MethodName)) ∈ av_tb := List.mem_filter.mpr ⟨List.mem_append_right _ (List.mem_of_getElem? (i := 371) (by decide +kernel)), by decide +kernel⟩
theorem tw_372 : (Jvm.Cond.code ({ cls := "ImageReader$Form", name := "schedulerPlace", desc := "(LImageReader$Image;)I" } : Jvm.MethodName) prog_3_method_19_code (4 : Nat) (Option.some Jvm.ClassFile.FieldType.int)) ∈ av_tb := List.mem_filter.mpr ⟨List.mem_append_right _ (List.mem_of_getElem? (i := 372) (by decide +kernel)), by decide +kernel⟩
theorem tw_373 : (Jvm.Cond.methodLink "ImageReader$Form" (122 : Nat) ({ cls := "ImageReader$Form", name := "areListsFit", desc := "(LImageReader$Image;I)Z" } : Jvm.MethodName)) ∈ av_tb := List.mem_filter.mpr ⟨List.mem_append_right _ (List.mem_of_getElem? (i := 373) (by decide +kernel)), by decide +kernel⟩
theorem tw_374 : (Jvm.Cond.static ({ cls := "ImageReader$Form", name := "areListsFit", desc := "(LImageReader$Image;I)Z" } : Jvm.MethodName)) ∈ av_tb := List.mem_filter.mpr ⟨List.mem_append_right _ (List.mem_of_getElem? (i := 374) (by decide +kernel)), by decide +kernel⟩
theorem tw_375 : (Jvm.Cond.code ({ cls := "ImageReader$Form", name := "areListsFit", desc := "(LImageReader$Image;I)Z" } : Jvm.MethodName) prog_3_method_20_code (3 : Nat) (Option.some Jvm.ClassFile.FieldType.boolean)) ∈ av_tb := List.mem_filter.mpr ⟨List.mem_append_right _ (List.mem_of_getElem? (i := 375) (by decide +kernel)), by decide +kernel⟩
theorem tw_376 : (Jvm.Cond.methodLink "ImageReader$Form" (125 : Nat) ({ cls := "ImageReader$Form", name := "isProcessFit", desc := "(LImageReader$Image;I)Z" } : Jvm.MethodName)) ∈ av_tb := List.mem_filter.mpr ⟨List.mem_append_right _ (List.mem_of_getElem? (i := 376) (by decide +kernel)), by decide +kernel⟩
theorem tw_377 : (Jvm.Cond.static ({ cls := "ImageReader$Form", name := "isProcessFit", desc := "(LImageReader$Image;I)Z" } : Jvm.MethodName)) ∈ av_tb := List.mem_filter.mpr ⟨List.mem_append_right _ (List.mem_of_getElem? (i := 377) (by decide +kernel)), by decide +kernel⟩
theorem tw_378 : (Jvm.Cond.code ({ cls := "ImageReader$Form", name := "isProcessFit", desc := "(LImageReader$Image;I)Z" } : Jvm.MethodName) prog_3_method_21_code (3 : Nat) (Option.some Jvm.ClassFile.FieldType.boolean)) ∈ av_tb := List.mem_filter.mpr ⟨List.mem_append_right _ (List.mem_of_getElem? (i := 378) (by decide +kernel)), by decide +kernel⟩
theorem tw_379 : (Jvm.Cond.methodLink "ImageReaderLaw" (48 : Nat) ({ cls := "ImageReader", name := "objects", desc := "()I" } : Jvm.MethodName)) ∈ av_tb := List.mem_filter.mpr ⟨List.mem_append_right _ (List.mem_of_getElem? (i := 379) (by decide +kernel)), by decide +kernel⟩
theorem tw_380 : (Jvm.Cond.instanceMethod ({ cls := "ImageReader", name := "objects", desc := "()I" } : Jvm.MethodName)) ∈ av_tb := List.mem_filter.mpr ⟨List.mem_append_right _ (List.mem_of_getElem? (i := 380) (by decide +kernel)), by decide +kernel⟩
theorem tw_381 : (Jvm.Cond.selects "ImageReader" ({ cls := "ImageReader", name := "objects", desc := "()I" } : Jvm.MethodName) ({ cls := "ImageReader", name := "objects", desc := "()I" } : Jvm.MethodName)) ∈ av_tb := List.mem_filter.mpr ⟨List.mem_append_right _ (List.mem_of_getElem? (i := 381) (by decide +kernel)), by decide +kernel⟩
theorem tw_382 : (Jvm.Cond.code ({ cls := "ImageReader", name := "objects", desc := "()I" } : Jvm.MethodName) prog_1_method_6_code (1 : Nat) (Option.some Jvm.ClassFile.FieldType.int)) ∈ av_tb := List.mem_filter.mpr ⟨List.mem_append_right _ (List.mem_of_getElem? (i := 382) (by decide +kernel)), by decide +kernel⟩
theorem tw_383 : (Jvm.Cond.methodLink "ImageReaderLaw" (52 : Nat) ({ cls := "ImageReader", name := "words", desc := "()I" } : Jvm.MethodName)) ∈ av_tb := List.mem_filter.mpr ⟨List.mem_append_right _ (List.mem_of_getElem? (i := 383) (by decide +kernel)), by decide +kernel⟩
theorem tw_384 : (Jvm.Cond.instanceMethod ({ cls := "ImageReader", name := "words", desc := "()I" } : Jvm.MethodName)) ∈ av_tb := List.mem_filter.mpr ⟨List.mem_append_right _ (List.mem_of_getElem? (i := 384) (by decide +kernel)), by decide +kernel⟩
theorem tw_385 : (Jvm.Cond.selects "ImageReader" ({ cls := "ImageReader", name := "words", desc := "()I" } : Jvm.MethodName) ({ cls := "ImageReader", name := "words", desc := "()I" } : Jvm.MethodName)) ∈ av_tb := List.mem_filter.mpr ⟨List.mem_append_right _ (List.mem_of_getElem? (i := 385) (by decide +kernel)), by decide +kernel⟩
theorem tw_386 : (Jvm.Cond.code ({ cls := "ImageReader", name := "words", desc := "()I" } : Jvm.MethodName) prog_1_method_7_code (1 : Nat) (Option.some Jvm.ClassFile.FieldType.int)) ∈ av_tb := List.mem_filter.mpr ⟨List.mem_append_right _ (List.mem_of_getElem? (i := 386) (by decide +kernel)), by decide +kernel⟩
theorem tw_387 : (Jvm.Cond.methodLink "ImageReaderLaw" (56 : Nat) ({ cls := "ImageReader", name := "special", desc := "(I)I" } : Jvm.MethodName)) ∈ av_tb := List.mem_filter.mpr ⟨List.mem_append_right _ (List.mem_of_getElem? (i := 387) (by decide +kernel)), by decide +kernel⟩
theorem tw_388 : (Jvm.Cond.instanceMethod ({ cls := "ImageReader", name := "special", desc := "(I)I" } : Jvm.MethodName)) ∈ av_tb := List.mem_filter.mpr ⟨List.mem_append_right _ (List.mem_of_getElem? (i := 388) (by decide +kernel)), by decide +kernel⟩
theorem tw_389 : (Jvm.Cond.selects "ImageReader" ({ cls := "ImageReader", name := "special", desc := "(I)I" } : Jvm.MethodName) ({ cls := "ImageReader", name := "special", desc := "(I)I" } : Jvm.MethodName)) ∈ av_tb := List.mem_filter.mpr ⟨List.mem_append_right _ (List.mem_of_getElem? (i := 389) (by decide +kernel)), by decide +kernel⟩
theorem tw_390 : (Jvm.Cond.code ({ cls := "ImageReader", name := "special", desc := "(I)I" } : Jvm.MethodName) prog_1_method_8_code (2 : Nat) (Option.some Jvm.ClassFile.FieldType.int)) ∈ av_tb := List.mem_filter.mpr ⟨List.mem_append_right _ (List.mem_of_getElem? (i := 390) (by decide +kernel)), by decide +kernel⟩
theorem nw_391 : (Jvm.Cond.methodLinkNest "ImageReader" (92 : Nat) ({ cls := "ImageReader$Image", name := "specialAt", desc := "(I)I" } : Jvm.MethodName) "ImageReader") ∈ av_nw := List.mem_filter.mpr ⟨List.mem_append_right _ (List.mem_of_getElem? (i := 391) (by decide +kernel)), by decide +kernel⟩
theorem tw_392 : (Jvm.Cond.methodLink "ImageReaderLaw" (60 : Nat) ({ cls := "ImageReader", name := "kind", desc := "(I)I" } : Jvm.MethodName)) ∈ av_tb := List.mem_filter.mpr ⟨List.mem_append_right _ (List.mem_of_getElem? (i := 392) (by decide +kernel)), by decide +kernel⟩
theorem tw_393 : (Jvm.Cond.instanceMethod ({ cls := "ImageReader", name := "kind", desc := "(I)I" } : Jvm.MethodName)) ∈ av_tb := List.mem_filter.mpr ⟨List.mem_append_right _ (List.mem_of_getElem? (i := 393) (by decide +kernel)), by decide +kernel⟩
theorem tw_394 : (Jvm.Cond.selects "ImageReader" ({ cls := "ImageReader", name := "kind", desc := "(I)I" } : Jvm.MethodName) ({ cls := "ImageReader", name := "kind", desc := "(I)I" } : Jvm.MethodName)) ∈ av_tb := List.mem_filter.mpr ⟨List.mem_append_right _ (List.mem_of_getElem? (i := 394) (by decide +kernel)), by decide +kernel⟩
theorem tw_395 : (Jvm.Cond.code ({ cls := "ImageReader", name := "kind", desc := "(I)I" } : Jvm.MethodName) prog_1_method_9_code (2 : Nat) (Option.some Jvm.ClassFile.FieldType.int)) ∈ av_tb := List.mem_filter.mpr ⟨List.mem_append_right _ (List.mem_of_getElem? (i := 395) (by decide +kernel)), by decide +kernel⟩
theorem nw_396 : (Jvm.Cond.methodLinkNest "ImageReader" (95 : Nat) ({ cls := "ImageReader$Image", name := "holds", desc := "(I)Z" } : Jvm.MethodName) "ImageReader") ∈ av_nw := List.mem_filter.mpr ⟨List.mem_append_right _ (List.mem_of_getElem? (i := 396) (by decide +kernel)), by decide +kernel⟩
theorem nw_397 : (Jvm.Cond.methodLinkNest "ImageReader" (99 : Nat) ({ cls := "ImageReader$Image", name := "isOfSpecialClass", desc := "(II)Z" } : Jvm.MethodName) "ImageReader") ∈ av_nw := List.mem_filter.mpr ⟨List.mem_append_right _ (List.mem_of_getElem? (i := 397) (by decide +kernel)), by decide +kernel⟩
theorem tw_398 : (Jvm.Cond.methodLink "ImageReaderLaw" (64 : Nat) ({ cls := "ImageReader", name := "classOf", desc := "(I)I" } : Jvm.MethodName)) ∈ av_tb := List.mem_filter.mpr ⟨List.mem_append_right _ (List.mem_of_getElem? (i := 398) (by decide +kernel)), by decide +kernel⟩
theorem tw_399 : (Jvm.Cond.instanceMethod ({ cls := "ImageReader", name := "classOf", desc := "(I)I" } : Jvm.MethodName)) ∈ av_tb := List.mem_filter.mpr ⟨List.mem_append_right _ (List.mem_of_getElem? (i := 399) (by decide +kernel)), by decide +kernel⟩
theorem tw_400 : (Jvm.Cond.selects "ImageReader" ({ cls := "ImageReader", name := "classOf", desc := "(I)I" } : Jvm.MethodName) ({ cls := "ImageReader", name := "classOf", desc := "(I)I" } : Jvm.MethodName)) ∈ av_tb := List.mem_filter.mpr ⟨List.mem_append_right _ (List.mem_of_getElem? (i := 400) (by decide +kernel)), by decide +kernel⟩
theorem tw_401 : (Jvm.Cond.code ({ cls := "ImageReader", name := "classOf", desc := "(I)I" } : Jvm.MethodName) prog_1_method_10_code (2 : Nat) (Option.some Jvm.ClassFile.FieldType.int)) ∈ av_tb := List.mem_filter.mpr ⟨List.mem_append_right _ (List.mem_of_getElem? (i := 401) (by decide +kernel)), by decide +kernel⟩
theorem nw_402 : (Jvm.Cond.methodLinkNest "ImageReader" (107 : Nat) ({ cls := "ImageReader$Image", name := "classAt", desc := "(I)I" } : Jvm.MethodName) "ImageReader") ∈ av_nw := List.mem_filter.mpr ⟨List.mem_append_right _ (List.mem_of_getElem? (i := 402) (by decide +kernel)), by decide +kernel⟩
theorem tw_403 : (Jvm.Cond.methodLink "ImageReaderLaw" (68 : Nat) ({ cls := "ImageReader", name := "size", desc := "(I)I" } : Jvm.MethodName)) ∈ av_tb := List.mem_filter.mpr ⟨List.mem_append_right _ (List.mem_of_getElem? (i := 403) (by decide +kernel)), by decide +kernel⟩
theorem tw_404 : (Jvm.Cond.instanceMethod ({ cls := "ImageReader", name := "size", desc := "(I)I" } : Jvm.MethodName)) ∈ av_tb := List.mem_filter.mpr ⟨List.mem_append_right _ (List.mem_of_getElem? (i := 404) (by decide +kernel)), by decide +kernel⟩
theorem tw_405 : (Jvm.Cond.selects "ImageReader" ({ cls := "ImageReader", name := "size", desc := "(I)I" } : Jvm.MethodName) ({ cls := "ImageReader", name := "size", desc := "(I)I" } : Jvm.MethodName)) ∈ av_tb := List.mem_filter.mpr ⟨List.mem_append_right _ (List.mem_of_getElem? (i := 405) (by decide +kernel)), by decide +kernel⟩
theorem tw_406 : (Jvm.Cond.code ({ cls := "ImageReader", name := "size", desc := "(I)I" } : Jvm.MethodName) prog_1_method_11_code (2 : Nat) (Option.some Jvm.ClassFile.FieldType.int)) ∈ av_tb := List.mem_filter.mpr ⟨List.mem_append_right _ (List.mem_of_getElem? (i := 406) (by decide +kernel)), by decide +kernel⟩
theorem tw_407 : (Jvm.Cond.methodLink "ImageReaderLaw" (72 : Nat) ({ cls := "ImageReader", name := "field", desc := "(II)I" } : Jvm.MethodName)) ∈ av_tb := List.mem_filter.mpr ⟨List.mem_append_right _ (List.mem_of_getElem? (i := 407) (by decide +kernel)), by decide +kernel⟩
theorem tw_408 : (Jvm.Cond.instanceMethod ({ cls := "ImageReader", name := "field", desc := "(II)I" } : Jvm.MethodName)) ∈ av_tb := List.mem_filter.mpr ⟨List.mem_append_right _ (List.mem_of_getElem? (i := 408) (by decide +kernel)), by decide +kernel⟩
theorem tw_409 : (Jvm.Cond.selects "ImageReader" ({ cls := "ImageReader", name := "field", desc := "(II)I" } : Jvm.MethodName) ({ cls := "ImageReader", name := "field", desc := "(II)I" } : Jvm.MethodName)) ∈ av_tb := List.mem_filter.mpr ⟨List.mem_append_right _ (List.mem_of_getElem? (i := 409) (by decide +kernel)), by decide +kernel⟩
theorem tw_410 : (Jvm.Cond.code ({ cls := "ImageReader", name := "field", desc := "(II)I" } : Jvm.MethodName) prog_1_method_12_code (3 : Nat) (Option.some Jvm.ClassFile.FieldType.int)) ∈ av_tb := List.mem_filter.mpr ⟨List.mem_append_right _ (List.mem_of_getElem? (i := 410) (by decide +kernel)), by decide +kernel⟩
theorem nw_411 : (Jvm.Cond.methodLinkNest "ImageReader" (113 : Nat) ({ cls := "ImageReader$Image", name := "fieldAt", desc := "(II)I" } : Jvm.MethodName) "ImageReader") ∈ av_nw := List.mem_filter.mpr ⟨List.mem_append_right _ (List.mem_of_getElem? (i := 411) (by decide +kernel)), by decide +kernel⟩
theorem tw_412 : (Jvm.Cond.methodLink "ImageReaderLaw" (76 : Nat) ({ cls := "ImageReader", name := "byteAt", desc := "(II)I" } : Jvm.MethodName)) ∈ av_tb := List.mem_filter.mpr ⟨List.mem_append_right _ (List.mem_of_getElem? (i := 412) (by decide +kernel)), by decide +kernel⟩
theorem tw_413 : (Jvm.Cond.instanceMethod ({ cls := "ImageReader", name := "byteAt", desc := "(II)I" } : Jvm.MethodName)) ∈ av_tb := List.mem_filter.mpr ⟨List.mem_append_right _ (List.mem_of_getElem? (i := 413) (by decide +kernel)), by decide +kernel⟩
theorem tw_414 : (Jvm.Cond.selects "ImageReader" ({ cls := "ImageReader", name := "byteAt", desc := "(II)I" } : Jvm.MethodName) ({ cls := "ImageReader", name := "byteAt", desc := "(II)I" } : Jvm.MethodName)) ∈ av_tb := List.mem_filter.mpr ⟨List.mem_append_right _ (List.mem_of_getElem? (i := 414) (by decide +kernel)), by decide +kernel⟩
theorem tw_415 : (Jvm.Cond.code ({ cls := "ImageReader", name := "byteAt", desc := "(II)I" } : Jvm.MethodName) prog_1_method_13_code (3 : Nat) (Option.some Jvm.ClassFile.FieldType.int)) ∈ av_tb := List.mem_filter.mpr ⟨List.mem_append_right _ (List.mem_of_getElem? (i := 415) (by decide +kernel)), by decide +kernel⟩
theorem nw_416 : (Jvm.Cond.methodLinkNest "ImageReader" (117 : Nat) ({ cls := "ImageReader$Image", name := "bodyByteAt", desc := "(II)I" } : Jvm.MethodName) "ImageReader") ∈ av_nw := List.mem_filter.mpr ⟨List.mem_append_right _ (List.mem_of_getElem? (i := 416) (by decide +kernel)), by decide +kernel⟩
theorem tw_418 : (Jvm.Cond.instanceMethod ({ cls := "ImageReader$Image", name := "bodyByteAt", desc := "(II)I" } : Jvm.MethodName)) ∈ av_tb := List.mem_filter.mpr ⟨List.mem_append_right _ (List.mem_of_getElem? (i := 418) (by decide +kernel)), by decide +kernel⟩
theorem tw_419 : (Jvm.Cond.code ({ cls := "ImageReader$Image", name := "bodyByteAt", desc := "(II)I" } : Jvm.MethodName) prog_4_method_12_code (3 : Nat) (Option.some Jvm.ClassFile.FieldType.int)) ∈ av_tb := List.mem_filter.mpr ⟨List.mem_append_right _ (List.mem_of_getElem? (i := 419) (by decide +kernel)), by decide +kernel⟩
theorem tw_420 : (Jvm.Cond.methodLink "ImageReaderLaw" (80 : Nat) ({ cls := "ImageReader", name := "reachable", desc := "()I" } : Jvm.MethodName)) ∈ av_tb := List.mem_filter.mpr ⟨List.mem_append_right _ (List.mem_of_getElem? (i := 420) (by decide +kernel)), by decide +kernel⟩
theorem tw_421 : (Jvm.Cond.instanceMethod ({ cls := "ImageReader", name := "reachable", desc := "()I" } : Jvm.MethodName)) ∈ av_tb := List.mem_filter.mpr ⟨List.mem_append_right _ (List.mem_of_getElem? (i := 421) (by decide +kernel)), by decide +kernel⟩
theorem tw_422 : (Jvm.Cond.selects "ImageReader" ({ cls := "ImageReader", name := "reachable", desc := "()I" } : Jvm.MethodName) ({ cls := "ImageReader", name := "reachable", desc := "()I" } : Jvm.MethodName)) ∈ av_tb := List.mem_filter.mpr ⟨List.mem_append_right _ (List.mem_of_getElem? (i := 422) (by decide +kernel)), by decide +kernel⟩
theorem tw_423 : (Jvm.Cond.code ({ cls := "ImageReader", name := "reachable", desc := "()I" } : Jvm.MethodName) prog_1_method_14_code (1 : Nat) (Option.some Jvm.ClassFile.FieldType.int)) ∈ av_tb := List.mem_filter.mpr ⟨List.mem_append_right _ (List.mem_of_getElem? (i := 423) (by decide +kernel)), by decide +kernel⟩
theorem nw_424 : (Jvm.Cond.methodLinkNest "ImageReader" (120 : Nat) ({ cls := "ImageReader$Walk", name := "reach", desc := "(LImageReader$Image;)I" } : Jvm.MethodName) "ImageReader") ∈ av_nw := List.mem_filter.mpr ⟨List.mem_append_right _ (List.mem_of_getElem? (i := 424) (by decide +kernel)), by decide +kernel⟩
theorem tw_426 : (Jvm.Cond.instanceMethod ({ cls := "ImageReader$Walk", name := "reach", desc := "(LImageReader$Image;)I" } : Jvm.MethodName)) ∈ av_tb := List.mem_filter.mpr ⟨List.mem_append_right _ (List.mem_of_getElem? (i := 426) (by decide +kernel)), by decide +kernel⟩
theorem tw_427 : (Jvm.Cond.code ({ cls := "ImageReader$Walk", name := "reach", desc := "(LImageReader$Image;)I" } : Jvm.MethodName) prog_7_method_2_code (6 : Nat) (Option.some Jvm.ClassFile.FieldType.int)) ∈ av_tb := List.mem_filter.mpr ⟨List.mem_append_right _ (List.mem_of_getElem? (i := 427) (by decide +kernel)), by decide +kernel⟩
theorem tw_428 : (Jvm.Cond.methodLink "ImageReader$Walk" (18 : Nat) ({ cls := "ImageReader$Walk", name := "clear", desc := "(LImageReader$Image;)V" } : Jvm.MethodName)) ∈ av_tb := List.mem_filter.mpr ⟨List.mem_append_right _ (List.mem_of_getElem? (i := 428) (by decide +kernel)), by decide +kernel⟩
theorem tw_430 : (Jvm.Cond.instanceMethod ({ cls := "ImageReader$Walk", name := "clear", desc := "(LImageReader$Image;)V" } : Jvm.MethodName)) ∈ av_tb := List.mem_filter.mpr ⟨List.mem_append_right _ (List.mem_of_getElem? (i := 430) (by decide +kernel)), by decide +kernel⟩
theorem tw_431 : (Jvm.Cond.code ({ cls := "ImageReader$Walk", name := "clear", desc := "(LImageReader$Image;)V" } : Jvm.MethodName) prog_7_method_3_code (2 : Nat) (Option.none : Option Jvm.ClassFile.FieldType)) ∈ av_tb := List.mem_filter.mpr ⟨List.mem_append_right _ (List.mem_of_getElem? (i := 431) (by decide +kernel)), by decide +kernel⟩
theorem tw_432 : (Jvm.Cond.methodLink "ImageReader$Walk" (55 : Nat) ({ cls := "java/util/Arrays", name := "fill", desc := "([II)V" } : Jvm.MethodName)) ∈ av_tb := List.mem_filter.mpr ⟨List.mem_append_right _ (List.mem_of_getElem? (i := 432) (by decide +kernel)), by decide +kernel⟩
theorem tw_433 : (Jvm.Cond.static ({ cls := "java/util/Arrays", name := "fill", desc := "([II)V" } : Jvm.MethodName)) ∈ av_tb := List.mem_filter.mpr ⟨List.mem_append_right _ (List.mem_of_getElem? (i := 433) (by decide +kernel)), by decide +kernel⟩
theorem tw_434 : (Jvm.Cond.code ({ cls := "java/util/Arrays", name := "fill", desc := "([II)V" } : Jvm.MethodName) prog_19_method_103_code (4 : Nat) (Option.none : Option Jvm.ClassFile.FieldType)) ∈ av_tb := List.mem_filter.mpr ⟨List.mem_append_right _ (List.mem_of_getElem? (i := 434) (by decide +kernel)), by decide +kernel⟩
theorem nw_435 : (Jvm.Cond.methodLinkNest "ImageReader$Walk" (27 : Nat) ({ cls := "ImageReader$Image", name := "objectOf", desc := "(I)I" } : Jvm.MethodName) "ImageReader") ∈ av_nw := List.mem_filter.mpr ⟨List.mem_append_right _ (List.mem_of_getElem? (i := 435) (by decide +kernel)), by decide +kernel⟩
theorem tw_436 : (Jvm.Cond.methodLink "ImageReader$Walk" (31 : Nat) ({ cls := "ImageReader$Walk", name := "visit", desc := "(I)V" } : Jvm.MethodName)) ∈ av_tb := List.mem_filter.mpr ⟨List.mem_append_right _ (List.mem_of_getElem? (i := 436) (by decide +kernel)), by decide +kernel⟩
theorem tw_438 : (Jvm.Cond.instanceMethod ({ cls := "ImageReader$Walk", name := "visit", desc := "(I)V" } : Jvm.MethodName)) ∈ av_tb := List.mem_filter.mpr ⟨List.mem_append_right _ (List.mem_of_getElem? (i := 438) (by decide +kernel)), by decide +kernel⟩
theorem tw_439 : (Jvm.Cond.code ({ cls := "ImageReader$Walk", name := "visit", desc := "(I)V" } : Jvm.MethodName) prog_7_method_4_code (2 : Nat) (Option.none : Option Jvm.ClassFile.FieldType)) ∈ av_tb := List.mem_filter.mpr ⟨List.mem_append_right _ (List.mem_of_getElem? (i := 439) (by decide +kernel)), by decide +kernel⟩
theorem nw_440 : (Jvm.Cond.methodLinkNest "ImageReader$Walk" (42 : Nat) ({ cls := "ImageReader$Image", name := "classAt", desc := "(I)I" } : Jvm.MethodName) "ImageReader") ∈ av_nw := List.mem_filter.mpr ⟨List.mem_append_right _ (List.mem_of_getElem? (i := 440) (by decide +kernel)), by decide +kernel⟩
theorem nw_441 : (Jvm.Cond.methodLinkNest "ImageReader$Walk" (45 : Nat) ({ cls := "ImageReader$Image", name := "fieldCount", desc := "(I)I" } : Jvm.MethodName) "ImageReader") ∈ av_nw := List.mem_filter.mpr ⟨List.mem_append_right _ (List.mem_of_getElem? (i := 441) (by decide +kernel)), by decide +kernel⟩
theorem nw_442 : (Jvm.Cond.methodLinkNest "ImageReader$Walk" (48 : Nat) ({ cls := "ImageReader$Image", name := "fieldAt", desc := "(II)I" } : Jvm.MethodName) "ImageReader") ∈ av_nw := List.mem_filter.mpr ⟨List.mem_append_right _ (List.mem_of_getElem? (i := 442) (by decide +kernel)), by decide +kernel⟩
theorem tw_443 : (Jvm.Cond.methodLink "ImageReaderLaw" (84 : Nat) ({ cls := "ImageReader", name := "write", desc := "()I" } : Jvm.MethodName)) ∈ av_tb := List.mem_filter.mpr ⟨List.mem_append_right _ (List.mem_of_getElem? (i := 443) (by decide +kernel)), by decide +kernel⟩
theorem tw_444 : (Jvm.Cond.instanceMethod ({ cls := "ImageReader", name := "write", desc := "()I" } : Jvm.MethodName)) ∈ av_tb := List.mem_filter.mpr ⟨List.mem_append_right _ (List.mem_of_getElem? (i := 444) (by decide +kernel)), by decide +kernel⟩
theorem tw_445 : (Jvm.Cond.selects "ImageReader" ({ cls := "ImageReader", name := "write", desc := "()I" } : Jvm.MethodName) ({ cls := "ImageReader", name := "write", desc := "()I" } : Jvm.MethodName)) ∈ av_tb := List.mem_filter.mpr ⟨List.mem_append_right _ (List.mem_of_getElem? (i := 445) (by decide +kernel)), by decide +kernel⟩
theorem tw_446 : (Jvm.Cond.code ({ cls := "ImageReader", name := "write", desc := "()I" } : Jvm.MethodName) prog_1_method_15_code (3 : Nat) (Option.some Jvm.ClassFile.FieldType.int)) ∈ av_tb := List.mem_filter.mpr ⟨List.mem_append_right _ (List.mem_of_getElem? (i := 446) (by decide +kernel)), by decide +kernel⟩
theorem nw_447 : (Jvm.Cond.methodLinkNest "ImageReader" (123 : Nat) ({ cls := "ImageReader$Walk", name := "numberAnew", desc := "(LImageReader$Image;)V" } : Jvm.MethodName) "ImageReader") ∈ av_nw := List.mem_filter.mpr ⟨List.mem_append_right _ (List.mem_of_getElem? (i := 447) (by decide +kernel)), by decide +kernel⟩
theorem tw_449 : (Jvm.Cond.instanceMethod ({ cls := "ImageReader$Walk", name := "numberAnew", desc := "(LImageReader$Image;)V" } : Jvm.MethodName)) ∈ av_tb := List.mem_filter.mpr ⟨List.mem_append_right _ (List.mem_of_getElem? (i := 449) (by decide +kernel)), by decide +kernel⟩
theorem tw_450 : (Jvm.Cond.code ({ cls := "ImageReader$Walk", name := "numberAnew", desc := "(LImageReader$Image;)V" } : Jvm.MethodName) prog_7_method_5_code (4 : Nat) (Option.none : Option Jvm.ClassFile.FieldType)) ∈ av_tb := List.mem_filter.mpr ⟨List.mem_append_right _ (List.mem_of_getElem? (i := 450) (by decide +kernel)), by decide +kernel⟩
theorem tw_451 : (Jvm.Cond.methodLink "ImageReader" (127 : Nat) ({ cls := "ImageReader", name := "writeHead", desc := "(I)V" } : Jvm.MethodName)) ∈ av_tb := List.mem_filter.mpr ⟨List.mem_append_right _ (List.mem_of_getElem? (i := 451) (by decide +kernel)), by decide +kernel⟩
theorem tw_453 : (Jvm.Cond.instanceMethod ({ cls := "ImageReader", name := "writeHead", desc := "(I)V" } : Jvm.MethodName)) ∈ av_tb := List.mem_filter.mpr ⟨List.mem_append_right _ (List.mem_of_getElem? (i := 453) (by decide +kernel)), by decide +kernel⟩
theorem tw_454 : (Jvm.Cond.code ({ cls := "ImageReader", name := "writeHead", desc := "(I)V" } : Jvm.MethodName) prog_1_method_21_code (3 : Nat) (Option.none : Option Jvm.ClassFile.FieldType)) ∈ av_tb := List.mem_filter.mpr ⟨List.mem_append_right _ (List.mem_of_getElem? (i := 454) (by decide +kernel)), by decide +kernel⟩
theorem nw_456 : (Jvm.Cond.methodLinkNest "ImageReader" (177 : Nat) ({ cls := "ImageReader$Bytes", name := "add", desc := "(I)V" } : Jvm.MethodName) "ImageReader") ∈ av_nw := List.mem_filter.mpr ⟨List.mem_append_right _ (List.mem_of_getElem? (i := 456) (by decide +kernel)), by decide +kernel⟩
theorem tw_458 : (Jvm.Cond.instanceMethod ({ cls := "ImageReader$Bytes", name := "add", desc := "(I)V" } : Jvm.MethodName)) ∈ av_tb := List.mem_filter.mpr ⟨List.mem_append_right _ (List.mem_of_getElem? (i := 458) (by decide +kernel)), by decide +kernel⟩
theorem tw_459 : (Jvm.Cond.code ({ cls := "ImageReader$Bytes", name := "add", desc := "(I)V" } : Jvm.MethodName) prog_2_method_6_code (2 : Nat) (Option.none : Option Jvm.ClassFile.FieldType)) ∈ av_tb := List.mem_filter.mpr ⟨List.mem_append_right _ (List.mem_of_getElem? (i := 459) (by decide +kernel)), by decide +kernel⟩
theorem tw_460 : (Jvm.Cond.methodLink "ImageReader$Bytes" (23 : Nat) ({ cls := "java/util/Arrays", name := "copyOf", desc := "([BI)[B" } : Jvm.MethodName)) ∈ av_tb := List.mem_filter.mpr ⟨List.mem_append_right _ (List.mem_of_getElem? (i := 460) (by decide +kernel)), by decide +kernel⟩
theorem tw_461 : (Jvm.Cond.static ({ cls := "java/util/Arrays", name := "copyOf", desc := "([BI)[B" } : Jvm.MethodName)) ∈ av_tb := List.mem_filter.mpr ⟨List.mem_append_right _ (List.mem_of_getElem? (i := 461) (by decide +kernel)), by decide +kernel⟩
theorem tw_462 : (Jvm.Cond.code ({ cls := "java/util/Arrays", name := "copyOf", desc := "([BI)[B" } : Jvm.MethodName) prog_19_method_121_code (3 : Nat) (Option.some (Jvm.ClassFile.FieldType.array Jvm.ClassFile.FieldType.byte))) ∈ av_tb := List.mem_filter.mpr ⟨List.mem_append_right _ (List.mem_of_getElem? (i := 462) (by decide +kernel)), by decide +kernel⟩
theorem nw_468 : (Jvm.Cond.methodLinkNest "ImageReader" (186 : Nat) ({ cls := "ImageReader$Bytes", name := "addPair", desc := "(I)V" } : Jvm.MethodName) "ImageReader") ∈ av_nw := List.mem_filter.mpr ⟨List.mem_append_right _ (List.mem_of_getElem? (i := 468) (by decide +kernel)), by decide +kernel⟩
theorem tw_470 : (Jvm.Cond.instanceMethod ({ cls := "ImageReader$Bytes", name := "addPair", desc := "(I)V" } : Jvm.MethodName)) ∈ av_tb := List.mem_filter.mpr ⟨List.mem_append_right _ (List.mem_of_getElem? (i := 470) (by decide +kernel)), by decide +kernel⟩
theorem tw_471 : (Jvm.Cond.code ({ cls := "ImageReader$Bytes", name := "addPair", desc := "(I)V" } : Jvm.MethodName) prog_2_method_7_code (2 : Nat) (Option.none : Option Jvm.ClassFile.FieldType)) ∈ av_tb := List.mem_filter.mpr ⟨List.mem_append_right _ (List.mem_of_getElem? (i := 471) (by decide +kernel)), by decide +kernel⟩
theorem tw_472 : (Jvm.Cond.methodLink "ImageReader$Bytes" (29 : Nat) ({ cls := "ImageReader$Bytes", name := "add", desc := "(I)V" } : Jvm.MethodName)) ∈ av_tb := List.mem_filter.mpr ⟨List.mem_append_right _ (List.mem_of_getElem? (i := 472) (by decide +kernel)), by decide +kernel⟩
theorem nw_473 : (Jvm.Cond.methodLinkNest "ImageReader" (133 : Nat) ({ cls := "ImageReader$Walk", name := "renumbered", desc := "(LImageReader$Image;I)I" } : Jvm.MethodName) "ImageReader") ∈ av_nw := List.mem_filter.mpr ⟨List.mem_append_right _ (List.mem_of_getElem? (i := 473) (by decide +kernel)), by decide +kernel⟩
theorem tw_475 : (Jvm.Cond.instanceMethod ({ cls := "ImageReader$Walk", name := "renumbered", desc := "(LImageReader$Image;I)I" } : Jvm.MethodName)) ∈ av_tb := List.mem_filter.mpr ⟨List.mem_append_right _ (List.mem_of_getElem? (i := 475) (by decide +kernel)), by decide +kernel⟩
theorem tw_476 : (Jvm.Cond.code ({ cls := "ImageReader$Walk", name := "renumbered", desc := "(LImageReader$Image;I)I" } : Jvm.MethodName) prog_7_method_6_code (4 : Nat) (Option.some Jvm.ClassFile.FieldType.int)) ∈ av_tb := List.mem_filter.mpr ⟨List.mem_append_right _ (List.mem_of_getElem? (i := 476) (by decide +kernel)), by decide +kernel⟩
theorem nw_477 : (Jvm.Cond.methodLinkNest "ImageReader" (61 : Nat) ({ cls := "ImageReader$Bytes", name := "addWord", desc := "(I)V" } : Jvm.MethodName) "ImageReader") ∈ av_nw := List.mem_filter.mpr ⟨List.mem_append_right _ (List.mem_of_getElem? (i := 477) (by decide +kernel)), by decide +kernel⟩
theorem tw_479 : (Jvm.Cond.instanceMethod ({ cls := "ImageReader$Bytes", name := "addWord", desc := "(I)V" } : Jvm.MethodName)) ∈ av_tb := List.mem_filter.mpr ⟨List.mem_append_right _ (List.mem_of_getElem? (i := 479) (by decide +kernel)), by decide +kernel⟩
theorem tw_480 : (Jvm.Cond.code ({ cls := "ImageReader$Bytes", name := "addWord", desc := "(I)V" } : Jvm.MethodName) prog_2_method_8_code (2 : Nat) (Option.none : Option Jvm.ClassFile.FieldType)) ∈ av_tb := List.mem_filter.mpr ⟨List.mem_append_right _ (List.mem_of_getElem? (i := 480) (by decide +kernel)), by decide +kernel⟩
theorem tw_481 : (Jvm.Cond.methodLink "ImageReader$Bytes" (33 : Nat) ({ cls := "ImageReader$Bytes", name := "addPair", desc := "(I)V" } : Jvm.MethodName)) ∈ av_tb := List.mem_filter.mpr ⟨List.mem_append_right _ (List.mem_of_getElem? (i := 481) (by decide +kernel)), by decide +kernel⟩
theorem tw_482 : (Jvm.Cond.methodLink "ImageReader" (140 : Nat) ({ cls := "ImageReader", name := "writeObject", desc := "(I)V" } : Jvm.MethodName)) ∈ av_tb := List.mem_filter.mpr ⟨List.mem_append_right _ (List.mem_of_getElem? (i := 482) (by decide +kernel)), by decide +kernel⟩
theorem tw_484 : (Jvm.Cond.instanceMethod ({ cls := "ImageReader", name := "writeObject", desc := "(I)V" } : Jvm.MethodName)) ∈ av_tb := List.mem_filter.mpr ⟨List.mem_append_right _ (List.mem_of_getElem? (i := 484) (by decide +kernel)), by decide +kernel⟩
theorem tw_485 : (Jvm.Cond.code ({ cls := "ImageReader", name := "writeObject", desc := "(I)V" } : Jvm.MethodName) prog_1_method_22_code (4 : Nat) (Option.none : Option Jvm.ClassFile.FieldType)) ∈ av_tb := List.mem_filter.mpr ⟨List.mem_append_right _ (List.mem_of_getElem? (i := 485) (by decide +kernel)), by decide +kernel⟩
theorem tw_486 : (Jvm.Cond.methodLink "ImageReaderLaw" (88 : Nat) ({ cls := "ImageReader", name := "came", desc := "(I)I" } : Jvm.MethodName)) ∈ av_tb := List.mem_filter.mpr ⟨List.mem_append_right _ (List.mem_of_getElem? (i := 486) (by decide +kernel)), by decide +kernel⟩
theorem tw_487 : (Jvm.Cond.instanceMethod ({ cls := "ImageReader", name := "came", desc := "(I)I" } : Jvm.MethodName)) ∈ av_tb := List.mem_filter.mpr ⟨List.mem_append_right _ (List.mem_of_getElem? (i := 487) (by decide +kernel)), by decide +kernel⟩
theorem tw_488 : (Jvm.Cond.selects "ImageReader" ({ cls := "ImageReader", name := "came", desc := "(I)I" } : Jvm.MethodName) ({ cls := "ImageReader", name := "came", desc := "(I)I" } : Jvm.MethodName)) ∈ av_tb := List.mem_filter.mpr ⟨List.mem_append_right _ (List.mem_of_getElem? (i := 488) (by decide +kernel)), by decide +kernel⟩
theorem tw_489 : (Jvm.Cond.code ({ cls := "ImageReader", name := "came", desc := "(I)I" } : Jvm.MethodName) prog_1_method_16_code (2 : Nat) (Option.some Jvm.ClassFile.FieldType.int)) ∈ av_tb := List.mem_filter.mpr ⟨List.mem_append_right _ (List.mem_of_getElem? (i := 489) (by decide +kernel)), by decide +kernel⟩
theorem tw_490 : (Jvm.Cond.methodLink "ImageReaderLaw" (92 : Nat) ({ cls := "ImageReader", name := "keep", desc := "()Z" } : Jvm.MethodName)) ∈ av_tb := List.mem_filter.mpr ⟨List.mem_append_right _ (List.mem_of_getElem? (i := 490) (by decide +kernel)), by decide +kernel⟩
theorem tw_491 : (Jvm.Cond.instanceMethod ({ cls := "ImageReader", name := "keep", desc := "()Z" } : Jvm.MethodName)) ∈ av_tb := List.mem_filter.mpr ⟨List.mem_append_right _ (List.mem_of_getElem? (i := 491) (by decide +kernel)), by decide +kernel⟩
theorem tw_492 : (Jvm.Cond.selects "ImageReader" ({ cls := "ImageReader", name := "keep", desc := "()Z" } : Jvm.MethodName) ({ cls := "ImageReader", name := "keep", desc := "()Z" } : Jvm.MethodName)) ∈ av_tb := List.mem_filter.mpr ⟨List.mem_append_right _ (List.mem_of_getElem? (i := 492) (by decide +kernel)), by decide +kernel⟩
theorem tw_493 : (Jvm.Cond.code ({ cls := "ImageReader", name := "keep", desc := "()Z" } : Jvm.MethodName) prog_1_method_17_code (1 : Nat) (Option.some Jvm.ClassFile.FieldType.boolean)) ∈ av_tb := List.mem_filter.mpr ⟨List.mem_append_right _ (List.mem_of_getElem? (i := 493) (by decide +kernel)), by decide +kernel⟩
theorem tw_494 : (Jvm.Cond.methodLink "ImageReaderLaw" (97 : Nat) ({ cls := "ImageReader", name := "same", desc := "()Z" } : Jvm.MethodName)) ∈ av_tb := List.mem_filter.mpr ⟨List.mem_append_right _ (List.mem_of_getElem? (i := 494) (by decide +kernel)), by decide +kernel⟩
theorem tw_495 : (Jvm.Cond.instanceMethod ({ cls := "ImageReader", name := "same", desc := "()Z" } : Jvm.MethodName)) ∈ av_tb := List.mem_filter.mpr ⟨List.mem_append_right _ (List.mem_of_getElem? (i := 495) (by decide +kernel)), by decide +kernel⟩
theorem tw_496 : (Jvm.Cond.selects "ImageReader" ({ cls := "ImageReader", name := "same", desc := "()Z" } : Jvm.MethodName) ({ cls := "ImageReader", name := "same", desc := "()Z" } : Jvm.MethodName)) ∈ av_tb := List.mem_filter.mpr ⟨List.mem_append_right _ (List.mem_of_getElem? (i := 496) (by decide +kernel)), by decide +kernel⟩
theorem tw_497 : (Jvm.Cond.code ({ cls := "ImageReader", name := "same", desc := "()Z" } : Jvm.MethodName) prog_1_method_18_code (1 : Nat) (Option.some Jvm.ClassFile.FieldType.boolean)) ∈ av_tb := List.mem_filter.mpr ⟨List.mem_append_right _ (List.mem_of_getElem? (i := 497) (by decide +kernel)), by decide +kernel⟩
theorem nw_498 : (Jvm.Cond.methodLinkNest "ImageReader" (143 : Nat) ({ cls := "ImageReader$Pairing", name := "pairs", desc := "(LImageReader$Image;LImageReader$Image;)Z" } : Jvm.MethodName) "ImageReader") ∈ av_nw := List.mem_filter.mpr ⟨List.mem_append_right _ (List.mem_of_getElem? (i := 498) (by decide +kernel)), by decide +kernel⟩
theorem tw_500 : (Jvm.Cond.instanceMethod ({ cls := "ImageReader$Pairing", name := "pairs", desc := "(LImageReader$Image;LImageReader$Image;)Z" } : Jvm.MethodName)) ∈ av_tb := List.mem_filter.mpr ⟨List.mem_append_right _ (List.mem_of_getElem? (i := 500) (by decide +kernel)), by decide +kernel⟩
theorem tw_501 : (Jvm.Cond.code ({ cls := "ImageReader$Pairing", name := "pairs", desc := "(LImageReader$Image;LImageReader$Image;)Z" } : Jvm.MethodName) prog_6_method_2_code (4 : Nat) (Option.some Jvm.ClassFile.FieldType.boolean)) ∈ av_tb := List.mem_filter.mpr ⟨List.mem_append_right _ (List.mem_of_getElem? (i := 501) (by decide +kernel)), by decide +kernel⟩
theorem tw_502 : (Jvm.Cond.methodLink "ImageReader$Pairing" (21 : Nat) ({ cls := "ImageReader$Pairing", name := "clear", desc := "(LImageReader$Image;LImageReader$Image;)V" } : Jvm.MethodName)) ∈ av_tb := List.mem_filter.mpr ⟨List.mem_append_right _ (List.mem_of_getElem? (i := 502) (by decide +kernel)), by decide +kernel⟩
theorem tw_504 : (Jvm.Cond.instanceMethod ({ cls := "ImageReader$Pairing", name := "clear", desc := "(LImageReader$Image;LImageReader$Image;)V" } : Jvm.MethodName)) ∈ av_tb := List.mem_filter.mpr ⟨List.mem_append_right _ (List.mem_of_getElem? (i := 504) (by decide +kernel)), by decide +kernel⟩
theorem tw_505 : (Jvm.Cond.code ({ cls := "ImageReader$Pairing", name := "clear", desc := "(LImageReader$Image;LImageReader$Image;)V" } : Jvm.MethodName) prog_6_method_3_code (4 : Nat) (Option.none : Option Jvm.ClassFile.FieldType)) ∈ av_tb := List.mem_filter.mpr ⟨List.mem_append_right _ (List.mem_of_getElem? (i := 505) (by decide +kernel)), by decide +kernel⟩
theorem tw_506 : (Jvm.Cond.methodLink "ImageReader$Pairing" (53 : Nat) ({ cls := "java/lang/Math", name := "max", desc := "(II)I" } : Jvm.MethodName)) ∈ av_tb := List.mem_filter.mpr ⟨List.mem_append_right _ (List.mem_of_getElem? (i := 506) (by decide +kernel)), by decide +kernel⟩
theorem tw_507 : (Jvm.Cond.static ({ cls := "java/lang/Math", name := "max", desc := "(II)I" } : Jvm.MethodName)) ∈ av_tb := List.mem_filter.mpr ⟨List.mem_append_right _ (List.mem_of_getElem? (i := 507) (by decide +kernel)), by decide +kernel⟩
theorem tw_508 : (Jvm.Cond.code ({ cls := "java/lang/Math", name := "max", desc := "(II)I" } : Jvm.MethodName) prog_14_method_65_code (2 : Nat) (Option.some Jvm.ClassFile.FieldType.int)) ∈ av_tb := List.mem_filter.mpr ⟨List.mem_append_right _ (List.mem_of_getElem? (i := 508) (by decide +kernel)), by decide +kernel⟩
theorem tw_509 : (Jvm.Cond.methodLink "ImageReader$Pairing" (59 : Nat) ({ cls := "java/util/Arrays", name := "fill", desc := "([II)V" } : Jvm.MethodName)) ∈ av_tb := List.mem_filter.mpr ⟨List.mem_append_right _ (List.mem_of_getElem? (i := 509) (by decide +kernel)), by decide +kernel⟩
theorem tw_510 : (Jvm.Cond.methodLink "ImageReader$Pairing" (37 : Nat) ({ cls := "ImageReader$Pairing", name := "match", desc := "(LImageReader$Image;ILImageReader$Image;I)Z" } : Jvm.MethodName)) ∈ av_tb := List.mem_filter.mpr ⟨List.mem_append_right _ (List.mem_of_getElem? (i := 510) (by decide +kernel)), by decide +kernel⟩
theorem tw_512 : (Jvm.Cond.instanceMethod ({ cls := "ImageReader$Pairing", name := "match", desc := "(LImageReader$Image;ILImageReader$Image;I)Z" } : Jvm.MethodName)) ∈ av_tb := List.mem_filter.mpr ⟨List.mem_append_right _ (List.mem_of_getElem? (i := 512) (by decide +kernel)), by decide +kernel⟩
theorem tw_513 : (Jvm.Cond.code ({ cls := "ImageReader$Pairing", name := "match", desc := "(LImageReader$Image;ILImageReader$Image;I)Z" } : Jvm.MethodName) prog_6_method_4_code (7 : Nat) (Option.some Jvm.ClassFile.FieldType.boolean)) ∈ av_tb := List.mem_filter.mpr ⟨List.mem_append_right _ (List.mem_of_getElem? (i := 513) (by decide +kernel)), by decide +kernel⟩
theorem nw_514 : (Jvm.Cond.methodLinkNest "ImageReader$Pairing" (65 : Nat) ({ cls := "ImageReader$Image", name := "objectOf", desc := "(I)I" } : Jvm.MethodName) "ImageReader") ∈ av_nw := List.mem_filter.mpr ⟨List.mem_append_right _ (List.mem_of_getElem? (i := 514) (by decide +kernel)), by decide +kernel⟩
theorem tw_515 : (Jvm.Cond.methodLink "ImageReader$Pairing" (47 : Nat) ({ cls := "ImageReader$Pairing", name := "matchBodies", desc := "(LImageReader$Image;ILImageReader$Image;I)Z" } : Jvm.MethodName)) ∈ av_tb := List.mem_filter.mpr ⟨List.mem_append_right _ (List.mem_of_getElem? (i := 515) (by decide +kernel)), by decide +kernel⟩
theorem tw_517 : (Jvm.Cond.instanceMethod ({ cls := "ImageReader$Pairing", name := "matchBodies", desc := "(LImageReader$Image;ILImageReader$Image;I)Z" } : Jvm.MethodName)) ∈ av_tb := List.mem_filter.mpr ⟨List.mem_append_right _ (List.mem_of_getElem? (i := 517) (by decide +kernel)), by decide +kernel⟩
theorem tw_518 : (Jvm.Cond.code ({ cls := "ImageReader$Pairing", name := "matchBodies", desc := "(LImageReader$Image;ILImageReader$Image;I)Z" } : Jvm.MethodName) prog_6_method_5_code (9 : Nat) (Option.some Jvm.ClassFile.FieldType.boolean)) ∈ av_tb := List.mem_filter.mpr ⟨List.mem_append_right _ (List.mem_of_getElem? (i := 518) (by decide +kernel)), by decide +kernel⟩
theorem tw_523 : (Jvm.Cond.methodLink "ImageReaderLaw" (7 : Nat) ({ cls := "ImageReader", name := "feed", desc := "(IIIII)V" } : Jvm.MethodName)) ∈ av_tb := List.mem_filter.mpr ⟨List.mem_append_right _ (List.mem_of_getElem? (i := 523) (by decide +kernel)), by decide +kernel⟩
theorem tw_524 : (Jvm.Cond.instanceMethod ({ cls := "ImageReader", name := "feed", desc := "(IIIII)V" } : Jvm.MethodName)) ∈ av_tb := List.mem_filter.mpr ⟨List.mem_append_right _ (List.mem_of_getElem? (i := 524) (by decide +kernel)), by decide +kernel⟩
theorem tw_525 : (Jvm.Cond.selects "ImageReader" ({ cls := "ImageReader", name := "feed", desc := "(IIIII)V" } : Jvm.MethodName) ({ cls := "ImageReader", name := "feed", desc := "(IIIII)V" } : Jvm.MethodName)) ∈ av_tb := List.mem_filter.mpr ⟨List.mem_append_right _ (List.mem_of_getElem? (i := 525) (by decide +kernel)), by decide +kernel⟩
theorem tw_526 : (Jvm.Cond.code ({ cls := "ImageReader", name := "feed", desc := "(IIIII)V" } : Jvm.MethodName) prog_1_method_2_code (6 : Nat) (Option.none : Option Jvm.ClassFile.FieldType)) ∈ av_tb := List.mem_filter.mpr ⟨List.mem_append_right _ (List.mem_of_getElem? (i := 526) (by decide +kernel)), by decide +kernel⟩
theorem tw_527 : (Jvm.Cond.constant "ImageReader" (53 : Nat) (65536 : Int32)) ∈ av_tb := List.mem_filter.mpr ⟨List.mem_append_right _ (List.mem_of_getElem? (i := 527) (by decide +kernel)), by decide +kernel⟩
theorem tw_567 : (Jvm.Cond.native ({ cls := "java/lang/Throwable", name := "fillInStackTrace", desc := "(I)Ljava/lang/Throwable;" } : Jvm.MethodName)) ∈ av_tb := List.mem_filter.mpr ⟨List.mem_append_right _ (List.mem_of_getElem? (i := 567) (by decide +kernel)), by decide +kernel⟩
theorem tw_598 : (Jvm.Cond.methodLink "ImageReaderLaw" (15 : Nat) ({ cls := "ImageReader", name := "end", desc := "(I)I" } : Jvm.MethodName)) ∈ av_tb := List.mem_filter.mpr ⟨List.mem_append_right _ (List.mem_of_getElem? (i := 598) (by decide +kernel)), by decide +kernel⟩
theorem tw_599 : (Jvm.Cond.instanceMethod ({ cls := "ImageReader", name := "end", desc := "(I)I" } : Jvm.MethodName)) ∈ av_tb := List.mem_filter.mpr ⟨List.mem_append_right _ (List.mem_of_getElem? (i := 599) (by decide +kernel)), by decide +kernel⟩
theorem tw_600 : (Jvm.Cond.selects "ImageReader" ({ cls := "ImageReader", name := "end", desc := "(I)I" } : Jvm.MethodName) ({ cls := "ImageReader", name := "end", desc := "(I)I" } : Jvm.MethodName)) ∈ av_tb := List.mem_filter.mpr ⟨List.mem_append_right _ (List.mem_of_getElem? (i := 600) (by decide +kernel)), by decide +kernel⟩
theorem tw_601 : (Jvm.Cond.code ({ cls := "ImageReader", name := "end", desc := "(I)I" } : Jvm.MethodName) prog_1_method_3_code (3 : Nat) (Option.some Jvm.ClassFile.FieldType.int)) ∈ av_tb := List.mem_filter.mpr ⟨List.mem_append_right _ (List.mem_of_getElem? (i := 601) (by decide +kernel)), by decide +kernel⟩
theorem tw_618 : (Jvm.Cond.classLink "ImageReaderLaw" (22 : Nat) "ImageReaderModel") ∈ av_tb := List.mem_filter.mpr ⟨List.mem_append_right _ (List.mem_of_getElem? (i := 618) (by decide +kernel)), by decide +kernel⟩
theorem tw_619 : (Jvm.Cond.instantiable "ImageReaderModel" (13 : Nat)) ∈ av_tb := List.mem_filter.mpr ⟨List.mem_append_right _ (List.mem_of_getElem? (i := 619) (by decide +kernel)), by decide +kernel⟩
theorem tw_620 : (Jvm.Cond.methodLink "ImageReaderLaw" (24 : Nat) ({ cls := "ImageReaderModel", name := "<init>", desc := "()V" } : Jvm.MethodName)) ∈ av_tb := List.mem_filter.mpr ⟨List.mem_append_right _ (List.mem_of_getElem? (i := 620) (by decide +kernel)), by decide +kernel⟩
theorem tw_621 : (Jvm.Cond.instanceMethod ({ cls := "ImageReaderModel", name := "<init>", desc := "()V" } : Jvm.MethodName)) ∈ av_tb := List.mem_filter.mpr ⟨List.mem_append_right _ (List.mem_of_getElem? (i := 621) (by decide +kernel)), by decide +kernel⟩
theorem tw_622 : (Jvm.Cond.code ({ cls := "ImageReaderModel", name := "<init>", desc := "()V" } : Jvm.MethodName) prog_9_method_1_code (1 : Nat) (Option.none : Option Jvm.ClassFile.FieldType)) ∈ av_tb := List.mem_filter.mpr ⟨List.mem_append_right _ (List.mem_of_getElem? (i := 622) (by decide +kernel)), by decide +kernel⟩
theorem tw_623 : (Jvm.Cond.methodLink "ImageReaderModel" (1 : Nat) ({ cls := "java/lang/Object", name := "<init>", desc := "()V" } : Jvm.MethodName)) ∈ av_tb := List.mem_filter.mpr ⟨List.mem_append_right _ (List.mem_of_getElem? (i := 623) (by decide +kernel)), by decide +kernel⟩
theorem tw_624 : (Jvm.Cond.constant "ImageReaderModel" (7 : Nat) (65536 : Int32)) ∈ av_tb := List.mem_filter.mpr ⟨List.mem_append_right _ (List.mem_of_getElem? (i := 624) (by decide +kernel)), by decide +kernel⟩
theorem tw_625 : (Jvm.Cond.fieldLink "ImageReaderModel" (36 : Nat) "ImageReaderModel" "code" "I") ∈ av_tb := List.mem_filter.mpr ⟨List.mem_append_right _ (List.mem_of_getElem? (i := 625) (by decide +kernel)), by decide +kernel⟩
theorem tw_626 : (Jvm.Cond.fieldLink "ImageReaderModel" (8 : Nat) "ImageReaderModel" "in" "[B") ∈ av_tb := List.mem_filter.mpr ⟨List.mem_append_right _ (List.mem_of_getElem? (i := 626) (by decide +kernel)), by decide +kernel⟩
theorem tw_627 : (Jvm.Cond.fieldLink "ImageReaderModel" (40 : Nat) "ImageReaderModel" "count" "I") ∈ av_tb := List.mem_filter.mpr ⟨List.mem_append_right _ (List.mem_of_getElem? (i := 627) (by decide +kernel)), by decide +kernel⟩
theorem tw_628 : (Jvm.Cond.fieldLink "ImageReaderModel" (14 : Nat) "ImageReaderModel" "image" "[B") ∈ av_tb := List.mem_filter.mpr ⟨List.mem_append_right _ (List.mem_of_getElem? (i := 628) (by decide +kernel)), by decide +kernel⟩
theorem tw_629 : (Jvm.Cond.fieldLink "ImageReaderModel" (149 : Nat) "ImageReaderModel" "length" "I") ∈ av_tb := List.mem_filter.mpr ⟨List.mem_append_right _ (List.mem_of_getElem? (i := 629) (by decide +kernel)), by decide +kernel⟩
theorem tw_630 : (Jvm.Cond.fieldLink "ImageReaderModel" (17 : Nat) "ImageReaderModel" "kept" "[B") ∈ av_tb := List.mem_filter.mpr ⟨List.mem_append_right _ (List.mem_of_getElem? (i := 630) (by decide +kernel)), by decide +kernel⟩
theorem tw_631 : (Jvm.Cond.fieldLink "ImageReaderModel" (176 : Nat) "ImageReaderModel" "keptLength" "I") ∈ av_tb := List.mem_filter.mpr ⟨List.mem_append_right _ (List.mem_of_getElem? (i := 631) (by decide +kernel)), by decide +kernel⟩
theorem tw_632 : (Jvm.Cond.fieldLink "ImageReaderModel" (20 : Nat) "ImageReaderModel" "starts" "[I") ∈ av_tb := List.mem_filter.mpr ⟨List.mem_append_right _ (List.mem_of_getElem? (i := 632) (by decide +kernel)), by decide +kernel⟩
theorem tw_633 : (Jvm.Cond.fieldLink "ImageReaderModel" (24 : Nat) "ImageReaderModel" "keptStarts" "[I") ∈ av_tb := List.mem_filter.mpr ⟨List.mem_append_right _ (List.mem_of_getElem? (i := 633) (by decide +kernel)), by decide +kernel⟩
theorem tw_634 : (Jvm.Cond.fieldLink "ImageReaderModel" (27 : Nat) "ImageReaderModel" "reached" "[I") ∈ av_tb := List.mem_filter.mpr ⟨List.mem_append_right _ (List.mem_of_getElem? (i := 634) (by decide +kernel)), by decide +kernel⟩
theorem tw_635 : (Jvm.Cond.fieldLink "ImageReaderModel" (30 : Nat) "ImageReaderModel" "number" "[I") ∈ av_tb := List.mem_filter.mpr ⟨List.mem_append_right _ (List.mem_of_getElem? (i := 635) (by decide +kernel)), by decide +kernel⟩
theorem tw_636 : (Jvm.Cond.fieldLink "ImageReaderModel" (33 : Nat) "ImageReaderModel" "back" "[I") ∈ av_tb := List.mem_filter.mpr ⟨List.mem_append_right _ (List.mem_of_getElem? (i := 636) (by decide +kernel)), by decide +kernel⟩
theorem tw_637 : (Jvm.Cond.fieldLink "ImageReaderModel" (159 : Nat) "ImageReaderModel" "many" "I") ∈ av_tb := List.mem_filter.mpr ⟨List.mem_append_right _ (List.mem_of_getElem? (i := 637) (by decide +kernel)), by decide +kernel⟩
theorem tw_665 : (Jvm.Cond.methodLink "ImageReaderLaw" (31 : Nat) ({ cls := "ImageReaderModel", name := "thrown", desc := "()I" } : Jvm.MethodName)) ∈ av_tb := List.mem_filter.mpr ⟨List.mem_append_right _ (List.mem_of_getElem? (i := 665) (by decide +kernel)), by decide +kernel⟩
theorem tw_666 : (Jvm.Cond.instanceMethod ({ cls := "ImageReaderModel", name := "thrown", desc := "()I" } : Jvm.MethodName)) ∈ av_tb := List.mem_filter.mpr ⟨List.mem_append_right _ (List.mem_of_getElem? (i := 666) (by decide +kernel)), by decide +kernel⟩
theorem tw_667 : (Jvm.Cond.selects "ImageReaderModel" ({ cls := "ImageReaderModel", name := "thrown", desc := "()I" } : Jvm.MethodName) ({ cls := "ImageReaderModel", name := "thrown", desc := "()I" } : Jvm.MethodName)) ∈ av_tb := List.mem_filter.mpr ⟨List.mem_append_right _ (List.mem_of_getElem? (i := 667) (by decide +kernel)), by decide +kernel⟩
theorem tw_668 : (Jvm.Cond.code ({ cls := "ImageReaderModel", name := "thrown", desc := "()I" } : Jvm.MethodName) prog_9_method_2_code (1 : Nat) (Option.some Jvm.ClassFile.FieldType.int)) ∈ av_tb := List.mem_filter.mpr ⟨List.mem_append_right _ (List.mem_of_getElem? (i := 668) (by decide +kernel)), by decide +kernel⟩
theorem tw_669 : (Jvm.Cond.methodLink "ImageReaderLaw" (30 : Nat) ({ cls := "ImageReaderModel", name := "feed", desc := "(IIIII)V" } : Jvm.MethodName)) ∈ av_tb := List.mem_filter.mpr ⟨List.mem_append_right _ (List.mem_of_getElem? (i := 669) (by decide +kernel)), by decide +kernel⟩
theorem tw_670 : (Jvm.Cond.instanceMethod ({ cls := "ImageReaderModel", name := "feed", desc := "(IIIII)V" } : Jvm.MethodName)) ∈ av_tb := List.mem_filter.mpr ⟨List.mem_append_right _ (List.mem_of_getElem? (i := 670) (by decide +kernel)), by decide +kernel⟩
theorem tw_671 : (Jvm.Cond.selects "ImageReaderModel" ({ cls := "ImageReaderModel", name := "feed", desc := "(IIIII)V" } : Jvm.MethodName) ({ cls := "ImageReaderModel", name := "feed", desc := "(IIIII)V" } : Jvm.MethodName)) ∈ av_tb := List.mem_filter.mpr ⟨List.mem_append_right _ (List.mem_of_getElem? (i := 671) (by decide +kernel)), by decide +kernel⟩
theorem tw_672 : (Jvm.Cond.code ({ cls := "ImageReaderModel", name := "feed", desc := "(IIIII)V" } : Jvm.MethodName) prog_9_method_5_code (8 : Nat) (Option.none : Option Jvm.ClassFile.FieldType)) ∈ av_tb := List.mem_filter.mpr ⟨List.mem_append_right _ (List.mem_of_getElem? (i := 672) (by decide +kernel)), by decide +kernel⟩
theorem tw_673 : (Jvm.Cond.methodLink "ImageReaderLaw" (38 : Nat) ({ cls := "ImageReaderModel", name := "end", desc := "(I)I" } : Jvm.MethodName)) ∈ av_tb := List.mem_filter.mpr ⟨List.mem_append_right _ (List.mem_of_getElem? (i := 673) (by decide +kernel)), by decide +kernel⟩
theorem tw_674 : (Jvm.Cond.instanceMethod ({ cls := "ImageReaderModel", name := "end", desc := "(I)I" } : Jvm.MethodName)) ∈ av_tb := List.mem_filter.mpr ⟨List.mem_append_right _ (List.mem_of_getElem? (i := 674) (by decide +kernel)), by decide +kernel⟩
theorem tw_675 : (Jvm.Cond.selects "ImageReaderModel" ({ cls := "ImageReaderModel", name := "end", desc := "(I)I" } : Jvm.MethodName) ({ cls := "ImageReaderModel", name := "end", desc := "(I)I" } : Jvm.MethodName)) ∈ av_tb := List.mem_filter.mpr ⟨List.mem_append_right _ (List.mem_of_getElem? (i := 675) (by decide +kernel)), by decide +kernel⟩
theorem tw_676 : (Jvm.Cond.code ({ cls := "ImageReaderModel", name := "end", desc := "(I)I" } : Jvm.MethodName) prog_9_method_6_code (3 : Nat) (Option.some Jvm.ClassFile.FieldType.int)) ∈ av_tb := List.mem_filter.mpr ⟨List.mem_append_right _ (List.mem_of_getElem? (i := 676) (by decide +kernel)), by decide +kernel⟩
theorem tw_677 : (Jvm.Cond.methodLink "ImageReaderLaw" (43 : Nat) ({ cls := "ImageReaderModel", name := "change", desc := "(II)I" } : Jvm.MethodName)) ∈ av_tb := List.mem_filter.mpr ⟨List.mem_append_right _ (List.mem_of_getElem? (i := 677) (by decide +kernel)), by decide +kernel⟩
theorem tw_678 : (Jvm.Cond.instanceMethod ({ cls := "ImageReaderModel", name := "change", desc := "(II)I" } : Jvm.MethodName)) ∈ av_tb := List.mem_filter.mpr ⟨List.mem_append_right _ (List.mem_of_getElem? (i := 678) (by decide +kernel)), by decide +kernel⟩
theorem tw_679 : (Jvm.Cond.selects "ImageReaderModel" ({ cls := "ImageReaderModel", name := "change", desc := "(II)I" } : Jvm.MethodName) ({ cls := "ImageReaderModel", name := "change", desc := "(II)I" } : Jvm.MethodName)) ∈ av_tb := List.mem_filter.mpr ⟨List.mem_append_right _ (List.mem_of_getElem? (i := 679) (by decide +kernel)), by decide +kernel⟩
theorem tw_680 : (Jvm.Cond.code ({ cls := "ImageReaderModel", name := "change", desc := "(II)I" } : Jvm.MethodName) prog_9_method_7_code (4 : Nat) (Option.some Jvm.ClassFile.FieldType.int)) ∈ av_tb := List.mem_filter.mpr ⟨List.mem_append_right _ (List.mem_of_getElem? (i := 680) (by decide +kernel)), by decide +kernel⟩
theorem tw_681 : (Jvm.Cond.methodLink "ImageReaderLaw" (91 : Nat) ({ cls := "ImageReaderModel", name := "came", desc := "(I)I" } : Jvm.MethodName)) ∈ av_tb := List.mem_filter.mpr ⟨List.mem_append_right _ (List.mem_of_getElem? (i := 681) (by decide +kernel)), by decide +kernel⟩
theorem tw_682 : (Jvm.Cond.instanceMethod ({ cls := "ImageReaderModel", name := "came", desc := "(I)I" } : Jvm.MethodName)) ∈ av_tb := List.mem_filter.mpr ⟨List.mem_append_right _ (List.mem_of_getElem? (i := 682) (by decide +kernel)), by decide +kernel⟩
theorem tw_683 : (Jvm.Cond.selects "ImageReaderModel" ({ cls := "ImageReaderModel", name := "came", desc := "(I)I" } : Jvm.MethodName) ({ cls := "ImageReaderModel", name := "came", desc := "(I)I" } : Jvm.MethodName)) ∈ av_tb := List.mem_filter.mpr ⟨List.mem_append_right _ (List.mem_of_getElem? (i := 683) (by decide +kernel)), by decide +kernel⟩
theorem tw_684 : (Jvm.Cond.code ({ cls := "ImageReaderModel", name := "came", desc := "(I)I" } : Jvm.MethodName) prog_9_method_8_code (2 : Nat) (Option.some Jvm.ClassFile.FieldType.int)) ∈ av_tb := List.mem_filter.mpr ⟨List.mem_append_right _ (List.mem_of_getElem? (i := 684) (by decide +kernel)), by decide +kernel⟩
theorem tw_685 : (Jvm.Cond.methodLink "ImageReaderLaw" (47 : Nat) ({ cls := "ImageReaderModel", name := "read", desc := "()I" } : Jvm.MethodName)) ∈ av_tb := List.mem_filter.mpr ⟨List.mem_append_right _ (List.mem_of_getElem? (i := 685) (by decide +kernel)), by decide +kernel⟩
theorem tw_686 : (Jvm.Cond.instanceMethod ({ cls := "ImageReaderModel", name := "read", desc := "()I" } : Jvm.MethodName)) ∈ av_tb := List.mem_filter.mpr ⟨List.mem_append_right _ (List.mem_of_getElem? (i := 686) (by decide +kernel)), by decide +kernel⟩
theorem tw_687 : (Jvm.Cond.selects "ImageReaderModel" ({ cls := "ImageReaderModel", name := "read", desc := "()I" } : Jvm.MethodName) ({ cls := "ImageReaderModel", name := "read", desc := "()I" } : Jvm.MethodName)) ∈ av_tb := List.mem_filter.mpr ⟨List.mem_append_right _ (List.mem_of_getElem? (i := 687) (by decide +kernel)), by decide +kernel⟩
theorem tw_688 : (Jvm.Cond.code ({ cls := "ImageReaderModel", name := "read", desc := "()I" } : Jvm.MethodName) prog_9_method_39_code (3 : Nat) (Option.some Jvm.ClassFile.FieldType.int)) ∈ av_tb := List.mem_filter.mpr ⟨List.mem_append_right _ (List.mem_of_getElem? (i := 688) (by decide +kernel)), by decide +kernel⟩
theorem tw_689 : (Jvm.Cond.methodLink "ImageReaderModel" (146 : Nat) ({ cls := "ImageReaderModel", name := "place", desc := "()I" } : Jvm.MethodName)) ∈ av_tb := List.mem_filter.mpr ⟨List.mem_append_right _ (List.mem_of_getElem? (i := 689) (by decide +kernel)), by decide +kernel⟩
theorem tw_691 : (Jvm.Cond.instanceMethod ({ cls := "ImageReaderModel", name := "place", desc := "()I" } : Jvm.MethodName)) ∈ av_tb := List.mem_filter.mpr ⟨List.mem_append_right _ (List.mem_of_getElem? (i := 691) (by decide +kernel)), by decide +kernel⟩
theorem tw_692 : (Jvm.Cond.code ({ cls := "ImageReaderModel", name := "place", desc := "()I" } : Jvm.MethodName) prog_9_method_37_code (2 : Nat) (Option.some Jvm.ClassFile.FieldType.int)) ∈ av_tb := List.mem_filter.mpr ⟨List.mem_append_right _ (List.mem_of_getElem? (i := 692) (by decide +kernel)), by decide +kernel⟩
theorem tw_693 : (Jvm.Cond.methodLink "ImageReaderModel" (124 : Nat) ({ cls := "ImageReaderModel", name := "stepHead", desc := "()I" } : Jvm.MethodName)) ∈ av_tb := List.mem_filter.mpr ⟨List.mem_append_right _ (List.mem_of_getElem? (i := 693) (by decide +kernel)), by decide +kernel⟩
theorem tw_695 : (Jvm.Cond.instanceMethod ({ cls := "ImageReaderModel", name := "stepHead", desc := "()I" } : Jvm.MethodName)) ∈ av_tb := List.mem_filter.mpr ⟨List.mem_append_right _ (List.mem_of_getElem? (i := 695) (by decide +kernel)), by decide +kernel⟩
theorem tw_696 : (Jvm.Cond.code ({ cls := "ImageReaderModel", name := "stepHead", desc := "()I" } : Jvm.MethodName) prog_9_method_28_code (4 : Nat) (Option.some Jvm.ClassFile.FieldType.int)) ∈ av_tb := List.mem_filter.mpr ⟨List.mem_append_right _ (List.mem_of_getElem? (i := 696) (by decide +kernel)), by decide +kernel⟩
theorem tw_697 : (Jvm.Cond.methodLink "ImageReaderModel" (101 : Nat) ({ cls := "ImageReaderModel", name := "objects", desc := "([B)I" } : Jvm.MethodName)) ∈ av_tb := List.mem_filter.mpr ⟨List.mem_append_right _ (List.mem_of_getElem? (i := 697) (by decide +kernel)), by decide +kernel⟩
theorem tw_698 : (Jvm.Cond.static ({ cls := "ImageReaderModel", name := "objects", desc := "([B)I" } : Jvm.MethodName)) ∈ av_tb := List.mem_filter.mpr ⟨List.mem_append_right _ (List.mem_of_getElem? (i := 698) (by decide +kernel)), by decide +kernel⟩
theorem tw_699 : (Jvm.Cond.code ({ cls := "ImageReaderModel", name := "objects", desc := "([B)I" } : Jvm.MethodName) prog_9_method_9_code (1 : Nat) (Option.some Jvm.ClassFile.FieldType.int)) ∈ av_tb := List.mem_filter.mpr ⟨List.mem_append_right _ (List.mem_of_getElem? (i := 699) (by decide +kernel)), by decide +kernel⟩
theorem tw_700 : (Jvm.Cond.methodLink "ImageReaderModel" (43 : Nat) ({ cls := "ImageReaderModel", name := "half", desc := "([BI)I" } : Jvm.MethodName)) ∈ av_tb := List.mem_filter.mpr ⟨List.mem_append_right _ (List.mem_of_getElem? (i := 700) (by decide +kernel)), by decide +kernel⟩
theorem tw_701 : (Jvm.Cond.static ({ cls := "ImageReaderModel", name := "half", desc := "([BI)I" } : Jvm.MethodName)) ∈ av_tb := List.mem_filter.mpr ⟨List.mem_append_right _ (List.mem_of_getElem? (i := 701) (by decide +kernel)), by decide +kernel⟩
theorem tw_702 : (Jvm.Cond.code ({ cls := "ImageReaderModel", name := "half", desc := "([BI)I" } : Jvm.MethodName) prog_9_method_4_code (2 : Nat) (Option.some Jvm.ClassFile.FieldType.int)) ∈ av_tb := List.mem_filter.mpr ⟨List.mem_append_right _ (List.mem_of_getElem? (i := 702) (by decide +kernel)), by decide +kernel⟩
theorem tw_703 : (Jvm.Cond.methodLink "ImageReaderModel" (128 : Nat) ({ cls := "ImageReaderModel", name := "stepValues", desc := "()I" } : Jvm.MethodName)) ∈ av_tb := List.mem_filter.mpr ⟨List.mem_append_right _ (List.mem_of_getElem? (i := 703) (by decide +kernel)), by decide +kernel⟩
theorem tw_705 : (Jvm.Cond.instanceMethod ({ cls := "ImageReaderModel", name := "stepValues", desc := "()I" } : Jvm.MethodName)) ∈ av_tb := List.mem_filter.mpr ⟨List.mem_append_right _ (List.mem_of_getElem? (i := 705) (by decide +kernel)), by decide +kernel⟩
theorem tw_706 : (Jvm.Cond.code ({ cls := "ImageReaderModel", name := "stepValues", desc := "()I" } : Jvm.MethodName) prog_9_method_30_code (6 : Nat) (Option.some Jvm.ClassFile.FieldType.int)) ∈ av_tb := List.mem_filter.mpr ⟨List.mem_append_right _ (List.mem_of_getElem? (i := 706) (by decide +kernel)), by decide +kernel⟩
theorem tw_707 : (Jvm.Cond.methodLink "ImageReaderModel" (105 : Nat) ({ cls := "ImageReaderModel", name := "isValue", desc := "(I)Z" } : Jvm.MethodName)) ∈ av_tb := List.mem_filter.mpr ⟨List.mem_append_right _ (List.mem_of_getElem? (i := 707) (by decide +kernel)), by decide +kernel⟩
theorem tw_709 : (Jvm.Cond.instanceMethod ({ cls := "ImageReaderModel", name := "isValue", desc := "(I)Z" } : Jvm.MethodName)) ∈ av_tb := List.mem_filter.mpr ⟨List.mem_append_right _ (List.mem_of_getElem? (i := 709) (by decide +kernel)), by decide +kernel⟩
theorem tw_710 : (Jvm.Cond.code ({ cls := "ImageReaderModel", name := "isValue", desc := "(I)Z" } : Jvm.MethodName) prog_9_method_29_code (3 : Nat) (Option.some Jvm.ClassFile.FieldType.boolean)) ∈ av_tb := List.mem_filter.mpr ⟨List.mem_append_right _ (List.mem_of_getElem? (i := 710) (by decide +kernel)), by decide +kernel⟩
theorem tw_711 : (Jvm.Cond.methodLink "ImageReaderModel" (47 : Nat) ({ cls := "ImageReaderModel", name := "word", desc := "([BI)I" } : Jvm.MethodName)) ∈ av_tb := List.mem_filter.mpr ⟨List.mem_append_right _ (List.mem_of_getElem? (i := 711) (by decide +kernel)), by decide +kernel⟩
theorem tw_712 : (Jvm.Cond.static ({ cls := "ImageReaderModel", name := "word", desc := "([BI)I" } : Jvm.MethodName)) ∈ av_tb := List.mem_filter.mpr ⟨List.mem_append_right _ (List.mem_of_getElem? (i := 712) (by decide +kernel)), by decide +kernel⟩
theorem tw_713 : (Jvm.Cond.code ({ cls := "ImageReaderModel", name := "word", desc := "([BI)I" } : Jvm.MethodName) prog_9_method_3_code (2 : Nat) (Option.some Jvm.ClassFile.FieldType.int)) ∈ av_tb := List.mem_filter.mpr ⟨List.mem_append_right _ (List.mem_of_getElem? (i := 713) (by decide +kernel)), by decide +kernel⟩
theorem tw_714 : (Jvm.Cond.methodLink "ImageReaderModel" (76 : Nat) ({ cls := "ImageReaderModel", name := "isNumber", desc := "(I)Z" } : Jvm.MethodName)) ∈ av_tb := List.mem_filter.mpr ⟨List.mem_append_right _ (List.mem_of_getElem? (i := 714) (by decide +kernel)), by decide +kernel⟩
theorem tw_715 : (Jvm.Cond.static ({ cls := "ImageReaderModel", name := "isNumber", desc := "(I)Z" } : Jvm.MethodName)) ∈ av_tb := List.mem_filter.mpr ⟨List.mem_append_right _ (List.mem_of_getElem? (i := 715) (by decide +kernel)), by decide +kernel⟩
theorem tw_716 : (Jvm.Cond.code ({ cls := "ImageReaderModel", name := "isNumber", desc := "(I)Z" } : Jvm.MethodName) prog_9_method_12_code (1 : Nat) (Option.some Jvm.ClassFile.FieldType.boolean)) ∈ av_tb := List.mem_filter.mpr ⟨List.mem_append_right _ (List.mem_of_getElem? (i := 716) (by decide +kernel)), by decide +kernel⟩
theorem tw_717 : (Jvm.Cond.methodLink "ImageReaderModel" (54 : Nat) ({ cls := "ImageReaderModel", name := "sizeAt", desc := "([BI)I" } : Jvm.MethodName)) ∈ av_tb := List.mem_filter.mpr ⟨List.mem_append_right _ (List.mem_of_getElem? (i := 717) (by decide +kernel)), by decide +kernel⟩
theorem tw_718 : (Jvm.Cond.static ({ cls := "ImageReaderModel", name := "sizeAt", desc := "([BI)I" } : Jvm.MethodName)) ∈ av_tb := List.mem_filter.mpr ⟨List.mem_append_right _ (List.mem_of_getElem? (i := 718) (by decide +kernel)), by decide +kernel⟩
theorem tw_719 : (Jvm.Cond.code ({ cls := "ImageReaderModel", name := "sizeAt", desc := "([BI)I" } : Jvm.MethodName) prog_9_method_14_code (2 : Nat) (Option.some Jvm.ClassFile.FieldType.int)) ∈ av_tb := List.mem_filter.mpr ⟨List.mem_append_right _ (List.mem_of_getElem? (i := 719) (by decide +kernel)), by decide +kernel⟩
theorem tw_720 : (Jvm.Cond.methodLink "ImageReaderModel" (50 : Nat) ({ cls := "ImageReaderModel", name := "isOfBytes", desc := "([BI)Z" } : Jvm.MethodName)) ∈ av_tb := List.mem_filter.mpr ⟨List.mem_append_right _ (List.mem_of_getElem? (i := 720) (by decide +kernel)), by decide +kernel⟩
theorem tw_721 : (Jvm.Cond.static ({ cls := "ImageReaderModel", name := "isOfBytes", desc := "([BI)Z" } : Jvm.MethodName)) ∈ av_tb := List.mem_filter.mpr ⟨List.mem_append_right _ (List.mem_of_getElem? (i := 721) (by decide +kernel)), by decide +kernel⟩
theorem tw_722 : (Jvm.Cond.code ({ cls := "ImageReaderModel", name := "isOfBytes", desc := "([BI)Z" } : Jvm.MethodName) prog_9_method_13_code (2 : Nat) (Option.some Jvm.ClassFile.FieldType.boolean)) ∈ av_tb := List.mem_filter.mpr ⟨List.mem_append_right _ (List.mem_of_getElem? (i := 722) (by decide +kernel)), by decide +kernel⟩
theorem tw_723 : (Jvm.Cond.methodLink "ImageReaderModel" (131 : Nat) ({ cls := "ImageReaderModel", name := "stepRoom", desc := "()I" } : Jvm.MethodName)) ∈ av_tb := List.mem_filter.mpr ⟨List.mem_append_right _ (List.mem_of_getElem? (i := 723) (by decide +kernel)), by decide +kernel⟩
theorem tw_725 : (Jvm.Cond.instanceMethod ({ cls := "ImageReaderModel", name := "stepRoom", desc := "()I" } : Jvm.MethodName)) ∈ av_tb := List.mem_filter.mpr ⟨List.mem_append_right _ (List.mem_of_getElem? (i := 725) (by decide +kernel)), by decide +kernel⟩
theorem tw_726 : (Jvm.Cond.code ({ cls := "ImageReaderModel", name := "stepRoom", desc := "()I" } : Jvm.MethodName) prog_9_method_32_code (1 : Nat) (Option.some Jvm.ClassFile.FieldType.int)) ∈ av_tb := List.mem_filter.mpr ⟨List.mem_append_right _ (List.mem_of_getElem? (i := 726) (by decide +kernel)), by decide +kernel⟩
theorem tw_727 : (Jvm.Cond.methodLink "ImageReaderModel" (108 : Nat) ({ cls := "ImageReaderModel", name := "wordsOf", desc := "([B[I)I" } : Jvm.MethodName)) ∈ av_tb := List.mem_filter.mpr ⟨List.mem_append_right _ (List.mem_of_getElem? (i := 727) (by decide +kernel)), by decide +kernel⟩
theorem tw_728 : (Jvm.Cond.static ({ cls := "ImageReaderModel", name := "wordsOf", desc := "([B[I)I" } : Jvm.MethodName)) ∈ av_tb := List.mem_filter.mpr ⟨List.mem_append_right _ (List.mem_of_getElem? (i := 728) (by decide +kernel)), by decide +kernel⟩
theorem tw_729 : (Jvm.Cond.code ({ cls := "ImageReaderModel", name := "wordsOf", desc := "([B[I)I" } : Jvm.MethodName) prog_9_method_31_code (5 : Nat) (Option.some Jvm.ClassFile.FieldType.int)) ∈ av_tb := List.mem_filter.mpr ⟨List.mem_append_right _ (List.mem_of_getElem? (i := 729) (by decide +kernel)), by decide +kernel⟩
theorem tw_730 : (Jvm.Cond.methodLink "ImageReaderModel" (134 : Nat) ({ cls := "ImageReaderModel", name := "stepSpecials", desc := "()I" } : Jvm.MethodName)) ∈ av_tb := List.mem_filter.mpr ⟨List.mem_append_right _ (List.mem_of_getElem? (i := 730) (by decide +kernel)), by decide +kernel⟩
theorem tw_732 : (Jvm.Cond.instanceMethod ({ cls := "ImageReaderModel", name := "stepSpecials", desc := "()I" } : Jvm.MethodName)) ∈ av_tb := List.mem_filter.mpr ⟨List.mem_append_right _ (List.mem_of_getElem? (i := 732) (by decide +kernel)), by decide +kernel⟩
theorem tw_733 : (Jvm.Cond.code ({ cls := "ImageReaderModel", name := "stepSpecials", desc := "()I" } : Jvm.MethodName) prog_9_method_33_code (5 : Nat) (Option.some Jvm.ClassFile.FieldType.int)) ∈ av_tb := List.mem_filter.mpr ⟨List.mem_append_right _ (List.mem_of_getElem? (i := 733) (by decide +kernel)), by decide +kernel⟩
theorem tw_734 : (Jvm.Cond.methodLink "ImageReaderModel" (65 : Nat) ({ cls := "ImageReaderModel", name := "special", desc := "([BI)I" } : Jvm.MethodName)) ∈ av_tb := List.mem_filter.mpr ⟨List.mem_append_right _ (List.mem_of_getElem? (i := 734) (by decide +kernel)), by decide +kernel⟩
theorem tw_735 : (Jvm.Cond.static ({ cls := "ImageReaderModel", name := "special", desc := "([BI)I" } : Jvm.MethodName)) ∈ av_tb := List.mem_filter.mpr ⟨List.mem_append_right _ (List.mem_of_getElem? (i := 735) (by decide +kernel)), by decide +kernel⟩
theorem tw_736 : (Jvm.Cond.code ({ cls := "ImageReaderModel", name := "special", desc := "([BI)I" } : Jvm.MethodName) prog_9_method_10_code (2 : Nat) (Option.some Jvm.ClassFile.FieldType.int)) ∈ av_tb := List.mem_filter.mpr ⟨List.mem_append_right _ (List.mem_of_getElem? (i := 736) (by decide +kernel)), by decide +kernel⟩
theorem tw_737 : (Jvm.Cond.methodLink "ImageReaderModel" (57 : Nat) ({ cls := "ImageReaderModel", name := "isObject", desc := "(I)Z" } : Jvm.MethodName)) ∈ av_tb := List.mem_filter.mpr ⟨List.mem_append_right _ (List.mem_of_getElem? (i := 737) (by decide +kernel)), by decide +kernel⟩
theorem tw_738 : (Jvm.Cond.static ({ cls := "ImageReaderModel", name := "isObject", desc := "(I)Z" } : Jvm.MethodName)) ∈ av_tb := List.mem_filter.mpr ⟨List.mem_append_right _ (List.mem_of_getElem? (i := 738) (by decide +kernel)), by decide +kernel⟩
theorem tw_739 : (Jvm.Cond.code ({ cls := "ImageReaderModel", name := "isObject", desc := "(I)Z" } : Jvm.MethodName) prog_9_method_11_code (1 : Nat) (Option.some Jvm.ClassFile.FieldType.boolean)) ∈ av_tb := List.mem_filter.mpr ⟨List.mem_append_right _ (List.mem_of_getElem? (i := 739) (by decide +kernel)), by decide +kernel⟩
theorem tw_740 : (Jvm.Cond.methodLink "ImageReaderModel" (112 : Nat) ({ cls := "ImageReaderModel", name := "isClass", desc := "(I)Z" } : Jvm.MethodName)) ∈ av_tb := List.mem_filter.mpr ⟨List.mem_append_right _ (List.mem_of_getElem? (i := 740) (by decide +kernel)), by decide +kernel⟩
theorem tw_742 : (Jvm.Cond.instanceMethod ({ cls := "ImageReaderModel", name := "isClass", desc := "(I)Z" } : Jvm.MethodName)) ∈ av_tb := List.mem_filter.mpr ⟨List.mem_append_right _ (List.mem_of_getElem? (i := 742) (by decide +kernel)), by decide +kernel⟩
theorem tw_743 : (Jvm.Cond.code ({ cls := "ImageReaderModel", name := "isClass", desc := "(I)Z" } : Jvm.MethodName) prog_9_method_20_code (5 : Nat) (Option.some Jvm.ClassFile.FieldType.boolean)) ∈ av_tb := List.mem_filter.mpr ⟨List.mem_append_right _ (List.mem_of_getElem? (i := 743) (by decide +kernel)), by decide +kernel⟩
theorem tw_744 : (Jvm.Cond.methodLink "ImageReaderModel" (68 : Nat) ({ cls := "ImageReaderModel", name := "hasFields", desc := "(II)Z" } : Jvm.MethodName)) ∈ av_tb := List.mem_filter.mpr ⟨List.mem_append_right _ (List.mem_of_getElem? (i := 744) (by decide +kernel)), by decide +kernel⟩
theorem tw_746 : (Jvm.Cond.instanceMethod ({ cls := "ImageReaderModel", name := "hasFields", desc := "(II)Z" } : Jvm.MethodName)) ∈ av_tb := List.mem_filter.mpr ⟨List.mem_append_right _ (List.mem_of_getElem? (i := 746) (by decide +kernel)), by decide +kernel⟩
theorem tw_747 : (Jvm.Cond.code ({ cls := "ImageReaderModel", name := "hasFields", desc := "(II)Z" } : Jvm.MethodName) prog_9_method_17_code (3 : Nat) (Option.some Jvm.ClassFile.FieldType.boolean)) ∈ av_tb := List.mem_filter.mpr ⟨List.mem_append_right _ (List.mem_of_getElem? (i := 747) (by decide +kernel)), by decide +kernel⟩
theorem tw_748 : (Jvm.Cond.methodLink "ImageReaderModel" (72 : Nat) ({ cls := "ImageReaderModel", name := "fieldOf", desc := "(II)I" } : Jvm.MethodName)) ∈ av_tb := List.mem_filter.mpr ⟨List.mem_append_right _ (List.mem_of_getElem? (i := 748) (by decide +kernel)), by decide +kernel⟩
theorem tw_750 : (Jvm.Cond.instanceMethod ({ cls := "ImageReaderModel", name := "fieldOf", desc := "(II)I" } : Jvm.MethodName)) ∈ av_tb := List.mem_filter.mpr ⟨List.mem_append_right _ (List.mem_of_getElem? (i := 750) (by decide +kernel)), by decide +kernel⟩
theorem tw_751 : (Jvm.Cond.code ({ cls := "ImageReaderModel", name := "fieldOf", desc := "(II)I" } : Jvm.MethodName) prog_9_method_18_code (3 : Nat) (Option.some Jvm.ClassFile.FieldType.int)) ∈ av_tb := List.mem_filter.mpr ⟨List.mem_append_right _ (List.mem_of_getElem? (i := 751) (by decide +kernel)), by decide +kernel⟩
theorem tw_752 : (Jvm.Cond.methodLink "ImageReaderModel" (61 : Nat) ({ cls := "ImageReaderModel", name := "fieldAt", desc := "([BII)I" } : Jvm.MethodName)) ∈ av_tb := List.mem_filter.mpr ⟨List.mem_append_right _ (List.mem_of_getElem? (i := 752) (by decide +kernel)), by decide +kernel⟩
theorem tw_753 : (Jvm.Cond.static ({ cls := "ImageReaderModel", name := "fieldAt", desc := "([BII)I" } : Jvm.MethodName)) ∈ av_tb := List.mem_filter.mpr ⟨List.mem_append_right _ (List.mem_of_getElem? (i := 753) (by decide +kernel)), by decide +kernel⟩
theorem tw_754 : (Jvm.Cond.code ({ cls := "ImageReaderModel", name := "fieldAt", desc := "([BII)I" } : Jvm.MethodName) prog_9_method_15_code (3 : Nat) (Option.some Jvm.ClassFile.FieldType.int)) ∈ av_tb := List.mem_filter.mpr ⟨List.mem_append_right _ (List.mem_of_getElem? (i := 754) (by decide +kernel)), by decide +kernel⟩
theorem tw_755 : (Jvm.Cond.methodLink "ImageReaderModel" (80 : Nat) ({ cls := "ImageReaderModel", name := "isContext", desc := "(I)Z" } : Jvm.MethodName)) ∈ av_tb := List.mem_filter.mpr ⟨List.mem_append_right _ (List.mem_of_getElem? (i := 755) (by decide +kernel)), by decide +kernel⟩
theorem tw_757 : (Jvm.Cond.instanceMethod ({ cls := "ImageReaderModel", name := "isContext", desc := "(I)Z" } : Jvm.MethodName)) ∈ av_tb := List.mem_filter.mpr ⟨List.mem_append_right _ (List.mem_of_getElem? (i := 757) (by decide +kernel)), by decide +kernel⟩
theorem tw_758 : (Jvm.Cond.code ({ cls := "ImageReaderModel", name := "isContext", desc := "(I)Z" } : Jvm.MethodName) prog_9_method_19_code (3 : Nat) (Option.some Jvm.ClassFile.FieldType.boolean)) ∈ av_tb := List.mem_filter.mpr ⟨List.mem_append_right _ (List.mem_of_getElem? (i := 758) (by decide +kernel)), by decide +kernel⟩
theorem tw_759 : (Jvm.Cond.methodLink "ImageReaderModel" (137 : Nat) ({ cls := "ImageReaderModel", name := "stepObjects", desc := "()I" } : Jvm.MethodName)) ∈ av_tb := List.mem_filter.mpr ⟨List.mem_append_right _ (List.mem_of_getElem? (i := 759) (by decide +kernel)), by decide +kernel⟩
theorem tw_761 : (Jvm.Cond.instanceMethod ({ cls := "ImageReaderModel", name := "stepObjects", desc := "()I" } : Jvm.MethodName)) ∈ av_tb := List.mem_filter.mpr ⟨List.mem_append_right _ (List.mem_of_getElem? (i := 761) (by decide +kernel)), by decide +kernel⟩
theorem tw_762 : (Jvm.Cond.code ({ cls := "ImageReaderModel", name := "stepObjects", desc := "()I" } : Jvm.MethodName) prog_9_method_35_code (2 : Nat) (Option.some Jvm.ClassFile.FieldType.int)) ∈ av_tb := List.mem_filter.mpr ⟨List.mem_append_right _ (List.mem_of_getElem? (i := 762) (by decide +kernel)), by decide +kernel⟩
theorem tw_763 : (Jvm.Cond.methodLink "ImageReaderModel" (121 : Nat) ({ cls := "ImageReaderModel", name := "isRightObject", desc := "(I)Z" } : Jvm.MethodName)) ∈ av_tb := List.mem_filter.mpr ⟨List.mem_append_right _ (List.mem_of_getElem? (i := 763) (by decide +kernel)), by decide +kernel⟩
theorem tw_765 : (Jvm.Cond.instanceMethod ({ cls := "ImageReaderModel", name := "isRightObject", desc := "(I)Z" } : Jvm.MethodName)) ∈ av_tb := List.mem_filter.mpr ⟨List.mem_append_right _ (List.mem_of_getElem? (i := 765) (by decide +kernel)), by decide +kernel⟩
theorem tw_766 : (Jvm.Cond.code ({ cls := "ImageReaderModel", name := "isRightObject", desc := "(I)Z" } : Jvm.MethodName) prog_9_method_34_code (7 : Nat) (Option.some Jvm.ClassFile.FieldType.boolean)) ∈ av_tb := List.mem_filter.mpr ⟨List.mem_append_right _ (List.mem_of_getElem? (i := 766) (by decide +kernel)), by decide +kernel⟩
theorem tw_767 : (Jvm.Cond.methodLink "ImageReaderModel" (115 : Nat) ({ cls := "ImageReaderModel", name := "isMethodContext", desc := "(I)Z" } : Jvm.MethodName)) ∈ av_tb := List.mem_filter.mpr ⟨List.mem_append_right _ (List.mem_of_getElem? (i := 767) (by decide +kernel)), by decide +kernel⟩
theorem tw_769 : (Jvm.Cond.instanceMethod ({ cls := "ImageReaderModel", name := "isMethodContext", desc := "(I)Z" } : Jvm.MethodName)) ∈ av_tb := List.mem_filter.mpr ⟨List.mem_append_right _ (List.mem_of_getElem? (i := 769) (by decide +kernel)), by decide +kernel⟩
theorem tw_770 : (Jvm.Cond.code ({ cls := "ImageReaderModel", name := "isMethodContext", desc := "(I)Z" } : Jvm.MethodName) prog_9_method_26_code (5 : Nat) (Option.some Jvm.ClassFile.FieldType.boolean)) ∈ av_tb := List.mem_filter.mpr ⟨List.mem_append_right _ (List.mem_of_getElem? (i := 770) (by decide +kernel)), by decide +kernel⟩
theorem tw_771 : (Jvm.Cond.methodLink "ImageReaderModel" (88 : Nat) ({ cls := "ImageReaderModel", name := "isMethod", desc := "(I)Z" } : Jvm.MethodName)) ∈ av_tb := List.mem_filter.mpr ⟨List.mem_append_right _ (List.mem_of_getElem? (i := 771) (by decide +kernel)), by decide +kernel⟩
theorem tw_773 : (Jvm.Cond.instanceMethod ({ cls := "ImageReaderModel", name := "isMethod", desc := "(I)Z" } : Jvm.MethodName)) ∈ av_tb := List.mem_filter.mpr ⟨List.mem_append_right _ (List.mem_of_getElem? (i := 773) (by decide +kernel)), by decide +kernel⟩
theorem tw_774 : (Jvm.Cond.code ({ cls := "ImageReaderModel", name := "isMethod", desc := "(I)Z" } : Jvm.MethodName) prog_9_method_21_code (5 : Nat) (Option.some Jvm.ClassFile.FieldType.boolean)) ∈ av_tb := List.mem_filter.mpr ⟨List.mem_append_right _ (List.mem_of_getElem? (i := 774) (by decide +kernel)), by decide +kernel⟩
theorem tw_775 : (Jvm.Cond.constant "ImageReaderModel" (79 : Nat) (8388608 : Int32)) ∈ av_tb := List.mem_filter.mpr ⟨List.mem_append_right _ (List.mem_of_getElem? (i := 775) (by decide +kernel)), by decide +kernel⟩
theorem tw_776 : (Jvm.Cond.methodLink "ImageReaderModel" (91 : Nat) ({ cls := "ImageReaderModel", name := "temporaries", desc := "(I)I" } : Jvm.MethodName)) ∈ av_tb := List.mem_filter.mpr ⟨List.mem_append_right _ (List.mem_of_getElem? (i := 776) (by decide +kernel)), by decide +kernel⟩
theorem tw_778 : (Jvm.Cond.instanceMethod ({ cls := "ImageReaderModel", name := "temporaries", desc := "(I)I" } : Jvm.MethodName)) ∈ av_tb := List.mem_filter.mpr ⟨List.mem_append_right _ (List.mem_of_getElem? (i := 778) (by decide +kernel)), by decide +kernel⟩
theorem tw_779 : (Jvm.Cond.code ({ cls := "ImageReaderModel", name := "temporaries", desc := "(I)I" } : Jvm.MethodName) prog_9_method_22_code (2 : Nat) (Option.some Jvm.ClassFile.FieldType.int)) ∈ av_tb := List.mem_filter.mpr ⟨List.mem_append_right _ (List.mem_of_getElem? (i := 779) (by decide +kernel)), by decide +kernel⟩
theorem tw_780 : (Jvm.Cond.methodLink "ImageReaderModel" (95 : Nat) ({ cls := "ImageReaderModel", name := "depth", desc := "(I)I" } : Jvm.MethodName)) ∈ av_tb := List.mem_filter.mpr ⟨List.mem_append_right _ (List.mem_of_getElem? (i := 780) (by decide +kernel)), by decide +kernel⟩
theorem tw_782 : (Jvm.Cond.instanceMethod ({ cls := "ImageReaderModel", name := "depth", desc := "(I)I" } : Jvm.MethodName)) ∈ av_tb := List.mem_filter.mpr ⟨List.mem_append_right _ (List.mem_of_getElem? (i := 782) (by decide +kernel)), by decide +kernel⟩
theorem tw_783 : (Jvm.Cond.code ({ cls := "ImageReaderModel", name := "depth", desc := "(I)I" } : Jvm.MethodName) prog_9_method_23_code (2 : Nat) (Option.some Jvm.ClassFile.FieldType.int)) ∈ av_tb := List.mem_filter.mpr ⟨List.mem_append_right _ (List.mem_of_getElem? (i := 783) (by decide +kernel)), by decide +kernel⟩
theorem tw_784 : (Jvm.Cond.methodLink "ImageReaderModel" (84 : Nat) ({ cls := "ImageReaderModel", name := "isNumberFrom", desc := "(III)Z" } : Jvm.MethodName)) ∈ av_tb := List.mem_filter.mpr ⟨List.mem_append_right _ (List.mem_of_getElem? (i := 784) (by decide +kernel)), by decide +kernel⟩
theorem tw_786 : (Jvm.Cond.instanceMethod ({ cls := "ImageReaderModel", name := "isNumberFrom", desc := "(III)Z" } : Jvm.MethodName)) ∈ av_tb := List.mem_filter.mpr ⟨List.mem_append_right _ (List.mem_of_getElem? (i := 786) (by decide +kernel)), by decide +kernel⟩
theorem tw_787 : (Jvm.Cond.code ({ cls := "ImageReaderModel", name := "isNumberFrom", desc := "(III)Z" } : Jvm.MethodName) prog_9_method_24_code (4 : Nat) (Option.some Jvm.ClassFile.FieldType.boolean)) ∈ av_tb := List.mem_filter.mpr ⟨List.mem_append_right _ (List.mem_of_getElem? (i := 787) (by decide +kernel)), by decide +kernel⟩
theorem tw_788 : (Jvm.Cond.methodLink "ImageReaderModel" (98 : Nat) ({ cls := "ImageReaderModel", name := "isCommon", desc := "(II)Z" } : Jvm.MethodName)) ∈ av_tb := List.mem_filter.mpr ⟨List.mem_append_right _ (List.mem_of_getElem? (i := 788) (by decide +kernel)), by decide +kernel⟩
theorem tw_790 : (Jvm.Cond.instanceMethod ({ cls := "ImageReaderModel", name := "isCommon", desc := "(II)Z" } : Jvm.MethodName)) ∈ av_tb := List.mem_filter.mpr ⟨List.mem_append_right _ (List.mem_of_getElem? (i := 790) (by decide +kernel)), by decide +kernel⟩
theorem tw_791 : (Jvm.Cond.code ({ cls := "ImageReaderModel", name := "isCommon", desc := "(II)Z" } : Jvm.MethodName) prog_9_method_25_code (7 : Nat) (Option.some Jvm.ClassFile.FieldType.boolean)) ∈ av_tb := List.mem_filter.mpr ⟨List.mem_append_right _ (List.mem_of_getElem? (i := 791) (by decide +kernel)), by decide +kernel⟩
theorem tw_792 : (Jvm.Cond.constant "ImageReaderModel" (83 : Nat) (1073741823 : Int32)) ∈ av_tb := List.mem_filter.mpr ⟨List.mem_append_right _ (List.mem_of_getElem? (i := 792) (by decide +kernel)), by decide +kernel⟩
theorem tw_793 : (Jvm.Cond.methodLink "ImageReaderModel" (118 : Nat) ({ cls := "ImageReaderModel", name := "isBlockContext", desc := "(I)Z" } : Jvm.MethodName)) ∈ av_tb := List.mem_filter.mpr ⟨List.mem_append_right _ (List.mem_of_getElem? (i := 793) (by decide +kernel)), by decide +kernel⟩
theorem tw_795 : (Jvm.Cond.instanceMethod ({ cls := "ImageReaderModel", name := "isBlockContext", desc := "(I)Z" } : Jvm.MethodName)) ∈ av_tb := List.mem_filter.mpr ⟨List.mem_append_right _ (List.mem_of_getElem? (i := 795) (by decide +kernel)), by decide +kernel⟩
theorem tw_796 : (Jvm.Cond.code ({ cls := "ImageReaderModel", name := "isBlockContext", desc := "(I)Z" } : Jvm.MethodName) prog_9_method_27_code (7 : Nat) (Option.some Jvm.ClassFile.FieldType.boolean)) ∈ av_tb := List.mem_filter.mpr ⟨List.mem_append_right _ (List.mem_of_getElem? (i := 796) (by decide +kernel)), by decide +kernel⟩
theorem tw_797 : (Jvm.Cond.methodLink "ImageReaderModel" (140 : Nat) ({ cls := "ImageReaderModel", name := "stepProcess", desc := "()I" } : Jvm.MethodName)) ∈ av_tb := List.mem_filter.mpr ⟨List.mem_append_right _ (List.mem_of_getElem? (i := 797) (by decide +kernel)), by decide +kernel⟩
theorem tw_799 : (Jvm.Cond.instanceMethod ({ cls := "ImageReaderModel", name := "stepProcess", desc := "()I" } : Jvm.MethodName)) ∈ av_tb := List.mem_filter.mpr ⟨List.mem_append_right _ (List.mem_of_getElem? (i := 799) (by decide +kernel)), by decide +kernel⟩
theorem tw_800 : (Jvm.Cond.code ({ cls := "ImageReaderModel", name := "stepProcess", desc := "()I" } : Jvm.MethodName) prog_9_method_36_code (6 : Nat) (Option.some Jvm.ClassFile.FieldType.int)) ∈ av_tb := List.mem_filter.mpr ⟨List.mem_append_right _ (List.mem_of_getElem? (i := 800) (by decide +kernel)), by decide +kernel⟩
theorem tw_801 : (Jvm.Cond.methodLink "ImageReaderModel" (152 : Nat) ({ cls := "ImageReaderModel", name := "note", desc := "([B[I)V" } : Jvm.MethodName)) ∈ av_tb := List.mem_filter.mpr ⟨List.mem_append_right _ (List.mem_of_getElem? (i := 801) (by decide +kernel)), by decide +kernel⟩
theorem tw_802 : (Jvm.Cond.static ({ cls := "ImageReaderModel", name := "note", desc := "([B[I)V" } : Jvm.MethodName)) ∈ av_tb := List.mem_filter.mpr ⟨List.mem_append_right _ (List.mem_of_getElem? (i := 802) (by decide +kernel)), by decide +kernel⟩
theorem tw_803 : (Jvm.Cond.code ({ cls := "ImageReaderModel", name := "note", desc := "([B[I)V" } : Jvm.MethodName) prog_9_method_38_code (4 : Nat) (Option.none : Option Jvm.ClassFile.FieldType)) ∈ av_tb := List.mem_filter.mpr ⟨List.mem_append_right _ (List.mem_of_getElem? (i := 803) (by decide +kernel)), by decide +kernel⟩
theorem tw_804 : (Jvm.Cond.methodLink "ImageReaderModel" (143 : Nat) ({ cls := "ImageReaderModel", name := "endAt", desc := "([BI)I" } : Jvm.MethodName)) ∈ av_tb := List.mem_filter.mpr ⟨List.mem_append_right _ (List.mem_of_getElem? (i := 804) (by decide +kernel)), by decide +kernel⟩
theorem tw_805 : (Jvm.Cond.static ({ cls := "ImageReaderModel", name := "endAt", desc := "([BI)I" } : Jvm.MethodName)) ∈ av_tb := List.mem_filter.mpr ⟨List.mem_append_right _ (List.mem_of_getElem? (i := 805) (by decide +kernel)), by decide +kernel⟩
theorem tw_806 : (Jvm.Cond.code ({ cls := "ImageReaderModel", name := "endAt", desc := "([BI)I" } : Jvm.MethodName) prog_9_method_16_code (2 : Nat) (Option.some Jvm.ClassFile.FieldType.int)) ∈ av_tb := List.mem_filter.mpr ⟨List.mem_append_right _ (List.mem_of_getElem? (i := 806) (by decide +kernel)), by decide +kernel⟩
theorem tw_807 : (Jvm.Cond.methodLink "ImageReaderLaw" (51 : Nat) ({ cls := "ImageReaderModel", name := "objects", desc := "()I" } : Jvm.MethodName)) ∈ av_tb := List.mem_filter.mpr ⟨List.mem_append_right _ (List.mem_of_getElem? (i := 807) (by decide +kernel)), by decide +kernel⟩
theorem tw_808 : (Jvm.Cond.instanceMethod ({ cls := "ImageReaderModel", name := "objects", desc := "()I" } : Jvm.MethodName)) ∈ av_tb := List.mem_filter.mpr ⟨List.mem_append_right _ (List.mem_of_getElem? (i := 808) (by decide +kernel)), by decide +kernel⟩
theorem tw_809 : (Jvm.Cond.selects "ImageReaderModel" ({ cls := "ImageReaderModel", name := "objects", desc := "()I" } : Jvm.MethodName) ({ cls := "ImageReaderModel", name := "objects", desc := "()I" } : Jvm.MethodName)) ∈ av_tb := List.mem_filter.mpr ⟨List.mem_append_right _ (List.mem_of_getElem? (i := 809) (by decide +kernel)), by decide +kernel⟩
theorem tw_810 : (Jvm.Cond.code ({ cls := "ImageReaderModel", name := "objects", desc := "()I" } : Jvm.MethodName) prog_9_method_41_code (1 : Nat) (Option.some Jvm.ClassFile.FieldType.int)) ∈ av_tb := List.mem_filter.mpr ⟨List.mem_append_right _ (List.mem_of_getElem? (i := 810) (by decide +kernel)), by decide +kernel⟩
theorem tw_811 : (Jvm.Cond.methodLink "ImageReaderLaw" (55 : Nat) ({ cls := "ImageReaderModel", name := "words", desc := "()I" } : Jvm.MethodName)) ∈ av_tb := List.mem_filter.mpr ⟨List.mem_append_right _ (List.mem_of_getElem? (i := 811) (by decide +kernel)), by decide +kernel⟩
theorem tw_812 : (Jvm.Cond.instanceMethod ({ cls := "ImageReaderModel", name := "words", desc := "()I" } : Jvm.MethodName)) ∈ av_tb := List.mem_filter.mpr ⟨List.mem_append_right _ (List.mem_of_getElem? (i := 812) (by decide +kernel)), by decide +kernel⟩
theorem tw_813 : (Jvm.Cond.selects "ImageReaderModel" ({ cls := "ImageReaderModel", name := "words", desc := "()I" } : Jvm.MethodName) ({ cls := "ImageReaderModel", name := "words", desc := "()I" } : Jvm.MethodName)) ∈ av_tb := List.mem_filter.mpr ⟨List.mem_append_right _ (List.mem_of_getElem? (i := 813) (by decide +kernel)), by decide +kernel⟩
theorem tw_814 : (Jvm.Cond.code ({ cls := "ImageReaderModel", name := "words", desc := "()I" } : Jvm.MethodName) prog_9_method_42_code (1 : Nat) (Option.some Jvm.ClassFile.FieldType.int)) ∈ av_tb := List.mem_filter.mpr ⟨List.mem_append_right _ (List.mem_of_getElem? (i := 814) (by decide +kernel)), by decide +kernel⟩
theorem tw_815 : (Jvm.Cond.methodLink "ImageReaderLaw" (59 : Nat) ({ cls := "ImageReaderModel", name := "special", desc := "(I)I" } : Jvm.MethodName)) ∈ av_tb := List.mem_filter.mpr ⟨List.mem_append_right _ (List.mem_of_getElem? (i := 815) (by decide +kernel)), by decide +kernel⟩
theorem tw_816 : (Jvm.Cond.instanceMethod ({ cls := "ImageReaderModel", name := "special", desc := "(I)I" } : Jvm.MethodName)) ∈ av_tb := List.mem_filter.mpr ⟨List.mem_append_right _ (List.mem_of_getElem? (i := 816) (by decide +kernel)), by decide +kernel⟩
theorem tw_817 : (Jvm.Cond.selects "ImageReaderModel" ({ cls := "ImageReaderModel", name := "special", desc := "(I)I" } : Jvm.MethodName) ({ cls := "ImageReaderModel", name := "special", desc := "(I)I" } : Jvm.MethodName)) ∈ av_tb := List.mem_filter.mpr ⟨List.mem_append_right _ (List.mem_of_getElem? (i := 817) (by decide +kernel)), by decide +kernel⟩
theorem tw_818 : (Jvm.Cond.code ({ cls := "ImageReaderModel", name := "special", desc := "(I)I" } : Jvm.MethodName) prog_9_method_43_code (2 : Nat) (Option.some Jvm.ClassFile.FieldType.int)) ∈ av_tb := List.mem_filter.mpr ⟨List.mem_append_right _ (List.mem_of_getElem? (i := 818) (by decide +kernel)), by decide +kernel⟩
theorem tw_819 : (Jvm.Cond.methodLink "ImageReaderLaw" (63 : Nat) ({ cls := "ImageReaderModel", name := "kind", desc := "(I)I" } : Jvm.MethodName)) ∈ av_tb := List.mem_filter.mpr ⟨List.mem_append_right _ (List.mem_of_getElem? (i := 819) (by decide +kernel)), by decide +kernel⟩
theorem tw_820 : (Jvm.Cond.instanceMethod ({ cls := "ImageReaderModel", name := "kind", desc := "(I)I" } : Jvm.MethodName)) ∈ av_tb := List.mem_filter.mpr ⟨List.mem_append_right _ (List.mem_of_getElem? (i := 820) (by decide +kernel)), by decide +kernel⟩
theorem tw_821 : (Jvm.Cond.selects "ImageReaderModel" ({ cls := "ImageReaderModel", name := "kind", desc := "(I)I" } : Jvm.MethodName) ({ cls := "ImageReaderModel", name := "kind", desc := "(I)I" } : Jvm.MethodName)) ∈ av_tb := List.mem_filter.mpr ⟨List.mem_append_right _ (List.mem_of_getElem? (i := 821) (by decide +kernel)), by decide +kernel⟩
theorem tw_822 : (Jvm.Cond.code ({ cls := "ImageReaderModel", name := "kind", desc := "(I)I" } : Jvm.MethodName) prog_9_method_44_code (3 : Nat) (Option.some Jvm.ClassFile.FieldType.int)) ∈ av_tb := List.mem_filter.mpr ⟨List.mem_append_right _ (List.mem_of_getElem? (i := 822) (by decide +kernel)), by decide +kernel⟩
theorem tw_823 : (Jvm.Cond.methodLink "ImageReaderModel" (156 : Nat) ({ cls := "ImageReaderModel", name := "isThere", desc := "(I)Z" } : Jvm.MethodName)) ∈ av_tb := List.mem_filter.mpr ⟨List.mem_append_right _ (List.mem_of_getElem? (i := 823) (by decide +kernel)), by decide +kernel⟩
theorem tw_825 : (Jvm.Cond.instanceMethod ({ cls := "ImageReaderModel", name := "isThere", desc := "(I)Z" } : Jvm.MethodName)) ∈ av_tb := List.mem_filter.mpr ⟨List.mem_append_right _ (List.mem_of_getElem? (i := 825) (by decide +kernel)), by decide +kernel⟩
theorem tw_826 : (Jvm.Cond.code ({ cls := "ImageReaderModel", name := "isThere", desc := "(I)Z" } : Jvm.MethodName) prog_9_method_40_code (2 : Nat) (Option.some Jvm.ClassFile.FieldType.boolean)) ∈ av_tb := List.mem_filter.mpr ⟨List.mem_append_right _ (List.mem_of_getElem? (i := 826) (by decide +kernel)), by decide +kernel⟩
theorem tw_827 : (Jvm.Cond.methodLink "ImageReaderLaw" (67 : Nat) ({ cls := "ImageReaderModel", name := "classOf", desc := "(I)I" } : Jvm.MethodName)) ∈ av_tb := List.mem_filter.mpr ⟨List.mem_append_right _ (List.mem_of_getElem? (i := 827) (by decide +kernel)), by decide +kernel⟩
theorem tw_828 : (Jvm.Cond.instanceMethod ({ cls := "ImageReaderModel", name := "classOf", desc := "(I)I" } : Jvm.MethodName)) ∈ av_tb := List.mem_filter.mpr ⟨List.mem_append_right _ (List.mem_of_getElem? (i := 828) (by decide +kernel)), by decide +kernel⟩
theorem tw_829 : (Jvm.Cond.selects "ImageReaderModel" ({ cls := "ImageReaderModel", name := "classOf", desc := "(I)I" } : Jvm.MethodName) ({ cls := "ImageReaderModel", name := "classOf", desc := "(I)I" } : Jvm.MethodName)) ∈ av_tb := List.mem_filter.mpr ⟨List.mem_append_right _ (List.mem_of_getElem? (i := 829) (by decide +kernel)), by decide +kernel⟩
theorem tw_830 : (Jvm.Cond.code ({ cls := "ImageReaderModel", name := "classOf", desc := "(I)I" } : Jvm.MethodName) prog_9_method_45_code (2 : Nat) (Option.some Jvm.ClassFile.FieldType.int)) ∈ av_tb := List.mem_filter.mpr ⟨List.mem_append_right _ (List.mem_of_getElem? (i := 830) (by decide +kernel)), by decide +kernel⟩
theorem tw_831 : (Jvm.Cond.methodLink "ImageReaderLaw" (71 : Nat) ({ cls := "ImageReaderModel", name := "size", desc := "(I)I" } : Jvm.MethodName)) ∈ av_tb := List.mem_filter.mpr ⟨List.mem_append_right _ (List.mem_of_getElem? (i := 831) (by decide +kernel)), by decide +kernel⟩
theorem tw_832 : (Jvm.Cond.instanceMethod ({ cls := "ImageReaderModel", name := "size", desc := "(I)I" } : Jvm.MethodName)) ∈ av_tb := List.mem_filter.mpr ⟨List.mem_append_right _ (List.mem_of_getElem? (i := 832) (by decide +kernel)), by decide +kernel⟩
theorem tw_833 : (Jvm.Cond.selects "ImageReaderModel" ({ cls := "ImageReaderModel", name := "size", desc := "(I)I" } : Jvm.MethodName) ({ cls := "ImageReaderModel", name := "size", desc := "(I)I" } : Jvm.MethodName)) ∈ av_tb := List.mem_filter.mpr ⟨List.mem_append_right _ (List.mem_of_getElem? (i := 833) (by decide +kernel)), by decide +kernel⟩
theorem tw_834 : (Jvm.Cond.code ({ cls := "ImageReaderModel", name := "size", desc := "(I)I" } : Jvm.MethodName) prog_9_method_46_code (2 : Nat) (Option.some Jvm.ClassFile.FieldType.int)) ∈ av_tb := List.mem_filter.mpr ⟨List.mem_append_right _ (List.mem_of_getElem? (i := 834) (by decide +kernel)), by decide +kernel⟩
theorem tw_835 : (Jvm.Cond.methodLink "ImageReaderLaw" (75 : Nat) ({ cls := "ImageReaderModel", name := "field", desc := "(II)I" } : Jvm.MethodName)) ∈ av_tb := List.mem_filter.mpr ⟨List.mem_append_right _ (List.mem_of_getElem? (i := 835) (by decide +kernel)), by decide +kernel⟩
theorem tw_836 : (Jvm.Cond.instanceMethod ({ cls := "ImageReaderModel", name := "field", desc := "(II)I" } : Jvm.MethodName)) ∈ av_tb := List.mem_filter.mpr ⟨List.mem_append_right _ (List.mem_of_getElem? (i := 836) (by decide +kernel)), by decide +kernel⟩
theorem tw_837 : (Jvm.Cond.selects "ImageReaderModel" ({ cls := "ImageReaderModel", name := "field", desc := "(II)I" } : Jvm.MethodName) ({ cls := "ImageReaderModel", name := "field", desc := "(II)I" } : Jvm.MethodName)) ∈ av_tb := List.mem_filter.mpr ⟨List.mem_append_right _ (List.mem_of_getElem? (i := 837) (by decide +kernel)), by decide +kernel⟩
theorem tw_838 : (Jvm.Cond.code ({ cls := "ImageReaderModel", name := "field", desc := "(II)I" } : Jvm.MethodName) prog_9_method_47_code (4 : Nat) (Option.some Jvm.ClassFile.FieldType.int)) ∈ av_tb := List.mem_filter.mpr ⟨List.mem_append_right _ (List.mem_of_getElem? (i := 838) (by decide +kernel)), by decide +kernel⟩
theorem tw_839 : (Jvm.Cond.methodLink "ImageReaderLaw" (79 : Nat) ({ cls := "ImageReaderModel", name := "byteAt", desc := "(II)I" } : Jvm.MethodName)) ∈ av_tb := List.mem_filter.mpr ⟨List.mem_append_right _ (List.mem_of_getElem? (i := 839) (by decide +kernel)), by decide +kernel⟩
theorem tw_840 : (Jvm.Cond.instanceMethod ({ cls := "ImageReaderModel", name := "byteAt", desc := "(II)I" } : Jvm.MethodName)) ∈ av_tb := List.mem_filter.mpr ⟨List.mem_append_right _ (List.mem_of_getElem? (i := 840) (by decide +kernel)), by decide +kernel⟩
theorem tw_841 : (Jvm.Cond.selects "ImageReaderModel" ({ cls := "ImageReaderModel", name := "byteAt", desc := "(II)I" } : Jvm.MethodName) ({ cls := "ImageReaderModel", name := "byteAt", desc := "(II)I" } : Jvm.MethodName)) ∈ av_tb := List.mem_filter.mpr ⟨List.mem_append_right _ (List.mem_of_getElem? (i := 841) (by decide +kernel)), by decide +kernel⟩
theorem tw_842 : (Jvm.Cond.code ({ cls := "ImageReaderModel", name := "byteAt", desc := "(II)I" } : Jvm.MethodName) prog_9_method_48_code (4 : Nat) (Option.some Jvm.ClassFile.FieldType.int)) ∈ av_tb := List.mem_filter.mpr ⟨List.mem_append_right _ (List.mem_of_getElem? (i := 842) (by decide +kernel)), by decide +kernel⟩
theorem tw_843 : (Jvm.Cond.methodLink "ImageReaderLaw" (83 : Nat) ({ cls := "ImageReaderModel", name := "reachable", desc := "()I" } : Jvm.MethodName)) ∈ av_tb := List.mem_filter.mpr ⟨List.mem_append_right _ (List.mem_of_getElem? (i := 843) (by decide +kernel)), by decide +kernel⟩
theorem tw_844 : (Jvm.Cond.instanceMethod ({ cls := "ImageReaderModel", name := "reachable", desc := "()I" } : Jvm.MethodName)) ∈ av_tb := List.mem_filter.mpr ⟨List.mem_append_right _ (List.mem_of_getElem? (i := 844) (by decide +kernel)), by decide +kernel⟩
theorem tw_845 : (Jvm.Cond.selects "ImageReaderModel" ({ cls := "ImageReaderModel", name := "reachable", desc := "()I" } : Jvm.MethodName) ({ cls := "ImageReaderModel", name := "reachable", desc := "()I" } : Jvm.MethodName)) ∈ av_tb := List.mem_filter.mpr ⟨List.mem_append_right _ (List.mem_of_getElem? (i := 845) (by decide +kernel)), by decide +kernel⟩
theorem tw_846 : (Jvm.Cond.code ({ cls := "ImageReaderModel", name := "reachable", desc := "()I" } : Jvm.MethodName) prog_9_method_51_code (1 : Nat) (Option.some Jvm.ClassFile.FieldType.int)) ∈ av_tb := List.mem_filter.mpr ⟨List.mem_append_right _ (List.mem_of_getElem? (i := 846) (by decide +kernel)), by decide +kernel⟩
theorem tw_847 : (Jvm.Cond.methodLink "ImageReaderModel" (166 : Nat) ({ cls := "ImageReaderModel", name := "reachAll", desc := "()V" } : Jvm.MethodName)) ∈ av_tb := List.mem_filter.mpr ⟨List.mem_append_right _ (List.mem_of_getElem? (i := 847) (by decide +kernel)), by decide +kernel⟩
theorem tw_849 : (Jvm.Cond.instanceMethod ({ cls := "ImageReaderModel", name := "reachAll", desc := "()V" } : Jvm.MethodName)) ∈ av_tb := List.mem_filter.mpr ⟨List.mem_append_right _ (List.mem_of_getElem? (i := 849) (by decide +kernel)), by decide +kernel⟩
theorem tw_850 : (Jvm.Cond.code ({ cls := "ImageReaderModel", name := "reachAll", desc := "()V" } : Jvm.MethodName) prog_9_method_50_code (4 : Nat) (Option.none : Option Jvm.ClassFile.FieldType)) ∈ av_tb := List.mem_filter.mpr ⟨List.mem_append_right _ (List.mem_of_getElem? (i := 850) (by decide +kernel)), by decide +kernel⟩
theorem tw_851 : (Jvm.Cond.methodLink "ImageReaderModel" (162 : Nat) ({ cls := "ImageReaderModel", name := "reach", desc := "(I)V" } : Jvm.MethodName)) ∈ av_tb := List.mem_filter.mpr ⟨List.mem_append_right _ (List.mem_of_getElem? (i := 851) (by decide +kernel)), by decide +kernel⟩
theorem tw_853 : (Jvm.Cond.instanceMethod ({ cls := "ImageReaderModel", name := "reach", desc := "(I)V" } : Jvm.MethodName)) ∈ av_tb := List.mem_filter.mpr ⟨List.mem_append_right _ (List.mem_of_getElem? (i := 853) (by decide +kernel)), by decide +kernel⟩
theorem tw_854 : (Jvm.Cond.code ({ cls := "ImageReaderModel", name := "reach", desc := "(I)V" } : Jvm.MethodName) prog_9_method_49_code (2 : Nat) (Option.none : Option Jvm.ClassFile.FieldType)) ∈ av_tb := List.mem_filter.mpr ⟨List.mem_append_right _ (List.mem_of_getElem? (i := 854) (by decide +kernel)), by decide +kernel⟩
theorem tw_855 : (Jvm.Cond.methodLink "ImageReaderLaw" (87 : Nat) ({ cls := "ImageReaderModel", name := "write", desc := "()I" } : Jvm.MethodName)) ∈ av_tb := List.mem_filter.mpr ⟨List.mem_append_right _ (List.mem_of_getElem? (i := 855) (by decide +kernel)), by decide +kernel⟩
theorem tw_856 : (Jvm.Cond.instanceMethod ({ cls := "ImageReaderModel", name := "write", desc := "()I" } : Jvm.MethodName)) ∈ av_tb := List.mem_filter.mpr ⟨List.mem_append_right _ (List.mem_of_getElem? (i := 856) (by decide +kernel)), by decide +kernel⟩
theorem tw_857 : (Jvm.Cond.selects "ImageReaderModel" ({ cls := "ImageReaderModel", name := "write", desc := "()I" } : Jvm.MethodName) ({ cls := "ImageReaderModel", name := "write", desc := "()I" } : Jvm.MethodName)) ∈ av_tb := List.mem_filter.mpr ⟨List.mem_append_right _ (List.mem_of_getElem? (i := 857) (by decide +kernel)), by decide +kernel⟩
theorem tw_858 : (Jvm.Cond.code ({ cls := "ImageReaderModel", name := "write", desc := "()I" } : Jvm.MethodName) prog_9_method_54_code (6 : Nat) (Option.some Jvm.ClassFile.FieldType.int)) ∈ av_tb := List.mem_filter.mpr ⟨List.mem_append_right _ (List.mem_of_getElem? (i := 858) (by decide +kernel)), by decide +kernel⟩
theorem tw_859 : (Jvm.Cond.methodLink "ImageReaderModel" (169 : Nat) ({ cls := "ImageReaderModel", name := "put", desc := "(II)V" } : Jvm.MethodName)) ∈ av_tb := List.mem_filter.mpr ⟨List.mem_append_right _ (List.mem_of_getElem? (i := 859) (by decide +kernel)), by decide +kernel⟩
theorem tw_861 : (Jvm.Cond.instanceMethod ({ cls := "ImageReaderModel", name := "put", desc := "(II)V" } : Jvm.MethodName)) ∈ av_tb := List.mem_filter.mpr ⟨List.mem_append_right _ (List.mem_of_getElem? (i := 861) (by decide +kernel)), by decide +kernel⟩
theorem tw_862 : (Jvm.Cond.code ({ cls := "ImageReaderModel", name := "put", desc := "(II)V" } : Jvm.MethodName) prog_9_method_52_code (4 : Nat) (Option.none : Option Jvm.ClassFile.FieldType)) ∈ av_tb := List.mem_filter.mpr ⟨List.mem_append_right _ (List.mem_of_getElem? (i := 862) (by decide +kernel)), by decide +kernel⟩
theorem tw_863 : (Jvm.Cond.methodLink "ImageReaderModel" (173 : Nat) ({ cls := "ImageReaderModel", name := "renumbered", desc := "(I)I" } : Jvm.MethodName)) ∈ av_tb := List.mem_filter.mpr ⟨List.mem_append_right _ (List.mem_of_getElem? (i := 863) (by decide +kernel)), by decide +kernel⟩
theorem tw_865 : (Jvm.Cond.instanceMethod ({ cls := "ImageReaderModel", name := "renumbered", desc := "(I)I" } : Jvm.MethodName)) ∈ av_tb := List.mem_filter.mpr ⟨List.mem_append_right _ (List.mem_of_getElem? (i := 865) (by decide +kernel)), by decide +kernel⟩
theorem tw_866 : (Jvm.Cond.code ({ cls := "ImageReaderModel", name := "renumbered", desc := "(I)I" } : Jvm.MethodName) prog_9_method_53_code (2 : Nat) (Option.some Jvm.ClassFile.FieldType.int)) ∈ av_tb := List.mem_filter.mpr ⟨List.mem_append_right _ (List.mem_of_getElem? (i := 866) (by decide +kernel)), by decide +kernel⟩
theorem tw_867 : (Jvm.Cond.methodLink "ImageReaderLaw" (96 : Nat) ({ cls := "ImageReaderModel", name := "keep", desc := "()Z" } : Jvm.MethodName)) ∈ av_tb := List.mem_filter.mpr ⟨List.mem_append_right _ (List.mem_of_getElem? (i := 867) (by decide +kernel)), by decide +kernel⟩
theorem tw_868 : (Jvm.Cond.instanceMethod ({ cls := "ImageReaderModel", name := "keep", desc := "()Z" } : Jvm.MethodName)) ∈ av_tb := List.mem_filter.mpr ⟨List.mem_append_right _ (List.mem_of_getElem? (i := 868) (by decide +kernel)), by decide +kernel⟩
theorem tw_869 : (Jvm.Cond.selects "ImageReaderModel" ({ cls := "ImageReaderModel", name := "keep", desc := "()Z" } : Jvm.MethodName) ({ cls := "ImageReaderModel", name := "keep", desc := "()Z" } : Jvm.MethodName)) ∈ av_tb := List.mem_filter.mpr ⟨List.mem_append_right _ (List.mem_of_getElem? (i := 869) (by decide +kernel)), by decide +kernel⟩
theorem tw_870 : (Jvm.Cond.code ({ cls := "ImageReaderModel", name := "keep", desc := "()Z" } : Jvm.MethodName) prog_9_method_55_code (2 : Nat) (Option.some Jvm.ClassFile.FieldType.boolean)) ∈ av_tb := List.mem_filter.mpr ⟨List.mem_append_right _ (List.mem_of_getElem? (i := 870) (by decide +kernel)), by decide +kernel⟩
theorem tw_871 : (Jvm.Cond.methodLink "ImageReaderLaw" (100 : Nat) ({ cls := "ImageReaderModel", name := "same", desc := "()Z" } : Jvm.MethodName)) ∈ av_tb := List.mem_filter.mpr ⟨List.mem_append_right _ (List.mem_of_getElem? (i := 871) (by decide +kernel)), by decide +kernel⟩
theorem tw_872 : (Jvm.Cond.instanceMethod ({ cls := "ImageReaderModel", name := "same", desc := "()Z" } : Jvm.MethodName)) ∈ av_tb := List.mem_filter.mpr ⟨List.mem_append_right _ (List.mem_of_getElem? (i := 872) (by decide +kernel)), by decide +kernel⟩
theorem tw_873 : (Jvm.Cond.selects "ImageReaderModel" ({ cls := "ImageReaderModel", name := "same", desc := "()Z" } : Jvm.MethodName) ({ cls := "ImageReaderModel", name := "same", desc := "()Z" } : Jvm.MethodName)) ∈ av_tb := List.mem_filter.mpr ⟨List.mem_append_right _ (List.mem_of_getElem? (i := 873) (by decide +kernel)), by decide +kernel⟩
theorem tw_874 : (Jvm.Cond.code ({ cls := "ImageReaderModel", name := "same", desc := "()Z" } : Jvm.MethodName) prog_9_method_58_code (3 : Nat) (Option.some Jvm.ClassFile.FieldType.boolean)) ∈ av_tb := List.mem_filter.mpr ⟨List.mem_append_right _ (List.mem_of_getElem? (i := 874) (by decide +kernel)), by decide +kernel⟩
theorem tw_875 : (Jvm.Cond.methodLink "ImageReaderModel" (179 : Nat) ({ cls := "ImageReaderModel", name := "goes", desc := "(II)Z" } : Jvm.MethodName)) ∈ av_tb := List.mem_filter.mpr ⟨List.mem_append_right _ (List.mem_of_getElem? (i := 875) (by decide +kernel)), by decide +kernel⟩
theorem tw_877 : (Jvm.Cond.instanceMethod ({ cls := "ImageReaderModel", name := "goes", desc := "(II)Z" } : Jvm.MethodName)) ∈ av_tb := List.mem_filter.mpr ⟨List.mem_append_right _ (List.mem_of_getElem? (i := 877) (by decide +kernel)), by decide +kernel⟩
theorem tw_878 : (Jvm.Cond.code ({ cls := "ImageReaderModel", name := "goes", desc := "(II)Z" } : Jvm.MethodName) prog_9_method_56_code (3 : Nat) (Option.some Jvm.ClassFile.FieldType.boolean)) ∈ av_tb := List.mem_filter.mpr ⟨List.mem_append_right _ (List.mem_of_getElem? (i := 878) (by decide +kernel)), by decide +kernel⟩
theorem tw_879 : (Jvm.Cond.methodLink "ImageReaderModel" (182 : Nat) ({ cls := "ImageReaderModel", name := "goTogether", desc := "(I)Z" } : Jvm.MethodName)) ∈ av_tb := List.mem_filter.mpr ⟨List.mem_append_right _ (List.mem_of_getElem? (i := 879) (by decide +kernel)), by decide +kernel⟩
theorem tw_881 : (Jvm.Cond.instanceMethod ({ cls := "ImageReaderModel", name := "goTogether", desc := "(I)Z" } : Jvm.MethodName)) ∈ av_tb := List.mem_filter.mpr ⟨List.mem_append_right _ (List.mem_of_getElem? (i := 881) (by decide +kernel)), by decide +kernel⟩
theorem tw_882 : (Jvm.Cond.code ({ cls := "ImageReaderModel", name := "goTogether", desc := "(I)Z" } : Jvm.MethodName) prog_9_method_57_code (6 : Nat) (Option.some Jvm.ClassFile.FieldType.boolean)) ∈ av_tb := List.mem_filter.mpr ⟨List.mem_append_right _ (List.mem_of_getElem? (i := 882) (by decide +kernel)), by decide +kernel⟩
theorem tw_883 : (Jvm.Cond.arrayClass Jvm.ClassFile.FieldType.long) ∈ av_tb := List.mem_filter.mpr ⟨List.mem_append_right _ (List.mem_of_getElem? (i := 883) (by decide +kernel)), by decide +kernel⟩
theorem sw_0 : Cond.selects "ImageReader$Bytes" ⟨"ImageReader$Bytes", "at", "(I)I"⟩ ⟨"ImageReader$Bytes", "at", "(I)I"⟩ ∈ av_tb := List.mem_filter.mpr ⟨List.mem_append_left _ (List.mem_of_getElem? (i := 0) (by decide +kernel)), by decide +kernel⟩
theorem sw_1 : Cond.selects "ImageReader" ⟨"ImageReader", "spareImage", "()LImageReader$Image;"⟩ ⟨"ImageReader", "spareImage", "()LImageReader$Image;"⟩ ∈ av_tb := List.mem_filter.mpr ⟨List.mem_append_left _ (List.mem_of_getElem? (i := 1) (by decide +kernel)), by decide +kernel⟩
theorem sw_2 : Cond.selects "ImageReader" ⟨"ImageReader", "placeOfRefusal", "(LImageReader$Image;)I"⟩ ⟨"ImageReader", "placeOfRefusal", "(LImageReader$Image;)I"⟩ ∈ av_tb := List.mem_filter.mpr ⟨List.mem_append_left _ (List.mem_of_getElem? (i := 2) (by decide +kernel)), by decide +kernel⟩
theorem sw_3 : Cond.selects "ImageReader$Bytes" ⟨"ImageReader$Bytes", "reaches", "(II)Z"⟩ ⟨"ImageReader$Bytes", "reaches", "(II)Z"⟩ ∈ av_tb := List.mem_filter.mpr ⟨List.mem_append_left _ (List.mem_of_getElem? (i := 3) (by decide +kernel)), by decide +kernel⟩
theorem sw_4 : Cond.selects "ImageReader$Bytes" ⟨"ImageReader$Bytes", "pairAt", "(I)I"⟩ ⟨"ImageReader$Bytes", "pairAt", "(I)I"⟩ ∈ av_tb := List.mem_filter.mpr ⟨List.mem_append_left _ (List.mem_of_getElem? (i := 4) (by decide +kernel)), by decide +kernel⟩
theorem sw_5 : Cond.selects "ImageReader$Image" ⟨"ImageReader$Image", "clear", "()V"⟩ ⟨"ImageReader$Image", "clear", "()V"⟩ ∈ av_tb := List.mem_filter.mpr ⟨List.mem_append_left _ (List.mem_of_getElem? (i := 5) (by decide +kernel)), by decide +kernel⟩
theorem sw_6 : Cond.selects "ImageReader$Bytes" ⟨"ImageReader$Bytes", "wordAt", "(I)I"⟩ ⟨"ImageReader$Bytes", "wordAt", "(I)I"⟩ ∈ av_tb := List.mem_filter.mpr ⟨List.mem_append_left _ (List.mem_of_getElem? (i := 6) (by decide +kernel)), by decide +kernel⟩
theorem sw_7 : Cond.selects "ImageReader$Image" ⟨"ImageReader$Image", "addObject", "(III)V"⟩ ⟨"ImageReader$Image", "addObject", "(III)V"⟩ ∈ av_tb := List.mem_filter.mpr ⟨List.mem_append_left _ (List.mem_of_getElem? (i := 7) (by decide +kernel)), by decide +kernel⟩
theorem sw_8 : Cond.selects "ImageReader$Image" ⟨"ImageReader$Image", "addPart", "(I)V"⟩ ⟨"ImageReader$Image", "addPart", "(I)V"⟩ ∈ av_tb := List.mem_filter.mpr ⟨List.mem_append_left _ (List.mem_of_getElem? (i := 8) (by decide +kernel)), by decide +kernel⟩
theorem sw_9 : Cond.selects "ImageReader$Image" ⟨"ImageReader$Image", "specialAt", "(I)I"⟩ ⟨"ImageReader$Image", "specialAt", "(I)I"⟩ ∈ av_tb := List.mem_filter.mpr ⟨List.mem_append_left _ (List.mem_of_getElem? (i := 9) (by decide +kernel)), by decide +kernel⟩
theorem sw_10 : Cond.selects "ImageReader$Image" ⟨"ImageReader$Image", "objectOf", "(I)I"⟩ ⟨"ImageReader$Image", "objectOf", "(I)I"⟩ ∈ av_tb := List.mem_filter.mpr ⟨List.mem_append_left _ (List.mem_of_getElem? (i := 10) (by decide +kernel)), by decide +kernel⟩
theorem sw_11 : Cond.selects "ImageReader$Image" ⟨"ImageReader$Image", "holds", "(I)Z"⟩ ⟨"ImageReader$Image", "holds", "(I)Z"⟩ ∈ av_tb := List.mem_filter.mpr ⟨List.mem_append_left _ (List.mem_of_getElem? (i := 11) (by decide +kernel)), by decide +kernel⟩
theorem sw_12 : Cond.selects "ImageReader$Image" ⟨"ImageReader$Image", "fieldAt", "(II)I"⟩ ⟨"ImageReader$Image", "fieldAt", "(II)I"⟩ ∈ av_tb := List.mem_filter.mpr ⟨List.mem_append_left _ (List.mem_of_getElem? (i := 12) (by decide +kernel)), by decide +kernel⟩
theorem sw_13 : Cond.selects "ImageReader$Image" ⟨"ImageReader$Image", "hasPart", "(II)Z"⟩ ⟨"ImageReader$Image", "hasPart", "(II)Z"⟩ ∈ av_tb := List.mem_filter.mpr ⟨List.mem_append_left _ (List.mem_of_getElem? (i := 13) (by decide +kernel)), by decide +kernel⟩
theorem sw_14 : Cond.selects "ImageReader$Image" ⟨"ImageReader$Image", "fieldCount", "(I)I"⟩ ⟨"ImageReader$Image", "fieldCount", "(I)I"⟩ ∈ av_tb := List.mem_filter.mpr ⟨List.mem_append_left _ (List.mem_of_getElem? (i := 14) (by decide +kernel)), by decide +kernel⟩
theorem sw_15 : Cond.selects "ImageReader$Image" ⟨"ImageReader$Image", "isContext", "(I)Z"⟩ ⟨"ImageReader$Image", "isContext", "(I)Z"⟩ ∈ av_tb := List.mem_filter.mpr ⟨List.mem_append_left _ (List.mem_of_getElem? (i := 15) (by decide +kernel)), by decide +kernel⟩
theorem sw_16 : Cond.selects "ImageReader$Image" ⟨"ImageReader$Image", "isOfSpecialClass", "(II)Z"⟩ ⟨"ImageReader$Image", "isOfSpecialClass", "(II)Z"⟩ ∈ av_tb := List.mem_filter.mpr ⟨List.mem_append_left _ (List.mem_of_getElem? (i := 16) (by decide +kernel)), by decide +kernel⟩
theorem sw_17 : Cond.selects "ImageReader$Image" ⟨"ImageReader$Image", "classAt", "(I)I"⟩ ⟨"ImageReader$Image", "classAt", "(I)I"⟩ ∈ av_tb := List.mem_filter.mpr ⟨List.mem_append_left _ (List.mem_of_getElem? (i := 17) (by decide +kernel)), by decide +kernel⟩
theorem sw_18 : Cond.selects "ImageReader$Image" ⟨"ImageReader$Image", "isOfBytes", "(I)Z"⟩ ⟨"ImageReader$Image", "isOfBytes", "(I)Z"⟩ ∈ av_tb := List.mem_filter.mpr ⟨List.mem_append_left _ (List.mem_of_getElem? (i := 18) (by decide +kernel)), by decide +kernel⟩
theorem sw_19 : Cond.selects "ImageReader$Image" ⟨"ImageReader$Image", "bodyByteAt", "(II)I"⟩ ⟨"ImageReader$Image", "bodyByteAt", "(II)I"⟩ ∈ av_tb := List.mem_filter.mpr ⟨List.mem_append_left _ (List.mem_of_getElem? (i := 19) (by decide +kernel)), by decide +kernel⟩
theorem sw_20 : Cond.selects "ImageReader$Walk" ⟨"ImageReader$Walk", "reach", "(LImageReader$Image;)I"⟩ ⟨"ImageReader$Walk", "reach", "(LImageReader$Image;)I"⟩ ∈ av_tb := List.mem_filter.mpr ⟨List.mem_append_left _ (List.mem_of_getElem? (i := 20) (by decide +kernel)), by decide +kernel⟩
theorem sw_21 : Cond.selects "ImageReader$Walk" ⟨"ImageReader$Walk", "clear", "(LImageReader$Image;)V"⟩ ⟨"ImageReader$Walk", "clear", "(LImageReader$Image;)V"⟩ ∈ av_tb := List.mem_filter.mpr ⟨List.mem_append_left _ (List.mem_of_getElem? (i := 21) (by decide +kernel)), by decide +kernel⟩
theorem sw_22 : Cond.selects "ImageReader$Walk" ⟨"ImageReader$Walk", "visit", "(I)V"⟩ ⟨"ImageReader$Walk", "visit", "(I)V"⟩ ∈ av_tb := List.mem_filter.mpr ⟨List.mem_append_left _ (List.mem_of_getElem? (i := 22) (by decide +kernel)), by decide +kernel⟩
theorem sw_23 : Cond.selects "ImageReader$Walk" ⟨"ImageReader$Walk", "numberAnew", "(LImageReader$Image;)V"⟩ ⟨"ImageReader$Walk", "numberAnew", "(LImageReader$Image;)V"⟩ ∈ av_tb := List.mem_filter.mpr ⟨List.mem_append_left _ (List.mem_of_getElem? (i := 23) (by decide +kernel)), by decide +kernel⟩
theorem sw_24 : Cond.selects "ImageReader" ⟨"ImageReader", "writeHead", "(I)V"⟩ ⟨"ImageReader", "writeHead", "(I)V"⟩ ∈ av_tb := List.mem_filter.mpr ⟨List.mem_append_left _ (List.mem_of_getElem? (i := 24) (by decide +kernel)), by decide +kernel⟩
theorem sw_25 : Cond.selects "ImageReader$Bytes" ⟨"ImageReader$Bytes", "add", "(I)V"⟩ ⟨"ImageReader$Bytes", "add", "(I)V"⟩ ∈ av_tb := List.mem_filter.mpr ⟨List.mem_append_left _ (List.mem_of_getElem? (i := 25) (by decide +kernel)), by decide +kernel⟩
theorem sw_26 : Cond.selects "ImageReader$Bytes" ⟨"ImageReader$Bytes", "addPair", "(I)V"⟩ ⟨"ImageReader$Bytes", "addPair", "(I)V"⟩ ∈ av_tb := List.mem_filter.mpr ⟨List.mem_append_left _ (List.mem_of_getElem? (i := 26) (by decide +kernel)), by decide +kernel⟩
theorem sw_27 : Cond.selects "ImageReader$Walk" ⟨"ImageReader$Walk", "renumbered", "(LImageReader$Image;I)I"⟩ ⟨"ImageReader$Walk", "renumbered", "(LImageReader$Image;I)I"⟩ ∈ av_tb := List.mem_filter.mpr ⟨List.mem_append_left _ (List.mem_of_getElem? (i := 27) (by decide +kernel)), by decide +kernel⟩
theorem sw_28 : Cond.selects "ImageReader$Bytes" ⟨"ImageReader$Bytes", "addWord", "(I)V"⟩ ⟨"ImageReader$Bytes", "addWord", "(I)V"⟩ ∈ av_tb := List.mem_filter.mpr ⟨List.mem_append_left _ (List.mem_of_getElem? (i := 28) (by decide +kernel)), by decide +kernel⟩
theorem sw_29 : Cond.selects "ImageReader" ⟨"ImageReader", "writeObject", "(I)V"⟩ ⟨"ImageReader", "writeObject", "(I)V"⟩ ∈ av_tb := List.mem_filter.mpr ⟨List.mem_append_left _ (List.mem_of_getElem? (i := 29) (by decide +kernel)), by decide +kernel⟩
theorem sw_30 : Cond.selects "ImageReader$Pairing" ⟨"ImageReader$Pairing", "pairs", "(LImageReader$Image;LImageReader$Image;)Z"⟩ ⟨"ImageReader$Pairing", "pairs", "(LImageReader$Image;LImageReader$Image;)Z"⟩ ∈ av_tb := List.mem_filter.mpr ⟨List.mem_append_left _ (List.mem_of_getElem? (i := 30) (by decide +kernel)), by decide +kernel⟩
theorem sw_31 : Cond.selects "ImageReader$Pairing" ⟨"ImageReader$Pairing", "clear", "(LImageReader$Image;LImageReader$Image;)V"⟩ ⟨"ImageReader$Pairing", "clear", "(LImageReader$Image;LImageReader$Image;)V"⟩ ∈ av_tb := List.mem_filter.mpr ⟨List.mem_append_left _ (List.mem_of_getElem? (i := 31) (by decide +kernel)), by decide +kernel⟩
theorem sw_32 : Cond.selects "ImageReader$Pairing" ⟨"ImageReader$Pairing", "match", "(LImageReader$Image;ILImageReader$Image;I)Z"⟩ ⟨"ImageReader$Pairing", "match", "(LImageReader$Image;ILImageReader$Image;I)Z"⟩ ∈ av_tb := List.mem_filter.mpr ⟨List.mem_append_left _ (List.mem_of_getElem? (i := 32) (by decide +kernel)), by decide +kernel⟩
theorem sw_33 : Cond.selects "ImageReader$Pairing" ⟨"ImageReader$Pairing", "matchBodies", "(LImageReader$Image;ILImageReader$Image;I)Z"⟩ ⟨"ImageReader$Pairing", "matchBodies", "(LImageReader$Image;ILImageReader$Image;I)Z"⟩ ∈ av_tb := List.mem_filter.mpr ⟨List.mem_append_left _ (List.mem_of_getElem? (i := 33) (by decide +kernel)), by decide +kernel⟩
theorem sw_35 : Cond.selects "ImageReaderModel" ⟨"ImageReaderModel", "place", "()I"⟩ ⟨"ImageReaderModel", "place", "()I"⟩ ∈ av_tb := List.mem_filter.mpr ⟨List.mem_append_left _ (List.mem_of_getElem? (i := 35) (by decide +kernel)), by decide +kernel⟩
theorem sw_36 : Cond.selects "ImageReaderModel" ⟨"ImageReaderModel", "stepHead", "()I"⟩ ⟨"ImageReaderModel", "stepHead", "()I"⟩ ∈ av_tb := List.mem_filter.mpr ⟨List.mem_append_left _ (List.mem_of_getElem? (i := 36) (by decide +kernel)), by decide +kernel⟩
theorem sw_37 : Cond.selects "ImageReaderModel" ⟨"ImageReaderModel", "stepValues", "()I"⟩ ⟨"ImageReaderModel", "stepValues", "()I"⟩ ∈ av_tb := List.mem_filter.mpr ⟨List.mem_append_left _ (List.mem_of_getElem? (i := 37) (by decide +kernel)), by decide +kernel⟩
theorem sw_38 : Cond.selects "ImageReaderModel" ⟨"ImageReaderModel", "isValue", "(I)Z"⟩ ⟨"ImageReaderModel", "isValue", "(I)Z"⟩ ∈ av_tb := List.mem_filter.mpr ⟨List.mem_append_left _ (List.mem_of_getElem? (i := 38) (by decide +kernel)), by decide +kernel⟩
theorem sw_39 : Cond.selects "ImageReaderModel" ⟨"ImageReaderModel", "stepRoom", "()I"⟩ ⟨"ImageReaderModel", "stepRoom", "()I"⟩ ∈ av_tb := List.mem_filter.mpr ⟨List.mem_append_left _ (List.mem_of_getElem? (i := 39) (by decide +kernel)), by decide +kernel⟩
theorem sw_40 : Cond.selects "ImageReaderModel" ⟨"ImageReaderModel", "stepSpecials", "()I"⟩ ⟨"ImageReaderModel", "stepSpecials", "()I"⟩ ∈ av_tb := List.mem_filter.mpr ⟨List.mem_append_left _ (List.mem_of_getElem? (i := 40) (by decide +kernel)), by decide +kernel⟩
theorem sw_41 : Cond.selects "ImageReaderModel" ⟨"ImageReaderModel", "isClass", "(I)Z"⟩ ⟨"ImageReaderModel", "isClass", "(I)Z"⟩ ∈ av_tb := List.mem_filter.mpr ⟨List.mem_append_left _ (List.mem_of_getElem? (i := 41) (by decide +kernel)), by decide +kernel⟩
theorem sw_42 : Cond.selects "ImageReaderModel" ⟨"ImageReaderModel", "hasFields", "(II)Z"⟩ ⟨"ImageReaderModel", "hasFields", "(II)Z"⟩ ∈ av_tb := List.mem_filter.mpr ⟨List.mem_append_left _ (List.mem_of_getElem? (i := 42) (by decide +kernel)), by decide +kernel⟩
theorem sw_43 : Cond.selects "ImageReaderModel" ⟨"ImageReaderModel", "fieldOf", "(II)I"⟩ ⟨"ImageReaderModel", "fieldOf", "(II)I"⟩ ∈ av_tb := List.mem_filter.mpr ⟨List.mem_append_left _ (List.mem_of_getElem? (i := 43) (by decide +kernel)), by decide +kernel⟩
theorem sw_44 : Cond.selects "ImageReaderModel" ⟨"ImageReaderModel", "isContext", "(I)Z"⟩ ⟨"ImageReaderModel", "isContext", "(I)Z"⟩ ∈ av_tb := List.mem_filter.mpr ⟨List.mem_append_left _ (List.mem_of_getElem? (i := 44) (by decide +kernel)), by decide +kernel⟩
theorem sw_45 : Cond.selects "ImageReaderModel" ⟨"ImageReaderModel", "stepObjects", "()I"⟩ ⟨"ImageReaderModel", "stepObjects", "()I"⟩ ∈ av_tb := List.mem_filter.mpr ⟨List.mem_append_left _ (List.mem_of_getElem? (i := 45) (by decide +kernel)), by decide +kernel⟩
theorem sw_46 : Cond.selects "ImageReaderModel" ⟨"ImageReaderModel", "isRightObject", "(I)Z"⟩ ⟨"ImageReaderModel", "isRightObject", "(I)Z"⟩ ∈ av_tb := List.mem_filter.mpr ⟨List.mem_append_left _ (List.mem_of_getElem? (i := 46) (by decide +kernel)), by decide +kernel⟩
theorem sw_47 : Cond.selects "ImageReaderModel" ⟨"ImageReaderModel", "isMethodContext", "(I)Z"⟩ ⟨"ImageReaderModel", "isMethodContext", "(I)Z"⟩ ∈ av_tb := List.mem_filter.mpr ⟨List.mem_append_left _ (List.mem_of_getElem? (i := 47) (by decide +kernel)), by decide +kernel⟩
theorem sw_48 : Cond.selects "ImageReaderModel" ⟨"ImageReaderModel", "isMethod", "(I)Z"⟩ ⟨"ImageReaderModel", "isMethod", "(I)Z"⟩ ∈ av_tb := List.mem_filter.mpr ⟨List.mem_append_left _ (List.mem_of_getElem? (i := 48) (by decide +kernel)), by decide +kernel⟩
theorem sw_49 : Cond.selects "ImageReaderModel" ⟨"ImageReaderModel", "temporaries", "(I)I"⟩ ⟨"ImageReaderModel", "temporaries", "(I)I"⟩ ∈ av_tb := List.mem_filter.mpr ⟨List.mem_append_left _ (List.mem_of_getElem? (i := 49) (by decide +kernel)), by decide +kernel⟩
theorem sw_50 : Cond.selects "ImageReaderModel" ⟨"ImageReaderModel", "depth", "(I)I"⟩ ⟨"ImageReaderModel", "depth", "(I)I"⟩ ∈ av_tb := List.mem_filter.mpr ⟨List.mem_append_left _ (List.mem_of_getElem? (i := 50) (by decide +kernel)), by decide +kernel⟩
theorem sw_51 : Cond.selects "ImageReaderModel" ⟨"ImageReaderModel", "isNumberFrom", "(III)Z"⟩ ⟨"ImageReaderModel", "isNumberFrom", "(III)Z"⟩ ∈ av_tb := List.mem_filter.mpr ⟨List.mem_append_left _ (List.mem_of_getElem? (i := 51) (by decide +kernel)), by decide +kernel⟩
theorem sw_52 : Cond.selects "ImageReaderModel" ⟨"ImageReaderModel", "isCommon", "(II)Z"⟩ ⟨"ImageReaderModel", "isCommon", "(II)Z"⟩ ∈ av_tb := List.mem_filter.mpr ⟨List.mem_append_left _ (List.mem_of_getElem? (i := 52) (by decide +kernel)), by decide +kernel⟩
theorem sw_53 : Cond.selects "ImageReaderModel" ⟨"ImageReaderModel", "isBlockContext", "(I)Z"⟩ ⟨"ImageReaderModel", "isBlockContext", "(I)Z"⟩ ∈ av_tb := List.mem_filter.mpr ⟨List.mem_append_left _ (List.mem_of_getElem? (i := 53) (by decide +kernel)), by decide +kernel⟩
theorem sw_54 : Cond.selects "ImageReaderModel" ⟨"ImageReaderModel", "stepProcess", "()I"⟩ ⟨"ImageReaderModel", "stepProcess", "()I"⟩ ∈ av_tb := List.mem_filter.mpr ⟨List.mem_append_left _ (List.mem_of_getElem? (i := 54) (by decide +kernel)), by decide +kernel⟩
theorem sw_55 : Cond.selects "ImageReaderModel" ⟨"ImageReaderModel", "isThere", "(I)Z"⟩ ⟨"ImageReaderModel", "isThere", "(I)Z"⟩ ∈ av_tb := List.mem_filter.mpr ⟨List.mem_append_left _ (List.mem_of_getElem? (i := 55) (by decide +kernel)), by decide +kernel⟩
theorem sw_56 : Cond.selects "ImageReaderModel" ⟨"ImageReaderModel", "reachAll", "()V"⟩ ⟨"ImageReaderModel", "reachAll", "()V"⟩ ∈ av_tb := List.mem_filter.mpr ⟨List.mem_append_left _ (List.mem_of_getElem? (i := 56) (by decide +kernel)), by decide +kernel⟩
theorem sw_57 : Cond.selects "ImageReaderModel" ⟨"ImageReaderModel", "reach", "(I)V"⟩ ⟨"ImageReaderModel", "reach", "(I)V"⟩ ∈ av_tb := List.mem_filter.mpr ⟨List.mem_append_left _ (List.mem_of_getElem? (i := 57) (by decide +kernel)), by decide +kernel⟩
theorem sw_58 : Cond.selects "ImageReaderModel" ⟨"ImageReaderModel", "put", "(II)V"⟩ ⟨"ImageReaderModel", "put", "(II)V"⟩ ∈ av_tb := List.mem_filter.mpr ⟨List.mem_append_left _ (List.mem_of_getElem? (i := 58) (by decide +kernel)), by decide +kernel⟩
theorem sw_59 : Cond.selects "ImageReaderModel" ⟨"ImageReaderModel", "renumbered", "(I)I"⟩ ⟨"ImageReaderModel", "renumbered", "(I)I"⟩ ∈ av_tb := List.mem_filter.mpr ⟨List.mem_append_left _ (List.mem_of_getElem? (i := 59) (by decide +kernel)), by decide +kernel⟩
theorem sw_60 : Cond.selects "ImageReaderModel" ⟨"ImageReaderModel", "goes", "(II)Z"⟩ ⟨"ImageReaderModel", "goes", "(II)Z"⟩ ∈ av_tb := List.mem_filter.mpr ⟨List.mem_append_left _ (List.mem_of_getElem? (i := 60) (by decide +kernel)), by decide +kernel⟩
theorem sw_61 : Cond.selects "ImageReaderModel" ⟨"ImageReaderModel", "goTogether", "(I)Z"⟩ ⟨"ImageReaderModel", "goTogether", "(I)Z"⟩ ∈ av_tb := List.mem_filter.mpr ⟨List.mem_append_left _ (List.mem_of_getElem? (i := 61) (by decide +kernel)), by decide +kernel⟩
theorem nc_Law_8 : av_cls "ImageReaderLaw" 8 0 [.null, .null, .null, .null, .null, .null, .null, .null] 8 := ⟨"ImageReader", F_R, t_R, rfl, i_R, t_R_ok, tw_17, tw_18, tw_1, by decide +kernel⟩
theorem ci_Law_21 : av_cI "ImageReaderLaw" 21 y_R_init b_R_init 1 0 := ⟨⟨tw_20, tw_1, tw_21, rfl⟩, ⟨by decide +kernel, by decide +kernel, by decide +kernel⟩, Or.inl tw_19⟩
theorem nc_R_7 : av_cls "ImageReader" 7 1 [.null, .int 0] 2 := ⟨"ImageReader$Bytes", F_B, t_B, rfl, i_B, t_B_ok, tw_25, tw_26, tw_2, by decide +kernel⟩
theorem ci_R_9 : av_cI "ImageReader" 9 y_B_init b_B_init 1 0 := ⟨⟨tw_28, tw_2, tw_29, rfl⟩, ⟨by decide +kernel, by decide +kernel, by decide +kernel⟩, Or.inr ⟨"ImageReader", nw_27⟩⟩
theorem fl_B_9 : av_fld "ImageReader$Bytes" 9 1 0 := ⟨"ImageReader$Bytes", F_B, 2, rfl, i_B, by decide, Or.inl tw_31⟩
theorem pt_B_9 (ini : Bool) : av_put "ImageReader$Bytes" 9 1 0 ini (.array .byte) := ⟨"ImageReader$Bytes", F_B, 2, t_B, rfl, i_B, by decide, t_B_ok, n_B, rfl, Or.inl rfl, Or.inl tw_31⟩
theorem fl_R_74 : av_fld "ImageReader" 74 1 0 := ⟨"ImageReader$Bytes", F_B, 2, rfl, i_B, by decide, Or.inr ⟨"ImageReader", nw_32⟩⟩
theorem pt_R_74 (ini : Bool) : av_put "ImageReader" 74 1 0 ini (.array .byte) := ⟨"ImageReader$Bytes", F_B, 2, t_B, rfl, i_B, by decide, t_B_ok, n_B, rfl, Or.inl rfl, Or.inr ⟨rfl, "ImageReader", nw_32⟩⟩
theorem fl_R_49 : av_fld "ImageReader" 49 1 1 := ⟨"ImageReader$Bytes", F_B, 2, rfl, i_B, by decide, Or.inr ⟨"ImageReader", nw_33⟩⟩
theorem pt_R_49 (ini : Bool) : av_put "ImageReader" 49 1 1 ini .int := ⟨"ImageReader$Bytes", F_B, 2, t_B, rfl, i_B, by decide, t_B_ok, n_B, rfl, Or.inl rfl, Or.inr ⟨rfl, "ImageReader", nw_33⟩⟩
theorem fl_B_15 : av_fld "ImageReader$Bytes" 15 1 1 := ⟨"ImageReader$Bytes", F_B, 2, rfl, i_B, by decide, Or.inl tw_34⟩
theorem pt_B_15 (ini : Bool) : av_put "ImageReader$Bytes" 15 1 1 ini .int := ⟨"ImageReader$Bytes", F_B, 2, t_B, rfl, i_B, by decide, t_B_ok, n_B, rfl, Or.inl rfl, Or.inl tw_34⟩
theorem fl_L_26 : av_fld "ImageReader$Layout" 26 1 1 := ⟨"ImageReader$Bytes", F_B, 2, rfl, i_B, by decide, Or.inr ⟨"ImageReader", nw_35⟩⟩
theorem pt_L_26 (ini : Bool) : av_put "ImageReader$Layout" 26 1 1 ini .int := ⟨"ImageReader$Bytes", F_B, 2, t_B, rfl, i_B, by decide, t_B_ok, n_B, rfl, Or.inl rfl, Or.inr ⟨rfl, "ImageReader", nw_35⟩⟩
theorem nc_R_16 : av_cls "ImageReader" 16 2 [.null, .null, .null, .null, .null, .null, .int 0, .int 0, .int 0, .int 0, .int 0] 11 := ⟨"ImageReader$Image", F_I, t_I, rfl, i_I, t_I_ok, tw_42, tw_43, tw_3, by decide +kernel⟩
theorem ci_R_18 : av_cI "ImageReader" 18 y_I_init b_I_init 1 0 := ⟨⟨tw_45, tw_3, tw_46, rfl⟩, ⟨by decide +kernel, by decide +kernel, by decide +kernel⟩, Or.inr ⟨"ImageReader", nw_44⟩⟩
theorem fl_I_9 : av_fld "ImageReader$Image" 9 2 0 := ⟨"ImageReader$Image", F_I, 11, rfl, i_I, by decide, Or.inl tw_48⟩
theorem pt_I_9 : av_put "ImageReader$Image" 9 2 0 true (.array .int) := ⟨"ImageReader$Image", F_I, 11, t_I, rfl, i_I, by decide, t_I_ok, n_I, rfl, Or.inr ⟨rfl, rfl⟩, Or.inl tw_48⟩
theorem fl_W_22 : av_fld "ImageReader$Walk" 22 2 0 := ⟨"ImageReader$Image", F_I, 11, rfl, i_I, by decide, Or.inr ⟨"ImageReader", nw_49⟩⟩
theorem fl_P_34 : av_fld "ImageReader$Pairing" 34 2 0 := ⟨"ImageReader$Image", F_I, 11, rfl, i_I, by decide, Or.inr ⟨"ImageReader", nw_50⟩⟩
theorem fl_L_50 : av_fld "ImageReader$Layout" 50 2 0 := ⟨"ImageReader$Image", F_I, 11, rfl, i_I, by decide, Or.inr ⟨"ImageReader", nw_51⟩⟩
theorem fl_R_130 : av_fld "ImageReader" 130 2 0 := ⟨"ImageReader$Image", F_I, 11, rfl, i_I, by decide, Or.inr ⟨"ImageReader", nw_52⟩⟩
theorem fl_I_15 : av_fld "ImageReader$Image" 15 2 1 := ⟨"ImageReader$Image", F_I, 11, rfl, i_I, by decide, Or.inl tw_53⟩
theorem pt_I_15 (ini : Bool) : av_put "ImageReader$Image" 15 2 1 ini (.array .int) := ⟨"ImageReader$Image", F_I, 11, t_I, rfl, i_I, by decide, t_I_ok, n_I, rfl, Or.inl rfl, Or.inl tw_53⟩
theorem fl_P_50 : av_fld "ImageReader$Pairing" 50 2 1 := ⟨"ImageReader$Image", F_I, 11, rfl, i_I, by decide, Or.inr ⟨"ImageReader", nw_54⟩⟩
theorem pt_P_50 (ini : Bool) : av_put "ImageReader$Pairing" 50 2 1 ini (.array .int) := ⟨"ImageReader$Image", F_I, 11, t_I, rfl, i_I, by decide, t_I_ok, n_I, rfl, Or.inl rfl, Or.inr ⟨rfl, "ImageReader", nw_54⟩⟩
theorem fl_W_52 : av_fld "ImageReader$Walk" 52 2 1 := ⟨"ImageReader$Image", F_I, 11, rfl, i_I, by decide, Or.inr ⟨"ImageReader", nw_55⟩⟩
theorem pt_W_52 (ini : Bool) : av_put "ImageReader$Walk" 52 2 1 ini (.array .int) := ⟨"ImageReader$Image", F_I, 11, t_I, rfl, i_I, by decide, t_I_ok, n_I, rfl, Or.inl rfl, Or.inr ⟨rfl, "ImageReader", nw_55⟩⟩
theorem fl_R_189 : av_fld "ImageReader" 189 2 1 := ⟨"ImageReader$Image", F_I, 11, rfl, i_I, by decide, Or.inr ⟨"ImageReader", nw_56⟩⟩
theorem pt_R_189 (ini : Bool) : av_put "ImageReader" 189 2 1 ini (.array .int) := ⟨"ImageReader$Image", F_I, 11, t_I, rfl, i_I, by decide, t_I_ok, n_I, rfl, Or.inl rfl, Or.inr ⟨rfl, "ImageReader", nw_56⟩⟩
theorem fl_I_18 : av_fld "ImageReader$Image" 18 2 2 := ⟨"ImageReader$Image", F_I, 11, rfl, i_I, by decide, Or.inl tw_57⟩
theorem pt_I_18 (ini : Bool) : av_put "ImageReader$Image" 18 2 2 ini (.array .int) := ⟨"ImageReader$Image", F_I, 11, t_I, rfl, i_I, by decide, t_I_ok, n_I, rfl, Or.inl rfl, Or.inl tw_57⟩
theorem fl_P_69 : av_fld "ImageReader$Pairing" 69 2 2 := ⟨"ImageReader$Image", F_I, 11, rfl, i_I, by decide, Or.inr ⟨"ImageReader", nw_58⟩⟩
theorem pt_P_69 (ini : Bool) : av_put "ImageReader$Pairing" 69 2 2 ini (.array .int) := ⟨"ImageReader$Image", F_I, 11, t_I, rfl, i_I, by decide, t_I_ok, n_I, rfl, Or.inl rfl, Or.inr ⟨rfl, "ImageReader", nw_58⟩⟩
theorem fl_F_63 : av_fld "ImageReader$Form" 63 2 2 := ⟨"ImageReader$Image", F_I, 11, rfl, i_I, by decide, Or.inr ⟨"ImageReader", nw_59⟩⟩
theorem pt_F_63 (ini : Bool) : av_put "ImageReader$Form" 63 2 2 ini (.array .int) := ⟨"ImageReader$Image", F_I, 11, t_I, rfl, i_I, by decide, t_I_ok, n_I, rfl, Or.inl rfl, Or.inr ⟨rfl, "ImageReader", nw_59⟩⟩
theorem fl_R_103 : av_fld "ImageReader" 103 2 2 := ⟨"ImageReader$Image", F_I, 11, rfl, i_I, by decide, Or.inr ⟨"ImageReader", nw_60⟩⟩
theorem pt_R_103 (ini : Bool) : av_put "ImageReader" 103 2 2 ini (.array .int) := ⟨"ImageReader$Image", F_I, 11, t_I, rfl, i_I, by decide, t_I_ok, n_I, rfl, Or.inl rfl, Or.inr ⟨rfl, "ImageReader", nw_60⟩⟩
theorem fl_I_21 : av_fld "ImageReader$Image" 21 2 3 := ⟨"ImageReader$Image", F_I, 11, rfl, i_I, by decide, Or.inl tw_61⟩
theorem pt_I_21 (ini : Bool) : av_put "ImageReader$Image" 21 2 3 ini (.array .int) := ⟨"ImageReader$Image", F_I, 11, t_I, rfl, i_I, by decide, t_I_ok, n_I, rfl, Or.inl rfl, Or.inl tw_61⟩
theorem fl_P_72 : av_fld "ImageReader$Pairing" 72 2 3 := ⟨"ImageReader$Image", F_I, 11, rfl, i_I, by decide, Or.inr ⟨"ImageReader", nw_62⟩⟩
theorem pt_P_72 (ini : Bool) : av_put "ImageReader$Pairing" 72 2 3 ini (.array .int) := ⟨"ImageReader$Image", F_I, 11, t_I, rfl, i_I, by decide, t_I_ok, n_I, rfl, Or.inl rfl, Or.inr ⟨rfl, "ImageReader", nw_62⟩⟩
theorem fl_F_67 : av_fld "ImageReader$Form" 67 2 3 := ⟨"ImageReader$Image", F_I, 11, rfl, i_I, by decide, Or.inr ⟨"ImageReader", nw_63⟩⟩
theorem pt_F_67 (ini : Bool) : av_put "ImageReader$Form" 67 2 3 ini (.array .int) := ⟨"ImageReader$Image", F_I, 11, t_I, rfl, i_I, by decide, t_I_ok, n_I, rfl, Or.inl rfl, Or.inr ⟨rfl, "ImageReader", nw_63⟩⟩
theorem fl_R_110 : av_fld "ImageReader" 110 2 3 := ⟨"ImageReader$Image", F_I, 11, rfl, i_I, by decide, Or.inr ⟨"ImageReader", nw_64⟩⟩
theorem pt_R_110 (ini : Bool) : av_put "ImageReader" 110 2 3 ini (.array .int) := ⟨"ImageReader$Image", F_I, 11, t_I, rfl, i_I, by decide, t_I_ok, n_I, rfl, Or.inl rfl, Or.inr ⟨rfl, "ImageReader", nw_64⟩⟩
theorem fl_I_24 : av_fld "ImageReader$Image" 24 2 4 := ⟨"ImageReader$Image", F_I, 11, rfl, i_I, by decide, Or.inl tw_65⟩
theorem pt_I_24 (ini : Bool) : av_put "ImageReader$Image" 24 2 4 ini (.array .int) := ⟨"ImageReader$Image", F_I, 11, t_I, rfl, i_I, by decide, t_I_ok, n_I, rfl, Or.inl rfl, Or.inl tw_65⟩
theorem fl_P_78 : av_fld "ImageReader$Pairing" 78 2 4 := ⟨"ImageReader$Image", F_I, 11, rfl, i_I, by decide, Or.inr ⟨"ImageReader", nw_66⟩⟩
theorem pt_P_78 (ini : Bool) : av_put "ImageReader$Pairing" 78 2 4 ini (.array .int) := ⟨"ImageReader$Image", F_I, 11, t_I, rfl, i_I, by decide, t_I_ok, n_I, rfl, Or.inl rfl, Or.inr ⟨rfl, "ImageReader", nw_66⟩⟩
theorem fl_R_195 : av_fld "ImageReader" 195 2 4 := ⟨"ImageReader$Image", F_I, 11, rfl, i_I, by decide, Or.inr ⟨"ImageReader", nw_67⟩⟩
theorem pt_R_195 (ini : Bool) : av_put "ImageReader" 195 2 4 ini (.array .int) := ⟨"ImageReader$Image", F_I, 11, t_I, rfl, i_I, by decide, t_I_ok, n_I, rfl, Or.inl rfl, Or.inr ⟨rfl, "ImageReader", nw_67⟩⟩
theorem fl_I_27 : av_fld "ImageReader$Image" 27 2 5 := ⟨"ImageReader$Image", F_I, 11, rfl, i_I, by decide, Or.inl tw_68⟩
theorem pt_I_27 (ini : Bool) : av_put "ImageReader$Image" 27 2 5 ini (.array .int) := ⟨"ImageReader$Image", F_I, 11, t_I, rfl, i_I, by decide, t_I_ok, n_I, rfl, Or.inl rfl, Or.inl tw_68⟩
theorem fl_P_75 : av_fld "ImageReader$Pairing" 75 2 5 := ⟨"ImageReader$Image", F_I, 11, rfl, i_I, by decide, Or.inr ⟨"ImageReader", nw_69⟩⟩
theorem pt_P_75 (ini : Bool) : av_put "ImageReader$Pairing" 75 2 5 ini (.array .int) := ⟨"ImageReader$Image", F_I, 11, t_I, rfl, i_I, by decide, t_I_ok, n_I, rfl, Or.inl rfl, Or.inr ⟨rfl, "ImageReader", nw_69⟩⟩
theorem fl_R_192 : av_fld "ImageReader" 192 2 5 := ⟨"ImageReader$Image", F_I, 11, rfl, i_I, by decide, Or.inr ⟨"ImageReader", nw_70⟩⟩
theorem pt_R_192 (ini : Bool) : av_put "ImageReader" 192 2 5 ini (.array .int) := ⟨"ImageReader$Image", F_I, 11, t_I, rfl, i_I, by decide, t_I_ok, n_I, rfl, Or.inl rfl, Or.inr ⟨rfl, "ImageReader", nw_70⟩⟩
theorem fl_I_30 : av_fld "ImageReader$Image" 30 2 6 := ⟨"ImageReader$Image", F_I, 11, rfl, i_I, by decide, Or.inl tw_71⟩
theorem pt_I_30 (ini : Bool) : av_put "ImageReader$Image" 30 2 6 ini .int := ⟨"ImageReader$Image", F_I, 11, t_I, rfl, i_I, by decide, t_I_ok, n_I, rfl, Or.inl rfl, Or.inl tw_71⟩
theorem fl_I_34 : av_fld "ImageReader$Image" 34 2 7 := ⟨"ImageReader$Image", F_I, 11, rfl, i_I, by decide, Or.inl tw_72⟩
theorem pt_I_34 (ini : Bool) : av_put "ImageReader$Image" 34 2 7 ini .int := ⟨"ImageReader$Image", F_I, 11, t_I, rfl, i_I, by decide, t_I_ok, n_I, rfl, Or.inl rfl, Or.inl tw_72⟩
theorem fl_F_18 : av_fld "ImageReader$Form" 18 2 7 := ⟨"ImageReader$Image", F_I, 11, rfl, i_I, by decide, Or.inr ⟨"ImageReader", nw_73⟩⟩
theorem pt_F_18 (ini : Bool) : av_put "ImageReader$Form" 18 2 7 ini .int := ⟨"ImageReader$Image", F_I, 11, t_I, rfl, i_I, by decide, t_I_ok, n_I, rfl, Or.inl rfl, Or.inr ⟨rfl, "ImageReader", nw_73⟩⟩
theorem fl_W_39 : av_fld "ImageReader$Walk" 39 2 7 := ⟨"ImageReader$Image", F_I, 11, rfl, i_I, by decide, Or.inr ⟨"ImageReader", nw_74⟩⟩
theorem pt_W_39 (ini : Bool) : av_put "ImageReader$Walk" 39 2 7 ini .int := ⟨"ImageReader$Image", F_I, 11, t_I, rfl, i_I, by decide, t_I_ok, n_I, rfl, Or.inl rfl, Or.inr ⟨rfl, "ImageReader", nw_74⟩⟩
theorem fl_P_44 : av_fld "ImageReader$Pairing" 44 2 7 := ⟨"ImageReader$Image", F_I, 11, rfl, i_I, by decide, Or.inr ⟨"ImageReader", nw_75⟩⟩
theorem pt_P_44 (ini : Bool) : av_put "ImageReader$Pairing" 44 2 7 ini .int := ⟨"ImageReader$Image", F_I, 11, t_I, rfl, i_I, by decide, t_I_ok, n_I, rfl, Or.inl rfl, Or.inr ⟨rfl, "ImageReader", nw_75⟩⟩
theorem fl_R_86 : av_fld "ImageReader" 86 2 7 := ⟨"ImageReader$Image", F_I, 11, rfl, i_I, by decide, Or.inr ⟨"ImageReader", nw_76⟩⟩
theorem pt_R_86 (ini : Bool) : av_put "ImageReader" 86 2 7 ini .int := ⟨"ImageReader$Image", F_I, 11, t_I, rfl, i_I, by decide, t_I_ok, n_I, rfl, Or.inl rfl, Or.inr ⟨rfl, "ImageReader", nw_76⟩⟩
theorem fl_F_9 : av_fld "ImageReader$Form" 9 2 8 := ⟨"ImageReader$Image", F_I, 11, rfl, i_I, by decide, Or.inr ⟨"ImageReader", nw_77⟩⟩
theorem pt_F_9 (ini : Bool) : av_put "ImageReader$Form" 9 2 8 ini .int := ⟨"ImageReader$Image", F_I, 11, t_I, rfl, i_I, by decide, t_I_ok, n_I, rfl, Or.inl rfl, Or.inr ⟨rfl, "ImageReader", nw_77⟩⟩
theorem fl_I_37 : av_fld "ImageReader$Image" 37 2 8 := ⟨"ImageReader$Image", F_I, 11, rfl, i_I, by decide, Or.inl tw_78⟩
theorem pt_I_37 (ini : Bool) : av_put "ImageReader$Image" 37 2 8 ini .int := ⟨"ImageReader$Image", F_I, 11, t_I, rfl, i_I, by decide, t_I_ok, n_I, rfl, Or.inl rfl, Or.inl tw_78⟩
theorem fl_R_89 : av_fld "ImageReader" 89 2 8 := ⟨"ImageReader$Image", F_I, 11, rfl, i_I, by decide, Or.inr ⟨"ImageReader", nw_79⟩⟩
theorem pt_R_89 (ini : Bool) : av_put "ImageReader" 89 2 8 ini .int := ⟨"ImageReader$Image", F_I, 11, t_I, rfl, i_I, by decide, t_I_ok, n_I, rfl, Or.inl rfl, Or.inr ⟨rfl, "ImageReader", nw_79⟩⟩
theorem fl_F_15 : av_fld "ImageReader$Form" 15 2 9 := ⟨"ImageReader$Image", F_I, 11, rfl, i_I, by decide, Or.inr ⟨"ImageReader", nw_80⟩⟩
theorem pt_F_15 (ini : Bool) : av_put "ImageReader$Form" 15 2 9 ini .int := ⟨"ImageReader$Image", F_I, 11, t_I, rfl, i_I, by decide, t_I_ok, n_I, rfl, Or.inl rfl, Or.inr ⟨rfl, "ImageReader", nw_80⟩⟩
theorem fl_P_25 : av_fld "ImageReader$Pairing" 25 2 9 := ⟨"ImageReader$Image", F_I, 11, rfl, i_I, by decide, Or.inr ⟨"ImageReader", nw_81⟩⟩
theorem pt_P_25 (ini : Bool) : av_put "ImageReader$Pairing" 25 2 9 ini .int := ⟨"ImageReader$Image", F_I, 11, t_I, rfl, i_I, by decide, t_I_ok, n_I, rfl, Or.inl rfl, Or.inr ⟨rfl, "ImageReader", nw_81⟩⟩
theorem fl_L_38 : av_fld "ImageReader$Layout" 38 2 9 := ⟨"ImageReader$Image", F_I, 11, rfl, i_I, by decide, Or.inr ⟨"ImageReader", nw_82⟩⟩
theorem pt_L_38 (ini : Bool) : av_put "ImageReader$Layout" 38 2 9 ini .int := ⟨"ImageReader$Image", F_I, 11, t_I, rfl, i_I, by decide, t_I_ok, n_I, rfl, Or.inl rfl, Or.inr ⟨rfl, "ImageReader", nw_82⟩⟩
theorem fl_R_180 : av_fld "ImageReader" 180 2 9 := ⟨"ImageReader$Image", F_I, 11, rfl, i_I, by decide, Or.inr ⟨"ImageReader", nw_83⟩⟩
theorem pt_R_180 (ini : Bool) : av_put "ImageReader" 180 2 9 ini .int := ⟨"ImageReader$Image", F_I, 11, t_I, rfl, i_I, by decide, t_I_ok, n_I, rfl, Or.inl rfl, Or.inr ⟨rfl, "ImageReader", nw_83⟩⟩
theorem fl_P_31 : av_fld "ImageReader$Pairing" 31 2 10 := ⟨"ImageReader$Image", F_I, 11, rfl, i_I, by decide, Or.inr ⟨"ImageReader", nw_84⟩⟩
theorem pt_P_31 (ini : Bool) : av_put "ImageReader$Pairing" 31 2 10 ini .int := ⟨"ImageReader$Image", F_I, 11, t_I, rfl, i_I, by decide, t_I_ok, n_I, rfl, Or.inl rfl, Or.inr ⟨rfl, "ImageReader", nw_84⟩⟩
theorem fl_F_21 : av_fld "ImageReader$Form" 21 2 10 := ⟨"ImageReader$Image", F_I, 11, rfl, i_I, by decide, Or.inr ⟨"ImageReader", nw_85⟩⟩
theorem pt_F_21 (ini : Bool) : av_put "ImageReader$Form" 21 2 10 ini .int := ⟨"ImageReader$Image", F_I, 11, t_I, rfl, i_I, by decide, t_I_ok, n_I, rfl, Or.inl rfl, Or.inr ⟨rfl, "ImageReader", nw_85⟩⟩
theorem fl_L_41 : av_fld "ImageReader$Layout" 41 2 10 := ⟨"ImageReader$Image", F_I, 11, rfl, i_I, by decide, Or.inr ⟨"ImageReader", nw_86⟩⟩
theorem pt_L_41 (ini : Bool) : av_put "ImageReader$Layout" 41 2 10 ini .int := ⟨"ImageReader$Image", F_I, 11, t_I, rfl, i_I, by decide, t_I_ok, n_I, rfl, Or.inl rfl, Or.inr ⟨rfl, "ImageReader", nw_86⟩⟩
theorem fl_R_183 : av_fld "ImageReader" 183 2 10 := ⟨"ImageReader$Image", F_I, 11, rfl, i_I, by decide, Or.inr ⟨"ImageReader", nw_87⟩⟩
theorem pt_R_183 (ini : Bool) : av_put "ImageReader" 183 2 10 ini .int := ⟨"ImageReader$Image", F_I, 11, t_I, rfl, i_I, by decide, t_I_ok, n_I, rfl, Or.inl rfl, Or.inr ⟨rfl, "ImageReader", nw_87⟩⟩
theorem nc_R_29 : av_cls "ImageReader" 29 3 [.null, .null, .int 0] 3 := ⟨"ImageReader$Walk", F_W, t_W, rfl, i_W, t_W_ok, tw_112, tw_113, tw_4, by decide +kernel⟩
theorem ci_R_31 : av_cI "ImageReader" 31 y_W_init b_W_init 1 0 := ⟨⟨tw_115, tw_4, tw_116, rfl⟩, ⟨by decide +kernel, by decide +kernel, by decide +kernel⟩, Or.inr ⟨"ImageReader", nw_114⟩⟩
theorem fl_W_9 : av_fld "ImageReader$Walk" 9 3 0 := ⟨"ImageReader$Walk", F_W, 3, rfl, i_W, by decide, Or.inl tw_118⟩
theorem pt_W_9 (ini : Bool) : av_put "ImageReader$Walk" 9 3 0 ini (.array .int) := ⟨"ImageReader$Walk", F_W, 3, t_W, rfl, i_W, by decide, t_W_ok, n_W, rfl, Or.inl rfl, Or.inl tw_118⟩
theorem fl_R_137 : av_fld "ImageReader" 137 3 0 := ⟨"ImageReader$Walk", F_W, 3, rfl, i_W, by decide, Or.inr ⟨"ImageReader", nw_119⟩⟩
theorem pt_R_137 (ini : Bool) : av_put "ImageReader" 137 3 0 ini (.array .int) := ⟨"ImageReader$Walk", F_W, 3, t_W, rfl, i_W, by decide, t_W_ok, n_W, rfl, Or.inl rfl, Or.inr ⟨rfl, "ImageReader", nw_119⟩⟩
theorem fl_W_15 : av_fld "ImageReader$Walk" 15 3 1 := ⟨"ImageReader$Walk", F_W, 3, rfl, i_W, by decide, Or.inl tw_120⟩
theorem pt_W_15 (ini : Bool) : av_put "ImageReader$Walk" 15 3 1 ini (.array .int) := ⟨"ImageReader$Walk", F_W, 3, t_W, rfl, i_W, by decide, t_W_ok, n_W, rfl, Or.inl rfl, Or.inl tw_120⟩
theorem fl_W_35 : av_fld "ImageReader$Walk" 35 3 2 := ⟨"ImageReader$Walk", F_W, 3, rfl, i_W, by decide, Or.inl tw_121⟩
theorem pt_W_35 (ini : Bool) : av_put "ImageReader$Walk" 35 3 2 ini .int := ⟨"ImageReader$Walk", F_W, 3, t_W, rfl, i_W, by decide, t_W_ok, n_W, rfl, Or.inl rfl, Or.inl tw_121⟩
theorem nc_R_36 : av_cls "ImageReader" 36 4 [.null, .null, .null, .int 0] 4 := ⟨"ImageReader$Pairing", F_P, t_P, rfl, i_P, t_P_ok, tw_129, tw_130, tw_5, by decide +kernel⟩
theorem ci_R_38 : av_cI "ImageReader" 38 y_P_init b_P_init 1 0 := ⟨⟨tw_132, tw_5, tw_133, rfl⟩, ⟨by decide +kernel, by decide +kernel, by decide +kernel⟩, Or.inr ⟨"ImageReader", nw_131⟩⟩
theorem fl_P_9 : av_fld "ImageReader$Pairing" 9 4 0 := ⟨"ImageReader$Pairing", F_P, 4, rfl, i_P, by decide, Or.inl tw_135⟩
theorem pt_P_9 (ini : Bool) : av_put "ImageReader$Pairing" 9 4 0 ini (.array .int) := ⟨"ImageReader$Pairing", F_P, 4, t_P, rfl, i_P, by decide, t_P_ok, n_P, rfl, Or.inl rfl, Or.inl tw_135⟩
theorem fl_P_15 : av_fld "ImageReader$Pairing" 15 4 1 := ⟨"ImageReader$Pairing", F_P, 4, rfl, i_P, by decide, Or.inl tw_136⟩
theorem pt_P_15 (ini : Bool) : av_put "ImageReader$Pairing" 15 4 1 ini (.array .int) := ⟨"ImageReader$Pairing", F_P, 4, t_P, rfl, i_P, by decide, t_P_ok, n_P, rfl, Or.inl rfl, Or.inl tw_136⟩
theorem fl_P_18 : av_fld "ImageReader$Pairing" 18 4 2 := ⟨"ImageReader$Pairing", F_P, 4, rfl, i_P, by decide, Or.inl tw_137⟩
theorem pt_P_18 (ini : Bool) : av_put "ImageReader$Pairing" 18 4 2 ini (.array .int) := ⟨"ImageReader$Pairing", F_P, 4, t_P, rfl, i_P, by decide, t_P_ok, n_P, rfl, Or.inl rfl, Or.inl tw_137⟩
theorem fl_P_41 : av_fld "ImageReader$Pairing" 41 4 3 := ⟨"ImageReader$Pairing", F_P, 4, rfl, i_P, by decide, Or.inl tw_138⟩
theorem pt_P_41 (ini : Bool) : av_put "ImageReader$Pairing" 41 4 3 ini .int := ⟨"ImageReader$Pairing", F_P, 4, t_P, rfl, i_P, by decide, t_P_ok, n_P, rfl, Or.inl rfl, Or.inl tw_138⟩
theorem fl_R_10 : av_fld "ImageReader" 10 0 0 := ⟨"ImageReader", F_R, 8, rfl, i_R, by decide, Or.inl tw_148⟩
theorem pt_R_10 : av_put "ImageReader" 10 0 0 true (.object "ImageReader$Bytes") := ⟨"ImageReader", F_R, 8, t_R, rfl, i_R, by decide, t_R_ok, n_R, rfl, Or.inr ⟨rfl, rfl⟩, Or.inl tw_148⟩
theorem fl_R_19 : av_fld "ImageReader" 19 0 1 := ⟨"ImageReader", F_R, 8, rfl, i_R, by decide, Or.inl tw_149⟩
theorem pt_R_19 : av_put "ImageReader" 19 0 1 true (.object "ImageReader$Image") := ⟨"ImageReader", F_R, 8, t_R, rfl, i_R, by decide, t_R_ok, n_R, rfl, Or.inr ⟨rfl, rfl⟩, Or.inl tw_149⟩
theorem fl_R_23 : av_fld "ImageReader" 23 0 2 := ⟨"ImageReader", F_R, 8, rfl, i_R, by decide, Or.inl tw_150⟩
theorem pt_R_23 : av_put "ImageReader" 23 0 2 true (.object "ImageReader$Image") := ⟨"ImageReader", F_R, 8, t_R, rfl, i_R, by decide, t_R_ok, n_R, rfl, Or.inr ⟨rfl, rfl⟩, Or.inl tw_150⟩
theorem fl_R_26 : av_fld "ImageReader" 26 0 3 := ⟨"ImageReader", F_R, 8, rfl, i_R, by decide, Or.inl tw_151⟩
theorem pt_R_26 : av_put "ImageReader" 26 0 3 true (.object "ImageReader$Image") := ⟨"ImageReader", F_R, 8, t_R, rfl, i_R, by decide, t_R_ok, n_R, rfl, Or.inr ⟨rfl, rfl⟩, Or.inl tw_151⟩
theorem fl_R_32 : av_fld "ImageReader" 32 0 4 := ⟨"ImageReader", F_R, 8, rfl, i_R, by decide, Or.inl tw_152⟩
theorem pt_R_32 : av_put "ImageReader" 32 0 4 true (.object "ImageReader$Walk") := ⟨"ImageReader", F_R, 8, t_R, rfl, i_R, by decide, t_R_ok, n_R, rfl, Or.inr ⟨rfl, rfl⟩, Or.inl tw_152⟩
theorem fl_R_39 : av_fld "ImageReader" 39 0 5 := ⟨"ImageReader", F_R, 8, rfl, i_R, by decide, Or.inl tw_153⟩
theorem pt_R_39 : av_put "ImageReader" 39 0 5 true (.object "ImageReader$Pairing") := ⟨"ImageReader", F_R, 8, t_R, rfl, i_R, by decide, t_R_ok, n_R, rfl, Or.inr ⟨rfl, rfl⟩, Or.inl tw_153⟩
theorem fl_R_43 : av_fld "ImageReader" 43 0 6 := ⟨"ImageReader", F_R, 8, rfl, i_R, by decide, Or.inl tw_154⟩
theorem pt_R_43 (ini : Bool) : av_put "ImageReader" 43 0 6 ini (.object "ImageReader$Image") := ⟨"ImageReader", F_R, 8, t_R, rfl, i_R, by decide, t_R_ok, n_R, rfl, Or.inl rfl, Or.inl tw_154⟩
theorem fl_R_46 : av_fld "ImageReader" 46 0 7 := ⟨"ImageReader", F_R, 8, rfl, i_R, by decide, Or.inl tw_155⟩
theorem pt_R_46 (ini : Bool) : av_put "ImageReader" 46 0 7 ini (.object "ImageReader$Image") := ⟨"ImageReader", F_R, 8, t_R, rfl, i_R, by decide, t_R_ok, n_R, rfl, Or.inl rfl, Or.inl tw_155⟩
theorem cv_Law_39 : av_cV "ImageReaderLaw" 39 y_R_change b_R_change 4 (some .int) 2 := ⟨⟨tw_174, tw_175, tw_1, tw_176⟩, ⟨by decide +kernel, by decide +kernel, by decide +kernel⟩, Or.inl tw_173⟩
theorem cv_R_70 : av_cV "ImageReader" 70 y_B_at b_B_at 2 (some .int) 1 := ⟨⟨tw_179, sw_0, tw_2, tw_180⟩, ⟨by decide +kernel, by decide +kernel, by decide +kernel⟩, Or.inr ⟨"ImageReader", nw_177⟩⟩
theorem cv_Law_44 : av_cV "ImageReaderLaw" 44 y_R_read b_R_read 3 (some .int) 0 := ⟨⟨tw_182, tw_183, tw_1, tw_184⟩, ⟨by decide +kernel, by decide +kernel, by decide +kernel⟩, Or.inl tw_181⟩
theorem cv_R_78 : av_cV "ImageReader" 78 y_R_spareImage b_R_spareImage 1 (some (.object "ImageReader$Image")) 0 := ⟨⟨tw_187, sw_1, tw_1, tw_188⟩, ⟨by decide +kernel, by decide +kernel, by decide +kernel⟩, Or.inl tw_185⟩
theorem cv_R_82 : av_cV "ImageReader" 82 y_R_placeOfRefusal b_R_placeOfRefusal 3 (some .int) 1 := ⟨⟨tw_191, sw_2, tw_1, tw_192⟩, ⟨by decide +kernel, by decide +kernel, by decide +kernel⟩, Or.inl tw_189⟩
theorem cs_R_147 : av_cS "ImageReader" 147 y_L_headPlace b_L_headPlace 3 (some .int) 1 := ⟨⟨tw_194, tw_15, tw_195⟩, ⟨by decide +kernel, by decide +kernel, by decide +kernel⟩, Or.inr ⟨"ImageReader", nw_193⟩⟩
theorem cv_L_13 : av_cV "ImageReader$Layout" 13 y_B_at b_B_at 2 (some .int) 1 := ⟨⟨tw_179, sw_0, tw_2, tw_180⟩, ⟨by decide +kernel, by decide +kernel, by decide +kernel⟩, Or.inr ⟨"ImageReader", nw_198⟩⟩
theorem cv_L_22 : av_cV "ImageReader$Layout" 22 y_B_reaches b_B_reaches 3 (some .boolean) 2 := ⟨⟨tw_203, sw_3, tw_2, tw_204⟩, ⟨by decide +kernel, by decide +kernel, by decide +kernel⟩, Or.inr ⟨"ImageReader", nw_201⟩⟩
theorem cv_L_30 : av_cV "ImageReader$Layout" 30 y_B_pairAt b_B_pairAt 2 (some .int) 1 := ⟨⟨tw_207, sw_4, tw_2, tw_208⟩, ⟨by decide +kernel, by decide +kernel, by decide +kernel⟩, Or.inr ⟨"ImageReader", nw_205⟩⟩
theorem cv_B_19 : av_cV "ImageReader$Bytes" 19 y_B_at b_B_at 2 (some .int) 1 := ⟨⟨tw_179, sw_0, tw_2, tw_180⟩, ⟨by decide +kernel, by decide +kernel, by decide +kernel⟩, Or.inl tw_209⟩
theorem cs_R_153 : av_cS "ImageReader" 153 y_L_takeSpecials b_L_takeSpecials 5 (some .int) 2 := ⟨⟨tw_211, tw_15, tw_212⟩, ⟨by decide +kernel, by decide +kernel, by decide +kernel⟩, Or.inr ⟨"ImageReader", nw_210⟩⟩
theorem cv_L_33 : av_cV "ImageReader$Layout" 33 y_I_clear b_I_clear 1 none 0 := ⟨⟨tw_215, sw_5, tw_3, tw_216⟩, ⟨by decide +kernel, by decide +kernel, by decide +kernel⟩, Or.inr ⟨"ImageReader", nw_213⟩⟩
theorem cs_L_44 : av_cS "ImageReader$Layout" 44 y_L_isValueAt b_L_isValueAt 4 (some .boolean) 3 := ⟨⟨tw_218, tw_15, tw_219⟩, ⟨by decide +kernel, by decide +kernel, by decide +kernel⟩, Or.inl tw_217⟩
theorem cv_L_53 : av_cV "ImageReader$Layout" 53 y_B_wordAt b_B_wordAt 2 (some .int) 1 := ⟨⟨tw_222, sw_6, tw_2, tw_223⟩, ⟨by decide +kernel, by decide +kernel, by decide +kernel⟩, Or.inr ⟨"ImageReader", nw_220⟩⟩
theorem cs_L_80 : av_cS "ImageReader$Layout" 80 y_R_isNumber b_R_isNumber 1 (some .boolean) 1 := ⟨⟨tw_225, tw_1, tw_226⟩, ⟨by decide +kernel, by decide +kernel, by decide +kernel⟩, Or.inr ⟨"ImageReader", nw_224⟩⟩
theorem cs_R_157 : av_cS "ImageReader" 157 y_L_takeObjects b_L_takeObjects 8 (some .int) 2 := ⟨⟨tw_228, tw_15, tw_229⟩, ⟨by decide +kernel, by decide +kernel, by decide +kernel⟩, Or.inr ⟨"ImageReader", nw_227⟩⟩
theorem cs_L_56 : av_cS "ImageReader$Layout" 56 y_L_objectHeadPlace b_L_objectHeadPlace 4 (some .int) 3 := ⟨⟨tw_231, tw_15, tw_232⟩, ⟨by decide +kernel, by decide +kernel, by decide +kernel⟩, Or.inl tw_230⟩
theorem cv_L_60 : av_cV "ImageReader$Layout" 60 y_I_addObject b_I_addObject 5 none 3 := ⟨⟨tw_235, sw_7, tw_3, tw_236⟩, ⟨by decide +kernel, by decide +kernel, by decide +kernel⟩, Or.inr ⟨"ImageReader", nw_233⟩⟩
theorem cs_I_40 : av_cS "ImageReader$Image" 40 y_A_copyOf_aII b_A_copyOf_aII 3 (some (.array .int)) 2 := ⟨⟨tw_238, tw_11, tw_239⟩, ⟨by decide +kernel, by decide +kernel, by decide +kernel⟩, Or.inl tw_237⟩
theorem cs_A_304 : av_cS "java/util/Arrays" 304 y_Mt_min b_Mt_min 2 (some .int) 2 := ⟨⟨tw_248, tw_12, tw_249⟩, ⟨by decide +kernel, by decide +kernel, by decide +kernel⟩, Or.inl tw_247⟩
theorem cs_L_64 : av_cS "ImageReader$Layout" 64 y_L_takeBytes b_L_takeBytes 5 (some .int) 4 := ⟨⟨tw_254, tw_15, tw_255⟩, ⟨by decide +kernel, by decide +kernel, by decide +kernel⟩, Or.inl tw_253⟩
theorem cv_L_76 : av_cV "ImageReader$Layout" 76 y_I_addPart b_I_addPart 2 none 1 := ⟨⟨tw_258, sw_8, tw_3, tw_259⟩, ⟨by decide +kernel, by decide +kernel, by decide +kernel⟩, Or.inr ⟨"ImageReader", nw_256⟩⟩
theorem cs_L_68 : av_cS "ImageReader$Layout" 68 y_L_takeFields b_L_takeFields 7 (some .int) 5 := ⟨⟨tw_261, tw_15, tw_262⟩, ⟨by decide +kernel, by decide +kernel, by decide +kernel⟩, Or.inl tw_260⟩
theorem cs_L_72 : av_cS "ImageReader$Layout" 72 y_L_bodyLength b_L_bodyLength 2 (some .int) 2 := ⟨⟨tw_264, tw_15, tw_265⟩, ⟨by decide +kernel, by decide +kernel, by decide +kernel⟩, Or.inl tw_263⟩
theorem cs_R_160 : av_cS "ImageReader" 160 y_F_roomPlace b_F_roomPlace 1 (some .int) 1 := ⟨⟨tw_267, tw_16, tw_268⟩, ⟨by decide +kernel, by decide +kernel, by decide +kernel⟩, Or.inr ⟨"ImageReader", nw_266⟩⟩
theorem cs_R_165 : av_cS "ImageReader" 165 y_F_specialsPlace b_F_specialsPlace 2 (some .int) 1 := ⟨⟨tw_270, tw_16, tw_271⟩, ⟨by decide +kernel, by decide +kernel, by decide +kernel⟩, Or.inr ⟨"ImageReader", nw_269⟩⟩
theorem cs_F_24 : av_cS "ImageReader$Form" 24 y_F_isSpecialFit b_F_isSpecialFit 3 (some .boolean) 2 := ⟨⟨tw_273, tw_16, tw_274⟩, ⟨by decide +kernel, by decide +kernel, by decide +kernel⟩, Or.inl tw_272⟩
theorem cv_F_30 : av_cV "ImageReader$Form" 30 y_I_specialAt b_I_specialAt 2 (some .int) 1 := ⟨⟨tw_277, sw_9, tw_3, tw_278⟩, ⟨by decide +kernel, by decide +kernel, by decide +kernel⟩, Or.inr ⟨"ImageReader", nw_275⟩⟩
theorem cv_F_34 : av_cV "ImageReader$Form" 34 y_I_objectOf b_I_objectOf 2 (some .int) 1 := ⟨⟨tw_281, sw_10, tw_3, tw_282⟩, ⟨by decide +kernel, by decide +kernel, by decide +kernel⟩, Or.inr ⟨"ImageReader", nw_279⟩⟩
theorem cv_I_46 : av_cV "ImageReader$Image" 46 y_I_holds b_I_holds 2 (some .boolean) 1 := ⟨⟨tw_285, sw_11, tw_3, tw_286⟩, ⟨by decide +kernel, by decide +kernel, by decide +kernel⟩, Or.inl tw_283⟩
theorem cs_F_37 : av_cS "ImageReader$Form" 37 y_F_isNewSince b_F_isNewSince 4 (some .boolean) 3 := ⟨⟨tw_288, tw_16, tw_289⟩, ⟨by decide +kernel, by decide +kernel, by decide +kernel⟩, Or.inl tw_287⟩
theorem cs_F_41 : av_cS "ImageReader$Form" 41 y_F_isClass b_F_isClass 4 (some .boolean) 2 := ⟨⟨tw_291, tw_16, tw_292⟩, ⟨by decide +kernel, by decide +kernel, by decide +kernel⟩, Or.inl tw_290⟩
theorem cv_F_79 : av_cV "ImageReader$Form" 79 y_I_fieldAt b_I_fieldAt 3 (some .int) 2 := ⟨⟨tw_295, sw_12, tw_3, tw_296⟩, ⟨by decide +kernel, by decide +kernel, by decide +kernel⟩, Or.inr ⟨"ImageReader", nw_293⟩⟩
theorem cv_I_50 : av_cV "ImageReader$Image" 50 y_I_hasPart b_I_hasPart 3 (some .boolean) 2 := ⟨⟨tw_299, sw_13, tw_3, tw_300⟩, ⟨by decide +kernel, by decide +kernel, by decide +kernel⟩, Or.inl tw_297⟩
theorem cv_F_44 : av_cV "ImageReader$Form" 44 y_I_fieldCount b_I_fieldCount 2 (some .int) 1 := ⟨⟨tw_303, sw_14, tw_3, tw_304⟩, ⟨by decide +kernel, by decide +kernel, by decide +kernel⟩, Or.inr ⟨"ImageReader", nw_301⟩⟩
theorem cs_F_115 : av_cS "ImageReader$Form" 115 y_R_isNumber b_R_isNumber 1 (some .boolean) 1 := ⟨⟨tw_225, tw_1, tw_226⟩, ⟨by decide +kernel, by decide +kernel, by decide +kernel⟩, Or.inr ⟨"ImageReader", nw_305⟩⟩
theorem cs_F_82 : av_cS "ImageReader$Form" 82 y_R_numberOf b_R_numberOf 1 (some .int) 1 := ⟨⟨tw_307, tw_1, tw_308⟩, ⟨by decide +kernel, by decide +kernel, by decide +kernel⟩, Or.inr ⟨"ImageReader", nw_306⟩⟩
theorem cs_F_47 : av_cS "ImageReader$Form" 47 y_F_isPlain b_F_isPlain 3 (some .boolean) 3 := ⟨⟨tw_310, tw_16, tw_311⟩, ⟨by decide +kernel, by decide +kernel, by decide +kernel⟩, Or.inl tw_309⟩
theorem cv_F_111 : av_cV "ImageReader$Form" 111 y_I_isContext b_I_isContext 2 (some .boolean) 1 := ⟨⟨tw_314, sw_15, tw_3, tw_315⟩, ⟨by decide +kernel, by decide +kernel, by decide +kernel⟩, Or.inr ⟨"ImageReader", nw_312⟩⟩
theorem cv_I_54 : av_cV "ImageReader$Image" 54 y_I_isOfSpecialClass b_I_isOfSpecialClass 3 (some .boolean) 2 := ⟨⟨tw_318, sw_16, tw_3, tw_319⟩, ⟨by decide +kernel, by decide +kernel, by decide +kernel⟩, Or.inl tw_316⟩
theorem cs_R_168 : av_cS "ImageReader" 168 y_F_objectsPlace b_F_objectsPlace 3 (some .int) 1 := ⟨⟨tw_321, tw_16, tw_322⟩, ⟨by decide +kernel, by decide +kernel, by decide +kernel⟩, Or.inr ⟨"ImageReader", nw_320⟩⟩
theorem cs_F_50 : av_cS "ImageReader$Form" 50 y_F_hasFitClass b_F_hasFitClass 7 (some .boolean) 2 := ⟨⟨tw_324, tw_16, tw_325⟩, ⟨by decide +kernel, by decide +kernel, by decide +kernel⟩, Or.inl tw_323⟩
theorem cv_F_76 : av_cV "ImageReader$Form" 76 y_I_classAt b_I_classAt 2 (some .int) 1 := ⟨⟨tw_328, sw_17, tw_3, tw_329⟩, ⟨by decide +kernel, by decide +kernel, by decide +kernel⟩, Or.inr ⟨"ImageReader", nw_326⟩⟩
theorem cv_F_85 : av_cV "ImageReader$Form" 85 y_I_isOfBytes b_I_isOfBytes 2 (some .boolean) 1 := ⟨⟨tw_332, sw_18, tw_3, tw_333⟩, ⟨by decide +kernel, by decide +kernel, by decide +kernel⟩, Or.inr ⟨"ImageReader", nw_330⟩⟩
theorem cv_F_53 : av_cV "ImageReader$Form" 53 y_I_isOfSpecialClass b_I_isOfSpecialClass 3 (some .boolean) 2 := ⟨⟨tw_318, sw_16, tw_3, tw_319⟩, ⟨by decide +kernel, by decide +kernel, by decide +kernel⟩, Or.inr ⟨"ImageReader", nw_334⟩⟩
theorem cs_F_57 : av_cS "ImageReader$Form" 57 y_F_isMethodContext b_F_isMethodContext 7 (some .boolean) 2 := ⟨⟨tw_336, tw_16, tw_337⟩, ⟨by decide +kernel, by decide +kernel, by decide +kernel⟩, Or.inl tw_335⟩
theorem cs_F_89 : av_cS "ImageReader$Form" 89 y_F_isMethod b_F_isMethod 3 (some .boolean) 2 := ⟨⟨tw_339, tw_16, tw_340⟩, ⟨by decide +kernel, by decide +kernel, by decide +kernel⟩, Or.inl tw_338⟩
theorem cs_F_101 : av_cS "ImageReader$Form" 101 y_R_isNumberWithin b_R_isNumberWithin 3 (some .boolean) 3 := ⟨⟨tw_343, tw_1, tw_344⟩, ⟨by decide +kernel, by decide +kernel, by decide +kernel⟩, Or.inr ⟨"ImageReader", nw_342⟩⟩
theorem cs_R_198 : av_cS "ImageReader" 198 y_R_isNumber b_R_isNumber 1 (some .boolean) 1 := ⟨⟨tw_225, tw_1, tw_226⟩, ⟨by decide +kernel, by decide +kernel, by decide +kernel⟩, Or.inl tw_345⟩
theorem cs_R_201 : av_cS "ImageReader" 201 y_R_numberOf b_R_numberOf 1 (some .int) 1 := ⟨⟨tw_307, tw_1, tw_308⟩, ⟨by decide +kernel, by decide +kernel, by decide +kernel⟩, Or.inl tw_346⟩
theorem cs_F_92 : av_cS "ImageReader$Form" 92 y_F_temporariesOf b_F_temporariesOf 1 (some .int) 1 := ⟨⟨tw_348, tw_16, tw_349⟩, ⟨by decide +kernel, by decide +kernel, by decide +kernel⟩, Or.inl tw_347⟩
theorem cs_F_119 : av_cS "ImageReader$Form" 119 y_F_argumentsOf b_F_argumentsOf 1 (some .int) 1 := ⟨⟨tw_351, tw_16, tw_352⟩, ⟨by decide +kernel, by decide +kernel, by decide +kernel⟩, Or.inl tw_350⟩
theorem cs_F_95 : av_cS "ImageReader$Form" 95 y_F_depthOf b_F_depthOf 1 (some .int) 1 := ⟨⟨tw_354, tw_16, tw_355⟩, ⟨by decide +kernel, by decide +kernel, by decide +kernel⟩, Or.inl tw_353⟩
theorem cs_F_98 : av_cS "ImageReader$Form" 98 y_F_areLinksFit b_F_areLinksFit 3 (some .boolean) 2 := ⟨⟨tw_357, tw_16, tw_358⟩, ⟨by decide +kernel, by decide +kernel, by decide +kernel⟩, Or.inl tw_356⟩
theorem cs_F_108 : av_cS "ImageReader$Form" 108 y_F_isNilOrCounting b_F_isNilOrCounting 1 (some .boolean) 1 := ⟨⟨tw_360, tw_16, tw_361⟩, ⟨by decide +kernel, by decide +kernel, by decide +kernel⟩, Or.inl tw_359⟩
theorem cs_F_105 : av_cS "ImageReader$Form" 105 y_F_isNilFrom b_F_isNilFrom 5 (some .boolean) 3 := ⟨⟨tw_364, tw_16, tw_365⟩, ⟨by decide +kernel, by decide +kernel, by decide +kernel⟩, Or.inl tw_363⟩
theorem cs_F_60 : av_cS "ImageReader$Form" 60 y_F_isBlockContext b_F_isBlockContext 6 (some .boolean) 2 := ⟨⟨tw_367, tw_16, tw_368⟩, ⟨by decide +kernel, by decide +kernel, by decide +kernel⟩, Or.inl tw_366⟩
theorem cs_F_70 : av_cS "ImageReader$Form" 70 y_L_bodyLength b_L_bodyLength 2 (some .int) 2 := ⟨⟨tw_264, tw_15, tw_265⟩, ⟨by decide +kernel, by decide +kernel, by decide +kernel⟩, Or.inr ⟨"ImageReader", nw_369⟩⟩
theorem cs_R_171 : av_cS "ImageReader" 171 y_F_schedulerPlace b_F_schedulerPlace 4 (some .int) 1 := ⟨⟨tw_371, tw_16, tw_372⟩, ⟨by decide +kernel, by decide +kernel, by decide +kernel⟩, Or.inr ⟨"ImageReader", nw_370⟩⟩
theorem cs_F_122 : av_cS "ImageReader$Form" 122 y_F_areListsFit b_F_areListsFit 3 (some .boolean) 2 := ⟨⟨tw_374, tw_16, tw_375⟩, ⟨by decide +kernel, by decide +kernel, by decide +kernel⟩, Or.inl tw_373⟩
theorem cs_F_125 : av_cS "ImageReader$Form" 125 y_F_isProcessFit b_F_isProcessFit 3 (some .boolean) 2 := ⟨⟨tw_377, tw_16, tw_378⟩, ⟨by decide +kernel, by decide +kernel, by decide +kernel⟩, Or.inl tw_376⟩
theorem cv_Law_48 : av_cV "ImageReaderLaw" 48 y_R_objects b_R_objects 1 (some .int) 0 := ⟨⟨tw_380, tw_381, tw_1, tw_382⟩, ⟨by decide +kernel, by decide +kernel, by decide +kernel⟩, Or.inl tw_379⟩
theorem cv_Law_52 : av_cV "ImageReaderLaw" 52 y_R_words b_R_words 1 (some .int) 0 := ⟨⟨tw_384, tw_385, tw_1, tw_386⟩, ⟨by decide +kernel, by decide +kernel, by decide +kernel⟩, Or.inl tw_383⟩
theorem cv_Law_56 : av_cV "ImageReaderLaw" 56 y_R_special b_R_special 2 (some .int) 1 := ⟨⟨tw_388, tw_389, tw_1, tw_390⟩, ⟨by decide +kernel, by decide +kernel, by decide +kernel⟩, Or.inl tw_387⟩
theorem cv_R_92 : av_cV "ImageReader" 92 y_I_specialAt b_I_specialAt 2 (some .int) 1 := ⟨⟨tw_277, sw_9, tw_3, tw_278⟩, ⟨by decide +kernel, by decide +kernel, by decide +kernel⟩, Or.inr ⟨"ImageReader", nw_391⟩⟩
theorem cv_Law_60 : av_cV "ImageReaderLaw" 60 y_R_kind b_R_kind 2 (some .int) 1 := ⟨⟨tw_393, tw_394, tw_1, tw_395⟩, ⟨by decide +kernel, by decide +kernel, by decide +kernel⟩, Or.inl tw_392⟩
theorem cv_R_95 : av_cV "ImageReader" 95 y_I_holds b_I_holds 2 (some .boolean) 1 := ⟨⟨tw_285, sw_11, tw_3, tw_286⟩, ⟨by decide +kernel, by decide +kernel, by decide +kernel⟩, Or.inr ⟨"ImageReader", nw_396⟩⟩
theorem cv_R_99 : av_cV "ImageReader" 99 y_I_isOfSpecialClass b_I_isOfSpecialClass 3 (some .boolean) 2 := ⟨⟨tw_318, sw_16, tw_3, tw_319⟩, ⟨by decide +kernel, by decide +kernel, by decide +kernel⟩, Or.inr ⟨"ImageReader", nw_397⟩⟩
theorem cv_Law_64 : av_cV "ImageReaderLaw" 64 y_R_classOf b_R_classOf 2 (some .int) 1 := ⟨⟨tw_399, tw_400, tw_1, tw_401⟩, ⟨by decide +kernel, by decide +kernel, by decide +kernel⟩, Or.inl tw_398⟩
theorem cv_R_107 : av_cV "ImageReader" 107 y_I_classAt b_I_classAt 2 (some .int) 1 := ⟨⟨tw_328, sw_17, tw_3, tw_329⟩, ⟨by decide +kernel, by decide +kernel, by decide +kernel⟩, Or.inr ⟨"ImageReader", nw_402⟩⟩
theorem cv_Law_68 : av_cV "ImageReaderLaw" 68 y_R_size b_R_size 2 (some .int) 1 := ⟨⟨tw_404, tw_405, tw_1, tw_406⟩, ⟨by decide +kernel, by decide +kernel, by decide +kernel⟩, Or.inl tw_403⟩
theorem cv_Law_72 : av_cV "ImageReaderLaw" 72 y_R_field b_R_field 3 (some .int) 2 := ⟨⟨tw_408, tw_409, tw_1, tw_410⟩, ⟨by decide +kernel, by decide +kernel, by decide +kernel⟩, Or.inl tw_407⟩
theorem cv_R_113 : av_cV "ImageReader" 113 y_I_fieldAt b_I_fieldAt 3 (some .int) 2 := ⟨⟨tw_295, sw_12, tw_3, tw_296⟩, ⟨by decide +kernel, by decide +kernel, by decide +kernel⟩, Or.inr ⟨"ImageReader", nw_411⟩⟩
theorem cv_Law_76 : av_cV "ImageReaderLaw" 76 y_R_byteAt b_R_byteAt 3 (some .int) 2 := ⟨⟨tw_413, tw_414, tw_1, tw_415⟩, ⟨by decide +kernel, by decide +kernel, by decide +kernel⟩, Or.inl tw_412⟩
theorem cv_R_117 : av_cV "ImageReader" 117 y_I_bodyByteAt b_I_bodyByteAt 3 (some .int) 2 := ⟨⟨tw_418, sw_19, tw_3, tw_419⟩, ⟨by decide +kernel, by decide +kernel, by decide +kernel⟩, Or.inr ⟨"ImageReader", nw_416⟩⟩
theorem cv_Law_80 : av_cV "ImageReaderLaw" 80 y_R_reachable b_R_reachable 1 (some .int) 0 := ⟨⟨tw_421, tw_422, tw_1, tw_423⟩, ⟨by decide +kernel, by decide +kernel, by decide +kernel⟩, Or.inl tw_420⟩
theorem cv_R_120 : av_cV "ImageReader" 120 y_W_reach b_W_reach 6 (some .int) 1 := ⟨⟨tw_426, sw_20, tw_4, tw_427⟩, ⟨by decide +kernel, by decide +kernel, by decide +kernel⟩, Or.inr ⟨"ImageReader", nw_424⟩⟩
theorem cv_W_18 : av_cV "ImageReader$Walk" 18 y_W_clear b_W_clear 2 none 1 := ⟨⟨tw_430, sw_21, tw_4, tw_431⟩, ⟨by decide +kernel, by decide +kernel, by decide +kernel⟩, Or.inl tw_428⟩
theorem cs_W_55 : av_cS "ImageReader$Walk" 55 y_A_fill b_A_fill 4 none 2 := ⟨⟨tw_433, tw_11, tw_434⟩, ⟨by decide +kernel, by decide +kernel, by decide +kernel⟩, Or.inl tw_432⟩
theorem cv_W_27 : av_cV "ImageReader$Walk" 27 y_I_objectOf b_I_objectOf 2 (some .int) 1 := ⟨⟨tw_281, sw_10, tw_3, tw_282⟩, ⟨by decide +kernel, by decide +kernel, by decide +kernel⟩, Or.inr ⟨"ImageReader", nw_435⟩⟩
theorem cv_W_31 : av_cV "ImageReader$Walk" 31 y_W_visit b_W_visit 2 none 1 := ⟨⟨tw_438, sw_22, tw_4, tw_439⟩, ⟨by decide +kernel, by decide +kernel, by decide +kernel⟩, Or.inl tw_436⟩
theorem cv_W_42 : av_cV "ImageReader$Walk" 42 y_I_classAt b_I_classAt 2 (some .int) 1 := ⟨⟨tw_328, sw_17, tw_3, tw_329⟩, ⟨by decide +kernel, by decide +kernel, by decide +kernel⟩, Or.inr ⟨"ImageReader", nw_440⟩⟩
theorem cv_W_45 : av_cV "ImageReader$Walk" 45 y_I_fieldCount b_I_fieldCount 2 (some .int) 1 := ⟨⟨tw_303, sw_14, tw_3, tw_304⟩, ⟨by decide +kernel, by decide +kernel, by decide +kernel⟩, Or.inr ⟨"ImageReader", nw_441⟩⟩
theorem cv_W_48 : av_cV "ImageReader$Walk" 48 y_I_fieldAt b_I_fieldAt 3 (some .int) 2 := ⟨⟨tw_295, sw_12, tw_3, tw_296⟩, ⟨by decide +kernel, by decide +kernel, by decide +kernel⟩, Or.inr ⟨"ImageReader", nw_442⟩⟩
theorem cv_Law_84 : av_cV "ImageReaderLaw" 84 y_R_write b_R_write 3 (some .int) 0 := ⟨⟨tw_444, tw_445, tw_1, tw_446⟩, ⟨by decide +kernel, by decide +kernel, by decide +kernel⟩, Or.inl tw_443⟩
theorem cv_R_123 : av_cV "ImageReader" 123 y_W_numberAnew b_W_numberAnew 4 none 1 := ⟨⟨tw_449, sw_23, tw_4, tw_450⟩, ⟨by decide +kernel, by decide +kernel, by decide +kernel⟩, Or.inr ⟨"ImageReader", nw_447⟩⟩
theorem cv_R_127 : av_cV "ImageReader" 127 y_R_writeHead b_R_writeHead 3 none 1 := ⟨⟨tw_453, sw_24, tw_1, tw_454⟩, ⟨by decide +kernel, by decide +kernel, by decide +kernel⟩, Or.inl tw_451⟩
theorem cv_R_177 : av_cV "ImageReader" 177 y_B_add b_B_add 2 none 1 := ⟨⟨tw_458, sw_25, tw_2, tw_459⟩, ⟨by decide +kernel, by decide +kernel, by decide +kernel⟩, Or.inr ⟨"ImageReader", nw_456⟩⟩
theorem cs_B_23 : av_cS "ImageReader$Bytes" 23 y_A_copyOf_aBI b_A_copyOf_aBI 3 (some (.array .byte)) 2 := ⟨⟨tw_461, tw_11, tw_462⟩, ⟨by decide +kernel, by decide +kernel, by decide +kernel⟩, Or.inl tw_460⟩
theorem cv_R_186 : av_cV "ImageReader" 186 y_B_addPair b_B_addPair 2 none 1 := ⟨⟨tw_470, sw_26, tw_2, tw_471⟩, ⟨by decide +kernel, by decide +kernel, by decide +kernel⟩, Or.inr ⟨"ImageReader", nw_468⟩⟩
theorem cv_B_29 : av_cV "ImageReader$Bytes" 29 y_B_add b_B_add 2 none 1 := ⟨⟨tw_458, sw_25, tw_2, tw_459⟩, ⟨by decide +kernel, by decide +kernel, by decide +kernel⟩, Or.inl tw_472⟩
theorem cv_R_133 : av_cV "ImageReader" 133 y_W_renumbered b_W_renumbered 4 (some .int) 2 := ⟨⟨tw_475, sw_27, tw_4, tw_476⟩, ⟨by decide +kernel, by decide +kernel, by decide +kernel⟩, Or.inr ⟨"ImageReader", nw_473⟩⟩
theorem cv_R_61 : av_cV "ImageReader" 61 y_B_addWord b_B_addWord 2 none 1 := ⟨⟨tw_479, sw_28, tw_2, tw_480⟩, ⟨by decide +kernel, by decide +kernel, by decide +kernel⟩, Or.inr ⟨"ImageReader", nw_477⟩⟩
theorem cv_B_33 : av_cV "ImageReader$Bytes" 33 y_B_addPair b_B_addPair 2 none 1 := ⟨⟨tw_470, sw_26, tw_2, tw_471⟩, ⟨by decide +kernel, by decide +kernel, by decide +kernel⟩, Or.inl tw_481⟩
theorem cv_R_140 : av_cV "ImageReader" 140 y_R_writeObject b_R_writeObject 4 none 1 := ⟨⟨tw_484, sw_29, tw_1, tw_485⟩, ⟨by decide +kernel, by decide +kernel, by decide +kernel⟩, Or.inl tw_482⟩
theorem cv_Law_88 : av_cV "ImageReaderLaw" 88 y_R_came b_R_came 2 (some .int) 1 := ⟨⟨tw_487, tw_488, tw_1, tw_489⟩, ⟨by decide +kernel, by decide +kernel, by decide +kernel⟩, Or.inl tw_486⟩
theorem cv_Law_92 : av_cV "ImageReaderLaw" 92 y_R_keep b_R_keep 1 (some .boolean) 0 := ⟨⟨tw_491, tw_492, tw_1, tw_493⟩, ⟨by decide +kernel, by decide +kernel, by decide +kernel⟩, Or.inl tw_490⟩
theorem cv_Law_97 : av_cV "ImageReaderLaw" 97 y_R_same b_R_same 1 (some .boolean) 0 := ⟨⟨tw_495, tw_496, tw_1, tw_497⟩, ⟨by decide +kernel, by decide +kernel, by decide +kernel⟩, Or.inl tw_494⟩
theorem cv_R_143 : av_cV "ImageReader" 143 y_P_pairs b_P_pairs 4 (some .boolean) 2 := ⟨⟨tw_500, sw_30, tw_5, tw_501⟩, ⟨by decide +kernel, by decide +kernel, by decide +kernel⟩, Or.inr ⟨"ImageReader", nw_498⟩⟩
theorem cv_P_21 : av_cV "ImageReader$Pairing" 21 y_P_clear b_P_clear 4 none 2 := ⟨⟨tw_504, sw_31, tw_5, tw_505⟩, ⟨by decide +kernel, by decide +kernel, by decide +kernel⟩, Or.inl tw_502⟩
theorem cs_P_53 : av_cS "ImageReader$Pairing" 53 y_Mt_max b_Mt_max 2 (some .int) 2 := ⟨⟨tw_507, tw_12, tw_508⟩, ⟨by decide +kernel, by decide +kernel, by decide +kernel⟩, Or.inl tw_506⟩
theorem cs_P_59 : av_cS "ImageReader$Pairing" 59 y_A_fill b_A_fill 4 none 2 := ⟨⟨tw_433, tw_11, tw_434⟩, ⟨by decide +kernel, by decide +kernel, by decide +kernel⟩, Or.inl tw_509⟩
theorem cv_P_37 : av_cV "ImageReader$Pairing" 37 y_P_match b_P_match 7 (some .boolean) 4 := ⟨⟨tw_512, sw_32, tw_5, tw_513⟩, ⟨by decide +kernel, by decide +kernel, by decide +kernel⟩, Or.inl tw_510⟩
theorem cv_P_65 : av_cV "ImageReader$Pairing" 65 y_I_objectOf b_I_objectOf 2 (some .int) 1 := ⟨⟨tw_281, sw_10, tw_3, tw_282⟩, ⟨by decide +kernel, by decide +kernel, by decide +kernel⟩, Or.inr ⟨"ImageReader", nw_514⟩⟩
theorem cv_P_47 : av_cV "ImageReader$Pairing" 47 y_P_matchBodies b_P_matchBodies 9 (some .boolean) 4 := ⟨⟨tw_517, sw_33, tw_5, tw_518⟩, ⟨by decide +kernel, by decide +kernel, by decide +kernel⟩, Or.inl tw_515⟩
theorem cv_Law_7 : av_cV "ImageReaderLaw" 7 y_R_feed b_R_feed 6 none 5 := ⟨⟨tw_524, tw_525, tw_1, tw_526⟩, ⟨by decide +kernel, by decide +kernel, by decide +kernel⟩, Or.inl tw_523⟩
theorem cv_Law_15 : av_cV "ImageReaderLaw" 15 y_R_end b_R_end 3 (some .int) 1 := ⟨⟨tw_599, tw_600, tw_1, tw_601⟩, ⟨by decide +kernel, by decide +kernel, by decide +kernel⟩, Or.inl tw_598⟩
theorem nc_Law_22 : av_cls "ImageReaderLaw" 22 5 [.int 0, .null, .int 0, .null, .int 0, .null, .int 0, .null, .null, .null, .null, .null, .int 0] 13 := ⟨"ImageReaderModel", F_M, t_M, rfl, i_M, t_M_ok, tw_618, tw_619, tw_6, by decide +kernel⟩
theorem ci_Law_24 : av_cI "ImageReaderLaw" 24 y_M_init b_M_init 1 0 := ⟨⟨tw_621, tw_6, tw_622, rfl⟩, ⟨by decide +kernel, by decide +kernel, by decide +kernel⟩, Or.inl tw_620⟩
theorem fl_M_36 : av_fld "ImageReaderModel" 36 5 0 := ⟨"ImageReaderModel", F_M, 13, rfl, i_M, by decide, Or.inl tw_625⟩
theorem pt_M_36 (ini : Bool) : av_put "ImageReaderModel" 36 5 0 ini .int := ⟨"ImageReaderModel", F_M, 13, t_M, rfl, i_M, by decide, t_M_ok, n_M, rfl, Or.inl rfl, Or.inl tw_625⟩
theorem fl_M_8 : av_fld "ImageReaderModel" 8 5 1 := ⟨"ImageReaderModel", F_M, 13, rfl, i_M, by decide, Or.inl tw_626⟩
theorem pt_M_8 : av_put "ImageReaderModel" 8 5 1 true (.array .byte) := ⟨"ImageReaderModel", F_M, 13, t_M, rfl, i_M, by decide, t_M_ok, n_M, rfl, Or.inr ⟨rfl, rfl⟩, Or.inl tw_626⟩
theorem fl_M_40 : av_fld "ImageReaderModel" 40 5 2 := ⟨"ImageReaderModel", F_M, 13, rfl, i_M, by decide, Or.inl tw_627⟩
theorem pt_M_40 (ini : Bool) : av_put "ImageReaderModel" 40 5 2 ini .int := ⟨"ImageReaderModel", F_M, 13, t_M, rfl, i_M, by decide, t_M_ok, n_M, rfl, Or.inl rfl, Or.inl tw_627⟩
theorem fl_M_14 : av_fld "ImageReaderModel" 14 5 3 := ⟨"ImageReaderModel", F_M, 13, rfl, i_M, by decide, Or.inl tw_628⟩
theorem pt_M_14 : av_put "ImageReaderModel" 14 5 3 true (.array .byte) := ⟨"ImageReaderModel", F_M, 13, t_M, rfl, i_M, by decide, t_M_ok, n_M, rfl, Or.inr ⟨rfl, rfl⟩, Or.inl tw_628⟩
theorem fl_M_149 : av_fld "ImageReaderModel" 149 5 4 := ⟨"ImageReaderModel", F_M, 13, rfl, i_M, by decide, Or.inl tw_629⟩
theorem pt_M_149 (ini : Bool) : av_put "ImageReaderModel" 149 5 4 ini .int := ⟨"ImageReaderModel", F_M, 13, t_M, rfl, i_M, by decide, t_M_ok, n_M, rfl, Or.inl rfl, Or.inl tw_629⟩
theorem fl_M_17 : av_fld "ImageReaderModel" 17 5 5 := ⟨"ImageReaderModel", F_M, 13, rfl, i_M, by decide, Or.inl tw_630⟩
theorem pt_M_17 : av_put "ImageReaderModel" 17 5 5 true (.array .byte) := ⟨"ImageReaderModel", F_M, 13, t_M, rfl, i_M, by decide, t_M_ok, n_M, rfl, Or.inr ⟨rfl, rfl⟩, Or.inl tw_630⟩
theorem fl_M_176 : av_fld "ImageReaderModel" 176 5 6 := ⟨"ImageReaderModel", F_M, 13, rfl, i_M, by decide, Or.inl tw_631⟩
theorem pt_M_176 (ini : Bool) : av_put "ImageReaderModel" 176 5 6 ini .int := ⟨"ImageReaderModel", F_M, 13, t_M, rfl, i_M, by decide, t_M_ok, n_M, rfl, Or.inl rfl, Or.inl tw_631⟩
theorem fl_M_20 : av_fld "ImageReaderModel" 20 5 7 := ⟨"ImageReaderModel", F_M, 13, rfl, i_M, by decide, Or.inl tw_632⟩
theorem pt_M_20 : av_put "ImageReaderModel" 20 5 7 true (.array .int) := ⟨"ImageReaderModel", F_M, 13, t_M, rfl, i_M, by decide, t_M_ok, n_M, rfl, Or.inr ⟨rfl, rfl⟩, Or.inl tw_632⟩
theorem fl_M_24 : av_fld "ImageReaderModel" 24 5 8 := ⟨"ImageReaderModel", F_M, 13, rfl, i_M, by decide, Or.inl tw_633⟩
theorem pt_M_24 : av_put "ImageReaderModel" 24 5 8 true (.array .int) := ⟨"ImageReaderModel", F_M, 13, t_M, rfl, i_M, by decide, t_M_ok, n_M, rfl, Or.inr ⟨rfl, rfl⟩, Or.inl tw_633⟩
theorem fl_M_27 : av_fld "ImageReaderModel" 27 5 9 := ⟨"ImageReaderModel", F_M, 13, rfl, i_M, by decide, Or.inl tw_634⟩
theorem pt_M_27 : av_put "ImageReaderModel" 27 5 9 true (.array .int) := ⟨"ImageReaderModel", F_M, 13, t_M, rfl, i_M, by decide, t_M_ok, n_M, rfl, Or.inr ⟨rfl, rfl⟩, Or.inl tw_634⟩
theorem fl_M_30 : av_fld "ImageReaderModel" 30 5 10 := ⟨"ImageReaderModel", F_M, 13, rfl, i_M, by decide, Or.inl tw_635⟩
theorem pt_M_30 : av_put "ImageReaderModel" 30 5 10 true (.array .int) := ⟨"ImageReaderModel", F_M, 13, t_M, rfl, i_M, by decide, t_M_ok, n_M, rfl, Or.inr ⟨rfl, rfl⟩, Or.inl tw_635⟩
theorem fl_M_33 : av_fld "ImageReaderModel" 33 5 11 := ⟨"ImageReaderModel", F_M, 13, rfl, i_M, by decide, Or.inl tw_636⟩
theorem pt_M_33 : av_put "ImageReaderModel" 33 5 11 true (.array .int) := ⟨"ImageReaderModel", F_M, 13, t_M, rfl, i_M, by decide, t_M_ok, n_M, rfl, Or.inr ⟨rfl, rfl⟩, Or.inl tw_636⟩
theorem fl_M_159 : av_fld "ImageReaderModel" 159 5 12 := ⟨"ImageReaderModel", F_M, 13, rfl, i_M, by decide, Or.inl tw_637⟩
theorem pt_M_159 (ini : Bool) : av_put "ImageReaderModel" 159 5 12 ini .int := ⟨"ImageReaderModel", F_M, 13, t_M, rfl, i_M, by decide, t_M_ok, n_M, rfl, Or.inl rfl, Or.inl tw_637⟩
theorem cv_Law_31 : av_cV "ImageReaderLaw" 31 y_M_thrown b_M_thrown 1 (some .int) 0 := ⟨⟨tw_666, tw_667, tw_6, tw_668⟩, ⟨by decide +kernel, by decide +kernel, by decide +kernel⟩, Or.inl tw_665⟩
theorem cv_Law_30 : av_cV "ImageReaderLaw" 30 y_M_feed b_M_feed 8 none 5 := ⟨⟨tw_670, tw_671, tw_6, tw_672⟩, ⟨by decide +kernel, by decide +kernel, by decide +kernel⟩, Or.inl tw_669⟩
theorem cv_Law_38 : av_cV "ImageReaderLaw" 38 y_M_end b_M_end 3 (some .int) 1 := ⟨⟨tw_674, tw_675, tw_6, tw_676⟩, ⟨by decide +kernel, by decide +kernel, by decide +kernel⟩, Or.inl tw_673⟩
theorem cv_Law_43 : av_cV "ImageReaderLaw" 43 y_M_change b_M_change 4 (some .int) 2 := ⟨⟨tw_678, tw_679, tw_6, tw_680⟩, ⟨by decide +kernel, by decide +kernel, by decide +kernel⟩, Or.inl tw_677⟩
theorem cv_Law_91 : av_cV "ImageReaderLaw" 91 y_M_came b_M_came 2 (some .int) 1 := ⟨⟨tw_682, tw_683, tw_6, tw_684⟩, ⟨by decide +kernel, by decide +kernel, by decide +kernel⟩, Or.inl tw_681⟩
theorem cv_Law_47 : av_cV "ImageReaderLaw" 47 y_M_read b_M_read 3 (some .int) 0 := ⟨⟨tw_686, tw_687, tw_6, tw_688⟩, ⟨by decide +kernel, by decide +kernel, by decide +kernel⟩, Or.inl tw_685⟩
theorem cv_M_146 : av_cV "ImageReaderModel" 146 y_M_place b_M_place 2 (some .int) 0 := ⟨⟨tw_691, sw_35, tw_6, tw_692⟩, ⟨by decide +kernel, by decide +kernel, by decide +kernel⟩, Or.inl tw_689⟩
theorem cv_M_124 : av_cV "ImageReaderModel" 124 y_M_stepHead b_M_stepHead 4 (some .int) 0 := ⟨⟨tw_695, sw_36, tw_6, tw_696⟩, ⟨by decide +kernel, by decide +kernel, by decide +kernel⟩, Or.inl tw_693⟩
theorem cs_M_101 : av_cS "ImageReaderModel" 101 y_M_objects_aB b_M_objects_aB 1 (some .int) 1 := ⟨⟨tw_698, tw_6, tw_699⟩, ⟨by decide +kernel, by decide +kernel, by decide +kernel⟩, Or.inl tw_697⟩
theorem cs_M_43 : av_cS "ImageReaderModel" 43 y_M_half b_M_half 2 (some .int) 2 := ⟨⟨tw_701, tw_6, tw_702⟩, ⟨by decide +kernel, by decide +kernel, by decide +kernel⟩, Or.inl tw_700⟩
theorem cv_M_128 : av_cV "ImageReaderModel" 128 y_M_stepValues b_M_stepValues 6 (some .int) 0 := ⟨⟨tw_705, sw_37, tw_6, tw_706⟩, ⟨by decide +kernel, by decide +kernel, by decide +kernel⟩, Or.inl tw_703⟩
theorem cv_M_105 : av_cV "ImageReaderModel" 105 y_M_isValue b_M_isValue 3 (some .boolean) 1 := ⟨⟨tw_709, sw_38, tw_6, tw_710⟩, ⟨by decide +kernel, by decide +kernel, by decide +kernel⟩, Or.inl tw_707⟩
theorem cs_M_47 : av_cS "ImageReaderModel" 47 y_M_word b_M_word 2 (some .int) 2 := ⟨⟨tw_712, tw_6, tw_713⟩, ⟨by decide +kernel, by decide +kernel, by decide +kernel⟩, Or.inl tw_711⟩
theorem cs_M_76 : av_cS "ImageReaderModel" 76 y_M_isNumber b_M_isNumber 1 (some .boolean) 1 := ⟨⟨tw_715, tw_6, tw_716⟩, ⟨by decide +kernel, by decide +kernel, by decide +kernel⟩, Or.inl tw_714⟩
theorem cs_M_54 : av_cS "ImageReaderModel" 54 y_M_sizeAt b_M_sizeAt 2 (some .int) 2 := ⟨⟨tw_718, tw_6, tw_719⟩, ⟨by decide +kernel, by decide +kernel, by decide +kernel⟩, Or.inl tw_717⟩
theorem cs_M_50 : av_cS "ImageReaderModel" 50 y_M_isOfBytes b_M_isOfBytes 2 (some .boolean) 2 := ⟨⟨tw_721, tw_6, tw_722⟩, ⟨by decide +kernel, by decide +kernel, by decide +kernel⟩, Or.inl tw_720⟩
theorem cv_M_131 : av_cV "ImageReaderModel" 131 y_M_stepRoom b_M_stepRoom 1 (some .int) 0 := ⟨⟨tw_725, sw_39, tw_6, tw_726⟩, ⟨by decide +kernel, by decide +kernel, by decide +kernel⟩, Or.inl tw_723⟩
theorem cs_M_108 : av_cS "ImageReaderModel" 108 y_M_wordsOf b_M_wordsOf 5 (some .int) 2 := ⟨⟨tw_728, tw_6, tw_729⟩, ⟨by decide +kernel, by decide +kernel, by decide +kernel⟩, Or.inl tw_727⟩
theorem cv_M_134 : av_cV "ImageReaderModel" 134 y_M_stepSpecials b_M_stepSpecials 5 (some .int) 0 := ⟨⟨tw_732, sw_40, tw_6, tw_733⟩, ⟨by decide +kernel, by decide +kernel, by decide +kernel⟩, Or.inl tw_730⟩
theorem cs_M_65 : av_cS "ImageReaderModel" 65 y_M_special_aBI b_M_special_aBI 2 (some .int) 2 := ⟨⟨tw_735, tw_6, tw_736⟩, ⟨by decide +kernel, by decide +kernel, by decide +kernel⟩, Or.inl tw_734⟩
theorem cs_M_57 : av_cS "ImageReaderModel" 57 y_M_isObject b_M_isObject 1 (some .boolean) 1 := ⟨⟨tw_738, tw_6, tw_739⟩, ⟨by decide +kernel, by decide +kernel, by decide +kernel⟩, Or.inl tw_737⟩
theorem cv_M_112 : av_cV "ImageReaderModel" 112 y_M_isClass b_M_isClass 5 (some .boolean) 1 := ⟨⟨tw_742, sw_41, tw_6, tw_743⟩, ⟨by decide +kernel, by decide +kernel, by decide +kernel⟩, Or.inl tw_740⟩
theorem cv_M_68 : av_cV "ImageReaderModel" 68 y_M_hasFields b_M_hasFields 3 (some .boolean) 2 := ⟨⟨tw_746, sw_42, tw_6, tw_747⟩, ⟨by decide +kernel, by decide +kernel, by decide +kernel⟩, Or.inl tw_744⟩
theorem cv_M_72 : av_cV "ImageReaderModel" 72 y_M_fieldOf b_M_fieldOf 3 (some .int) 2 := ⟨⟨tw_750, sw_43, tw_6, tw_751⟩, ⟨by decide +kernel, by decide +kernel, by decide +kernel⟩, Or.inl tw_748⟩
theorem cs_M_61 : av_cS "ImageReaderModel" 61 y_M_fieldAt b_M_fieldAt 3 (some .int) 3 := ⟨⟨tw_753, tw_6, tw_754⟩, ⟨by decide +kernel, by decide +kernel, by decide +kernel⟩, Or.inl tw_752⟩
theorem cv_M_80 : av_cV "ImageReaderModel" 80 y_M_isContext b_M_isContext 3 (some .boolean) 1 := ⟨⟨tw_757, sw_44, tw_6, tw_758⟩, ⟨by decide +kernel, by decide +kernel, by decide +kernel⟩, Or.inl tw_755⟩
theorem cv_M_137 : av_cV "ImageReaderModel" 137 y_M_stepObjects b_M_stepObjects 2 (some .int) 0 := ⟨⟨tw_761, sw_45, tw_6, tw_762⟩, ⟨by decide +kernel, by decide +kernel, by decide +kernel⟩, Or.inl tw_759⟩
theorem cv_M_121 : av_cV "ImageReaderModel" 121 y_M_isRightObject b_M_isRightObject 7 (some .boolean) 1 := ⟨⟨tw_765, sw_46, tw_6, tw_766⟩, ⟨by decide +kernel, by decide +kernel, by decide +kernel⟩, Or.inl tw_763⟩
theorem cv_M_115 : av_cV "ImageReaderModel" 115 y_M_isMethodContext b_M_isMethodContext 5 (some .boolean) 1 := ⟨⟨tw_769, sw_47, tw_6, tw_770⟩, ⟨by decide +kernel, by decide +kernel, by decide +kernel⟩, Or.inl tw_767⟩
theorem cv_M_88 : av_cV "ImageReaderModel" 88 y_M_isMethod b_M_isMethod 5 (some .boolean) 1 := ⟨⟨tw_773, sw_48, tw_6, tw_774⟩, ⟨by decide +kernel, by decide +kernel, by decide +kernel⟩, Or.inl tw_771⟩
theorem cv_M_91 : av_cV "ImageReaderModel" 91 y_M_temporaries b_M_temporaries 2 (some .int) 1 := ⟨⟨tw_778, sw_49, tw_6, tw_779⟩, ⟨by decide +kernel, by decide +kernel, by decide +kernel⟩, Or.inl tw_776⟩
theorem cv_M_95 : av_cV "ImageReaderModel" 95 y_M_depth b_M_depth 2 (some .int) 1 := ⟨⟨tw_782, sw_50, tw_6, tw_783⟩, ⟨by decide +kernel, by decide +kernel, by decide +kernel⟩, Or.inl tw_780⟩
theorem cv_M_84 : av_cV "ImageReaderModel" 84 y_M_isNumberFrom b_M_isNumberFrom 4 (some .boolean) 3 := ⟨⟨tw_786, sw_51, tw_6, tw_787⟩, ⟨by decide +kernel, by decide +kernel, by decide +kernel⟩, Or.inl tw_784⟩
theorem cv_M_98 : av_cV "ImageReaderModel" 98 y_M_isCommon b_M_isCommon 7 (some .boolean) 2 := ⟨⟨tw_790, sw_52, tw_6, tw_791⟩, ⟨by decide +kernel, by decide +kernel, by decide +kernel⟩, Or.inl tw_788⟩
theorem cv_M_118 : av_cV "ImageReaderModel" 118 y_M_isBlockContext b_M_isBlockContext 7 (some .boolean) 1 := ⟨⟨tw_795, sw_53, tw_6, tw_796⟩, ⟨by decide +kernel, by decide +kernel, by decide +kernel⟩, Or.inl tw_793⟩
theorem cv_M_140 : av_cV "ImageReaderModel" 140 y_M_stepProcess b_M_stepProcess 6 (some .int) 0 := ⟨⟨tw_799, sw_54, tw_6, tw_800⟩, ⟨by decide +kernel, by decide +kernel, by decide +kernel⟩, Or.inl tw_797⟩
theorem cs_M_152 : av_cS "ImageReaderModel" 152 y_M_note b_M_note 4 none 2 := ⟨⟨tw_802, tw_6, tw_803⟩, ⟨by decide +kernel, by decide +kernel, by decide +kernel⟩, Or.inl tw_801⟩
theorem cs_M_143 : av_cS "ImageReaderModel" 143 y_M_endAt b_M_endAt 2 (some .int) 2 := ⟨⟨tw_805, tw_6, tw_806⟩, ⟨by decide +kernel, by decide +kernel, by decide +kernel⟩, Or.inl tw_804⟩
theorem cv_Law_51 : av_cV "ImageReaderLaw" 51 y_M_objects_ b_M_objects_ 1 (some .int) 0 := ⟨⟨tw_808, tw_809, tw_6, tw_810⟩, ⟨by decide +kernel, by decide +kernel, by decide +kernel⟩, Or.inl tw_807⟩
theorem cv_Law_55 : av_cV "ImageReaderLaw" 55 y_M_words b_M_words 1 (some .int) 0 := ⟨⟨tw_812, tw_813, tw_6, tw_814⟩, ⟨by decide +kernel, by decide +kernel, by decide +kernel⟩, Or.inl tw_811⟩
theorem cv_Law_59 : av_cV "ImageReaderLaw" 59 y_M_special_I b_M_special_I 2 (some .int) 1 := ⟨⟨tw_816, tw_817, tw_6, tw_818⟩, ⟨by decide +kernel, by decide +kernel, by decide +kernel⟩, Or.inl tw_815⟩
theorem cv_Law_63 : av_cV "ImageReaderLaw" 63 y_M_kind b_M_kind 3 (some .int) 1 := ⟨⟨tw_820, tw_821, tw_6, tw_822⟩, ⟨by decide +kernel, by decide +kernel, by decide +kernel⟩, Or.inl tw_819⟩
theorem cv_M_156 : av_cV "ImageReaderModel" 156 y_M_isThere b_M_isThere 2 (some .boolean) 1 := ⟨⟨tw_825, sw_55, tw_6, tw_826⟩, ⟨by decide +kernel, by decide +kernel, by decide +kernel⟩, Or.inl tw_823⟩
theorem cv_Law_67 : av_cV "ImageReaderLaw" 67 y_M_classOf b_M_classOf 2 (some .int) 1 := ⟨⟨tw_828, tw_829, tw_6, tw_830⟩, ⟨by decide +kernel, by decide +kernel, by decide +kernel⟩, Or.inl tw_827⟩
theorem cv_Law_71 : av_cV "ImageReaderLaw" 71 y_M_size b_M_size 2 (some .int) 1 := ⟨⟨tw_832, tw_833, tw_6, tw_834⟩, ⟨by decide +kernel, by decide +kernel, by decide +kernel⟩, Or.inl tw_831⟩
theorem cv_Law_75 : av_cV "ImageReaderLaw" 75 y_M_field b_M_field 4 (some .int) 2 := ⟨⟨tw_836, tw_837, tw_6, tw_838⟩, ⟨by decide +kernel, by decide +kernel, by decide +kernel⟩, Or.inl tw_835⟩
theorem cv_Law_79 : av_cV "ImageReaderLaw" 79 y_M_byteAt b_M_byteAt 4 (some .int) 2 := ⟨⟨tw_840, tw_841, tw_6, tw_842⟩, ⟨by decide +kernel, by decide +kernel, by decide +kernel⟩, Or.inl tw_839⟩
theorem cv_Law_83 : av_cV "ImageReaderLaw" 83 y_M_reachable b_M_reachable 1 (some .int) 0 := ⟨⟨tw_844, tw_845, tw_6, tw_846⟩, ⟨by decide +kernel, by decide +kernel, by decide +kernel⟩, Or.inl tw_843⟩
theorem cv_M_166 : av_cV "ImageReaderModel" 166 y_M_reachAll b_M_reachAll 4 none 0 := ⟨⟨tw_849, sw_56, tw_6, tw_850⟩, ⟨by decide +kernel, by decide +kernel, by decide +kernel⟩, Or.inl tw_847⟩
theorem cv_M_162 : av_cV "ImageReaderModel" 162 y_M_reach b_M_reach 2 none 1 := ⟨⟨tw_853, sw_57, tw_6, tw_854⟩, ⟨by decide +kernel, by decide +kernel, by decide +kernel⟩, Or.inl tw_851⟩
theorem cv_Law_87 : av_cV "ImageReaderLaw" 87 y_M_write b_M_write 6 (some .int) 0 := ⟨⟨tw_856, tw_857, tw_6, tw_858⟩, ⟨by decide +kernel, by decide +kernel, by decide +kernel⟩, Or.inl tw_855⟩
theorem cv_M_169 : av_cV "ImageReaderModel" 169 y_M_put b_M_put 4 none 2 := ⟨⟨tw_861, sw_58, tw_6, tw_862⟩, ⟨by decide +kernel, by decide +kernel, by decide +kernel⟩, Or.inl tw_859⟩
theorem cv_M_173 : av_cV "ImageReaderModel" 173 y_M_renumbered b_M_renumbered 2 (some .int) 1 := ⟨⟨tw_865, sw_59, tw_6, tw_866⟩, ⟨by decide +kernel, by decide +kernel, by decide +kernel⟩, Or.inl tw_863⟩
theorem cv_Law_96 : av_cV "ImageReaderLaw" 96 y_M_keep b_M_keep 2 (some .boolean) 0 := ⟨⟨tw_868, tw_869, tw_6, tw_870⟩, ⟨by decide +kernel, by decide +kernel, by decide +kernel⟩, Or.inl tw_867⟩
theorem cv_Law_100 : av_cV "ImageReaderLaw" 100 y_M_same b_M_same 3 (some .boolean) 0 := ⟨⟨tw_872, tw_873, tw_6, tw_874⟩, ⟨by decide +kernel, by decide +kernel, by decide +kernel⟩, Or.inl tw_871⟩
theorem cv_M_179 : av_cV "ImageReaderModel" 179 y_M_goes b_M_goes 3 (some .boolean) 2 := ⟨⟨tw_877, sw_60, tw_6, tw_878⟩, ⟨by decide +kernel, by decide +kernel, by decide +kernel⟩, Or.inl tw_875⟩
theorem cv_M_182 : av_cV "ImageReaderModel" 182 y_M_goTogether b_M_goTogether 6 (some .boolean) 1 := ⟨⟨tw_881, sw_61, tw_6, tw_882⟩, ⟨by decide +kernel, by decide +kernel, by decide +kernel⟩, Or.inl tw_879⟩
end
section
theorem d_A_copyOf_aBI_0 : decode b_A_copyOf_aBI 0 = .ok (.iload_n 1, 1) := by decide +kernel
theorem d_A_copyOf_aBI_1 : decode b_A_copyOf_aBI 1 = .ok (.aload_n 0, 1) := by decide +kernel
theorem d_A_copyOf_aBI_2 : decode b_A_copyOf_aBI 2 = .ok (.arraylength, 1) := by decide +kernel
theorem d_A_copyOf_aBI_3 : decode b_A_copyOf_aBI 3 = .ok (.if_icmp .ne 11, 3) := by decide +kernel
theorem d_A_copyOf_aBI_6 : decode b_A_copyOf_aBI 6 = .ok (.aload_n 0, 1) := by decide +kernel
theorem d_A_copyOf_aBI_7 : decode b_A_copyOf_aBI 7 = .ok (.invokevirtual 310, 3) := by decide +kernel
theorem d_A_copyOf_aBI_10 : decode b_A_copyOf_aBI 10 = .ok (.checkcast 311, 3) := by decide +kernel
theorem d_A_copyOf_aBI_13 : decode b_A_copyOf_aBI 13 = .ok (.areturn, 1) := by decide +kernel
theorem d_A_copyOf_aBI_14 : decode b_A_copyOf_aBI 14 = .ok (.iload_n 1, 1) := by decide +kernel
theorem d_A_copyOf_aBI_15 : decode b_A_copyOf_aBI 15 = .ok (.newarray .byte, 2) := by decide +kernel
theorem d_A_copyOf_aBI_17 : decode b_A_copyOf_aBI 17 = .ok (.astore_n 2, 1) := by decide +kernel
theorem d_A_copyOf_aBI_18 : decode b_A_copyOf_aBI 18 = .ok (.aload_n 0, 1) := by decide +kernel
theorem d_A_copyOf_aBI_19 : decode b_A_copyOf_aBI 19 = .ok (.iconst 0, 1) := by decide +kernel
theorem d_A_copyOf_aBI_20 : decode b_A_copyOf_aBI 20 = .ok (.aload_n 2, 1) := by decide +kernel
theorem d_A_copyOf_aBI_21 : decode b_A_copyOf_aBI 21 = .ok (.iconst 0, 1) := by decide +kernel
theorem d_A_copyOf_aBI_22 : decode b_A_copyOf_aBI 22 = .ok (.aload_n 0, 1) := by decide +kernel
theorem d_A_copyOf_aBI_23 : decode b_A_copyOf_aBI 23 = .ok (.arraylength, 1) := by decide +kernel
theorem d_A_copyOf_aBI_24 : decode b_A_copyOf_aBI 24 = .ok (.iload_n 1, 1) := by decide +kernel
theorem d_A_copyOf_aBI_25 : decode b_A_copyOf_aBI 25 = .ok (.invokestatic 304, 3) := by decide +kernel
theorem d_A_copyOf_aBI_28 : decode b_A_copyOf_aBI 28 = .ok (.invokestatic 150, 3) := by decide +kernel
theorem d_A_copyOf_aBI_31 : decode b_A_copyOf_aBI 31 = .ok (.aload_n 2, 1) := by decide +kernel
theorem d_A_copyOf_aBI_32 : decode b_A_copyOf_aBI 32 = .ok (.areturn, 1) := by decide +kernel
theorem d_A_copyOf_aII_0 : decode b_A_copyOf_aII 0 = .ok (.iload_n 1, 1) := by decide +kernel
theorem d_A_copyOf_aII_1 : decode b_A_copyOf_aII 1 = .ok (.aload_n 0, 1) := by decide +kernel
theorem d_A_copyOf_aII_2 : decode b_A_copyOf_aII 2 = .ok (.arraylength, 1) := by decide +kernel
theorem d_A_copyOf_aII_3 : decode b_A_copyOf_aII 3 = .ok (.if_icmp .ne 11, 3) := by decide +kernel
theorem d_A_copyOf_aII_6 : decode b_A_copyOf_aII 6 = .ok (.aload_n 0, 1) := by decide +kernel
theorem d_A_copyOf_aII_7 : decode b_A_copyOf_aII 7 = .ok (.invokevirtual 316, 3) := by decide +kernel
theorem d_A_copyOf_aII_10 : decode b_A_copyOf_aII 10 = .ok (.checkcast 317, 3) := by decide +kernel
theorem d_A_copyOf_aII_13 : decode b_A_copyOf_aII 13 = .ok (.areturn, 1) := by decide +kernel
theorem d_A_copyOf_aII_14 : decode b_A_copyOf_aII 14 = .ok (.iload_n 1, 1) := by decide +kernel
theorem d_A_copyOf_aII_15 : decode b_A_copyOf_aII 15 = .ok (.newarray .int, 2) := by decide +kernel
theorem d_A_copyOf_aII_17 : decode b_A_copyOf_aII 17 = .ok (.astore_n 2, 1) := by decide +kernel
theorem d_A_copyOf_aII_18 : decode b_A_copyOf_aII 18 = .ok (.aload_n 0, 1) := by decide +kernel
theorem d_A_copyOf_aII_19 : decode b_A_copyOf_aII 19 = .ok (.iconst 0, 1) := by decide +kernel
theorem d_A_copyOf_aII_20 : decode b_A_copyOf_aII 20 = .ok (.aload_n 2, 1) := by decide +kernel
theorem d_A_copyOf_aII_21 : decode b_A_copyOf_aII 21 = .ok (.iconst 0, 1) := by decide +kernel
theorem d_A_copyOf_aII_22 : decode b_A_copyOf_aII 22 = .ok (.aload_n 0, 1) := by decide +kernel
theorem d_A_copyOf_aII_23 : decode b_A_copyOf_aII 23 = .ok (.arraylength, 1) := by decide +kernel
theorem d_A_copyOf_aII_24 : decode b_A_copyOf_aII 24 = .ok (.iload_n 1, 1) := by decide +kernel
theorem d_A_copyOf_aII_25 : decode b_A_copyOf_aII 25 = .ok (.invokestatic 304, 3) := by decide +kernel
theorem d_A_copyOf_aII_28 : decode b_A_copyOf_aII 28 = .ok (.invokestatic 150, 3) := by decide +kernel
theorem d_A_copyOf_aII_31 : decode b_A_copyOf_aII 31 = .ok (.aload_n 2, 1) := by decide +kernel
theorem d_A_copyOf_aII_32 : decode b_A_copyOf_aII 32 = .ok (.areturn, 1) := by decide +kernel
theorem d_A_fill_0 : decode b_A_fill 0 = .ok (.iconst 0, 1) := by decide +kernel
theorem d_A_fill_1 : decode b_A_fill 1 = .ok (.istore_n 2, 1) := by decide +kernel
theorem d_A_fill_2 : decode b_A_fill 2 = .ok (.aload_n 0, 1) := by decide +kernel
theorem d_A_fill_3 : decode b_A_fill 3 = .ok (.arraylength, 1) := by decide +kernel
theorem d_A_fill_4 : decode b_A_fill 4 = .ok (.istore_n 3, 1) := by decide +kernel
theorem d_A_fill_5 : decode b_A_fill 5 = .ok (.iload_n 2, 1) := by decide +kernel
theorem d_A_fill_6 : decode b_A_fill 6 = .ok (.iload_n 3, 1) := by decide +kernel
theorem d_A_fill_7 : decode b_A_fill 7 = .ok (.if_icmp .ge 13, 3) := by decide +kernel
theorem d_A_fill_10 : decode b_A_fill 10 = .ok (.aload_n 0, 1) := by decide +kernel
theorem d_A_fill_11 : decode b_A_fill 11 = .ok (.iload_n 2, 1) := by decide +kernel
theorem d_A_fill_12 : decode b_A_fill 12 = .ok (.iload_n 1, 1) := by decide +kernel
theorem d_A_fill_13 : decode b_A_fill 13 = .ok (.iastore, 1) := by decide +kernel
theorem d_A_fill_14 : decode b_A_fill 14 = .ok (.iinc 2 1, 3) := by decide +kernel
theorem d_A_fill_17 : decode b_A_fill 17 = .ok (.goto (-12), 3) := by decide +kernel
theorem d_A_fill_20 : decode b_A_fill 20 = .ok (.return_, 1) := by decide +kernel
theorem d_B_add_0 : decode b_B_add 0 = .ok (.aload_n 0, 1) := by decide +kernel
theorem d_B_add_1 : decode b_B_add 1 = .ok (.getfield 15, 3) := by decide +kernel
theorem d_B_add_4 : decode b_B_add 4 = .ok (.aload_n 0, 1) := by decide +kernel
theorem d_B_add_5 : decode b_B_add 5 = .ok (.getfield 9, 3) := by decide +kernel
theorem d_B_add_8 : decode b_B_add 8 = .ok (.arraylength, 1) := by decide +kernel
theorem d_B_add_9 : decode b_B_add 9 = .ok (.if_icmp .lt 21, 3) := by decide +kernel
theorem d_B_add_12 : decode b_B_add 12 = .ok (.aload_n 0, 1) := by decide +kernel
theorem d_B_add_13 : decode b_B_add 13 = .ok (.aload_n 0, 1) := by decide +kernel
theorem d_B_add_14 : decode b_B_add 14 = .ok (.getfield 9, 3) := by decide +kernel
theorem d_B_add_17 : decode b_B_add 17 = .ok (.iconst 2, 1) := by decide +kernel
theorem d_B_add_18 : decode b_B_add 18 = .ok (.aload_n 0, 1) := by decide +kernel
theorem d_B_add_19 : decode b_B_add 19 = .ok (.getfield 9, 3) := by decide +kernel
theorem d_B_add_22 : decode b_B_add 22 = .ok (.arraylength, 1) := by decide +kernel
theorem d_B_add_23 : decode b_B_add 23 = .ok (.imul, 1) := by decide +kernel
theorem d_B_add_24 : decode b_B_add 24 = .ok (.invokestatic 23, 3) := by decide +kernel
theorem d_B_add_27 : decode b_B_add 27 = .ok (.putfield 9, 3) := by decide +kernel
theorem d_B_add_30 : decode b_B_add 30 = .ok (.aload_n 0, 1) := by decide +kernel
theorem d_B_add_31 : decode b_B_add 31 = .ok (.getfield 9, 3) := by decide +kernel
theorem d_B_add_34 : decode b_B_add 34 = .ok (.aload_n 0, 1) := by decide +kernel
theorem d_B_add_35 : decode b_B_add 35 = .ok (.getfield 15, 3) := by decide +kernel
theorem d_B_add_38 : decode b_B_add 38 = .ok (.iload_n 1, 1) := by decide +kernel
theorem d_B_add_39 : decode b_B_add 39 = .ok (.i2b, 1) := by decide +kernel
theorem d_B_add_40 : decode b_B_add 40 = .ok (.bastore, 1) := by decide +kernel
theorem d_B_add_41 : decode b_B_add 41 = .ok (.aload_n 0, 1) := by decide +kernel
theorem d_B_add_42 : decode b_B_add 42 = .ok (.dup, 1) := by decide +kernel
theorem d_B_add_43 : decode b_B_add 43 = .ok (.getfield 15, 3) := by decide +kernel
theorem d_B_add_46 : decode b_B_add 46 = .ok (.iconst 1, 1) := by decide +kernel
theorem d_B_add_47 : decode b_B_add 47 = .ok (.iadd, 1) := by decide +kernel
theorem d_B_add_48 : decode b_B_add 48 = .ok (.putfield 15, 3) := by decide +kernel
theorem d_B_add_51 : decode b_B_add 51 = .ok (.return_, 1) := by decide +kernel
theorem d_B_addPair_0 : decode b_B_addPair 0 = .ok (.aload_n 0, 1) := by decide +kernel
theorem d_B_addPair_1 : decode b_B_addPair 1 = .ok (.iload_n 1, 1) := by decide +kernel
theorem d_B_addPair_2 : decode b_B_addPair 2 = .ok (.bipush 8, 2) := by decide +kernel
theorem d_B_addPair_4 : decode b_B_addPair 4 = .ok (.iushr, 1) := by decide +kernel
theorem d_B_addPair_5 : decode b_B_addPair 5 = .ok (.invokevirtual 29, 3) := by decide +kernel
theorem d_B_addPair_8 : decode b_B_addPair 8 = .ok (.aload_n 0, 1) := by decide +kernel
theorem d_B_addPair_9 : decode b_B_addPair 9 = .ok (.iload_n 1, 1) := by decide +kernel
theorem d_B_addPair_10 : decode b_B_addPair 10 = .ok (.invokevirtual 29, 3) := by decide +kernel
theorem d_B_addPair_13 : decode b_B_addPair 13 = .ok (.return_, 1) := by decide +kernel
theorem d_B_addWord_0 : decode b_B_addWord 0 = .ok (.aload_n 0, 1) := by decide +kernel
theorem d_B_addWord_1 : decode b_B_addWord 1 = .ok (.iload_n 1, 1) := by decide +kernel
theorem d_B_addWord_2 : decode b_B_addWord 2 = .ok (.bipush 16, 2) := by decide +kernel
theorem d_B_addWord_4 : decode b_B_addWord 4 = .ok (.iushr, 1) := by decide +kernel
theorem d_B_addWord_5 : decode b_B_addWord 5 = .ok (.invokevirtual 33, 3) := by decide +kernel
theorem d_B_addWord_8 : decode b_B_addWord 8 = .ok (.aload_n 0, 1) := by decide +kernel
theorem d_B_addWord_9 : decode b_B_addWord 9 = .ok (.iload_n 1, 1) := by decide +kernel
theorem d_B_addWord_10 : decode b_B_addWord 10 = .ok (.invokevirtual 33, 3) := by decide +kernel
theorem d_B_addWord_13 : decode b_B_addWord 13 = .ok (.return_, 1) := by decide +kernel
theorem d_B_at_0 : decode b_B_at 0 = .ok (.iload_n 1, 1) := by decide +kernel
theorem d_B_at_1 : decode b_B_at 1 = .ok (.ifCond .lt 24, 3) := by decide +kernel
theorem d_B_at_4 : decode b_B_at 4 = .ok (.iload_n 1, 1) := by decide +kernel
theorem d_B_at_5 : decode b_B_at 5 = .ok (.aload_n 0, 1) := by decide +kernel
theorem d_B_at_6 : decode b_B_at 6 = .ok (.getfield 15, 3) := by decide +kernel
theorem d_B_at_9 : decode b_B_at 9 = .ok (.if_icmp .ge 16, 3) := by decide +kernel
theorem d_B_at_12 : decode b_B_at 12 = .ok (.aload_n 0, 1) := by decide +kernel
theorem d_B_at_13 : decode b_B_at 13 = .ok (.getfield 9, 3) := by decide +kernel
theorem d_B_at_16 : decode b_B_at 16 = .ok (.iload_n 1, 1) := by decide +kernel
theorem d_B_at_17 : decode b_B_at 17 = .ok (.baload, 1) := by decide +kernel
theorem d_B_at_18 : decode b_B_at 18 = .ok (.sipush 255, 3) := by decide +kernel
theorem d_B_at_21 : decode b_B_at 21 = .ok (.iand, 1) := by decide +kernel
theorem d_B_at_22 : decode b_B_at 22 = .ok (.goto 4, 3) := by decide +kernel
theorem d_B_at_25 : decode b_B_at 25 = .ok (.iconst (-1), 1) := by decide +kernel
theorem d_B_at_26 : decode b_B_at 26 = .ok (.ireturn, 1) := by decide +kernel
theorem d_B_init_0 : decode b_B_init 0 = .ok (.aload_n 0, 1) := by decide +kernel
theorem d_B_init_1 : decode b_B_init 1 = .ok (.invokespecial 3, 3) := by decide +kernel
theorem d_B_init_4 : decode b_B_init 4 = .ok (.aload_n 0, 1) := by decide +kernel
theorem d_B_init_5 : decode b_B_init 5 = .ok (.sipush 256, 3) := by decide +kernel
theorem d_B_init_8 : decode b_B_init 8 = .ok (.newarray .byte, 2) := by decide +kernel
theorem d_B_init_10 : decode b_B_init 10 = .ok (.putfield 9, 3) := by decide +kernel
theorem d_B_init_13 : decode b_B_init 13 = .ok (.return_, 1) := by decide +kernel
theorem d_B_pairAt_0 : decode b_B_pairAt 0 = .ok (.aload_n 0, 1) := by decide +kernel
theorem d_B_pairAt_1 : decode b_B_pairAt 1 = .ok (.iload_n 1, 1) := by decide +kernel
theorem d_B_pairAt_2 : decode b_B_pairAt 2 = .ok (.invokevirtual 19, 3) := by decide +kernel
theorem d_B_pairAt_5 : decode b_B_pairAt 5 = .ok (.bipush 8, 2) := by decide +kernel
theorem d_B_pairAt_7 : decode b_B_pairAt 7 = .ok (.ishl, 1) := by decide +kernel
theorem d_B_pairAt_8 : decode b_B_pairAt 8 = .ok (.aload_n 0, 1) := by decide +kernel
theorem d_B_pairAt_9 : decode b_B_pairAt 9 = .ok (.iload_n 1, 1) := by decide +kernel
theorem d_B_pairAt_10 : decode b_B_pairAt 10 = .ok (.iconst 1, 1) := by decide +kernel
theorem d_B_pairAt_11 : decode b_B_pairAt 11 = .ok (.iadd, 1) := by decide +kernel
theorem d_B_pairAt_12 : decode b_B_pairAt 12 = .ok (.invokevirtual 19, 3) := by decide +kernel
theorem d_B_pairAt_15 : decode b_B_pairAt 15 = .ok (.ior, 1) := by decide +kernel
theorem d_B_pairAt_16 : decode b_B_pairAt 16 = .ok (.ireturn, 1) := by decide +kernel
theorem d_B_reaches_0 : decode b_B_reaches 0 = .ok (.iload_n 1, 1) := by decide +kernel
theorem d_B_reaches_1 : decode b_B_reaches 1 = .ok (.iload_n 2, 1) := by decide +kernel
theorem d_B_reaches_2 : decode b_B_reaches 2 = .ok (.iadd, 1) := by decide +kernel
theorem d_B_reaches_3 : decode b_B_reaches 3 = .ok (.aload_n 0, 1) := by decide +kernel
theorem d_B_reaches_4 : decode b_B_reaches 4 = .ok (.getfield 15, 3) := by decide +kernel
theorem d_B_reaches_7 : decode b_B_reaches 7 = .ok (.if_icmp .gt 7, 3) := by decide +kernel
theorem d_B_reaches_10 : decode b_B_reaches 10 = .ok (.iconst 1, 1) := by decide +kernel
theorem d_B_reaches_11 : decode b_B_reaches 11 = .ok (.goto 4, 3) := by decide +kernel
theorem d_B_reaches_14 : decode b_B_reaches 14 = .ok (.iconst 0, 1) := by decide +kernel
theorem d_B_reaches_15 : decode b_B_reaches 15 = .ok (.ireturn, 1) := by decide +kernel
theorem d_B_wordAt_0 : decode b_B_wordAt 0 = .ok (.aload_n 0, 1) := by decide +kernel
theorem d_B_wordAt_1 : decode b_B_wordAt 1 = .ok (.iload_n 1, 1) := by decide +kernel
theorem d_B_wordAt_2 : decode b_B_wordAt 2 = .ok (.invokevirtual 19, 3) := by decide +kernel
theorem d_B_wordAt_5 : decode b_B_wordAt 5 = .ok (.bipush 24, 2) := by decide +kernel
theorem d_B_wordAt_7 : decode b_B_wordAt 7 = .ok (.ishl, 1) := by decide +kernel
theorem d_B_wordAt_8 : decode b_B_wordAt 8 = .ok (.aload_n 0, 1) := by decide +kernel
theorem d_B_wordAt_9 : decode b_B_wordAt 9 = .ok (.iload_n 1, 1) := by decide +kernel
theorem d_B_wordAt_10 : decode b_B_wordAt 10 = .ok (.iconst 1, 1) := by decide +kernel
theorem d_B_wordAt_11 : decode b_B_wordAt 11 = .ok (.iadd, 1) := by decide +kernel
theorem d_B_wordAt_12 : decode b_B_wordAt 12 = .ok (.invokevirtual 19, 3) := by decide +kernel
theorem d_B_wordAt_15 : decode b_B_wordAt 15 = .ok (.bipush 16, 2) := by decide +kernel
theorem d_B_wordAt_17 : decode b_B_wordAt 17 = .ok (.ishl, 1) := by decide +kernel
theorem d_B_wordAt_18 : decode b_B_wordAt 18 = .ok (.ior, 1) := by decide +kernel
theorem d_B_wordAt_19 : decode b_B_wordAt 19 = .ok (.aload_n 0, 1) := by decide +kernel
theorem d_B_wordAt_20 : decode b_B_wordAt 20 = .ok (.iload_n 1, 1) := by decide +kernel
theorem d_B_wordAt_21 : decode b_B_wordAt 21 = .ok (.iconst 2, 1) := by decide +kernel
theorem d_B_wordAt_22 : decode b_B_wordAt 22 = .ok (.iadd, 1) := by decide +kernel
theorem d_B_wordAt_23 : decode b_B_wordAt 23 = .ok (.invokevirtual 19, 3) := by decide +kernel
theorem d_B_wordAt_26 : decode b_B_wordAt 26 = .ok (.bipush 8, 2) := by decide +kernel
theorem d_B_wordAt_28 : decode b_B_wordAt 28 = .ok (.ishl, 1) := by decide +kernel
theorem d_B_wordAt_29 : decode b_B_wordAt 29 = .ok (.ior, 1) := by decide +kernel
theorem d_B_wordAt_30 : decode b_B_wordAt 30 = .ok (.aload_n 0, 1) := by decide +kernel
theorem d_B_wordAt_31 : decode b_B_wordAt 31 = .ok (.iload_n 1, 1) := by decide +kernel
theorem d_B_wordAt_32 : decode b_B_wordAt 32 = .ok (.iconst 3, 1) := by decide +kernel
theorem d_B_wordAt_33 : decode b_B_wordAt 33 = .ok (.iadd, 1) := by decide +kernel
theorem d_B_wordAt_34 : decode b_B_wordAt 34 = .ok (.invokevirtual 19, 3) := by decide +kernel
theorem d_B_wordAt_37 : decode b_B_wordAt 37 = .ok (.ior, 1) := by decide +kernel
theorem d_B_wordAt_38 : decode b_B_wordAt 38 = .ok (.ireturn, 1) := by decide +kernel
theorem d_F_areLinksFit_0 : decode b_F_areLinksFit 0 = .ok (.aload_n 0, 1) := by decide +kernel
theorem d_F_areLinksFit_1 : decode b_F_areLinksFit 1 = .ok (.iload_n 1, 1) := by decide +kernel
theorem d_F_areLinksFit_2 : decode b_F_areLinksFit 2 = .ok (.iconst 0, 1) := by decide +kernel
theorem d_F_areLinksFit_3 : decode b_F_areLinksFit 3 = .ok (.invokevirtual 79, 3) := by decide +kernel
theorem d_F_areLinksFit_6 : decode b_F_areLinksFit 6 = .ok (.istore_n 2, 1) := by decide +kernel
theorem d_F_areLinksFit_7 : decode b_F_areLinksFit 7 = .ok (.iload_n 2, 1) := by decide +kernel
theorem d_F_areLinksFit_8 : decode b_F_areLinksFit 8 = .ok (.ifCond .eq 15, 3) := by decide +kernel
theorem d_F_areLinksFit_11 : decode b_F_areLinksFit 11 = .ok (.aload_n 0, 1) := by decide +kernel
theorem d_F_areLinksFit_12 : decode b_F_areLinksFit 12 = .ok (.aload_n 0, 1) := by decide +kernel
theorem d_F_areLinksFit_13 : decode b_F_areLinksFit 13 = .ok (.iload_n 2, 1) := by decide +kernel
theorem d_F_areLinksFit_14 : decode b_F_areLinksFit 14 = .ok (.invokevirtual 34, 3) := by decide +kernel
theorem d_F_areLinksFit_17 : decode b_F_areLinksFit 17 = .ok (.invokevirtual 111, 3) := by decide +kernel
theorem d_F_areLinksFit_20 : decode b_F_areLinksFit 20 = .ok (.ifCond .eq 19, 3) := by decide +kernel
theorem d_F_areLinksFit_23 : decode b_F_areLinksFit 23 = .ok (.aload_n 0, 1) := by decide +kernel
theorem d_F_areLinksFit_24 : decode b_F_areLinksFit 24 = .ok (.iload_n 1, 1) := by decide +kernel
theorem d_F_areLinksFit_25 : decode b_F_areLinksFit 25 = .ok (.iconst 1, 1) := by decide +kernel
theorem d_F_areLinksFit_26 : decode b_F_areLinksFit 26 = .ok (.invokevirtual 79, 3) := by decide +kernel
theorem d_F_areLinksFit_29 : decode b_F_areLinksFit 29 = .ok (.invokestatic 108, 3) := by decide +kernel
theorem d_F_areLinksFit_32 : decode b_F_areLinksFit 32 = .ok (.ifCond .eq 7, 3) := by decide +kernel
theorem d_F_areLinksFit_35 : decode b_F_areLinksFit 35 = .ok (.iconst 1, 1) := by decide +kernel
theorem d_F_areLinksFit_36 : decode b_F_areLinksFit 36 = .ok (.goto 4, 3) := by decide +kernel
theorem d_F_areLinksFit_39 : decode b_F_areLinksFit 39 = .ok (.iconst 0, 1) := by decide +kernel
theorem d_F_areLinksFit_40 : decode b_F_areLinksFit 40 = .ok (.ireturn, 1) := by decide +kernel
theorem d_F_areListsFit_0 : decode b_F_areListsFit 0 = .ok (.aload_n 0, 1) := by decide +kernel
theorem d_F_areListsFit_1 : decode b_F_areListsFit 1 = .ok (.iload_n 1, 1) := by decide +kernel
theorem d_F_areListsFit_2 : decode b_F_areListsFit 2 = .ok (.bipush 8, 2) := by decide +kernel
theorem d_F_areListsFit_4 : decode b_F_areListsFit 4 = .ok (.invokestatic 47, 3) := by decide +kernel
theorem d_F_areListsFit_7 : decode b_F_areListsFit 7 = .ok (.ifCond .ne 5, 3) := by decide +kernel
theorem d_F_areListsFit_10 : decode b_F_areListsFit 10 = .ok (.iconst 0, 1) := by decide +kernel
theorem d_F_areListsFit_11 : decode b_F_areListsFit 11 = .ok (.ireturn, 1) := by decide +kernel
theorem d_F_areListsFit_12 : decode b_F_areListsFit 12 = .ok (.iconst 0, 1) := by decide +kernel
theorem d_F_areListsFit_13 : decode b_F_areListsFit 13 = .ok (.istore_n 2, 1) := by decide +kernel
theorem d_F_areListsFit_14 : decode b_F_areListsFit 14 = .ok (.iload_n 2, 1) := by decide +kernel
theorem d_F_areListsFit_15 : decode b_F_areListsFit 15 = .ok (.bipush 8, 2) := by decide +kernel
theorem d_F_areListsFit_17 : decode b_F_areListsFit 17 = .ok (.if_icmp .ge 29, 3) := by decide +kernel
theorem d_F_areListsFit_20 : decode b_F_areListsFit 20 = .ok (.aload_n 0, 1) := by decide +kernel
theorem d_F_areListsFit_21 : decode b_F_areListsFit 21 = .ok (.aload_n 0, 1) := by decide +kernel
theorem d_F_areListsFit_22 : decode b_F_areListsFit 22 = .ok (.aload_n 0, 1) := by decide +kernel
theorem d_F_areListsFit_23 : decode b_F_areListsFit 23 = .ok (.iload_n 1, 1) := by decide +kernel
theorem d_F_areListsFit_24 : decode b_F_areListsFit 24 = .ok (.iload_n 2, 1) := by decide +kernel
theorem d_F_areListsFit_25 : decode b_F_areListsFit 25 = .ok (.invokevirtual 79, 3) := by decide +kernel
theorem d_F_areListsFit_28 : decode b_F_areListsFit 28 = .ok (.invokevirtual 34, 3) := by decide +kernel
theorem d_F_areListsFit_31 : decode b_F_areListsFit 31 = .ok (.iconst 2, 1) := by decide +kernel
theorem d_F_areListsFit_32 : decode b_F_areListsFit 32 = .ok (.invokestatic 47, 3) := by decide +kernel
theorem d_F_areListsFit_35 : decode b_F_areListsFit 35 = .ok (.ifCond .ne 5, 3) := by decide +kernel
theorem d_F_areListsFit_38 : decode b_F_areListsFit 38 = .ok (.iconst 0, 1) := by decide +kernel
theorem d_F_areListsFit_39 : decode b_F_areListsFit 39 = .ok (.ireturn, 1) := by decide +kernel
theorem d_F_areListsFit_40 : decode b_F_areListsFit 40 = .ok (.iinc 2 1, 3) := by decide +kernel
theorem d_F_areListsFit_43 : decode b_F_areListsFit 43 = .ok (.goto (-29), 3) := by decide +kernel
theorem d_F_areListsFit_46 : decode b_F_areListsFit 46 = .ok (.iconst 1, 1) := by decide +kernel
theorem d_F_areListsFit_47 : decode b_F_areListsFit 47 = .ok (.ireturn, 1) := by decide +kernel
theorem d_F_argumentsOf_0 : decode b_F_argumentsOf 0 = .ok (.iload_n 0, 1) := by decide +kernel
theorem d_F_argumentsOf_1 : decode b_F_argumentsOf 1 = .ok (.bipush 15, 2) := by decide +kernel
theorem d_F_argumentsOf_3 : decode b_F_argumentsOf 3 = .ok (.iand, 1) := by decide +kernel
theorem d_F_argumentsOf_4 : decode b_F_argumentsOf 4 = .ok (.ireturn, 1) := by decide +kernel
theorem d_F_depthOf_0 : decode b_F_depthOf 0 = .ok (.iload_n 0, 1) := by decide +kernel
theorem d_F_depthOf_1 : decode b_F_depthOf 1 = .ok (.bipush 9, 2) := by decide +kernel
theorem d_F_depthOf_3 : decode b_F_depthOf 3 = .ok (.ishr, 1) := by decide +kernel
theorem d_F_depthOf_4 : decode b_F_depthOf 4 = .ok (.bipush 63, 2) := by decide +kernel
theorem d_F_depthOf_6 : decode b_F_depthOf 6 = .ok (.iand, 1) := by decide +kernel
theorem d_F_depthOf_7 : decode b_F_depthOf 7 = .ok (.ireturn, 1) := by decide +kernel
theorem d_F_hasFitClass_0 : decode b_F_hasFitClass 0 = .ok (.aload_n 0, 1) := by decide +kernel
theorem d_F_hasFitClass_1 : decode b_F_hasFitClass 1 = .ok (.aload_n 0, 1) := by decide +kernel
theorem d_F_hasFitClass_2 : decode b_F_hasFitClass 2 = .ok (.iload_n 1, 1) := by decide +kernel
theorem d_F_hasFitClass_3 : decode b_F_hasFitClass 3 = .ok (.invokevirtual 76, 3) := by decide +kernel
theorem d_F_hasFitClass_6 : decode b_F_hasFitClass 6 = .ok (.invokevirtual 34, 3) := by decide +kernel
theorem d_F_hasFitClass_9 : decode b_F_hasFitClass 9 = .ok (.istore_n 2, 1) := by decide +kernel
theorem d_F_hasFitClass_10 : decode b_F_hasFitClass 10 = .ok (.aload_n 0, 1) := by decide +kernel
theorem d_F_hasFitClass_11 : decode b_F_hasFitClass 11 = .ok (.iload_n 2, 1) := by decide +kernel
theorem d_F_hasFitClass_12 : decode b_F_hasFitClass 12 = .ok (.invokestatic 41, 3) := by decide +kernel
theorem d_F_hasFitClass_15 : decode b_F_hasFitClass 15 = .ok (.ifCond .ne 5, 3) := by decide +kernel
theorem d_F_hasFitClass_18 : decode b_F_hasFitClass 18 = .ok (.iconst 0, 1) := by decide +kernel
theorem d_F_hasFitClass_19 : decode b_F_hasFitClass 19 = .ok (.ireturn, 1) := by decide +kernel
theorem d_F_hasFitClass_20 : decode b_F_hasFitClass 20 = .ok (.aload_n 0, 1) := by decide +kernel
theorem d_F_hasFitClass_21 : decode b_F_hasFitClass 21 = .ok (.iload_n 2, 1) := by decide +kernel
theorem d_F_hasFitClass_22 : decode b_F_hasFitClass 22 = .ok (.iconst 2, 1) := by decide +kernel
theorem d_F_hasFitClass_23 : decode b_F_hasFitClass 23 = .ok (.invokevirtual 79, 3) := by decide +kernel
theorem d_F_hasFitClass_26 : decode b_F_hasFitClass 26 = .ok (.invokestatic 82, 3) := by decide +kernel
theorem d_F_hasFitClass_29 : decode b_F_hasFitClass 29 = .ok (.istore_n 3, 1) := by decide +kernel
theorem d_F_hasFitClass_30 : decode b_F_hasFitClass 30 = .ok (.iload_n 3, 1) := by decide +kernel
theorem d_F_hasFitClass_31 : decode b_F_hasFitClass 31 = .ok (.sipush 2048, 3) := by decide +kernel
theorem d_F_hasFitClass_34 : decode b_F_hasFitClass 34 = .ok (.iand, 1) := by decide +kernel
theorem d_F_hasFitClass_35 : decode b_F_hasFitClass 35 = .ok (.ifCond .eq 7, 3) := by decide +kernel
theorem d_F_hasFitClass_38 : decode b_F_hasFitClass 38 = .ok (.iconst 1, 1) := by decide +kernel
theorem d_F_hasFitClass_39 : decode b_F_hasFitClass 39 = .ok (.goto 4, 3) := by decide +kernel
theorem d_F_hasFitClass_42 : decode b_F_hasFitClass 42 = .ok (.iconst 0, 1) := by decide +kernel
theorem d_F_hasFitClass_43 : decode b_F_hasFitClass 43 = .ok (.istore 4, 2) := by decide +kernel
theorem d_F_hasFitClass_45 : decode b_F_hasFitClass 45 = .ok (.iload 4, 2) := by decide +kernel
theorem d_F_hasFitClass_47 : decode b_F_hasFitClass 47 = .ok (.ifCond .ne 11, 3) := by decide +kernel
theorem d_F_hasFitClass_50 : decode b_F_hasFitClass 50 = .ok (.aload_n 0, 1) := by decide +kernel
theorem d_F_hasFitClass_51 : decode b_F_hasFitClass 51 = .ok (.iload_n 1, 1) := by decide +kernel
theorem d_F_hasFitClass_52 : decode b_F_hasFitClass 52 = .ok (.invokevirtual 85, 3) := by decide +kernel
theorem d_F_hasFitClass_55 : decode b_F_hasFitClass 55 = .ok (.ifCond .eq 22, 3) := by decide +kernel
theorem d_F_hasFitClass_58 : decode b_F_hasFitClass 58 = .ok (.iload 4, 2) := by decide +kernel
theorem d_F_hasFitClass_60 : decode b_F_hasFitClass 60 = .ok (.ifCond .eq 15, 3) := by decide +kernel
theorem d_F_hasFitClass_63 : decode b_F_hasFitClass 63 = .ok (.aload_n 0, 1) := by decide +kernel
theorem d_F_hasFitClass_64 : decode b_F_hasFitClass 64 = .ok (.iload_n 1, 1) := by decide +kernel
theorem d_F_hasFitClass_65 : decode b_F_hasFitClass 65 = .ok (.invokevirtual 85, 3) := by decide +kernel
theorem d_F_hasFitClass_68 : decode b_F_hasFitClass 68 = .ok (.ifCond .eq 7, 3) := by decide +kernel
theorem d_F_hasFitClass_71 : decode b_F_hasFitClass 71 = .ok (.iconst 1, 1) := by decide +kernel
theorem d_F_hasFitClass_72 : decode b_F_hasFitClass 72 = .ok (.goto 4, 3) := by decide +kernel
theorem d_F_hasFitClass_75 : decode b_F_hasFitClass 75 = .ok (.iconst 0, 1) := by decide +kernel
theorem d_F_hasFitClass_76 : decode b_F_hasFitClass 76 = .ok (.ireturn, 1) := by decide +kernel
theorem d_F_hasFitClass_77 : decode b_F_hasFitClass 77 = .ok (.iload_n 3, 1) := by decide +kernel
theorem d_F_hasFitClass_78 : decode b_F_hasFitClass 78 = .ok (.sipush 255, 3) := by decide +kernel
theorem d_F_hasFitClass_81 : decode b_F_hasFitClass 81 = .ok (.iand, 1) := by decide +kernel
theorem d_F_hasFitClass_82 : decode b_F_hasFitClass 82 = .ok (.istore 5, 2) := by decide +kernel
theorem d_F_hasFitClass_84 : decode b_F_hasFitClass 84 = .ok (.aload_n 0, 1) := by decide +kernel
theorem d_F_hasFitClass_85 : decode b_F_hasFitClass 85 = .ok (.iload_n 1, 1) := by decide +kernel
theorem d_F_hasFitClass_86 : decode b_F_hasFitClass 86 = .ok (.invokevirtual 44, 3) := by decide +kernel
theorem d_F_hasFitClass_89 : decode b_F_hasFitClass 89 = .ok (.istore 6, 2) := by decide +kernel
theorem d_F_hasFitClass_91 : decode b_F_hasFitClass 91 = .ok (.iload 6, 2) := by decide +kernel
theorem d_F_hasFitClass_93 : decode b_F_hasFitClass 93 = .ok (.iload 5, 2) := by decide +kernel
theorem d_F_hasFitClass_95 : decode b_F_hasFitClass 95 = .ok (.if_icmp .eq 18, 3) := by decide +kernel
theorem d_F_hasFitClass_98 : decode b_F_hasFitClass 98 = .ok (.iload 6, 2) := by decide +kernel
theorem d_F_hasFitClass_100 : decode b_F_hasFitClass 100 = .ok (.iload 5, 2) := by decide +kernel
theorem d_F_hasFitClass_102 : decode b_F_hasFitClass 102 = .ok (.if_icmp .le 15, 3) := by decide +kernel
theorem d_F_hasFitClass_105 : decode b_F_hasFitClass 105 = .ok (.iload_n 3, 1) := by decide +kernel
theorem d_F_hasFitClass_106 : decode b_F_hasFitClass 106 = .ok (.sipush 1024, 3) := by decide +kernel
theorem d_F_hasFitClass_109 : decode b_F_hasFitClass 109 = .ok (.iand, 1) := by decide +kernel
theorem d_F_hasFitClass_110 : decode b_F_hasFitClass 110 = .ok (.ifCond .eq 7, 3) := by decide +kernel
theorem d_F_hasFitClass_113 : decode b_F_hasFitClass 113 = .ok (.iconst 1, 1) := by decide +kernel
theorem d_F_hasFitClass_114 : decode b_F_hasFitClass 114 = .ok (.goto 4, 3) := by decide +kernel
theorem d_F_hasFitClass_117 : decode b_F_hasFitClass 117 = .ok (.iconst 0, 1) := by decide +kernel
theorem d_F_hasFitClass_118 : decode b_F_hasFitClass 118 = .ok (.ireturn, 1) := by decide +kernel
theorem d_F_isBlockContext_0 : decode b_F_isBlockContext 0 = .ok (.aload_n 0, 1) := by decide +kernel
theorem d_F_isBlockContext_1 : decode b_F_isBlockContext 1 = .ok (.aload_n 0, 1) := by decide +kernel
theorem d_F_isBlockContext_2 : decode b_F_isBlockContext 2 = .ok (.iload_n 1, 1) := by decide +kernel
theorem d_F_isBlockContext_3 : decode b_F_isBlockContext 3 = .ok (.iconst 5, 1) := by decide +kernel
theorem d_F_isBlockContext_4 : decode b_F_isBlockContext 4 = .ok (.invokevirtual 79, 3) := by decide +kernel
theorem d_F_isBlockContext_7 : decode b_F_isBlockContext 7 = .ok (.invokevirtual 34, 3) := by decide +kernel
theorem d_F_isBlockContext_10 : decode b_F_isBlockContext 10 = .ok (.istore_n 2, 1) := by decide +kernel
theorem d_F_isBlockContext_11 : decode b_F_isBlockContext 11 = .ok (.aload_n 0, 1) := by decide +kernel
theorem d_F_isBlockContext_12 : decode b_F_isBlockContext 12 = .ok (.aload_n 0, 1) := by decide +kernel
theorem d_F_isBlockContext_13 : decode b_F_isBlockContext 13 = .ok (.iload_n 2, 1) := by decide +kernel
theorem d_F_isBlockContext_14 : decode b_F_isBlockContext 14 = .ok (.iconst 3, 1) := by decide +kernel
theorem d_F_isBlockContext_15 : decode b_F_isBlockContext 15 = .ok (.invokevirtual 79, 3) := by decide +kernel
theorem d_F_isBlockContext_18 : decode b_F_isBlockContext 18 = .ok (.invokevirtual 34, 3) := by decide +kernel
theorem d_F_isBlockContext_21 : decode b_F_isBlockContext 21 = .ok (.istore_n 3, 1) := by decide +kernel
theorem d_F_isBlockContext_22 : decode b_F_isBlockContext 22 = .ok (.aload_n 0, 1) := by decide +kernel
theorem d_F_isBlockContext_23 : decode b_F_isBlockContext 23 = .ok (.iload_n 2, 1) := by decide +kernel
theorem d_F_isBlockContext_24 : decode b_F_isBlockContext 24 = .ok (.bipush 7, 2) := by decide +kernel
theorem d_F_isBlockContext_26 : decode b_F_isBlockContext 26 = .ok (.invokevirtual 53, 3) := by decide +kernel
theorem d_F_isBlockContext_29 : decode b_F_isBlockContext 29 = .ok (.ifCond .eq 20, 3) := by decide +kernel
theorem d_F_isBlockContext_32 : decode b_F_isBlockContext 32 = .ok (.aload_n 0, 1) := by decide +kernel
theorem d_F_isBlockContext_33 : decode b_F_isBlockContext 33 = .ok (.iload_n 2, 1) := by decide +kernel
theorem d_F_isBlockContext_34 : decode b_F_isBlockContext 34 = .ok (.invokevirtual 44, 3) := by decide +kernel
theorem d_F_isBlockContext_37 : decode b_F_isBlockContext 37 = .ok (.iconst 5, 1) := by decide +kernel
theorem d_F_isBlockContext_38 : decode b_F_isBlockContext 38 = .ok (.if_icmp .lt 11, 3) := by decide +kernel
theorem d_F_isBlockContext_41 : decode b_F_isBlockContext 41 = .ok (.aload_n 0, 1) := by decide +kernel
theorem d_F_isBlockContext_42 : decode b_F_isBlockContext 42 = .ok (.iload_n 3, 1) := by decide +kernel
theorem d_F_isBlockContext_43 : decode b_F_isBlockContext 43 = .ok (.invokestatic 89, 3) := by decide +kernel
theorem d_F_isBlockContext_46 : decode b_F_isBlockContext 46 = .ok (.ifCond .ne 5, 3) := by decide +kernel
theorem d_F_isBlockContext_49 : decode b_F_isBlockContext 49 = .ok (.iconst 0, 1) := by decide +kernel
theorem d_F_isBlockContext_50 : decode b_F_isBlockContext 50 = .ok (.ireturn, 1) := by decide +kernel
theorem d_F_isBlockContext_51 : decode b_F_isBlockContext 51 = .ok (.aload_n 0, 1) := by decide +kernel
theorem d_F_isBlockContext_52 : decode b_F_isBlockContext 52 = .ok (.iload_n 3, 1) := by decide +kernel
theorem d_F_isBlockContext_53 : decode b_F_isBlockContext 53 = .ok (.iconst 0, 1) := by decide +kernel
theorem d_F_isBlockContext_54 : decode b_F_isBlockContext 54 = .ok (.invokevirtual 79, 3) := by decide +kernel
theorem d_F_isBlockContext_57 : decode b_F_isBlockContext 57 = .ok (.invokestatic 82, 3) := by decide +kernel
theorem d_F_isBlockContext_60 : decode b_F_isBlockContext 60 = .ok (.invokestatic 95, 3) := by decide +kernel
theorem d_F_isBlockContext_63 : decode b_F_isBlockContext 63 = .ok (.istore 4, 2) := by decide +kernel
theorem d_F_isBlockContext_65 : decode b_F_isBlockContext 65 = .ok (.aload_n 0, 1) := by decide +kernel
theorem d_F_isBlockContext_66 : decode b_F_isBlockContext 66 = .ok (.iload_n 1, 1) := by decide +kernel
theorem d_F_isBlockContext_67 : decode b_F_isBlockContext 67 = .ok (.iconst 2, 1) := by decide +kernel
theorem d_F_isBlockContext_68 : decode b_F_isBlockContext 68 = .ok (.invokevirtual 79, 3) := by decide +kernel
theorem d_F_isBlockContext_71 : decode b_F_isBlockContext 71 = .ok (.istore 5, 2) := by decide +kernel
theorem d_F_isBlockContext_73 : decode b_F_isBlockContext 73 = .ok (.aload_n 0, 1) := by decide +kernel
theorem d_F_isBlockContext_74 : decode b_F_isBlockContext 74 = .ok (.iload_n 1, 1) := by decide +kernel
theorem d_F_isBlockContext_75 : decode b_F_isBlockContext 75 = .ok (.invokevirtual 44, 3) := by decide +kernel
theorem d_F_isBlockContext_78 : decode b_F_isBlockContext 78 = .ok (.bipush 6, 2) := by decide +kernel
theorem d_F_isBlockContext_80 : decode b_F_isBlockContext 80 = .ok (.iload 4, 2) := by decide +kernel
theorem d_F_isBlockContext_82 : decode b_F_isBlockContext 82 = .ok (.iadd, 1) := by decide +kernel
theorem d_F_isBlockContext_83 : decode b_F_isBlockContext 83 = .ok (.if_icmp .ne 69, 3) := by decide +kernel
theorem d_F_isBlockContext_86 : decode b_F_isBlockContext 86 = .ok (.aload_n 0, 1) := by decide +kernel
theorem d_F_isBlockContext_87 : decode b_F_isBlockContext 87 = .ok (.iload_n 1, 1) := by decide +kernel
theorem d_F_isBlockContext_88 : decode b_F_isBlockContext 88 = .ok (.invokestatic 98, 3) := by decide +kernel
theorem d_F_isBlockContext_91 : decode b_F_isBlockContext 91 = .ok (.ifCond .eq 61, 3) := by decide +kernel
theorem d_F_isBlockContext_94 : decode b_F_isBlockContext 94 = .ok (.iload 5, 2) := by decide +kernel
theorem d_F_isBlockContext_96 : decode b_F_isBlockContext 96 = .ok (.iconst 0, 1) := by decide +kernel
theorem d_F_isBlockContext_97 : decode b_F_isBlockContext 97 = .ok (.iload 4, 2) := by decide +kernel
theorem d_F_isBlockContext_99 : decode b_F_isBlockContext 99 = .ok (.invokestatic 101, 3) := by decide +kernel
theorem d_F_isBlockContext_102 : decode b_F_isBlockContext 102 = .ok (.ifCond .eq 50, 3) := by decide +kernel
theorem d_F_isBlockContext_105 : decode b_F_isBlockContext 105 = .ok (.aload_n 0, 1) := by decide +kernel
theorem d_F_isBlockContext_106 : decode b_F_isBlockContext 106 = .ok (.iload_n 1, 1) := by decide +kernel
theorem d_F_isBlockContext_107 : decode b_F_isBlockContext 107 = .ok (.iconst 3, 1) := by decide +kernel
theorem d_F_isBlockContext_108 : decode b_F_isBlockContext 108 = .ok (.invokevirtual 79, 3) := by decide +kernel
theorem d_F_isBlockContext_111 : decode b_F_isBlockContext 111 = .ok (.iconst 0, 1) := by decide +kernel
theorem d_F_isBlockContext_112 : decode b_F_isBlockContext 112 = .ok (.bipush 15, 2) := by decide +kernel
theorem d_F_isBlockContext_114 : decode b_F_isBlockContext 114 = .ok (.invokestatic 101, 3) := by decide +kernel
theorem d_F_isBlockContext_117 : decode b_F_isBlockContext 117 = .ok (.ifCond .eq 35, 3) := by decide +kernel
theorem d_F_isBlockContext_120 : decode b_F_isBlockContext 120 = .ok (.aload_n 0, 1) := by decide +kernel
theorem d_F_isBlockContext_121 : decode b_F_isBlockContext 121 = .ok (.iload_n 1, 1) := by decide +kernel
theorem d_F_isBlockContext_122 : decode b_F_isBlockContext 122 = .ok (.iconst 4, 1) := by decide +kernel
theorem d_F_isBlockContext_123 : decode b_F_isBlockContext 123 = .ok (.invokevirtual 79, 3) := by decide +kernel
theorem d_F_isBlockContext_126 : decode b_F_isBlockContext 126 = .ok (.invokestatic 108, 3) := by decide +kernel
theorem d_F_isBlockContext_129 : decode b_F_isBlockContext 129 = .ok (.ifCond .eq 23, 3) := by decide +kernel
theorem d_F_isBlockContext_132 : decode b_F_isBlockContext 132 = .ok (.aload_n 0, 1) := by decide +kernel
theorem d_F_isBlockContext_133 : decode b_F_isBlockContext 133 = .ok (.iload_n 1, 1) := by decide +kernel
theorem d_F_isBlockContext_134 : decode b_F_isBlockContext 134 = .ok (.bipush 6, 2) := by decide +kernel
theorem d_F_isBlockContext_136 : decode b_F_isBlockContext 136 = .ok (.iload 5, 2) := by decide +kernel
theorem d_F_isBlockContext_138 : decode b_F_isBlockContext 138 = .ok (.invokestatic 82, 3) := by decide +kernel
theorem d_F_isBlockContext_141 : decode b_F_isBlockContext 141 = .ok (.iadd, 1) := by decide +kernel
theorem d_F_isBlockContext_142 : decode b_F_isBlockContext 142 = .ok (.invokestatic 105, 3) := by decide +kernel
theorem d_F_isBlockContext_145 : decode b_F_isBlockContext 145 = .ok (.ifCond .eq 7, 3) := by decide +kernel
theorem d_F_isBlockContext_148 : decode b_F_isBlockContext 148 = .ok (.iconst 1, 1) := by decide +kernel
theorem d_F_isBlockContext_149 : decode b_F_isBlockContext 149 = .ok (.goto 4, 3) := by decide +kernel
theorem d_F_isBlockContext_152 : decode b_F_isBlockContext 152 = .ok (.iconst 0, 1) := by decide +kernel
theorem d_F_isBlockContext_153 : decode b_F_isBlockContext 153 = .ok (.ireturn, 1) := by decide +kernel
theorem d_F_isClass_0 : decode b_F_isClass 0 = .ok (.aload_n 0, 1) := by decide +kernel
theorem d_F_isClass_1 : decode b_F_isClass 1 = .ok (.iload_n 1, 1) := by decide +kernel
theorem d_F_isClass_2 : decode b_F_isClass 2 = .ok (.iconst 2, 1) := by decide +kernel
theorem d_F_isClass_3 : decode b_F_isClass 3 = .ok (.invokevirtual 79, 3) := by decide +kernel
theorem d_F_isClass_6 : decode b_F_isClass 6 = .ok (.istore_n 2, 1) := by decide +kernel
theorem d_F_isClass_7 : decode b_F_isClass 7 = .ok (.aload_n 0, 1) := by decide +kernel
theorem d_F_isClass_8 : decode b_F_isClass 8 = .ok (.iload_n 1, 1) := by decide +kernel
theorem d_F_isClass_9 : decode b_F_isClass 9 = .ok (.invokevirtual 44, 3) := by decide +kernel
theorem d_F_isClass_12 : decode b_F_isClass 12 = .ok (.iconst 3, 1) := by decide +kernel
theorem d_F_isClass_13 : decode b_F_isClass 13 = .ok (.if_icmp .lt 10, 3) := by decide +kernel
theorem d_F_isClass_16 : decode b_F_isClass 16 = .ok (.iload_n 2, 1) := by decide +kernel
theorem d_F_isClass_17 : decode b_F_isClass 17 = .ok (.invokestatic 115, 3) := by decide +kernel
theorem d_F_isClass_20 : decode b_F_isClass 20 = .ok (.ifCond .ne 5, 3) := by decide +kernel
theorem d_F_isClass_23 : decode b_F_isClass 23 = .ok (.iconst 0, 1) := by decide +kernel
theorem d_F_isClass_24 : decode b_F_isClass 24 = .ok (.ireturn, 1) := by decide +kernel
theorem d_F_isClass_25 : decode b_F_isClass 25 = .ok (.iload_n 2, 1) := by decide +kernel
theorem d_F_isClass_26 : decode b_F_isClass 26 = .ok (.invokestatic 82, 3) := by decide +kernel
theorem d_F_isClass_29 : decode b_F_isClass 29 = .ok (.istore_n 3, 1) := by decide +kernel
theorem d_F_isClass_30 : decode b_F_isClass 30 = .ok (.iload_n 3, 1) := by decide +kernel
theorem d_F_isClass_31 : decode b_F_isClass 31 = .ok (.sipush 2048, 3) := by decide +kernel
theorem d_F_isClass_34 : decode b_F_isClass 34 = .ok (.iand, 1) := by decide +kernel
theorem d_F_isClass_35 : decode b_F_isClass 35 = .ok (.ifCond .eq 16, 3) := by decide +kernel
theorem d_F_isClass_38 : decode b_F_isClass 38 = .ok (.iload_n 3, 1) := by decide +kernel
theorem d_F_isClass_39 : decode b_F_isClass 39 = .ok (.sipush 3072, 3) := by decide +kernel
theorem d_F_isClass_42 : decode b_F_isClass 42 = .ok (.if_icmp .ne 7, 3) := by decide +kernel
theorem d_F_isClass_45 : decode b_F_isClass 45 = .ok (.iconst 1, 1) := by decide +kernel
theorem d_F_isClass_46 : decode b_F_isClass 46 = .ok (.goto 4, 3) := by decide +kernel
theorem d_F_isClass_49 : decode b_F_isClass 49 = .ok (.iconst 0, 1) := by decide +kernel
theorem d_F_isClass_50 : decode b_F_isClass 50 = .ok (.ireturn, 1) := by decide +kernel
theorem d_F_isClass_51 : decode b_F_isClass 51 = .ok (.iload_n 3, 1) := by decide +kernel
theorem d_F_isClass_52 : decode b_F_isClass 52 = .ok (.sipush (-1280), 3) := by decide +kernel
theorem d_F_isClass_55 : decode b_F_isClass 55 = .ok (.iand, 1) := by decide +kernel
theorem d_F_isClass_56 : decode b_F_isClass 56 = .ok (.ifCond .ne 7, 3) := by decide +kernel
theorem d_F_isClass_59 : decode b_F_isClass 59 = .ok (.iconst 1, 1) := by decide +kernel
theorem d_F_isClass_60 : decode b_F_isClass 60 = .ok (.goto 4, 3) := by decide +kernel
theorem d_F_isClass_63 : decode b_F_isClass 63 = .ok (.iconst 0, 1) := by decide +kernel
theorem d_F_isClass_64 : decode b_F_isClass 64 = .ok (.ireturn, 1) := by decide +kernel
theorem d_F_isMethod_0 : decode b_F_isMethod 0 = .ok (.aload_n 0, 1) := by decide +kernel
theorem d_F_isMethod_1 : decode b_F_isMethod 1 = .ok (.iload_n 1, 1) := by decide +kernel
theorem d_F_isMethod_2 : decode b_F_isMethod 2 = .ok (.iconst 0, 1) := by decide +kernel
theorem d_F_isMethod_3 : decode b_F_isMethod 3 = .ok (.invokevirtual 79, 3) := by decide +kernel
theorem d_F_isMethod_6 : decode b_F_isMethod 6 = .ok (.istore_n 2, 1) := by decide +kernel
theorem d_F_isMethod_7 : decode b_F_isMethod 7 = .ok (.aload_n 0, 1) := by decide +kernel
theorem d_F_isMethod_8 : decode b_F_isMethod 8 = .ok (.iload_n 1, 1) := by decide +kernel
theorem d_F_isMethod_9 : decode b_F_isMethod 9 = .ok (.invokevirtual 44, 3) := by decide +kernel
theorem d_F_isMethod_12 : decode b_F_isMethod 12 = .ok (.iconst 2, 1) := by decide +kernel
theorem d_F_isMethod_13 : decode b_F_isMethod 13 = .ok (.if_icmp .lt 51, 3) := by decide +kernel
theorem d_F_isMethod_16 : decode b_F_isMethod 16 = .ok (.iload_n 2, 1) := by decide +kernel
theorem d_F_isMethod_17 : decode b_F_isMethod 17 = .ok (.iconst 0, 1) := by decide +kernel
theorem d_F_isMethod_18 : decode b_F_isMethod 18 = .ok (.ldc 118, 2) := by decide +kernel
theorem d_F_isMethod_20 : decode b_F_isMethod 20 = .ok (.invokestatic 101, 3) := by decide +kernel
theorem d_F_isMethod_23 : decode b_F_isMethod 23 = .ok (.ifCond .eq 41, 3) := by decide +kernel
theorem d_F_isMethod_26 : decode b_F_isMethod 26 = .ok (.iload_n 2, 1) := by decide +kernel
theorem d_F_isMethod_27 : decode b_F_isMethod 27 = .ok (.invokestatic 82, 3) := by decide +kernel
theorem d_F_isMethod_30 : decode b_F_isMethod 30 = .ok (.invokestatic 92, 3) := by decide +kernel
theorem d_F_isMethod_33 : decode b_F_isMethod 33 = .ok (.iload_n 2, 1) := by decide +kernel
theorem d_F_isMethod_34 : decode b_F_isMethod 34 = .ok (.invokestatic 82, 3) := by decide +kernel
theorem d_F_isMethod_37 : decode b_F_isMethod 37 = .ok (.invokestatic 119, 3) := by decide +kernel
theorem d_F_isMethod_40 : decode b_F_isMethod 40 = .ok (.if_icmp .lt 24, 3) := by decide +kernel
theorem d_F_isMethod_43 : decode b_F_isMethod 43 = .ok (.aload_n 0, 1) := by decide +kernel
theorem d_F_isMethod_44 : decode b_F_isMethod 44 = .ok (.aload_n 0, 1) := by decide +kernel
theorem d_F_isMethod_45 : decode b_F_isMethod 45 = .ok (.aload_n 0, 1) := by decide +kernel
theorem d_F_isMethod_46 : decode b_F_isMethod 46 = .ok (.iload_n 1, 1) := by decide +kernel
theorem d_F_isMethod_47 : decode b_F_isMethod 47 = .ok (.iconst 1, 1) := by decide +kernel
theorem d_F_isMethod_48 : decode b_F_isMethod 48 = .ok (.invokevirtual 79, 3) := by decide +kernel
theorem d_F_isMethod_51 : decode b_F_isMethod 51 = .ok (.invokevirtual 34, 3) := by decide +kernel
theorem d_F_isMethod_54 : decode b_F_isMethod 54 = .ok (.invokevirtual 85, 3) := by decide +kernel
theorem d_F_isMethod_57 : decode b_F_isMethod 57 = .ok (.ifCond .eq 7, 3) := by decide +kernel
theorem d_F_isMethod_60 : decode b_F_isMethod 60 = .ok (.iconst 1, 1) := by decide +kernel
theorem d_F_isMethod_61 : decode b_F_isMethod 61 = .ok (.goto 4, 3) := by decide +kernel
theorem d_F_isMethod_64 : decode b_F_isMethod 64 = .ok (.iconst 0, 1) := by decide +kernel
theorem d_F_isMethod_65 : decode b_F_isMethod 65 = .ok (.ireturn, 1) := by decide +kernel
theorem d_F_isMethodContext_0 : decode b_F_isMethodContext 0 = .ok (.aload_n 0, 1) := by decide +kernel
theorem d_F_isMethodContext_1 : decode b_F_isMethodContext 1 = .ok (.aload_n 0, 1) := by decide +kernel
theorem d_F_isMethodContext_2 : decode b_F_isMethodContext 2 = .ok (.iload_n 1, 1) := by decide +kernel
theorem d_F_isMethodContext_3 : decode b_F_isMethodContext 3 = .ok (.iconst 3, 1) := by decide +kernel
theorem d_F_isMethodContext_4 : decode b_F_isMethodContext 4 = .ok (.invokevirtual 79, 3) := by decide +kernel
theorem d_F_isMethodContext_7 : decode b_F_isMethodContext 7 = .ok (.invokevirtual 34, 3) := by decide +kernel
theorem d_F_isMethodContext_10 : decode b_F_isMethodContext 10 = .ok (.istore_n 2, 1) := by decide +kernel
theorem d_F_isMethodContext_11 : decode b_F_isMethodContext 11 = .ok (.aload_n 0, 1) := by decide +kernel
theorem d_F_isMethodContext_12 : decode b_F_isMethodContext 12 = .ok (.iload_n 2, 1) := by decide +kernel
theorem d_F_isMethodContext_13 : decode b_F_isMethodContext 13 = .ok (.invokestatic 89, 3) := by decide +kernel
theorem d_F_isMethodContext_16 : decode b_F_isMethodContext 16 = .ok (.ifCond .ne 5, 3) := by decide +kernel
theorem d_F_isMethodContext_19 : decode b_F_isMethodContext 19 = .ok (.iconst 0, 1) := by decide +kernel
theorem d_F_isMethodContext_20 : decode b_F_isMethodContext 20 = .ok (.ireturn, 1) := by decide +kernel
theorem d_F_isMethodContext_21 : decode b_F_isMethodContext 21 = .ok (.aload_n 0, 1) := by decide +kernel
theorem d_F_isMethodContext_22 : decode b_F_isMethodContext 22 = .ok (.iload_n 2, 1) := by decide +kernel
theorem d_F_isMethodContext_23 : decode b_F_isMethodContext 23 = .ok (.iconst 0, 1) := by decide +kernel
theorem d_F_isMethodContext_24 : decode b_F_isMethodContext 24 = .ok (.invokevirtual 79, 3) := by decide +kernel
theorem d_F_isMethodContext_27 : decode b_F_isMethodContext 27 = .ok (.invokestatic 82, 3) := by decide +kernel
theorem d_F_isMethodContext_30 : decode b_F_isMethodContext 30 = .ok (.istore_n 3, 1) := by decide +kernel
theorem d_F_isMethodContext_31 : decode b_F_isMethodContext 31 = .ok (.iload_n 3, 1) := by decide +kernel
theorem d_F_isMethodContext_32 : decode b_F_isMethodContext 32 = .ok (.invokestatic 92, 3) := by decide +kernel
theorem d_F_isMethodContext_35 : decode b_F_isMethodContext 35 = .ok (.istore 4, 2) := by decide +kernel
theorem d_F_isMethodContext_37 : decode b_F_isMethodContext 37 = .ok (.iload 4, 2) := by decide +kernel
theorem d_F_isMethodContext_39 : decode b_F_isMethodContext 39 = .ok (.iload_n 3, 1) := by decide +kernel
theorem d_F_isMethodContext_40 : decode b_F_isMethodContext 40 = .ok (.invokestatic 95, 3) := by decide +kernel
theorem d_F_isMethodContext_43 : decode b_F_isMethodContext 43 = .ok (.iadd, 1) := by decide +kernel
theorem d_F_isMethodContext_44 : decode b_F_isMethodContext 44 = .ok (.istore 5, 2) := by decide +kernel
theorem d_F_isMethodContext_46 : decode b_F_isMethodContext 46 = .ok (.aload_n 0, 1) := by decide +kernel
theorem d_F_isMethodContext_47 : decode b_F_isMethodContext 47 = .ok (.iload_n 1, 1) := by decide +kernel
theorem d_F_isMethodContext_48 : decode b_F_isMethodContext 48 = .ok (.iconst 2, 1) := by decide +kernel
theorem d_F_isMethodContext_49 : decode b_F_isMethodContext 49 = .ok (.invokevirtual 79, 3) := by decide +kernel
theorem d_F_isMethodContext_52 : decode b_F_isMethodContext 52 = .ok (.istore 6, 2) := by decide +kernel
theorem d_F_isMethodContext_54 : decode b_F_isMethodContext 54 = .ok (.aload_n 0, 1) := by decide +kernel
theorem d_F_isMethodContext_55 : decode b_F_isMethodContext 55 = .ok (.iload_n 1, 1) := by decide +kernel
theorem d_F_isMethodContext_56 : decode b_F_isMethodContext 56 = .ok (.invokevirtual 44, 3) := by decide +kernel
theorem d_F_isMethodContext_59 : decode b_F_isMethodContext 59 = .ok (.iconst 5, 1) := by decide +kernel
theorem d_F_isMethodContext_60 : decode b_F_isMethodContext 60 = .ok (.iload 5, 2) := by decide +kernel
theorem d_F_isMethodContext_62 : decode b_F_isMethodContext 62 = .ok (.iadd, 1) := by decide +kernel
theorem d_F_isMethodContext_63 : decode b_F_isMethodContext 63 = .ok (.if_icmp .ne 42, 3) := by decide +kernel
theorem d_F_isMethodContext_66 : decode b_F_isMethodContext 66 = .ok (.aload_n 0, 1) := by decide +kernel
theorem d_F_isMethodContext_67 : decode b_F_isMethodContext 67 = .ok (.iload_n 1, 1) := by decide +kernel
theorem d_F_isMethodContext_68 : decode b_F_isMethodContext 68 = .ok (.invokestatic 98, 3) := by decide +kernel
theorem d_F_isMethodContext_71 : decode b_F_isMethodContext 71 = .ok (.ifCond .eq 34, 3) := by decide +kernel
theorem d_F_isMethodContext_74 : decode b_F_isMethodContext 74 = .ok (.iload 6, 2) := by decide +kernel
theorem d_F_isMethodContext_76 : decode b_F_isMethodContext 76 = .ok (.iload 4, 2) := by decide +kernel
theorem d_F_isMethodContext_78 : decode b_F_isMethodContext 78 = .ok (.iload 5, 2) := by decide +kernel
theorem d_F_isMethodContext_80 : decode b_F_isMethodContext 80 = .ok (.invokestatic 101, 3) := by decide +kernel
theorem d_F_isMethodContext_83 : decode b_F_isMethodContext 83 = .ok (.ifCond .eq 22, 3) := by decide +kernel
theorem d_F_isMethodContext_86 : decode b_F_isMethodContext 86 = .ok (.aload_n 0, 1) := by decide +kernel
theorem d_F_isMethodContext_87 : decode b_F_isMethodContext 87 = .ok (.iload_n 1, 1) := by decide +kernel
theorem d_F_isMethodContext_88 : decode b_F_isMethodContext 88 = .ok (.iconst 5, 1) := by decide +kernel
theorem d_F_isMethodContext_89 : decode b_F_isMethodContext 89 = .ok (.iload 6, 2) := by decide +kernel
theorem d_F_isMethodContext_91 : decode b_F_isMethodContext 91 = .ok (.invokestatic 82, 3) := by decide +kernel
theorem d_F_isMethodContext_94 : decode b_F_isMethodContext 94 = .ok (.iadd, 1) := by decide +kernel
theorem d_F_isMethodContext_95 : decode b_F_isMethodContext 95 = .ok (.invokestatic 105, 3) := by decide +kernel
theorem d_F_isMethodContext_98 : decode b_F_isMethodContext 98 = .ok (.ifCond .eq 7, 3) := by decide +kernel
theorem d_F_isMethodContext_101 : decode b_F_isMethodContext 101 = .ok (.iconst 1, 1) := by decide +kernel
theorem d_F_isMethodContext_102 : decode b_F_isMethodContext 102 = .ok (.goto 4, 3) := by decide +kernel
theorem d_F_isMethodContext_105 : decode b_F_isMethodContext 105 = .ok (.iconst 0, 1) := by decide +kernel
theorem d_F_isMethodContext_106 : decode b_F_isMethodContext 106 = .ok (.ireturn, 1) := by decide +kernel
theorem d_F_isNewSince_0 : decode b_F_isNewSince 0 = .ok (.iload_n 1, 1) := by decide +kernel
theorem d_F_isNewSince_1 : decode b_F_isNewSince 1 = .ok (.istore_n 3, 1) := by decide +kernel
theorem d_F_isNewSince_2 : decode b_F_isNewSince 2 = .ok (.iload_n 3, 1) := by decide +kernel
theorem d_F_isNewSince_3 : decode b_F_isNewSince 3 = .ok (.iload_n 2, 1) := by decide +kernel
theorem d_F_isNewSince_4 : decode b_F_isNewSince 4 = .ok (.if_icmp .ge 24, 3) := by decide +kernel
theorem d_F_isNewSince_7 : decode b_F_isNewSince 7 = .ok (.aload_n 0, 1) := by decide +kernel
theorem d_F_isNewSince_8 : decode b_F_isNewSince 8 = .ok (.iload_n 3, 1) := by decide +kernel
theorem d_F_isNewSince_9 : decode b_F_isNewSince 9 = .ok (.invokevirtual 30, 3) := by decide +kernel
theorem d_F_isNewSince_12 : decode b_F_isNewSince 12 = .ok (.aload_n 0, 1) := by decide +kernel
theorem d_F_isNewSince_13 : decode b_F_isNewSince 13 = .ok (.iload_n 2, 1) := by decide +kernel
theorem d_F_isNewSince_14 : decode b_F_isNewSince 14 = .ok (.invokevirtual 30, 3) := by decide +kernel
theorem d_F_isNewSince_17 : decode b_F_isNewSince 17 = .ok (.if_icmp .ne 5, 3) := by decide +kernel
theorem d_F_isNewSince_20 : decode b_F_isNewSince 20 = .ok (.iconst 0, 1) := by decide +kernel
theorem d_F_isNewSince_21 : decode b_F_isNewSince 21 = .ok (.ireturn, 1) := by decide +kernel
theorem d_F_isNewSince_22 : decode b_F_isNewSince 22 = .ok (.iinc 3 1, 3) := by decide +kernel
theorem d_F_isNewSince_25 : decode b_F_isNewSince 25 = .ok (.goto (-23), 3) := by decide +kernel
theorem d_F_isNewSince_28 : decode b_F_isNewSince 28 = .ok (.iconst 1, 1) := by decide +kernel
theorem d_F_isNewSince_29 : decode b_F_isNewSince 29 = .ok (.ireturn, 1) := by decide +kernel
theorem d_F_isNilFrom_0 : decode b_F_isNilFrom 0 = .ok (.aload_n 0, 1) := by decide +kernel
theorem d_F_isNilFrom_1 : decode b_F_isNilFrom 1 = .ok (.iload_n 1, 1) := by decide +kernel
theorem d_F_isNilFrom_2 : decode b_F_isNilFrom 2 = .ok (.invokevirtual 44, 3) := by decide +kernel
theorem d_F_isNilFrom_5 : decode b_F_isNilFrom 5 = .ok (.istore_n 3, 1) := by decide +kernel
theorem d_F_isNilFrom_6 : decode b_F_isNilFrom 6 = .ok (.iload_n 2, 1) := by decide +kernel
theorem d_F_isNilFrom_7 : decode b_F_isNilFrom 7 = .ok (.istore 4, 2) := by decide +kernel
theorem d_F_isNilFrom_9 : decode b_F_isNilFrom 9 = .ok (.iload 4, 2) := by decide +kernel
theorem d_F_isNilFrom_11 : decode b_F_isNilFrom 11 = .ok (.iload_n 3, 1) := by decide +kernel
theorem d_F_isNilFrom_12 : decode b_F_isNilFrom 12 = .ok (.if_icmp .ge 21, 3) := by decide +kernel
theorem d_F_isNilFrom_15 : decode b_F_isNilFrom 15 = .ok (.aload_n 0, 1) := by decide +kernel
theorem d_F_isNilFrom_16 : decode b_F_isNilFrom 16 = .ok (.iload_n 1, 1) := by decide +kernel
theorem d_F_isNilFrom_17 : decode b_F_isNilFrom 17 = .ok (.iload 4, 2) := by decide +kernel
theorem d_F_isNilFrom_19 : decode b_F_isNilFrom 19 = .ok (.invokevirtual 79, 3) := by decide +kernel
theorem d_F_isNilFrom_22 : decode b_F_isNilFrom 22 = .ok (.ifCond .eq 5, 3) := by decide +kernel
theorem d_F_isNilFrom_25 : decode b_F_isNilFrom 25 = .ok (.iconst 0, 1) := by decide +kernel
theorem d_F_isNilFrom_26 : decode b_F_isNilFrom 26 = .ok (.ireturn, 1) := by decide +kernel
theorem d_F_isNilFrom_27 : decode b_F_isNilFrom 27 = .ok (.iinc 4 1, 3) := by decide +kernel
theorem d_F_isNilFrom_30 : decode b_F_isNilFrom 30 = .ok (.goto (-21), 3) := by decide +kernel
theorem d_F_isNilFrom_33 : decode b_F_isNilFrom 33 = .ok (.iconst 1, 1) := by decide +kernel
theorem d_F_isNilFrom_34 : decode b_F_isNilFrom 34 = .ok (.ireturn, 1) := by decide +kernel
theorem d_F_isNilOrCounting_0 : decode b_F_isNilOrCounting 0 = .ok (.iload_n 0, 1) := by decide +kernel
theorem d_F_isNilOrCounting_1 : decode b_F_isNilOrCounting 1 = .ok (.ifCond .eq 13, 3) := by decide +kernel
theorem d_F_isNilOrCounting_4 : decode b_F_isNilOrCounting 4 = .ok (.iload_n 0, 1) := by decide +kernel
theorem d_F_isNilOrCounting_5 : decode b_F_isNilOrCounting 5 = .ok (.iconst 0, 1) := by decide +kernel
theorem d_F_isNilOrCounting_6 : decode b_F_isNilOrCounting 6 = .ok (.ldc 114, 2) := by decide +kernel
theorem d_F_isNilOrCounting_8 : decode b_F_isNilOrCounting 8 = .ok (.invokestatic 101, 3) := by decide +kernel
theorem d_F_isNilOrCounting_11 : decode b_F_isNilOrCounting 11 = .ok (.ifCond .eq 7, 3) := by decide +kernel
theorem d_F_isNilOrCounting_14 : decode b_F_isNilOrCounting 14 = .ok (.iconst 1, 1) := by decide +kernel
theorem d_F_isNilOrCounting_15 : decode b_F_isNilOrCounting 15 = .ok (.goto 4, 3) := by decide +kernel
theorem d_F_isNilOrCounting_18 : decode b_F_isNilOrCounting 18 = .ok (.iconst 0, 1) := by decide +kernel
theorem d_F_isNilOrCounting_19 : decode b_F_isNilOrCounting 19 = .ok (.ireturn, 1) := by decide +kernel
theorem d_F_isPlain_0 : decode b_F_isPlain 0 = .ok (.aload_n 0, 1) := by decide +kernel
theorem d_F_isPlain_1 : decode b_F_isPlain 1 = .ok (.iload_n 1, 1) := by decide +kernel
theorem d_F_isPlain_2 : decode b_F_isPlain 2 = .ok (.invokevirtual 44, 3) := by decide +kernel
theorem d_F_isPlain_5 : decode b_F_isPlain 5 = .ok (.iload_n 2, 1) := by decide +kernel
theorem d_F_isPlain_6 : decode b_F_isPlain 6 = .ok (.if_icmp .lt 15, 3) := by decide +kernel
theorem d_F_isPlain_9 : decode b_F_isPlain 9 = .ok (.aload_n 0, 1) := by decide +kernel
theorem d_F_isPlain_10 : decode b_F_isPlain 10 = .ok (.iload_n 1, 1) := by decide +kernel
theorem d_F_isPlain_11 : decode b_F_isPlain 11 = .ok (.invokevirtual 111, 3) := by decide +kernel
theorem d_F_isPlain_14 : decode b_F_isPlain 14 = .ok (.ifCond .ne 7, 3) := by decide +kernel
theorem d_F_isPlain_17 : decode b_F_isPlain 17 = .ok (.iconst 1, 1) := by decide +kernel
theorem d_F_isPlain_18 : decode b_F_isPlain 18 = .ok (.goto 4, 3) := by decide +kernel
theorem d_F_isPlain_21 : decode b_F_isPlain 21 = .ok (.iconst 0, 1) := by decide +kernel
theorem d_F_isPlain_22 : decode b_F_isPlain 22 = .ok (.ireturn, 1) := by decide +kernel
theorem d_F_isProcessFit_0 : decode b_F_isProcessFit 0 = .ok (.aload_n 0, 1) := by decide +kernel
theorem d_F_isProcessFit_1 : decode b_F_isProcessFit 1 = .ok (.aload_n 0, 1) := by decide +kernel
theorem d_F_isProcessFit_2 : decode b_F_isProcessFit 2 = .ok (.iload_n 1, 1) := by decide +kernel
theorem d_F_isProcessFit_3 : decode b_F_isProcessFit 3 = .ok (.iconst 1, 1) := by decide +kernel
theorem d_F_isProcessFit_4 : decode b_F_isProcessFit 4 = .ok (.invokevirtual 79, 3) := by decide +kernel
theorem d_F_isProcessFit_7 : decode b_F_isProcessFit 7 = .ok (.invokevirtual 34, 3) := by decide +kernel
theorem d_F_isProcessFit_10 : decode b_F_isProcessFit 10 = .ok (.istore_n 2, 1) := by decide +kernel
theorem d_F_isProcessFit_11 : decode b_F_isProcessFit 11 = .ok (.aload_n 0, 1) := by decide +kernel
theorem d_F_isProcessFit_12 : decode b_F_isProcessFit 12 = .ok (.iload_n 1, 1) := by decide +kernel
theorem d_F_isProcessFit_13 : decode b_F_isProcessFit 13 = .ok (.iconst 4, 1) := by decide +kernel
theorem d_F_isProcessFit_14 : decode b_F_isProcessFit 14 = .ok (.invokestatic 47, 3) := by decide +kernel
theorem d_F_isProcessFit_17 : decode b_F_isProcessFit 17 = .ok (.ifCond .eq 39, 3) := by decide +kernel
theorem d_F_isProcessFit_20 : decode b_F_isProcessFit 20 = .ok (.aload_n 0, 1) := by decide +kernel
theorem d_F_isProcessFit_21 : decode b_F_isProcessFit 21 = .ok (.iload_n 2, 1) := by decide +kernel
theorem d_F_isProcessFit_22 : decode b_F_isProcessFit 22 = .ok (.invokevirtual 111, 3) := by decide +kernel
theorem d_F_isProcessFit_25 : decode b_F_isProcessFit 25 = .ok (.ifCond .eq 31, 3) := by decide +kernel
theorem d_F_isProcessFit_28 : decode b_F_isProcessFit 28 = .ok (.aload_n 0, 1) := by decide +kernel
theorem d_F_isProcessFit_29 : decode b_F_isProcessFit 29 = .ok (.iload_n 2, 1) := by decide +kernel
theorem d_F_isProcessFit_30 : decode b_F_isProcessFit 30 = .ok (.iconst 1, 1) := by decide +kernel
theorem d_F_isProcessFit_31 : decode b_F_isProcessFit 31 = .ok (.invokevirtual 79, 3) := by decide +kernel
theorem d_F_isProcessFit_34 : decode b_F_isProcessFit 34 = .ok (.ifCond .eq 22, 3) := by decide +kernel
theorem d_F_isProcessFit_37 : decode b_F_isProcessFit 37 = .ok (.aload_n 0, 1) := by decide +kernel
theorem d_F_isProcessFit_38 : decode b_F_isProcessFit 38 = .ok (.iload_n 1, 1) := by decide +kernel
theorem d_F_isProcessFit_39 : decode b_F_isProcessFit 39 = .ok (.iconst 2, 1) := by decide +kernel
theorem d_F_isProcessFit_40 : decode b_F_isProcessFit 40 = .ok (.invokevirtual 79, 3) := by decide +kernel
theorem d_F_isProcessFit_43 : decode b_F_isProcessFit 43 = .ok (.iconst 1, 1) := by decide +kernel
theorem d_F_isProcessFit_44 : decode b_F_isProcessFit 44 = .ok (.bipush 8, 2) := by decide +kernel
theorem d_F_isProcessFit_46 : decode b_F_isProcessFit 46 = .ok (.invokestatic 101, 3) := by decide +kernel
theorem d_F_isProcessFit_49 : decode b_F_isProcessFit 49 = .ok (.ifCond .eq 7, 3) := by decide +kernel
theorem d_F_isProcessFit_52 : decode b_F_isProcessFit 52 = .ok (.iconst 1, 1) := by decide +kernel
theorem d_F_isProcessFit_53 : decode b_F_isProcessFit 53 = .ok (.goto 4, 3) := by decide +kernel
theorem d_F_isProcessFit_56 : decode b_F_isProcessFit 56 = .ok (.iconst 0, 1) := by decide +kernel
theorem d_F_isProcessFit_57 : decode b_F_isProcessFit 57 = .ok (.ireturn, 1) := by decide +kernel
theorem d_F_isSpecialFit_0 : decode b_F_isSpecialFit 0 = .ok (.aload_n 0, 1) := by decide +kernel
theorem d_F_isSpecialFit_1 : decode b_F_isSpecialFit 1 = .ok (.aload_n 0, 1) := by decide +kernel
theorem d_F_isSpecialFit_2 : decode b_F_isSpecialFit 2 = .ok (.iload_n 1, 1) := by decide +kernel
theorem d_F_isSpecialFit_3 : decode b_F_isSpecialFit 3 = .ok (.invokevirtual 30, 3) := by decide +kernel
theorem d_F_isSpecialFit_6 : decode b_F_isSpecialFit 6 = .ok (.invokevirtual 34, 3) := by decide +kernel
theorem d_F_isSpecialFit_9 : decode b_F_isSpecialFit 9 = .ok (.istore_n 2, 1) := by decide +kernel
theorem d_F_isSpecialFit_10 : decode b_F_isSpecialFit 10 = .ok (.iload_n 2, 1) := by decide +kernel
theorem d_F_isSpecialFit_11 : decode b_F_isSpecialFit 11 = .ok (.ifCond .ne 5, 3) := by decide +kernel
theorem d_F_isSpecialFit_14 : decode b_F_isSpecialFit 14 = .ok (.iconst 0, 1) := by decide +kernel
theorem d_F_isSpecialFit_15 : decode b_F_isSpecialFit 15 = .ok (.ireturn, 1) := by decide +kernel
theorem d_F_isSpecialFit_16 : decode b_F_isSpecialFit 16 = .ok (.iload_n 1, 1) := by decide +kernel
theorem d_F_isSpecialFit_17 : decode b_F_isSpecialFit 17 = .ok (.iconst 1, 1) := by decide +kernel
theorem d_F_isSpecialFit_18 : decode b_F_isSpecialFit 18 = .ok (.if_icmp .gt 10, 3) := by decide +kernel
theorem d_F_isSpecialFit_21 : decode b_F_isSpecialFit 21 = .ok (.aload_n 0, 1) := by decide +kernel
theorem d_F_isSpecialFit_22 : decode b_F_isSpecialFit 22 = .ok (.iconst 0, 1) := by decide +kernel
theorem d_F_isSpecialFit_23 : decode b_F_isSpecialFit 23 = .ok (.iload_n 1, 1) := by decide +kernel
theorem d_F_isSpecialFit_24 : decode b_F_isSpecialFit 24 = .ok (.invokestatic 37, 3) := by decide +kernel
theorem d_F_isSpecialFit_27 : decode b_F_isSpecialFit 27 = .ok (.ireturn, 1) := by decide +kernel
theorem d_F_isSpecialFit_28 : decode b_F_isSpecialFit 28 = .ok (.iload_n 1, 1) := by decide +kernel
theorem d_F_isSpecialFit_29 : decode b_F_isSpecialFit 29 = .ok (.bipush 12, 2) := by decide +kernel
theorem d_F_isSpecialFit_31 : decode b_F_isSpecialFit 31 = .ok (.if_icmp .gt 26, 3) := by decide +kernel
theorem d_F_isSpecialFit_34 : decode b_F_isSpecialFit 34 = .ok (.aload_n 0, 1) := by decide +kernel
theorem d_F_isSpecialFit_35 : decode b_F_isSpecialFit 35 = .ok (.iload_n 2, 1) := by decide +kernel
theorem d_F_isSpecialFit_36 : decode b_F_isSpecialFit 36 = .ok (.invokestatic 41, 3) := by decide +kernel
theorem d_F_isSpecialFit_39 : decode b_F_isSpecialFit 39 = .ok (.ifCond .eq 16, 3) := by decide +kernel
theorem d_F_isSpecialFit_42 : decode b_F_isSpecialFit 42 = .ok (.aload_n 0, 1) := by decide +kernel
theorem d_F_isSpecialFit_43 : decode b_F_isSpecialFit 43 = .ok (.iconst 2, 1) := by decide +kernel
theorem d_F_isSpecialFit_44 : decode b_F_isSpecialFit 44 = .ok (.iload_n 1, 1) := by decide +kernel
theorem d_F_isSpecialFit_45 : decode b_F_isSpecialFit 45 = .ok (.invokestatic 37, 3) := by decide +kernel
theorem d_F_isSpecialFit_48 : decode b_F_isSpecialFit 48 = .ok (.ifCond .eq 7, 3) := by decide +kernel
theorem d_F_isSpecialFit_51 : decode b_F_isSpecialFit 51 = .ok (.iconst 1, 1) := by decide +kernel
theorem d_F_isSpecialFit_52 : decode b_F_isSpecialFit 52 = .ok (.goto 4, 3) := by decide +kernel
theorem d_F_isSpecialFit_55 : decode b_F_isSpecialFit 55 = .ok (.iconst 0, 1) := by decide +kernel
theorem d_F_isSpecialFit_56 : decode b_F_isSpecialFit 56 = .ok (.ireturn, 1) := by decide +kernel
theorem d_F_isSpecialFit_57 : decode b_F_isSpecialFit 57 = .ok (.iload_n 1, 1) := by decide +kernel
theorem d_F_isSpecialFit_58 : decode b_F_isSpecialFit 58 = .ok (.bipush 13, 2) := by decide +kernel
theorem d_F_isSpecialFit_60 : decode b_F_isSpecialFit 60 = .ok (.if_icmp .ne 20, 3) := by decide +kernel
theorem d_F_isSpecialFit_63 : decode b_F_isSpecialFit 63 = .ok (.aload_n 0, 1) := by decide +kernel
theorem d_F_isSpecialFit_64 : decode b_F_isSpecialFit 64 = .ok (.iload_n 2, 1) := by decide +kernel
theorem d_F_isSpecialFit_65 : decode b_F_isSpecialFit 65 = .ok (.invokevirtual 44, 3) := by decide +kernel
theorem d_F_isSpecialFit_68 : decode b_F_isSpecialFit 68 = .ok (.sipush 256, 3) := by decide +kernel
theorem d_F_isSpecialFit_71 : decode b_F_isSpecialFit 71 = .ok (.if_icmp .ne 7, 3) := by decide +kernel
theorem d_F_isSpecialFit_74 : decode b_F_isSpecialFit 74 = .ok (.iconst 1, 1) := by decide +kernel
theorem d_F_isSpecialFit_75 : decode b_F_isSpecialFit 75 = .ok (.goto 4, 3) := by decide +kernel
theorem d_F_isSpecialFit_78 : decode b_F_isSpecialFit 78 = .ok (.iconst 0, 1) := by decide +kernel
theorem d_F_isSpecialFit_79 : decode b_F_isSpecialFit 79 = .ok (.ireturn, 1) := by decide +kernel
theorem d_F_isSpecialFit_80 : decode b_F_isSpecialFit 80 = .ok (.aload_n 0, 1) := by decide +kernel
theorem d_F_isSpecialFit_81 : decode b_F_isSpecialFit 81 = .ok (.iload_n 2, 1) := by decide +kernel
theorem d_F_isSpecialFit_82 : decode b_F_isSpecialFit 82 = .ok (.iconst 2, 1) := by decide +kernel
theorem d_F_isSpecialFit_83 : decode b_F_isSpecialFit 83 = .ok (.invokestatic 47, 3) := by decide +kernel
theorem d_F_isSpecialFit_86 : decode b_F_isSpecialFit 86 = .ok (.ireturn, 1) := by decide +kernel
theorem d_F_objectsPlace_0 : decode b_F_objectsPlace 0 = .ok (.sipush 208, 3) := by decide +kernel
theorem d_F_objectsPlace_3 : decode b_F_objectsPlace 3 = .ok (.istore_n 1, 1) := by decide +kernel
theorem d_F_objectsPlace_4 : decode b_F_objectsPlace 4 = .ok (.iconst 1, 1) := by decide +kernel
theorem d_F_objectsPlace_5 : decode b_F_objectsPlace 5 = .ok (.istore_n 2, 1) := by decide +kernel
theorem d_F_objectsPlace_6 : decode b_F_objectsPlace 6 = .ok (.iload_n 2, 1) := by decide +kernel
theorem d_F_objectsPlace_7 : decode b_F_objectsPlace 7 = .ok (.aload_n 0, 1) := by decide +kernel
theorem d_F_objectsPlace_8 : decode b_F_objectsPlace 8 = .ok (.getfield 18, 3) := by decide +kernel
theorem d_F_objectsPlace_11 : decode b_F_objectsPlace 11 = .ok (.if_icmp .gt 76, 3) := by decide +kernel
theorem d_F_objectsPlace_14 : decode b_F_objectsPlace 14 = .ok (.aload_n 0, 1) := by decide +kernel
theorem d_F_objectsPlace_15 : decode b_F_objectsPlace 15 = .ok (.iload_n 2, 1) := by decide +kernel
theorem d_F_objectsPlace_16 : decode b_F_objectsPlace 16 = .ok (.invokestatic 50, 3) := by decide +kernel
theorem d_F_objectsPlace_19 : decode b_F_objectsPlace 19 = .ok (.ifCond .eq 39, 3) := by decide +kernel
theorem d_F_objectsPlace_22 : decode b_F_objectsPlace 22 = .ok (.aload_n 0, 1) := by decide +kernel
theorem d_F_objectsPlace_23 : decode b_F_objectsPlace 23 = .ok (.iload_n 2, 1) := by decide +kernel
theorem d_F_objectsPlace_24 : decode b_F_objectsPlace 24 = .ok (.bipush 7, 2) := by decide +kernel
theorem d_F_objectsPlace_26 : decode b_F_objectsPlace 26 = .ok (.invokevirtual 53, 3) := by decide +kernel
theorem d_F_objectsPlace_29 : decode b_F_objectsPlace 29 = .ok (.ifCond .eq 11, 3) := by decide +kernel
theorem d_F_objectsPlace_32 : decode b_F_objectsPlace 32 = .ok (.aload_n 0, 1) := by decide +kernel
theorem d_F_objectsPlace_33 : decode b_F_objectsPlace 33 = .ok (.iload_n 2, 1) := by decide +kernel
theorem d_F_objectsPlace_34 : decode b_F_objectsPlace 34 = .ok (.invokestatic 57, 3) := by decide +kernel
theorem d_F_objectsPlace_37 : decode b_F_objectsPlace 37 = .ok (.ifCond .eq 21, 3) := by decide +kernel
theorem d_F_objectsPlace_40 : decode b_F_objectsPlace 40 = .ok (.aload_n 0, 1) := by decide +kernel
theorem d_F_objectsPlace_41 : decode b_F_objectsPlace 41 = .ok (.iload_n 2, 1) := by decide +kernel
theorem d_F_objectsPlace_42 : decode b_F_objectsPlace 42 = .ok (.bipush 8, 2) := by decide +kernel
theorem d_F_objectsPlace_44 : decode b_F_objectsPlace 44 = .ok (.invokevirtual 53, 3) := by decide +kernel
theorem d_F_objectsPlace_47 : decode b_F_objectsPlace 47 = .ok (.ifCond .eq 13, 3) := by decide +kernel
theorem d_F_objectsPlace_50 : decode b_F_objectsPlace 50 = .ok (.aload_n 0, 1) := by decide +kernel
theorem d_F_objectsPlace_51 : decode b_F_objectsPlace 51 = .ok (.iload_n 2, 1) := by decide +kernel
theorem d_F_objectsPlace_52 : decode b_F_objectsPlace 52 = .ok (.invokestatic 60, 3) := by decide +kernel
theorem d_F_objectsPlace_55 : decode b_F_objectsPlace 55 = .ok (.ifCond .ne 5, 3) := by decide +kernel
theorem d_F_objectsPlace_58 : decode b_F_objectsPlace 58 = .ok (.iload_n 1, 1) := by decide +kernel
theorem d_F_objectsPlace_59 : decode b_F_objectsPlace 59 = .ok (.ireturn, 1) := by decide +kernel
theorem d_F_objectsPlace_60 : decode b_F_objectsPlace 60 = .ok (.iload_n 1, 1) := by decide +kernel
theorem d_F_objectsPlace_61 : decode b_F_objectsPlace 61 = .ok (.bipush 7, 2) := by decide +kernel
theorem d_F_objectsPlace_63 : decode b_F_objectsPlace 63 = .ok (.aload_n 0, 1) := by decide +kernel
theorem d_F_objectsPlace_64 : decode b_F_objectsPlace 64 = .ok (.getfield 63, 3) := by decide +kernel
theorem d_F_objectsPlace_67 : decode b_F_objectsPlace 67 = .ok (.iload_n 2, 1) := by decide +kernel
theorem d_F_objectsPlace_68 : decode b_F_objectsPlace 68 = .ok (.iaload, 1) := by decide +kernel
theorem d_F_objectsPlace_69 : decode b_F_objectsPlace 69 = .ok (.aload_n 0, 1) := by decide +kernel
theorem d_F_objectsPlace_70 : decode b_F_objectsPlace 70 = .ok (.getfield 67, 3) := by decide +kernel
theorem d_F_objectsPlace_73 : decode b_F_objectsPlace 73 = .ok (.iload_n 2, 1) := by decide +kernel
theorem d_F_objectsPlace_74 : decode b_F_objectsPlace 74 = .ok (.iaload, 1) := by decide +kernel
theorem d_F_objectsPlace_75 : decode b_F_objectsPlace 75 = .ok (.invokestatic 70, 3) := by decide +kernel
theorem d_F_objectsPlace_78 : decode b_F_objectsPlace 78 = .ok (.iadd, 1) := by decide +kernel
theorem d_F_objectsPlace_79 : decode b_F_objectsPlace 79 = .ok (.iadd, 1) := by decide +kernel
theorem d_F_objectsPlace_80 : decode b_F_objectsPlace 80 = .ok (.istore_n 1, 1) := by decide +kernel
theorem d_F_objectsPlace_81 : decode b_F_objectsPlace 81 = .ok (.iinc 2 1, 3) := by decide +kernel
theorem d_F_objectsPlace_84 : decode b_F_objectsPlace 84 = .ok (.goto (-78), 3) := by decide +kernel
theorem d_F_objectsPlace_87 : decode b_F_objectsPlace 87 = .ok (.iconst (-1), 1) := by decide +kernel
theorem d_F_objectsPlace_88 : decode b_F_objectsPlace 88 = .ok (.ireturn, 1) := by decide +kernel
theorem d_F_roomPlace_0 : decode b_F_roomPlace 0 = .ok (.aload_n 0, 1) := by decide +kernel
theorem d_F_roomPlace_1 : decode b_F_roomPlace 1 = .ok (.getfield 9, 3) := by decide +kernel
theorem d_F_roomPlace_4 : decode b_F_roomPlace 4 = .ok (.iconst 1, 1) := by decide +kernel
theorem d_F_roomPlace_5 : decode b_F_roomPlace 5 = .ok (.aload_n 0, 1) := by decide +kernel
theorem d_F_roomPlace_6 : decode b_F_roomPlace 6 = .ok (.getfield 15, 3) := by decide +kernel
theorem d_F_roomPlace_9 : decode b_F_roomPlace 9 = .ok (.ishl, 1) := by decide +kernel
theorem d_F_roomPlace_10 : decode b_F_roomPlace 10 = .ok (.if_icmp .le 5, 3) := by decide +kernel
theorem d_F_roomPlace_13 : decode b_F_roomPlace 13 = .ok (.iconst 4, 1) := by decide +kernel
theorem d_F_roomPlace_14 : decode b_F_roomPlace 14 = .ok (.ireturn, 1) := by decide +kernel
theorem d_F_roomPlace_15 : decode b_F_roomPlace 15 = .ok (.aload_n 0, 1) := by decide +kernel
theorem d_F_roomPlace_16 : decode b_F_roomPlace 16 = .ok (.getfield 18, 3) := by decide +kernel
theorem d_F_roomPlace_19 : decode b_F_roomPlace 19 = .ok (.iconst 1, 1) := by decide +kernel
theorem d_F_roomPlace_20 : decode b_F_roomPlace 20 = .ok (.aload_n 0, 1) := by decide +kernel
theorem d_F_roomPlace_21 : decode b_F_roomPlace 21 = .ok (.getfield 21, 3) := by decide +kernel
theorem d_F_roomPlace_24 : decode b_F_roomPlace 24 = .ok (.ishl, 1) := by decide +kernel
theorem d_F_roomPlace_25 : decode b_F_roomPlace 25 = .ok (.if_icmp .le 7, 3) := by decide +kernel
theorem d_F_roomPlace_28 : decode b_F_roomPlace 28 = .ok (.iconst 5, 1) := by decide +kernel
theorem d_F_roomPlace_29 : decode b_F_roomPlace 29 = .ok (.goto 4, 3) := by decide +kernel
theorem d_F_roomPlace_32 : decode b_F_roomPlace 32 = .ok (.iconst (-1), 1) := by decide +kernel
theorem d_F_roomPlace_33 : decode b_F_roomPlace 33 = .ok (.ireturn, 1) := by decide +kernel
theorem d_F_schedulerPlace_0 : decode b_F_schedulerPlace 0 = .ok (.aload_n 0, 1) := by decide +kernel
theorem d_F_schedulerPlace_1 : decode b_F_schedulerPlace 1 = .ok (.aload_n 0, 1) := by decide +kernel
theorem d_F_schedulerPlace_2 : decode b_F_schedulerPlace 2 = .ok (.bipush 14, 2) := by decide +kernel
theorem d_F_schedulerPlace_4 : decode b_F_schedulerPlace 4 = .ok (.invokevirtual 30, 3) := by decide +kernel
theorem d_F_schedulerPlace_7 : decode b_F_schedulerPlace 7 = .ok (.invokevirtual 34, 3) := by decide +kernel
theorem d_F_schedulerPlace_10 : decode b_F_schedulerPlace 10 = .ok (.istore_n 1, 1) := by decide +kernel
theorem d_F_schedulerPlace_11 : decode b_F_schedulerPlace 11 = .ok (.aload_n 0, 1) := by decide +kernel
theorem d_F_schedulerPlace_12 : decode b_F_schedulerPlace 12 = .ok (.aload_n 0, 1) := by decide +kernel
theorem d_F_schedulerPlace_13 : decode b_F_schedulerPlace 13 = .ok (.iload_n 1, 1) := by decide +kernel
theorem d_F_schedulerPlace_14 : decode b_F_schedulerPlace 14 = .ok (.iconst 0, 1) := by decide +kernel
theorem d_F_schedulerPlace_15 : decode b_F_schedulerPlace 15 = .ok (.invokevirtual 79, 3) := by decide +kernel
theorem d_F_schedulerPlace_18 : decode b_F_schedulerPlace 18 = .ok (.invokevirtual 34, 3) := by decide +kernel
theorem d_F_schedulerPlace_21 : decode b_F_schedulerPlace 21 = .ok (.istore_n 2, 1) := by decide +kernel
theorem d_F_schedulerPlace_22 : decode b_F_schedulerPlace 22 = .ok (.aload_n 0, 1) := by decide +kernel
theorem d_F_schedulerPlace_23 : decode b_F_schedulerPlace 23 = .ok (.aload_n 0, 1) := by decide +kernel
theorem d_F_schedulerPlace_24 : decode b_F_schedulerPlace 24 = .ok (.iload_n 1, 1) := by decide +kernel
theorem d_F_schedulerPlace_25 : decode b_F_schedulerPlace 25 = .ok (.iconst 1, 1) := by decide +kernel
theorem d_F_schedulerPlace_26 : decode b_F_schedulerPlace 26 = .ok (.invokevirtual 79, 3) := by decide +kernel
theorem d_F_schedulerPlace_29 : decode b_F_schedulerPlace 29 = .ok (.invokevirtual 34, 3) := by decide +kernel
theorem d_F_schedulerPlace_32 : decode b_F_schedulerPlace 32 = .ok (.istore_n 3, 1) := by decide +kernel
theorem d_F_schedulerPlace_33 : decode b_F_schedulerPlace 33 = .ok (.aload_n 0, 1) := by decide +kernel
theorem d_F_schedulerPlace_34 : decode b_F_schedulerPlace 34 = .ok (.iload_n 2, 1) := by decide +kernel
theorem d_F_schedulerPlace_35 : decode b_F_schedulerPlace 35 = .ok (.invokestatic 122, 3) := by decide +kernel
theorem d_F_schedulerPlace_38 : decode b_F_schedulerPlace 38 = .ok (.ifCond .eq 15, 3) := by decide +kernel
theorem d_F_schedulerPlace_41 : decode b_F_schedulerPlace 41 = .ok (.aload_n 0, 1) := by decide +kernel
theorem d_F_schedulerPlace_42 : decode b_F_schedulerPlace 42 = .ok (.iload_n 3, 1) := by decide +kernel
theorem d_F_schedulerPlace_43 : decode b_F_schedulerPlace 43 = .ok (.invokestatic 125, 3) := by decide +kernel
theorem d_F_schedulerPlace_46 : decode b_F_schedulerPlace 46 = .ok (.ifCond .eq 7, 3) := by decide +kernel
theorem d_F_schedulerPlace_49 : decode b_F_schedulerPlace 49 = .ok (.iconst (-1), 1) := by decide +kernel
theorem d_F_schedulerPlace_50 : decode b_F_schedulerPlace 50 = .ok (.goto 5, 3) := by decide +kernel
theorem d_F_schedulerPlace_53 : decode b_F_schedulerPlace 53 = .ok (.bipush 64, 2) := by decide +kernel
theorem d_F_schedulerPlace_55 : decode b_F_schedulerPlace 55 = .ok (.ireturn, 1) := by decide +kernel
theorem d_F_specialsPlace_0 : decode b_F_specialsPlace 0 = .ok (.iconst 0, 1) := by decide +kernel
theorem d_F_specialsPlace_1 : decode b_F_specialsPlace 1 = .ok (.istore_n 1, 1) := by decide +kernel
theorem d_F_specialsPlace_2 : decode b_F_specialsPlace 2 = .ok (.iload_n 1, 1) := by decide +kernel
theorem d_F_specialsPlace_3 : decode b_F_specialsPlace 3 = .ok (.bipush 14, 2) := by decide +kernel
theorem d_F_specialsPlace_5 : decode b_F_specialsPlace 5 = .ok (.if_icmp .gt 24, 3) := by decide +kernel
theorem d_F_specialsPlace_8 : decode b_F_specialsPlace 8 = .ok (.aload_n 0, 1) := by decide +kernel
theorem d_F_specialsPlace_9 : decode b_F_specialsPlace 9 = .ok (.iload_n 1, 1) := by decide +kernel
theorem d_F_specialsPlace_10 : decode b_F_specialsPlace 10 = .ok (.invokestatic 24, 3) := by decide +kernel
theorem d_F_specialsPlace_13 : decode b_F_specialsPlace 13 = .ok (.ifCond .ne 10, 3) := by decide +kernel
theorem d_F_specialsPlace_16 : decode b_F_specialsPlace 16 = .ok (.bipush 8, 2) := by decide +kernel
theorem d_F_specialsPlace_18 : decode b_F_specialsPlace 18 = .ok (.iconst 4, 1) := by decide +kernel
theorem d_F_specialsPlace_19 : decode b_F_specialsPlace 19 = .ok (.iload_n 1, 1) := by decide +kernel
theorem d_F_specialsPlace_20 : decode b_F_specialsPlace 20 = .ok (.imul, 1) := by decide +kernel
theorem d_F_specialsPlace_21 : decode b_F_specialsPlace 21 = .ok (.iadd, 1) := by decide +kernel
theorem d_F_specialsPlace_22 : decode b_F_specialsPlace 22 = .ok (.ireturn, 1) := by decide +kernel
theorem d_F_specialsPlace_23 : decode b_F_specialsPlace 23 = .ok (.iinc 1 1, 3) := by decide +kernel
theorem d_F_specialsPlace_26 : decode b_F_specialsPlace 26 = .ok (.goto (-24), 3) := by decide +kernel
theorem d_F_specialsPlace_29 : decode b_F_specialsPlace 29 = .ok (.iconst (-1), 1) := by decide +kernel
theorem d_F_specialsPlace_30 : decode b_F_specialsPlace 30 = .ok (.ireturn, 1) := by decide +kernel
theorem d_F_temporariesOf_0 : decode b_F_temporariesOf 0 = .ok (.iload_n 0, 1) := by decide +kernel
theorem d_F_temporariesOf_1 : decode b_F_temporariesOf 1 = .ok (.iconst 4, 1) := by decide +kernel
theorem d_F_temporariesOf_2 : decode b_F_temporariesOf 2 = .ok (.ishr, 1) := by decide +kernel
theorem d_F_temporariesOf_3 : decode b_F_temporariesOf 3 = .ok (.bipush 31, 2) := by decide +kernel
theorem d_F_temporariesOf_5 : decode b_F_temporariesOf 5 = .ok (.iand, 1) := by decide +kernel
theorem d_F_temporariesOf_6 : decode b_F_temporariesOf 6 = .ok (.ireturn, 1) := by decide +kernel
end
section
theorem d_I_addObject_0 : decode b_I_addObject 0 = .ok (.aload_n 0, 1) := by decide +kernel
theorem d_I_addObject_1 : decode b_I_addObject 1 = .ok (.dup, 1) := by decide +kernel
theorem d_I_addObject_2 : decode b_I_addObject 2 = .ok (.getfield 34, 3) := by decide +kernel
theorem d_I_addObject_5 : decode b_I_addObject 5 = .ok (.iconst 1, 1) := by decide +kernel
theorem d_I_addObject_6 : decode b_I_addObject 6 = .ok (.iadd, 1) := by decide +kernel
theorem d_I_addObject_7 : decode b_I_addObject 7 = .ok (.putfield 34, 3) := by decide +kernel
theorem d_I_addObject_10 : decode b_I_addObject 10 = .ok (.aload_n 0, 1) := by decide +kernel
theorem d_I_addObject_11 : decode b_I_addObject 11 = .ok (.getfield 34, 3) := by decide +kernel
theorem d_I_addObject_14 : decode b_I_addObject 14 = .ok (.aload_n 0, 1) := by decide +kernel
theorem d_I_addObject_15 : decode b_I_addObject 15 = .ok (.getfield 15, 3) := by decide +kernel
theorem d_I_addObject_18 : decode b_I_addObject 18 = .ok (.arraylength, 1) := by decide +kernel
theorem d_I_addObject_19 : decode b_I_addObject 19 = .ok (.if_icmp .lt 64, 3) := by decide +kernel
theorem d_I_addObject_22 : decode b_I_addObject 22 = .ok (.iconst 2, 1) := by decide +kernel
theorem d_I_addObject_23 : decode b_I_addObject 23 = .ok (.aload_n 0, 1) := by decide +kernel
theorem d_I_addObject_24 : decode b_I_addObject 24 = .ok (.getfield 15, 3) := by decide +kernel
theorem d_I_addObject_27 : decode b_I_addObject 27 = .ok (.arraylength, 1) := by decide +kernel
theorem d_I_addObject_28 : decode b_I_addObject 28 = .ok (.imul, 1) := by decide +kernel
theorem d_I_addObject_29 : decode b_I_addObject 29 = .ok (.istore 4, 2) := by decide +kernel
theorem d_I_addObject_31 : decode b_I_addObject 31 = .ok (.aload_n 0, 1) := by decide +kernel
theorem d_I_addObject_32 : decode b_I_addObject 32 = .ok (.aload_n 0, 1) := by decide +kernel
theorem d_I_addObject_33 : decode b_I_addObject 33 = .ok (.getfield 15, 3) := by decide +kernel
theorem d_I_addObject_36 : decode b_I_addObject 36 = .ok (.iload 4, 2) := by decide +kernel
theorem d_I_addObject_38 : decode b_I_addObject 38 = .ok (.invokestatic 40, 3) := by decide +kernel
theorem d_I_addObject_41 : decode b_I_addObject 41 = .ok (.putfield 15, 3) := by decide +kernel
theorem d_I_addObject_44 : decode b_I_addObject 44 = .ok (.aload_n 0, 1) := by decide +kernel
theorem d_I_addObject_45 : decode b_I_addObject 45 = .ok (.aload_n 0, 1) := by decide +kernel
theorem d_I_addObject_46 : decode b_I_addObject 46 = .ok (.getfield 18, 3) := by decide +kernel
theorem d_I_addObject_49 : decode b_I_addObject 49 = .ok (.iload 4, 2) := by decide +kernel
theorem d_I_addObject_51 : decode b_I_addObject 51 = .ok (.invokestatic 40, 3) := by decide +kernel
theorem d_I_addObject_54 : decode b_I_addObject 54 = .ok (.putfield 18, 3) := by decide +kernel
theorem d_I_addObject_57 : decode b_I_addObject 57 = .ok (.aload_n 0, 1) := by decide +kernel
theorem d_I_addObject_58 : decode b_I_addObject 58 = .ok (.aload_n 0, 1) := by decide +kernel
theorem d_I_addObject_59 : decode b_I_addObject 59 = .ok (.getfield 21, 3) := by decide +kernel
theorem d_I_addObject_62 : decode b_I_addObject 62 = .ok (.iload 4, 2) := by decide +kernel
theorem d_I_addObject_64 : decode b_I_addObject 64 = .ok (.invokestatic 40, 3) := by decide +kernel
theorem d_I_addObject_67 : decode b_I_addObject 67 = .ok (.putfield 21, 3) := by decide +kernel
theorem d_I_addObject_70 : decode b_I_addObject 70 = .ok (.aload_n 0, 1) := by decide +kernel
theorem d_I_addObject_71 : decode b_I_addObject 71 = .ok (.aload_n 0, 1) := by decide +kernel
theorem d_I_addObject_72 : decode b_I_addObject 72 = .ok (.getfield 24, 3) := by decide +kernel
theorem d_I_addObject_75 : decode b_I_addObject 75 = .ok (.iload 4, 2) := by decide +kernel
theorem d_I_addObject_77 : decode b_I_addObject 77 = .ok (.invokestatic 40, 3) := by decide +kernel
theorem d_I_addObject_80 : decode b_I_addObject 80 = .ok (.putfield 24, 3) := by decide +kernel
theorem d_I_addObject_83 : decode b_I_addObject 83 = .ok (.aload_n 0, 1) := by decide +kernel
theorem d_I_addObject_84 : decode b_I_addObject 84 = .ok (.getfield 15, 3) := by decide +kernel
theorem d_I_addObject_87 : decode b_I_addObject 87 = .ok (.aload_n 0, 1) := by decide +kernel
theorem d_I_addObject_88 : decode b_I_addObject 88 = .ok (.getfield 34, 3) := by decide +kernel
theorem d_I_addObject_91 : decode b_I_addObject 91 = .ok (.iload_n 1, 1) := by decide +kernel
theorem d_I_addObject_92 : decode b_I_addObject 92 = .ok (.iastore, 1) := by decide +kernel
theorem d_I_addObject_93 : decode b_I_addObject 93 = .ok (.aload_n 0, 1) := by decide +kernel
theorem d_I_addObject_94 : decode b_I_addObject 94 = .ok (.getfield 18, 3) := by decide +kernel
theorem d_I_addObject_97 : decode b_I_addObject 97 = .ok (.aload_n 0, 1) := by decide +kernel
theorem d_I_addObject_98 : decode b_I_addObject 98 = .ok (.getfield 34, 3) := by decide +kernel
theorem d_I_addObject_101 : decode b_I_addObject 101 = .ok (.iload_n 2, 1) := by decide +kernel
theorem d_I_addObject_102 : decode b_I_addObject 102 = .ok (.iastore, 1) := by decide +kernel
theorem d_I_addObject_103 : decode b_I_addObject 103 = .ok (.aload_n 0, 1) := by decide +kernel
theorem d_I_addObject_104 : decode b_I_addObject 104 = .ok (.getfield 21, 3) := by decide +kernel
theorem d_I_addObject_107 : decode b_I_addObject 107 = .ok (.aload_n 0, 1) := by decide +kernel
theorem d_I_addObject_108 : decode b_I_addObject 108 = .ok (.getfield 34, 3) := by decide +kernel
theorem d_I_addObject_111 : decode b_I_addObject 111 = .ok (.iload_n 3, 1) := by decide +kernel
theorem d_I_addObject_112 : decode b_I_addObject 112 = .ok (.iastore, 1) := by decide +kernel
theorem d_I_addObject_113 : decode b_I_addObject 113 = .ok (.aload_n 0, 1) := by decide +kernel
theorem d_I_addObject_114 : decode b_I_addObject 114 = .ok (.getfield 24, 3) := by decide +kernel
theorem d_I_addObject_117 : decode b_I_addObject 117 = .ok (.aload_n 0, 1) := by decide +kernel
theorem d_I_addObject_118 : decode b_I_addObject 118 = .ok (.getfield 34, 3) := by decide +kernel
theorem d_I_addObject_121 : decode b_I_addObject 121 = .ok (.aload_n 0, 1) := by decide +kernel
theorem d_I_addObject_122 : decode b_I_addObject 122 = .ok (.getfield 30, 3) := by decide +kernel
theorem d_I_addObject_125 : decode b_I_addObject 125 = .ok (.iastore, 1) := by decide +kernel
theorem d_I_addObject_126 : decode b_I_addObject 126 = .ok (.aload_n 0, 1) := by decide +kernel
theorem d_I_addObject_127 : decode b_I_addObject 127 = .ok (.dup, 1) := by decide +kernel
theorem d_I_addObject_128 : decode b_I_addObject 128 = .ok (.getfield 37, 3) := by decide +kernel
theorem d_I_addObject_131 : decode b_I_addObject 131 = .ok (.iconst 4, 1) := by decide +kernel
theorem d_I_addObject_132 : decode b_I_addObject 132 = .ok (.iload_n 2, 1) := by decide +kernel
theorem d_I_addObject_133 : decode b_I_addObject 133 = .ok (.iconst 1, 1) := by decide +kernel
theorem d_I_addObject_134 : decode b_I_addObject 134 = .ok (.if_icmp .ne 11, 3) := by decide +kernel
theorem d_I_addObject_137 : decode b_I_addObject 137 = .ok (.iload_n 3, 1) := by decide +kernel
theorem d_I_addObject_138 : decode b_I_addObject 138 = .ok (.iconst 3, 1) := by decide +kernel
theorem d_I_addObject_139 : decode b_I_addObject 139 = .ok (.iadd, 1) := by decide +kernel
theorem d_I_addObject_140 : decode b_I_addObject 140 = .ok (.iconst 4, 1) := by decide +kernel
theorem d_I_addObject_141 : decode b_I_addObject 141 = .ok (.idiv, 1) := by decide +kernel
theorem d_I_addObject_142 : decode b_I_addObject 142 = .ok (.goto 4, 3) := by decide +kernel
theorem d_I_addObject_145 : decode b_I_addObject 145 = .ok (.iload_n 3, 1) := by decide +kernel
theorem d_I_addObject_146 : decode b_I_addObject 146 = .ok (.iadd, 1) := by decide +kernel
theorem d_I_addObject_147 : decode b_I_addObject 147 = .ok (.iadd, 1) := by decide +kernel
theorem d_I_addObject_148 : decode b_I_addObject 148 = .ok (.putfield 37, 3) := by decide +kernel
theorem d_I_addObject_151 : decode b_I_addObject 151 = .ok (.return_, 1) := by decide +kernel
theorem d_I_addPart_0 : decode b_I_addPart 0 = .ok (.aload_n 0, 1) := by decide +kernel
theorem d_I_addPart_1 : decode b_I_addPart 1 = .ok (.getfield 30, 3) := by decide +kernel
theorem d_I_addPart_4 : decode b_I_addPart 4 = .ok (.aload_n 0, 1) := by decide +kernel
theorem d_I_addPart_5 : decode b_I_addPart 5 = .ok (.getfield 27, 3) := by decide +kernel
theorem d_I_addPart_8 : decode b_I_addPart 8 = .ok (.arraylength, 1) := by decide +kernel
theorem d_I_addPart_9 : decode b_I_addPart 9 = .ok (.if_icmp .lt 21, 3) := by decide +kernel
theorem d_I_addPart_12 : decode b_I_addPart 12 = .ok (.aload_n 0, 1) := by decide +kernel
theorem d_I_addPart_13 : decode b_I_addPart 13 = .ok (.aload_n 0, 1) := by decide +kernel
theorem d_I_addPart_14 : decode b_I_addPart 14 = .ok (.getfield 27, 3) := by decide +kernel
theorem d_I_addPart_17 : decode b_I_addPart 17 = .ok (.iconst 2, 1) := by decide +kernel
theorem d_I_addPart_18 : decode b_I_addPart 18 = .ok (.aload_n 0, 1) := by decide +kernel
theorem d_I_addPart_19 : decode b_I_addPart 19 = .ok (.getfield 27, 3) := by decide +kernel
theorem d_I_addPart_22 : decode b_I_addPart 22 = .ok (.arraylength, 1) := by decide +kernel
theorem d_I_addPart_23 : decode b_I_addPart 23 = .ok (.imul, 1) := by decide +kernel
theorem d_I_addPart_24 : decode b_I_addPart 24 = .ok (.invokestatic 40, 3) := by decide +kernel
theorem d_I_addPart_27 : decode b_I_addPart 27 = .ok (.putfield 27, 3) := by decide +kernel
theorem d_I_addPart_30 : decode b_I_addPart 30 = .ok (.aload_n 0, 1) := by decide +kernel
theorem d_I_addPart_31 : decode b_I_addPart 31 = .ok (.getfield 27, 3) := by decide +kernel
theorem d_I_addPart_34 : decode b_I_addPart 34 = .ok (.aload_n 0, 1) := by decide +kernel
theorem d_I_addPart_35 : decode b_I_addPart 35 = .ok (.getfield 30, 3) := by decide +kernel
theorem d_I_addPart_38 : decode b_I_addPart 38 = .ok (.iload_n 1, 1) := by decide +kernel
theorem d_I_addPart_39 : decode b_I_addPart 39 = .ok (.iastore, 1) := by decide +kernel
theorem d_I_addPart_40 : decode b_I_addPart 40 = .ok (.aload_n 0, 1) := by decide +kernel
theorem d_I_addPart_41 : decode b_I_addPart 41 = .ok (.dup, 1) := by decide +kernel
theorem d_I_addPart_42 : decode b_I_addPart 42 = .ok (.getfield 30, 3) := by decide +kernel
theorem d_I_addPart_45 : decode b_I_addPart 45 = .ok (.iconst 1, 1) := by decide +kernel
theorem d_I_addPart_46 : decode b_I_addPart 46 = .ok (.iadd, 1) := by decide +kernel
theorem d_I_addPart_47 : decode b_I_addPart 47 = .ok (.putfield 30, 3) := by decide +kernel
theorem d_I_addPart_50 : decode b_I_addPart 50 = .ok (.return_, 1) := by decide +kernel
theorem d_I_bodyByteAt_0 : decode b_I_bodyByteAt 0 = .ok (.aload_n 0, 1) := by decide +kernel
theorem d_I_bodyByteAt_1 : decode b_I_bodyByteAt 1 = .ok (.iload_n 1, 1) := by decide +kernel
theorem d_I_bodyByteAt_2 : decode b_I_bodyByteAt 2 = .ok (.iload_n 2, 1) := by decide +kernel
theorem d_I_bodyByteAt_3 : decode b_I_bodyByteAt 3 = .ok (.invokevirtual 50, 3) := by decide +kernel
theorem d_I_bodyByteAt_6 : decode b_I_bodyByteAt 6 = .ok (.ifCond .eq 29, 3) := by decide +kernel
theorem d_I_bodyByteAt_9 : decode b_I_bodyByteAt 9 = .ok (.aload_n 0, 1) := by decide +kernel
theorem d_I_bodyByteAt_10 : decode b_I_bodyByteAt 10 = .ok (.getfield 18, 3) := by decide +kernel
theorem d_I_bodyByteAt_13 : decode b_I_bodyByteAt 13 = .ok (.iload_n 1, 1) := by decide +kernel
theorem d_I_bodyByteAt_14 : decode b_I_bodyByteAt 14 = .ok (.iaload, 1) := by decide +kernel
theorem d_I_bodyByteAt_15 : decode b_I_bodyByteAt 15 = .ok (.iconst 1, 1) := by decide +kernel
theorem d_I_bodyByteAt_16 : decode b_I_bodyByteAt 16 = .ok (.if_icmp .ne 19, 3) := by decide +kernel
theorem d_I_bodyByteAt_19 : decode b_I_bodyByteAt 19 = .ok (.aload_n 0, 1) := by decide +kernel
theorem d_I_bodyByteAt_20 : decode b_I_bodyByteAt 20 = .ok (.getfield 27, 3) := by decide +kernel
theorem d_I_bodyByteAt_23 : decode b_I_bodyByteAt 23 = .ok (.aload_n 0, 1) := by decide +kernel
theorem d_I_bodyByteAt_24 : decode b_I_bodyByteAt 24 = .ok (.getfield 24, 3) := by decide +kernel
theorem d_I_bodyByteAt_27 : decode b_I_bodyByteAt 27 = .ok (.iload_n 1, 1) := by decide +kernel
theorem d_I_bodyByteAt_28 : decode b_I_bodyByteAt 28 = .ok (.iaload, 1) := by decide +kernel
theorem d_I_bodyByteAt_29 : decode b_I_bodyByteAt 29 = .ok (.iload_n 2, 1) := by decide +kernel
theorem d_I_bodyByteAt_30 : decode b_I_bodyByteAt 30 = .ok (.iadd, 1) := by decide +kernel
theorem d_I_bodyByteAt_31 : decode b_I_bodyByteAt 31 = .ok (.iaload, 1) := by decide +kernel
theorem d_I_bodyByteAt_32 : decode b_I_bodyByteAt 32 = .ok (.goto 4, 3) := by decide +kernel
theorem d_I_bodyByteAt_35 : decode b_I_bodyByteAt 35 = .ok (.iconst (-1), 1) := by decide +kernel
theorem d_I_bodyByteAt_36 : decode b_I_bodyByteAt 36 = .ok (.ireturn, 1) := by decide +kernel
theorem d_I_classAt_0 : decode b_I_classAt 0 = .ok (.aload_n 0, 1) := by decide +kernel
theorem d_I_classAt_1 : decode b_I_classAt 1 = .ok (.iload_n 1, 1) := by decide +kernel
theorem d_I_classAt_2 : decode b_I_classAt 2 = .ok (.invokevirtual 46, 3) := by decide +kernel
theorem d_I_classAt_5 : decode b_I_classAt 5 = .ok (.ifCond .eq 12, 3) := by decide +kernel
theorem d_I_classAt_8 : decode b_I_classAt 8 = .ok (.aload_n 0, 1) := by decide +kernel
theorem d_I_classAt_9 : decode b_I_classAt 9 = .ok (.getfield 15, 3) := by decide +kernel
theorem d_I_classAt_12 : decode b_I_classAt 12 = .ok (.iload_n 1, 1) := by decide +kernel
theorem d_I_classAt_13 : decode b_I_classAt 13 = .ok (.iaload, 1) := by decide +kernel
theorem d_I_classAt_14 : decode b_I_classAt 14 = .ok (.goto 4, 3) := by decide +kernel
theorem d_I_classAt_17 : decode b_I_classAt 17 = .ok (.iconst 0, 1) := by decide +kernel
theorem d_I_classAt_18 : decode b_I_classAt 18 = .ok (.ireturn, 1) := by decide +kernel
theorem d_I_clear_0 : decode b_I_clear 0 = .ok (.aload_n 0, 1) := by decide +kernel
theorem d_I_clear_1 : decode b_I_clear 1 = .ok (.iconst 0, 1) := by decide +kernel
theorem d_I_clear_2 : decode b_I_clear 2 = .ok (.putfield 30, 3) := by decide +kernel
theorem d_I_clear_5 : decode b_I_clear 5 = .ok (.aload_n 0, 1) := by decide +kernel
theorem d_I_clear_6 : decode b_I_clear 6 = .ok (.iconst 0, 1) := by decide +kernel
theorem d_I_clear_7 : decode b_I_clear 7 = .ok (.putfield 34, 3) := by decide +kernel
theorem d_I_clear_10 : decode b_I_clear 10 = .ok (.aload_n 0, 1) := by decide +kernel
theorem d_I_clear_11 : decode b_I_clear 11 = .ok (.iconst 0, 1) := by decide +kernel
theorem d_I_clear_12 : decode b_I_clear 12 = .ok (.putfield 37, 3) := by decide +kernel
theorem d_I_clear_15 : decode b_I_clear 15 = .ok (.return_, 1) := by decide +kernel
theorem d_I_fieldAt_0 : decode b_I_fieldAt 0 = .ok (.aload_n 0, 1) := by decide +kernel
theorem d_I_fieldAt_1 : decode b_I_fieldAt 1 = .ok (.iload_n 1, 1) := by decide +kernel
theorem d_I_fieldAt_2 : decode b_I_fieldAt 2 = .ok (.iload_n 2, 1) := by decide +kernel
theorem d_I_fieldAt_3 : decode b_I_fieldAt 3 = .ok (.invokevirtual 50, 3) := by decide +kernel
theorem d_I_fieldAt_6 : decode b_I_fieldAt 6 = .ok (.ifCond .eq 28, 3) := by decide +kernel
theorem d_I_fieldAt_9 : decode b_I_fieldAt 9 = .ok (.aload_n 0, 1) := by decide +kernel
theorem d_I_fieldAt_10 : decode b_I_fieldAt 10 = .ok (.getfield 18, 3) := by decide +kernel
theorem d_I_fieldAt_13 : decode b_I_fieldAt 13 = .ok (.iload_n 1, 1) := by decide +kernel
theorem d_I_fieldAt_14 : decode b_I_fieldAt 14 = .ok (.iaload, 1) := by decide +kernel
theorem d_I_fieldAt_15 : decode b_I_fieldAt 15 = .ok (.ifCond .ne 19, 3) := by decide +kernel
theorem d_I_fieldAt_18 : decode b_I_fieldAt 18 = .ok (.aload_n 0, 1) := by decide +kernel
theorem d_I_fieldAt_19 : decode b_I_fieldAt 19 = .ok (.getfield 27, 3) := by decide +kernel
theorem d_I_fieldAt_22 : decode b_I_fieldAt 22 = .ok (.aload_n 0, 1) := by decide +kernel
theorem d_I_fieldAt_23 : decode b_I_fieldAt 23 = .ok (.getfield 24, 3) := by decide +kernel
theorem d_I_fieldAt_26 : decode b_I_fieldAt 26 = .ok (.iload_n 1, 1) := by decide +kernel
theorem d_I_fieldAt_27 : decode b_I_fieldAt 27 = .ok (.iaload, 1) := by decide +kernel
theorem d_I_fieldAt_28 : decode b_I_fieldAt 28 = .ok (.iload_n 2, 1) := by decide +kernel
theorem d_I_fieldAt_29 : decode b_I_fieldAt 29 = .ok (.iadd, 1) := by decide +kernel
theorem d_I_fieldAt_30 : decode b_I_fieldAt 30 = .ok (.iaload, 1) := by decide +kernel
theorem d_I_fieldAt_31 : decode b_I_fieldAt 31 = .ok (.goto 4, 3) := by decide +kernel
theorem d_I_fieldAt_34 : decode b_I_fieldAt 34 = .ok (.iconst 0, 1) := by decide +kernel
theorem d_I_fieldAt_35 : decode b_I_fieldAt 35 = .ok (.ireturn, 1) := by decide +kernel
theorem d_I_fieldCount_0 : decode b_I_fieldCount 0 = .ok (.aload_n 0, 1) := by decide +kernel
theorem d_I_fieldCount_1 : decode b_I_fieldCount 1 = .ok (.iload_n 1, 1) := by decide +kernel
theorem d_I_fieldCount_2 : decode b_I_fieldCount 2 = .ok (.invokevirtual 46, 3) := by decide +kernel
theorem d_I_fieldCount_5 : decode b_I_fieldCount 5 = .ok (.ifCond .eq 21, 3) := by decide +kernel
theorem d_I_fieldCount_8 : decode b_I_fieldCount 8 = .ok (.aload_n 0, 1) := by decide +kernel
theorem d_I_fieldCount_9 : decode b_I_fieldCount 9 = .ok (.getfield 18, 3) := by decide +kernel
theorem d_I_fieldCount_12 : decode b_I_fieldCount 12 = .ok (.iload_n 1, 1) := by decide +kernel
theorem d_I_fieldCount_13 : decode b_I_fieldCount 13 = .ok (.iaload, 1) := by decide +kernel
theorem d_I_fieldCount_14 : decode b_I_fieldCount 14 = .ok (.ifCond .ne 12, 3) := by decide +kernel
theorem d_I_fieldCount_17 : decode b_I_fieldCount 17 = .ok (.aload_n 0, 1) := by decide +kernel
theorem d_I_fieldCount_18 : decode b_I_fieldCount 18 = .ok (.getfield 21, 3) := by decide +kernel
theorem d_I_fieldCount_21 : decode b_I_fieldCount 21 = .ok (.iload_n 1, 1) := by decide +kernel
theorem d_I_fieldCount_22 : decode b_I_fieldCount 22 = .ok (.iaload, 1) := by decide +kernel
theorem d_I_fieldCount_23 : decode b_I_fieldCount 23 = .ok (.goto 4, 3) := by decide +kernel
theorem d_I_fieldCount_26 : decode b_I_fieldCount 26 = .ok (.iconst 0, 1) := by decide +kernel
theorem d_I_fieldCount_27 : decode b_I_fieldCount 27 = .ok (.ireturn, 1) := by decide +kernel
theorem d_I_hasPart_0 : decode b_I_hasPart 0 = .ok (.iload_n 1, 1) := by decide +kernel
theorem d_I_hasPart_1 : decode b_I_hasPart 1 = .ok (.iconst 1, 1) := by decide +kernel
theorem d_I_hasPart_2 : decode b_I_hasPart 2 = .ok (.if_icmp .lt 29, 3) := by decide +kernel
theorem d_I_hasPart_5 : decode b_I_hasPart 5 = .ok (.iload_n 1, 1) := by decide +kernel
theorem d_I_hasPart_6 : decode b_I_hasPart 6 = .ok (.aload_n 0, 1) := by decide +kernel
theorem d_I_hasPart_7 : decode b_I_hasPart 7 = .ok (.getfield 34, 3) := by decide +kernel
theorem d_I_hasPart_10 : decode b_I_hasPart 10 = .ok (.if_icmp .gt 21, 3) := by decide +kernel
theorem d_I_hasPart_13 : decode b_I_hasPart 13 = .ok (.iload_n 2, 1) := by decide +kernel
theorem d_I_hasPart_14 : decode b_I_hasPart 14 = .ok (.ifCond .lt 17, 3) := by decide +kernel
theorem d_I_hasPart_17 : decode b_I_hasPart 17 = .ok (.iload_n 2, 1) := by decide +kernel
theorem d_I_hasPart_18 : decode b_I_hasPart 18 = .ok (.aload_n 0, 1) := by decide +kernel
theorem d_I_hasPart_19 : decode b_I_hasPart 19 = .ok (.getfield 21, 3) := by decide +kernel
theorem d_I_hasPart_22 : decode b_I_hasPart 22 = .ok (.iload_n 1, 1) := by decide +kernel
theorem d_I_hasPart_23 : decode b_I_hasPart 23 = .ok (.iaload, 1) := by decide +kernel
theorem d_I_hasPart_24 : decode b_I_hasPart 24 = .ok (.if_icmp .ge 7, 3) := by decide +kernel
theorem d_I_hasPart_27 : decode b_I_hasPart 27 = .ok (.iconst 1, 1) := by decide +kernel
theorem d_I_hasPart_28 : decode b_I_hasPart 28 = .ok (.goto 4, 3) := by decide +kernel
theorem d_I_hasPart_31 : decode b_I_hasPart 31 = .ok (.iconst 0, 1) := by decide +kernel
theorem d_I_hasPart_32 : decode b_I_hasPart 32 = .ok (.ireturn, 1) := by decide +kernel
theorem d_I_holds_0 : decode b_I_holds 0 = .ok (.iload_n 1, 1) := by decide +kernel
theorem d_I_holds_1 : decode b_I_holds 1 = .ok (.iconst 1, 1) := by decide +kernel
theorem d_I_holds_2 : decode b_I_holds 2 = .ok (.if_icmp .lt 15, 3) := by decide +kernel
theorem d_I_holds_5 : decode b_I_holds 5 = .ok (.iload_n 1, 1) := by decide +kernel
theorem d_I_holds_6 : decode b_I_holds 6 = .ok (.aload_n 0, 1) := by decide +kernel
theorem d_I_holds_7 : decode b_I_holds 7 = .ok (.getfield 34, 3) := by decide +kernel
theorem d_I_holds_10 : decode b_I_holds 10 = .ok (.if_icmp .gt 7, 3) := by decide +kernel
theorem d_I_holds_13 : decode b_I_holds 13 = .ok (.iconst 1, 1) := by decide +kernel
theorem d_I_holds_14 : decode b_I_holds 14 = .ok (.goto 4, 3) := by decide +kernel
theorem d_I_holds_17 : decode b_I_holds 17 = .ok (.iconst 0, 1) := by decide +kernel
theorem d_I_holds_18 : decode b_I_holds 18 = .ok (.ireturn, 1) := by decide +kernel
theorem d_I_init_0 : decode b_I_init 0 = .ok (.aload_n 0, 1) := by decide +kernel
theorem d_I_init_1 : decode b_I_init 1 = .ok (.invokespecial 3, 3) := by decide +kernel
theorem d_I_init_4 : decode b_I_init 4 = .ok (.aload_n 0, 1) := by decide +kernel
theorem d_I_init_5 : decode b_I_init 5 = .ok (.bipush 50, 2) := by decide +kernel
theorem d_I_init_7 : decode b_I_init 7 = .ok (.newarray .int, 2) := by decide +kernel
theorem d_I_init_9 : decode b_I_init 9 = .ok (.putfield 9, 3) := by decide +kernel
theorem d_I_init_12 : decode b_I_init 12 = .ok (.aload_n 0, 1) := by decide +kernel
theorem d_I_init_13 : decode b_I_init 13 = .ok (.bipush 64, 2) := by decide +kernel
theorem d_I_init_15 : decode b_I_init 15 = .ok (.newarray .int, 2) := by decide +kernel
theorem d_I_init_17 : decode b_I_init 17 = .ok (.putfield 15, 3) := by decide +kernel
theorem d_I_init_20 : decode b_I_init 20 = .ok (.aload_n 0, 1) := by decide +kernel
theorem d_I_init_21 : decode b_I_init 21 = .ok (.bipush 64, 2) := by decide +kernel
theorem d_I_init_23 : decode b_I_init 23 = .ok (.newarray .int, 2) := by decide +kernel
theorem d_I_init_25 : decode b_I_init 25 = .ok (.putfield 18, 3) := by decide +kernel
theorem d_I_init_28 : decode b_I_init 28 = .ok (.aload_n 0, 1) := by decide +kernel
theorem d_I_init_29 : decode b_I_init 29 = .ok (.bipush 64, 2) := by decide +kernel
theorem d_I_init_31 : decode b_I_init 31 = .ok (.newarray .int, 2) := by decide +kernel
theorem d_I_init_33 : decode b_I_init 33 = .ok (.putfield 21, 3) := by decide +kernel
theorem d_I_init_36 : decode b_I_init 36 = .ok (.aload_n 0, 1) := by decide +kernel
theorem d_I_init_37 : decode b_I_init 37 = .ok (.bipush 64, 2) := by decide +kernel
theorem d_I_init_39 : decode b_I_init 39 = .ok (.newarray .int, 2) := by decide +kernel
theorem d_I_init_41 : decode b_I_init 41 = .ok (.putfield 24, 3) := by decide +kernel
theorem d_I_init_44 : decode b_I_init 44 = .ok (.aload_n 0, 1) := by decide +kernel
theorem d_I_init_45 : decode b_I_init 45 = .ok (.sipush 256, 3) := by decide +kernel
theorem d_I_init_48 : decode b_I_init 48 = .ok (.newarray .int, 2) := by decide +kernel
theorem d_I_init_50 : decode b_I_init 50 = .ok (.putfield 27, 3) := by decide +kernel
theorem d_I_init_53 : decode b_I_init 53 = .ok (.return_, 1) := by decide +kernel
theorem d_I_isContext_0 : decode b_I_isContext 0 = .ok (.aload_n 0, 1) := by decide +kernel
theorem d_I_isContext_1 : decode b_I_isContext 1 = .ok (.iload_n 1, 1) := by decide +kernel
theorem d_I_isContext_2 : decode b_I_isContext 2 = .ok (.bipush 7, 2) := by decide +kernel
theorem d_I_isContext_4 : decode b_I_isContext 4 = .ok (.invokevirtual 54, 3) := by decide +kernel
theorem d_I_isContext_7 : decode b_I_isContext 7 = .ok (.ifCond .ne 13, 3) := by decide +kernel
theorem d_I_isContext_10 : decode b_I_isContext 10 = .ok (.aload_n 0, 1) := by decide +kernel
theorem d_I_isContext_11 : decode b_I_isContext 11 = .ok (.iload_n 1, 1) := by decide +kernel
theorem d_I_isContext_12 : decode b_I_isContext 12 = .ok (.bipush 8, 2) := by decide +kernel
theorem d_I_isContext_14 : decode b_I_isContext 14 = .ok (.invokevirtual 54, 3) := by decide +kernel
theorem d_I_isContext_17 : decode b_I_isContext 17 = .ok (.ifCond .eq 7, 3) := by decide +kernel
theorem d_I_isContext_20 : decode b_I_isContext 20 = .ok (.iconst 1, 1) := by decide +kernel
theorem d_I_isContext_21 : decode b_I_isContext 21 = .ok (.goto 4, 3) := by decide +kernel
theorem d_I_isContext_24 : decode b_I_isContext 24 = .ok (.iconst 0, 1) := by decide +kernel
theorem d_I_isContext_25 : decode b_I_isContext 25 = .ok (.ireturn, 1) := by decide +kernel
theorem d_I_isOfBytes_0 : decode b_I_isOfBytes 0 = .ok (.aload_n 0, 1) := by decide +kernel
theorem d_I_isOfBytes_1 : decode b_I_isOfBytes 1 = .ok (.iload_n 1, 1) := by decide +kernel
theorem d_I_isOfBytes_2 : decode b_I_isOfBytes 2 = .ok (.invokevirtual 46, 3) := by decide +kernel
theorem d_I_isOfBytes_5 : decode b_I_isOfBytes 5 = .ok (.ifCond .eq 17, 3) := by decide +kernel
theorem d_I_isOfBytes_8 : decode b_I_isOfBytes 8 = .ok (.aload_n 0, 1) := by decide +kernel
theorem d_I_isOfBytes_9 : decode b_I_isOfBytes 9 = .ok (.getfield 18, 3) := by decide +kernel
theorem d_I_isOfBytes_12 : decode b_I_isOfBytes 12 = .ok (.iload_n 1, 1) := by decide +kernel
theorem d_I_isOfBytes_13 : decode b_I_isOfBytes 13 = .ok (.iaload, 1) := by decide +kernel
theorem d_I_isOfBytes_14 : decode b_I_isOfBytes 14 = .ok (.iconst 1, 1) := by decide +kernel
theorem d_I_isOfBytes_15 : decode b_I_isOfBytes 15 = .ok (.if_icmp .ne 7, 3) := by decide +kernel
theorem d_I_isOfBytes_18 : decode b_I_isOfBytes 18 = .ok (.iconst 1, 1) := by decide +kernel
theorem d_I_isOfBytes_19 : decode b_I_isOfBytes 19 = .ok (.goto 4, 3) := by decide +kernel
theorem d_I_isOfBytes_22 : decode b_I_isOfBytes 22 = .ok (.iconst 0, 1) := by decide +kernel
theorem d_I_isOfBytes_23 : decode b_I_isOfBytes 23 = .ok (.ireturn, 1) := by decide +kernel
theorem d_I_isOfSpecialClass_0 : decode b_I_isOfSpecialClass 0 = .ok (.iload_n 1, 1) := by decide +kernel
theorem d_I_isOfSpecialClass_1 : decode b_I_isOfSpecialClass 1 = .ok (.iconst 1, 1) := by decide +kernel
theorem d_I_isOfSpecialClass_2 : decode b_I_isOfSpecialClass 2 = .ok (.if_icmp .lt 30, 3) := by decide +kernel
theorem d_I_isOfSpecialClass_5 : decode b_I_isOfSpecialClass 5 = .ok (.iload_n 1, 1) := by decide +kernel
theorem d_I_isOfSpecialClass_6 : decode b_I_isOfSpecialClass 6 = .ok (.aload_n 0, 1) := by decide +kernel
theorem d_I_isOfSpecialClass_7 : decode b_I_isOfSpecialClass 7 = .ok (.getfield 34, 3) := by decide +kernel
theorem d_I_isOfSpecialClass_10 : decode b_I_isOfSpecialClass 10 = .ok (.if_icmp .gt 22, 3) := by decide +kernel
theorem d_I_isOfSpecialClass_13 : decode b_I_isOfSpecialClass 13 = .ok (.aload_n 0, 1) := by decide +kernel
theorem d_I_isOfSpecialClass_14 : decode b_I_isOfSpecialClass 14 = .ok (.getfield 15, 3) := by decide +kernel
theorem d_I_isOfSpecialClass_17 : decode b_I_isOfSpecialClass 17 = .ok (.iload_n 1, 1) := by decide +kernel
theorem d_I_isOfSpecialClass_18 : decode b_I_isOfSpecialClass 18 = .ok (.iaload, 1) := by decide +kernel
theorem d_I_isOfSpecialClass_19 : decode b_I_isOfSpecialClass 19 = .ok (.aload_n 0, 1) := by decide +kernel
theorem d_I_isOfSpecialClass_20 : decode b_I_isOfSpecialClass 20 = .ok (.getfield 9, 3) := by decide +kernel
theorem d_I_isOfSpecialClass_23 : decode b_I_isOfSpecialClass 23 = .ok (.iload_n 2, 1) := by decide +kernel
theorem d_I_isOfSpecialClass_24 : decode b_I_isOfSpecialClass 24 = .ok (.iaload, 1) := by decide +kernel
theorem d_I_isOfSpecialClass_25 : decode b_I_isOfSpecialClass 25 = .ok (.if_icmp .ne 7, 3) := by decide +kernel
theorem d_I_isOfSpecialClass_28 : decode b_I_isOfSpecialClass 28 = .ok (.iconst 1, 1) := by decide +kernel
theorem d_I_isOfSpecialClass_29 : decode b_I_isOfSpecialClass 29 = .ok (.goto 4, 3) := by decide +kernel
theorem d_I_isOfSpecialClass_32 : decode b_I_isOfSpecialClass 32 = .ok (.iconst 0, 1) := by decide +kernel
theorem d_I_isOfSpecialClass_33 : decode b_I_isOfSpecialClass 33 = .ok (.ireturn, 1) := by decide +kernel
theorem d_I_objectOf_0 : decode b_I_objectOf 0 = .ok (.iload_n 1, 1) := by decide +kernel
theorem d_I_objectOf_1 : decode b_I_objectOf 1 = .ok (.iconst 1, 1) := by decide +kernel
theorem d_I_objectOf_2 : decode b_I_objectOf 2 = .ok (.iand, 1) := by decide +kernel
theorem d_I_objectOf_3 : decode b_I_objectOf 3 = .ok (.ifCond .ne 19, 3) := by decide +kernel
theorem d_I_objectOf_6 : decode b_I_objectOf 6 = .ok (.aload_n 0, 1) := by decide +kernel
theorem d_I_objectOf_7 : decode b_I_objectOf 7 = .ok (.iload_n 1, 1) := by decide +kernel
theorem d_I_objectOf_8 : decode b_I_objectOf 8 = .ok (.iconst 1, 1) := by decide +kernel
theorem d_I_objectOf_9 : decode b_I_objectOf 9 = .ok (.ishr, 1) := by decide +kernel
theorem d_I_objectOf_10 : decode b_I_objectOf 10 = .ok (.invokevirtual 46, 3) := by decide +kernel
theorem d_I_objectOf_13 : decode b_I_objectOf 13 = .ok (.ifCond .eq 9, 3) := by decide +kernel
theorem d_I_objectOf_16 : decode b_I_objectOf 16 = .ok (.iload_n 1, 1) := by decide +kernel
theorem d_I_objectOf_17 : decode b_I_objectOf 17 = .ok (.iconst 1, 1) := by decide +kernel
theorem d_I_objectOf_18 : decode b_I_objectOf 18 = .ok (.ishr, 1) := by decide +kernel
theorem d_I_objectOf_19 : decode b_I_objectOf 19 = .ok (.goto 4, 3) := by decide +kernel
theorem d_I_objectOf_22 : decode b_I_objectOf 22 = .ok (.iconst 0, 1) := by decide +kernel
theorem d_I_objectOf_23 : decode b_I_objectOf 23 = .ok (.ireturn, 1) := by decide +kernel
theorem d_I_specialAt_0 : decode b_I_specialAt 0 = .ok (.iload_n 1, 1) := by decide +kernel
theorem d_I_specialAt_1 : decode b_I_specialAt 1 = .ok (.ifCond .lt 18, 3) := by decide +kernel
theorem d_I_specialAt_4 : decode b_I_specialAt 4 = .ok (.iload_n 1, 1) := by decide +kernel
theorem d_I_specialAt_5 : decode b_I_specialAt 5 = .ok (.bipush 50, 2) := by decide +kernel
theorem d_I_specialAt_7 : decode b_I_specialAt 7 = .ok (.if_icmp .ge 12, 3) := by decide +kernel
theorem d_I_specialAt_10 : decode b_I_specialAt 10 = .ok (.aload_n 0, 1) := by decide +kernel
theorem d_I_specialAt_11 : decode b_I_specialAt 11 = .ok (.getfield 9, 3) := by decide +kernel
theorem d_I_specialAt_14 : decode b_I_specialAt 14 = .ok (.iload_n 1, 1) := by decide +kernel
theorem d_I_specialAt_15 : decode b_I_specialAt 15 = .ok (.iaload, 1) := by decide +kernel
theorem d_I_specialAt_16 : decode b_I_specialAt 16 = .ok (.goto 4, 3) := by decide +kernel
theorem d_I_specialAt_19 : decode b_I_specialAt 19 = .ok (.iconst 0, 1) := by decide +kernel
theorem d_I_specialAt_20 : decode b_I_specialAt 20 = .ok (.ireturn, 1) := by decide +kernel
theorem d_L_bodyLength_0 : decode b_L_bodyLength 0 = .ok (.iload_n 0, 1) := by decide +kernel
theorem d_L_bodyLength_1 : decode b_L_bodyLength 1 = .ok (.iconst 1, 1) := by decide +kernel
theorem d_L_bodyLength_2 : decode b_L_bodyLength 2 = .ok (.if_icmp .ne 7, 3) := by decide +kernel
theorem d_L_bodyLength_5 : decode b_L_bodyLength 5 = .ok (.iload_n 1, 1) := by decide +kernel
theorem d_L_bodyLength_6 : decode b_L_bodyLength 6 = .ok (.goto 6, 3) := by decide +kernel
theorem d_L_bodyLength_9 : decode b_L_bodyLength 9 = .ok (.iconst 4, 1) := by decide +kernel
theorem d_L_bodyLength_10 : decode b_L_bodyLength 10 = .ok (.iload_n 1, 1) := by decide +kernel
theorem d_L_bodyLength_11 : decode b_L_bodyLength 11 = .ok (.imul, 1) := by decide +kernel
theorem d_L_bodyLength_12 : decode b_L_bodyLength 12 = .ok (.ireturn, 1) := by decide +kernel
theorem d_L_headPlace_0 : decode b_L_headPlace 0 = .ok (.iconst 0, 1) := by decide +kernel
theorem d_L_headPlace_1 : decode b_L_headPlace 1 = .ok (.istore_n 1, 1) := by decide +kernel
theorem d_L_headPlace_2 : decode b_L_headPlace 2 = .ok (.iload_n 1, 1) := by decide +kernel
theorem d_L_headPlace_3 : decode b_L_headPlace 3 = .ok (.getstatic 9, 3) := by decide +kernel
theorem d_L_headPlace_6 : decode b_L_headPlace 6 = .ok (.arraylength, 1) := by decide +kernel
theorem d_L_headPlace_7 : decode b_L_headPlace 7 = .ok (.if_icmp .ge 35, 3) := by decide +kernel
theorem d_L_headPlace_10 : decode b_L_headPlace 10 = .ok (.aload_n 0, 1) := by decide +kernel
theorem d_L_headPlace_11 : decode b_L_headPlace 11 = .ok (.iload_n 1, 1) := by decide +kernel
theorem d_L_headPlace_12 : decode b_L_headPlace 12 = .ok (.invokevirtual 13, 3) := by decide +kernel
theorem d_L_headPlace_15 : decode b_L_headPlace 15 = .ok (.istore_n 2, 1) := by decide +kernel
theorem d_L_headPlace_16 : decode b_L_headPlace 16 = .ok (.iload_n 2, 1) := by decide +kernel
theorem d_L_headPlace_17 : decode b_L_headPlace 17 = .ok (.getstatic 9, 3) := by decide +kernel
theorem d_L_headPlace_20 : decode b_L_headPlace 20 = .ok (.iload_n 1, 1) := by decide +kernel
theorem d_L_headPlace_21 : decode b_L_headPlace 21 = .ok (.iaload, 1) := by decide +kernel
theorem d_L_headPlace_22 : decode b_L_headPlace 22 = .ok (.if_icmp .lt 12, 3) := by decide +kernel
theorem d_L_headPlace_25 : decode b_L_headPlace 25 = .ok (.iload_n 2, 1) := by decide +kernel
theorem d_L_headPlace_26 : decode b_L_headPlace 26 = .ok (.getstatic 19, 3) := by decide +kernel
theorem d_L_headPlace_29 : decode b_L_headPlace 29 = .ok (.iload_n 1, 1) := by decide +kernel
theorem d_L_headPlace_30 : decode b_L_headPlace 30 = .ok (.iaload, 1) := by decide +kernel
theorem d_L_headPlace_31 : decode b_L_headPlace 31 = .ok (.if_icmp .le 5, 3) := by decide +kernel
theorem d_L_headPlace_34 : decode b_L_headPlace 34 = .ok (.iload_n 1, 1) := by decide +kernel
theorem d_L_headPlace_35 : decode b_L_headPlace 35 = .ok (.ireturn, 1) := by decide +kernel
theorem d_L_headPlace_36 : decode b_L_headPlace 36 = .ok (.iinc 1 1, 3) := by decide +kernel
theorem d_L_headPlace_39 : decode b_L_headPlace 39 = .ok (.goto (-37), 3) := by decide +kernel
theorem d_L_headPlace_42 : decode b_L_headPlace 42 = .ok (.aload_n 0, 1) := by decide +kernel
theorem d_L_headPlace_43 : decode b_L_headPlace 43 = .ok (.bipush 6, 2) := by decide +kernel
theorem d_L_headPlace_45 : decode b_L_headPlace 45 = .ok (.iconst 2, 1) := by decide +kernel
theorem d_L_headPlace_46 : decode b_L_headPlace 46 = .ok (.invokevirtual 22, 3) := by decide +kernel
theorem d_L_headPlace_49 : decode b_L_headPlace 49 = .ok (.ifCond .ne 8, 3) := by decide +kernel
theorem d_L_headPlace_52 : decode b_L_headPlace 52 = .ok (.aload_n 0, 1) := by decide +kernel
theorem d_L_headPlace_53 : decode b_L_headPlace 53 = .ok (.getfield 26, 3) := by decide +kernel
theorem d_L_headPlace_56 : decode b_L_headPlace 56 = .ok (.ireturn, 1) := by decide +kernel
theorem d_L_headPlace_57 : decode b_L_headPlace 57 = .ok (.aload_n 0, 1) := by decide +kernel
theorem d_L_headPlace_58 : decode b_L_headPlace 58 = .ok (.bipush 6, 2) := by decide +kernel
theorem d_L_headPlace_60 : decode b_L_headPlace 60 = .ok (.invokevirtual 30, 3) := by decide +kernel
theorem d_L_headPlace_63 : decode b_L_headPlace 63 = .ok (.istore_n 1, 1) := by decide +kernel
theorem d_L_headPlace_64 : decode b_L_headPlace 64 = .ok (.iload_n 1, 1) := by decide +kernel
theorem d_L_headPlace_65 : decode b_L_headPlace 65 = .ok (.iconst 1, 1) := by decide +kernel
theorem d_L_headPlace_66 : decode b_L_headPlace 66 = .ok (.if_icmp .lt 10, 3) := by decide +kernel
theorem d_L_headPlace_69 : decode b_L_headPlace 69 = .ok (.iload_n 1, 1) := by decide +kernel
theorem d_L_headPlace_70 : decode b_L_headPlace 70 = .ok (.sipush 8191, 3) := by decide +kernel
theorem d_L_headPlace_73 : decode b_L_headPlace 73 = .ok (.if_icmp .le 8, 3) := by decide +kernel
theorem d_L_headPlace_76 : decode b_L_headPlace 76 = .ok (.bipush 6, 2) := by decide +kernel
theorem d_L_headPlace_78 : decode b_L_headPlace 78 = .ok (.goto 4, 3) := by decide +kernel
theorem d_L_headPlace_81 : decode b_L_headPlace 81 = .ok (.iconst (-1), 1) := by decide +kernel
theorem d_L_headPlace_82 : decode b_L_headPlace 82 = .ok (.ireturn, 1) := by decide +kernel
theorem d_L_isValueAt_0 : decode b_L_isValueAt 0 = .ok (.aload_n 0, 1) := by decide +kernel
theorem d_L_isValueAt_1 : decode b_L_isValueAt 1 = .ok (.iload_n 1, 1) := by decide +kernel
theorem d_L_isValueAt_2 : decode b_L_isValueAt 2 = .ok (.iconst 4, 1) := by decide +kernel
theorem d_L_isValueAt_3 : decode b_L_isValueAt 3 = .ok (.invokevirtual 22, 3) := by decide +kernel
theorem d_L_isValueAt_6 : decode b_L_isValueAt 6 = .ok (.ifCond .ne 5, 3) := by decide +kernel
theorem d_L_isValueAt_9 : decode b_L_isValueAt 9 = .ok (.iconst 0, 1) := by decide +kernel
theorem d_L_isValueAt_10 : decode b_L_isValueAt 10 = .ok (.ireturn, 1) := by decide +kernel
theorem d_L_isValueAt_11 : decode b_L_isValueAt 11 = .ok (.aload_n 0, 1) := by decide +kernel
theorem d_L_isValueAt_12 : decode b_L_isValueAt 12 = .ok (.iload_n 1, 1) := by decide +kernel
theorem d_L_isValueAt_13 : decode b_L_isValueAt 13 = .ok (.invokevirtual 53, 3) := by decide +kernel
theorem d_L_isValueAt_16 : decode b_L_isValueAt 16 = .ok (.istore_n 3, 1) := by decide +kernel
theorem d_L_isValueAt_17 : decode b_L_isValueAt 17 = .ok (.iload_n 3, 1) := by decide +kernel
theorem d_L_isValueAt_18 : decode b_L_isValueAt 18 = .ok (.invokestatic 80, 3) := by decide +kernel
theorem d_L_isValueAt_21 : decode b_L_isValueAt 21 = .ok (.ifCond .ne 14, 3) := by decide +kernel
theorem d_L_isValueAt_24 : decode b_L_isValueAt 24 = .ok (.iload_n 3, 1) := by decide +kernel
theorem d_L_isValueAt_25 : decode b_L_isValueAt 25 = .ok (.ifCond .lt 14, 3) := by decide +kernel
theorem d_L_isValueAt_28 : decode b_L_isValueAt 28 = .ok (.iload_n 3, 1) := by decide +kernel
theorem d_L_isValueAt_29 : decode b_L_isValueAt 29 = .ok (.iconst 2, 1) := by decide +kernel
theorem d_L_isValueAt_30 : decode b_L_isValueAt 30 = .ok (.iload_n 2, 1) := by decide +kernel
theorem d_L_isValueAt_31 : decode b_L_isValueAt 31 = .ok (.imul, 1) := by decide +kernel
theorem d_L_isValueAt_32 : decode b_L_isValueAt 32 = .ok (.if_icmp .gt 7, 3) := by decide +kernel
theorem d_L_isValueAt_35 : decode b_L_isValueAt 35 = .ok (.iconst 1, 1) := by decide +kernel
theorem d_L_isValueAt_36 : decode b_L_isValueAt 36 = .ok (.goto 4, 3) := by decide +kernel
theorem d_L_isValueAt_39 : decode b_L_isValueAt 39 = .ok (.iconst 0, 1) := by decide +kernel
theorem d_L_isValueAt_40 : decode b_L_isValueAt 40 = .ok (.ireturn, 1) := by decide +kernel
theorem d_L_objectHeadPlace_0 : decode b_L_objectHeadPlace 0 = .ok (.aload_n 0, 1) := by decide +kernel
theorem d_L_objectHeadPlace_1 : decode b_L_objectHeadPlace 1 = .ok (.iload_n 1, 1) := by decide +kernel
theorem d_L_objectHeadPlace_2 : decode b_L_objectHeadPlace 2 = .ok (.iload_n 2, 1) := by decide +kernel
theorem d_L_objectHeadPlace_3 : decode b_L_objectHeadPlace 3 = .ok (.invokestatic 44, 3) := by decide +kernel
theorem d_L_objectHeadPlace_6 : decode b_L_objectHeadPlace 6 = .ok (.ifCond .ne 5, 3) := by decide +kernel
theorem d_L_objectHeadPlace_9 : decode b_L_objectHeadPlace 9 = .ok (.iload_n 1, 1) := by decide +kernel
theorem d_L_objectHeadPlace_10 : decode b_L_objectHeadPlace 10 = .ok (.ireturn, 1) := by decide +kernel
theorem d_L_objectHeadPlace_11 : decode b_L_objectHeadPlace 11 = .ok (.aload_n 0, 1) := by decide +kernel
theorem d_L_objectHeadPlace_12 : decode b_L_objectHeadPlace 12 = .ok (.iload_n 1, 1) := by decide +kernel
theorem d_L_objectHeadPlace_13 : decode b_L_objectHeadPlace 13 = .ok (.iconst 4, 1) := by decide +kernel
theorem d_L_objectHeadPlace_14 : decode b_L_objectHeadPlace 14 = .ok (.iadd, 1) := by decide +kernel
theorem d_L_objectHeadPlace_15 : decode b_L_objectHeadPlace 15 = .ok (.invokevirtual 13, 3) := by decide +kernel
theorem d_L_objectHeadPlace_18 : decode b_L_objectHeadPlace 18 = .ok (.istore_n 3, 1) := by decide +kernel
theorem d_L_objectHeadPlace_19 : decode b_L_objectHeadPlace 19 = .ok (.iload_n 3, 1) := by decide +kernel
theorem d_L_objectHeadPlace_20 : decode b_L_objectHeadPlace 20 = .ok (.ifCond .eq 12, 3) := by decide +kernel
theorem d_L_objectHeadPlace_23 : decode b_L_objectHeadPlace 23 = .ok (.iload_n 3, 1) := by decide +kernel
theorem d_L_objectHeadPlace_24 : decode b_L_objectHeadPlace 24 = .ok (.iconst 1, 1) := by decide +kernel
theorem d_L_objectHeadPlace_25 : decode b_L_objectHeadPlace 25 = .ok (.if_icmp .eq 7, 3) := by decide +kernel
theorem d_L_objectHeadPlace_28 : decode b_L_objectHeadPlace 28 = .ok (.iload_n 1, 1) := by decide +kernel
theorem d_L_objectHeadPlace_29 : decode b_L_objectHeadPlace 29 = .ok (.iconst 4, 1) := by decide +kernel
theorem d_L_objectHeadPlace_30 : decode b_L_objectHeadPlace 30 = .ok (.iadd, 1) := by decide +kernel
theorem d_L_objectHeadPlace_31 : decode b_L_objectHeadPlace 31 = .ok (.ireturn, 1) := by decide +kernel
theorem d_L_objectHeadPlace_32 : decode b_L_objectHeadPlace 32 = .ok (.aload_n 0, 1) := by decide +kernel
theorem d_L_objectHeadPlace_33 : decode b_L_objectHeadPlace 33 = .ok (.iload_n 1, 1) := by decide +kernel
theorem d_L_objectHeadPlace_34 : decode b_L_objectHeadPlace 34 = .ok (.iconst 5, 1) := by decide +kernel
theorem d_L_objectHeadPlace_35 : decode b_L_objectHeadPlace 35 = .ok (.iadd, 1) := by decide +kernel
theorem d_L_objectHeadPlace_36 : decode b_L_objectHeadPlace 36 = .ok (.iconst 2, 1) := by decide +kernel
theorem d_L_objectHeadPlace_37 : decode b_L_objectHeadPlace 37 = .ok (.invokevirtual 22, 3) := by decide +kernel
theorem d_L_objectHeadPlace_40 : decode b_L_objectHeadPlace 40 = .ok (.ifCond .eq 7, 3) := by decide +kernel
theorem d_L_objectHeadPlace_43 : decode b_L_objectHeadPlace 43 = .ok (.iconst (-1), 1) := by decide +kernel
theorem d_L_objectHeadPlace_44 : decode b_L_objectHeadPlace 44 = .ok (.goto 6, 3) := by decide +kernel
theorem d_L_objectHeadPlace_47 : decode b_L_objectHeadPlace 47 = .ok (.iload_n 1, 1) := by decide +kernel
theorem d_L_objectHeadPlace_48 : decode b_L_objectHeadPlace 48 = .ok (.iconst 5, 1) := by decide +kernel
theorem d_L_objectHeadPlace_49 : decode b_L_objectHeadPlace 49 = .ok (.iadd, 1) := by decide +kernel
theorem d_L_objectHeadPlace_50 : decode b_L_objectHeadPlace 50 = .ok (.ireturn, 1) := by decide +kernel
theorem d_L_takeBytes_0 : decode b_L_takeBytes 0 = .ok (.aload_n 0, 1) := by decide +kernel
theorem d_L_takeBytes_1 : decode b_L_takeBytes 1 = .ok (.iload_n 1, 1) := by decide +kernel
theorem d_L_takeBytes_2 : decode b_L_takeBytes 2 = .ok (.iload_n 2, 1) := by decide +kernel
theorem d_L_takeBytes_3 : decode b_L_takeBytes 3 = .ok (.invokevirtual 22, 3) := by decide +kernel
theorem d_L_takeBytes_6 : decode b_L_takeBytes 6 = .ok (.ifCond .ne 5, 3) := by decide +kernel
theorem d_L_takeBytes_9 : decode b_L_takeBytes 9 = .ok (.iload_n 1, 1) := by decide +kernel
theorem d_L_takeBytes_10 : decode b_L_takeBytes 10 = .ok (.ireturn, 1) := by decide +kernel
theorem d_L_takeBytes_11 : decode b_L_takeBytes 11 = .ok (.iconst 0, 1) := by decide +kernel
theorem d_L_takeBytes_12 : decode b_L_takeBytes 12 = .ok (.istore 4, 2) := by decide +kernel
theorem d_L_takeBytes_14 : decode b_L_takeBytes 14 = .ok (.iload 4, 2) := by decide +kernel
theorem d_L_takeBytes_16 : decode b_L_takeBytes 16 = .ok (.iload_n 2, 1) := by decide +kernel
theorem d_L_takeBytes_17 : decode b_L_takeBytes 17 = .ok (.if_icmp .ge 21, 3) := by decide +kernel
theorem d_L_takeBytes_20 : decode b_L_takeBytes 20 = .ok (.aload_n 3, 1) := by decide +kernel
theorem d_L_takeBytes_21 : decode b_L_takeBytes 21 = .ok (.aload_n 0, 1) := by decide +kernel
theorem d_L_takeBytes_22 : decode b_L_takeBytes 22 = .ok (.iload_n 1, 1) := by decide +kernel
theorem d_L_takeBytes_23 : decode b_L_takeBytes 23 = .ok (.iload 4, 2) := by decide +kernel
theorem d_L_takeBytes_25 : decode b_L_takeBytes 25 = .ok (.iadd, 1) := by decide +kernel
theorem d_L_takeBytes_26 : decode b_L_takeBytes 26 = .ok (.invokevirtual 13, 3) := by decide +kernel
theorem d_L_takeBytes_29 : decode b_L_takeBytes 29 = .ok (.invokevirtual 76, 3) := by decide +kernel
theorem d_L_takeBytes_32 : decode b_L_takeBytes 32 = .ok (.iinc 4 1, 3) := by decide +kernel
theorem d_L_takeBytes_35 : decode b_L_takeBytes 35 = .ok (.goto (-21), 3) := by decide +kernel
theorem d_L_takeBytes_38 : decode b_L_takeBytes 38 = .ok (.iconst (-1), 1) := by decide +kernel
theorem d_L_takeBytes_39 : decode b_L_takeBytes 39 = .ok (.ireturn, 1) := by decide +kernel
theorem d_L_takeFields_0 : decode b_L_takeFields 0 = .ok (.iconst 0, 1) := by decide +kernel
theorem d_L_takeFields_1 : decode b_L_takeFields 1 = .ok (.istore 5, 2) := by decide +kernel
theorem d_L_takeFields_3 : decode b_L_takeFields 3 = .ok (.iload 5, 2) := by decide +kernel
theorem d_L_takeFields_5 : decode b_L_takeFields 5 = .ok (.iload_n 2, 1) := by decide +kernel
theorem d_L_takeFields_6 : decode b_L_takeFields 6 = .ok (.if_icmp .ge 41, 3) := by decide +kernel
theorem d_L_takeFields_9 : decode b_L_takeFields 9 = .ok (.iload_n 1, 1) := by decide +kernel
theorem d_L_takeFields_10 : decode b_L_takeFields 10 = .ok (.iconst 4, 1) := by decide +kernel
theorem d_L_takeFields_11 : decode b_L_takeFields 11 = .ok (.iload 5, 2) := by decide +kernel
theorem d_L_takeFields_13 : decode b_L_takeFields 13 = .ok (.imul, 1) := by decide +kernel
theorem d_L_takeFields_14 : decode b_L_takeFields 14 = .ok (.iadd, 1) := by decide +kernel
theorem d_L_takeFields_15 : decode b_L_takeFields 15 = .ok (.istore 6, 2) := by decide +kernel
theorem d_L_takeFields_17 : decode b_L_takeFields 17 = .ok (.aload_n 0, 1) := by decide +kernel
theorem d_L_takeFields_18 : decode b_L_takeFields 18 = .ok (.iload 6, 2) := by decide +kernel
theorem d_L_takeFields_20 : decode b_L_takeFields 20 = .ok (.iload_n 3, 1) := by decide +kernel
theorem d_L_takeFields_21 : decode b_L_takeFields 21 = .ok (.invokestatic 44, 3) := by decide +kernel
theorem d_L_takeFields_24 : decode b_L_takeFields 24 = .ok (.ifCond .ne 6, 3) := by decide +kernel
theorem d_L_takeFields_27 : decode b_L_takeFields 27 = .ok (.iload 6, 2) := by decide +kernel
theorem d_L_takeFields_29 : decode b_L_takeFields 29 = .ok (.ireturn, 1) := by decide +kernel
theorem d_L_takeFields_30 : decode b_L_takeFields 30 = .ok (.aload 4, 2) := by decide +kernel
theorem d_L_takeFields_32 : decode b_L_takeFields 32 = .ok (.aload_n 0, 1) := by decide +kernel
theorem d_L_takeFields_33 : decode b_L_takeFields 33 = .ok (.iload 6, 2) := by decide +kernel
theorem d_L_takeFields_35 : decode b_L_takeFields 35 = .ok (.invokevirtual 53, 3) := by decide +kernel
theorem d_L_takeFields_38 : decode b_L_takeFields 38 = .ok (.invokevirtual 76, 3) := by decide +kernel
theorem d_L_takeFields_41 : decode b_L_takeFields 41 = .ok (.iinc 5 1, 3) := by decide +kernel
theorem d_L_takeFields_44 : decode b_L_takeFields 44 = .ok (.goto (-41), 3) := by decide +kernel
theorem d_L_takeFields_47 : decode b_L_takeFields 47 = .ok (.iconst (-1), 1) := by decide +kernel
theorem d_L_takeFields_48 : decode b_L_takeFields 48 = .ok (.ireturn, 1) := by decide +kernel
theorem d_L_takeObjects_0 : decode b_L_takeObjects 0 = .ok (.aload_n 0, 1) := by decide +kernel
theorem d_L_takeObjects_1 : decode b_L_takeObjects 1 = .ok (.bipush 6, 2) := by decide +kernel
theorem d_L_takeObjects_3 : decode b_L_takeObjects 3 = .ok (.invokevirtual 30, 3) := by decide +kernel
theorem d_L_takeObjects_6 : decode b_L_takeObjects 6 = .ok (.istore_n 2, 1) := by decide +kernel
theorem d_L_takeObjects_7 : decode b_L_takeObjects 7 = .ok (.sipush 208, 3) := by decide +kernel
theorem d_L_takeObjects_10 : decode b_L_takeObjects 10 = .ok (.istore_n 3, 1) := by decide +kernel
theorem d_L_takeObjects_11 : decode b_L_takeObjects 11 = .ok (.iconst 1, 1) := by decide +kernel
theorem d_L_takeObjects_12 : decode b_L_takeObjects 12 = .ok (.istore 4, 2) := by decide +kernel
theorem d_L_takeObjects_14 : decode b_L_takeObjects 14 = .ok (.iload 4, 2) := by decide +kernel
theorem d_L_takeObjects_16 : decode b_L_takeObjects 16 = .ok (.iload_n 2, 1) := by decide +kernel
theorem d_L_takeObjects_17 : decode b_L_takeObjects 17 = .ok (.if_icmp .gt 107, 3) := by decide +kernel
theorem d_L_takeObjects_20 : decode b_L_takeObjects 20 = .ok (.aload_n 0, 1) := by decide +kernel
theorem d_L_takeObjects_21 : decode b_L_takeObjects 21 = .ok (.iload_n 3, 1) := by decide +kernel
theorem d_L_takeObjects_22 : decode b_L_takeObjects 22 = .ok (.iload_n 2, 1) := by decide +kernel
theorem d_L_takeObjects_23 : decode b_L_takeObjects 23 = .ok (.invokestatic 56, 3) := by decide +kernel
theorem d_L_takeObjects_26 : decode b_L_takeObjects 26 = .ok (.istore 5, 2) := by decide +kernel
theorem d_L_takeObjects_28 : decode b_L_takeObjects 28 = .ok (.iload 5, 2) := by decide +kernel
theorem d_L_takeObjects_30 : decode b_L_takeObjects 30 = .ok (.iconst (-1), 1) := by decide +kernel
theorem d_L_takeObjects_31 : decode b_L_takeObjects 31 = .ok (.if_icmp .eq 6, 3) := by decide +kernel
theorem d_L_takeObjects_34 : decode b_L_takeObjects 34 = .ok (.iload 5, 2) := by decide +kernel
theorem d_L_takeObjects_36 : decode b_L_takeObjects 36 = .ok (.ireturn, 1) := by decide +kernel
theorem d_L_takeObjects_37 : decode b_L_takeObjects 37 = .ok (.aload_n 0, 1) := by decide +kernel
theorem d_L_takeObjects_38 : decode b_L_takeObjects 38 = .ok (.iload_n 3, 1) := by decide +kernel
theorem d_L_takeObjects_39 : decode b_L_takeObjects 39 = .ok (.iconst 4, 1) := by decide +kernel
theorem d_L_takeObjects_40 : decode b_L_takeObjects 40 = .ok (.iadd, 1) := by decide +kernel
theorem d_L_takeObjects_41 : decode b_L_takeObjects 41 = .ok (.invokevirtual 13, 3) := by decide +kernel
theorem d_L_takeObjects_44 : decode b_L_takeObjects 44 = .ok (.istore 6, 2) := by decide +kernel
theorem d_L_takeObjects_46 : decode b_L_takeObjects 46 = .ok (.aload_n 0, 1) := by decide +kernel
theorem d_L_takeObjects_47 : decode b_L_takeObjects 47 = .ok (.iload_n 3, 1) := by decide +kernel
theorem d_L_takeObjects_48 : decode b_L_takeObjects 48 = .ok (.iconst 5, 1) := by decide +kernel
theorem d_L_takeObjects_49 : decode b_L_takeObjects 49 = .ok (.iadd, 1) := by decide +kernel
theorem d_L_takeObjects_50 : decode b_L_takeObjects 50 = .ok (.invokevirtual 30, 3) := by decide +kernel
theorem d_L_takeObjects_53 : decode b_L_takeObjects 53 = .ok (.istore 7, 2) := by decide +kernel
theorem d_L_takeObjects_55 : decode b_L_takeObjects 55 = .ok (.aload_n 1, 1) := by decide +kernel
theorem d_L_takeObjects_56 : decode b_L_takeObjects 56 = .ok (.aload_n 0, 1) := by decide +kernel
theorem d_L_takeObjects_57 : decode b_L_takeObjects 57 = .ok (.iload_n 3, 1) := by decide +kernel
theorem d_L_takeObjects_58 : decode b_L_takeObjects 58 = .ok (.invokevirtual 53, 3) := by decide +kernel
theorem d_L_takeObjects_61 : decode b_L_takeObjects 61 = .ok (.iload 6, 2) := by decide +kernel
theorem d_L_takeObjects_63 : decode b_L_takeObjects 63 = .ok (.iload 7, 2) := by decide +kernel
theorem d_L_takeObjects_65 : decode b_L_takeObjects 65 = .ok (.invokevirtual 60, 3) := by decide +kernel
theorem d_L_takeObjects_68 : decode b_L_takeObjects 68 = .ok (.iinc 3 7, 3) := by decide +kernel
theorem d_L_takeObjects_71 : decode b_L_takeObjects 71 = .ok (.iload 6, 2) := by decide +kernel
theorem d_L_takeObjects_73 : decode b_L_takeObjects 73 = .ok (.iconst 1, 1) := by decide +kernel
theorem d_L_takeObjects_74 : decode b_L_takeObjects 74 = .ok (.if_icmp .ne 14, 3) := by decide +kernel
theorem d_L_takeObjects_77 : decode b_L_takeObjects 77 = .ok (.aload_n 0, 1) := by decide +kernel
theorem d_L_takeObjects_78 : decode b_L_takeObjects 78 = .ok (.iload_n 3, 1) := by decide +kernel
theorem d_L_takeObjects_79 : decode b_L_takeObjects 79 = .ok (.iload 7, 2) := by decide +kernel
theorem d_L_takeObjects_81 : decode b_L_takeObjects 81 = .ok (.aload_n 1, 1) := by decide +kernel
theorem d_L_takeObjects_82 : decode b_L_takeObjects 82 = .ok (.invokestatic 64, 3) := by decide +kernel
theorem d_L_takeObjects_85 : decode b_L_takeObjects 85 = .ok (.goto 12, 3) := by decide +kernel
theorem d_L_takeObjects_88 : decode b_L_takeObjects 88 = .ok (.aload_n 0, 1) := by decide +kernel
theorem d_L_takeObjects_89 : decode b_L_takeObjects 89 = .ok (.iload_n 3, 1) := by decide +kernel
theorem d_L_takeObjects_90 : decode b_L_takeObjects 90 = .ok (.iload 7, 2) := by decide +kernel
theorem d_L_takeObjects_92 : decode b_L_takeObjects 92 = .ok (.iload_n 2, 1) := by decide +kernel
theorem d_L_takeObjects_93 : decode b_L_takeObjects 93 = .ok (.aload_n 1, 1) := by decide +kernel
theorem d_L_takeObjects_94 : decode b_L_takeObjects 94 = .ok (.invokestatic 68, 3) := by decide +kernel
theorem d_L_takeObjects_97 : decode b_L_takeObjects 97 = .ok (.istore 5, 2) := by decide +kernel
theorem d_L_takeObjects_99 : decode b_L_takeObjects 99 = .ok (.iload 5, 2) := by decide +kernel
theorem d_L_takeObjects_101 : decode b_L_takeObjects 101 = .ok (.iconst (-1), 1) := by decide +kernel
theorem d_L_takeObjects_102 : decode b_L_takeObjects 102 = .ok (.if_icmp .eq 6, 3) := by decide +kernel
theorem d_L_takeObjects_105 : decode b_L_takeObjects 105 = .ok (.iload 5, 2) := by decide +kernel
theorem d_L_takeObjects_107 : decode b_L_takeObjects 107 = .ok (.ireturn, 1) := by decide +kernel
theorem d_L_takeObjects_108 : decode b_L_takeObjects 108 = .ok (.iload_n 3, 1) := by decide +kernel
theorem d_L_takeObjects_109 : decode b_L_takeObjects 109 = .ok (.iload 6, 2) := by decide +kernel
theorem d_L_takeObjects_111 : decode b_L_takeObjects 111 = .ok (.iload 7, 2) := by decide +kernel
theorem d_L_takeObjects_113 : decode b_L_takeObjects 113 = .ok (.invokestatic 72, 3) := by decide +kernel
theorem d_L_takeObjects_116 : decode b_L_takeObjects 116 = .ok (.iadd, 1) := by decide +kernel
theorem d_L_takeObjects_117 : decode b_L_takeObjects 117 = .ok (.istore_n 3, 1) := by decide +kernel
theorem d_L_takeObjects_118 : decode b_L_takeObjects 118 = .ok (.iinc 4 1, 3) := by decide +kernel
theorem d_L_takeObjects_121 : decode b_L_takeObjects 121 = .ok (.goto (-107), 3) := by decide +kernel
theorem d_L_takeObjects_124 : decode b_L_takeObjects 124 = .ok (.aload_n 0, 1) := by decide +kernel
theorem d_L_takeObjects_125 : decode b_L_takeObjects 125 = .ok (.getfield 26, 3) := by decide +kernel
theorem d_L_takeObjects_128 : decode b_L_takeObjects 128 = .ok (.iload_n 3, 1) := by decide +kernel
theorem d_L_takeObjects_129 : decode b_L_takeObjects 129 = .ok (.if_icmp .le 7, 3) := by decide +kernel
theorem d_L_takeObjects_132 : decode b_L_takeObjects 132 = .ok (.iload_n 3, 1) := by decide +kernel
theorem d_L_takeObjects_133 : decode b_L_takeObjects 133 = .ok (.goto 4, 3) := by decide +kernel
theorem d_L_takeObjects_136 : decode b_L_takeObjects 136 = .ok (.iconst (-1), 1) := by decide +kernel
theorem d_L_takeObjects_137 : decode b_L_takeObjects 137 = .ok (.ireturn, 1) := by decide +kernel
theorem d_L_takeSpecials_0 : decode b_L_takeSpecials 0 = .ok (.aload_n 1, 1) := by decide +kernel
theorem d_L_takeSpecials_1 : decode b_L_takeSpecials 1 = .ok (.invokevirtual 33, 3) := by decide +kernel
theorem d_L_takeSpecials_4 : decode b_L_takeSpecials 4 = .ok (.aload_n 1, 1) := by decide +kernel
theorem d_L_takeSpecials_5 : decode b_L_takeSpecials 5 = .ok (.aload_n 0, 1) := by decide +kernel
theorem d_L_takeSpecials_6 : decode b_L_takeSpecials 6 = .ok (.iconst 4, 1) := by decide +kernel
theorem d_L_takeSpecials_7 : decode b_L_takeSpecials 7 = .ok (.invokevirtual 13, 3) := by decide +kernel
theorem d_L_takeSpecials_10 : decode b_L_takeSpecials 10 = .ok (.putfield 38, 3) := by decide +kernel
theorem d_L_takeSpecials_13 : decode b_L_takeSpecials 13 = .ok (.aload_n 1, 1) := by decide +kernel
theorem d_L_takeSpecials_14 : decode b_L_takeSpecials 14 = .ok (.aload_n 0, 1) := by decide +kernel
theorem d_L_takeSpecials_15 : decode b_L_takeSpecials 15 = .ok (.iconst 5, 1) := by decide +kernel
theorem d_L_takeSpecials_16 : decode b_L_takeSpecials 16 = .ok (.invokevirtual 13, 3) := by decide +kernel
theorem d_L_takeSpecials_19 : decode b_L_takeSpecials 19 = .ok (.putfield 41, 3) := by decide +kernel
theorem d_L_takeSpecials_22 : decode b_L_takeSpecials 22 = .ok (.aload_n 0, 1) := by decide +kernel
theorem d_L_takeSpecials_23 : decode b_L_takeSpecials 23 = .ok (.bipush 6, 2) := by decide +kernel
theorem d_L_takeSpecials_25 : decode b_L_takeSpecials 25 = .ok (.invokevirtual 30, 3) := by decide +kernel
theorem d_L_takeSpecials_28 : decode b_L_takeSpecials 28 = .ok (.istore_n 2, 1) := by decide +kernel
theorem d_L_takeSpecials_29 : decode b_L_takeSpecials 29 = .ok (.iconst 0, 1) := by decide +kernel
theorem d_L_takeSpecials_30 : decode b_L_takeSpecials 30 = .ok (.istore_n 3, 1) := by decide +kernel
theorem d_L_takeSpecials_31 : decode b_L_takeSpecials 31 = .ok (.iload_n 3, 1) := by decide +kernel
theorem d_L_takeSpecials_32 : decode b_L_takeSpecials 32 = .ok (.bipush 50, 2) := by decide +kernel
theorem d_L_takeSpecials_34 : decode b_L_takeSpecials 34 = .ok (.if_icmp .ge 42, 3) := by decide +kernel
theorem d_L_takeSpecials_37 : decode b_L_takeSpecials 37 = .ok (.bipush 8, 2) := by decide +kernel
theorem d_L_takeSpecials_39 : decode b_L_takeSpecials 39 = .ok (.iconst 4, 1) := by decide +kernel
theorem d_L_takeSpecials_40 : decode b_L_takeSpecials 40 = .ok (.iload_n 3, 1) := by decide +kernel
theorem d_L_takeSpecials_41 : decode b_L_takeSpecials 41 = .ok (.imul, 1) := by decide +kernel
theorem d_L_takeSpecials_42 : decode b_L_takeSpecials 42 = .ok (.iadd, 1) := by decide +kernel
theorem d_L_takeSpecials_43 : decode b_L_takeSpecials 43 = .ok (.istore 4, 2) := by decide +kernel
theorem d_L_takeSpecials_45 : decode b_L_takeSpecials 45 = .ok (.aload_n 0, 1) := by decide +kernel
theorem d_L_takeSpecials_46 : decode b_L_takeSpecials 46 = .ok (.iload 4, 2) := by decide +kernel
theorem d_L_takeSpecials_48 : decode b_L_takeSpecials 48 = .ok (.iload_n 2, 1) := by decide +kernel
theorem d_L_takeSpecials_49 : decode b_L_takeSpecials 49 = .ok (.invokestatic 44, 3) := by decide +kernel
theorem d_L_takeSpecials_52 : decode b_L_takeSpecials 52 = .ok (.ifCond .ne 6, 3) := by decide +kernel
theorem d_L_takeSpecials_55 : decode b_L_takeSpecials 55 = .ok (.iload 4, 2) := by decide +kernel
theorem d_L_takeSpecials_57 : decode b_L_takeSpecials 57 = .ok (.ireturn, 1) := by decide +kernel
theorem d_L_takeSpecials_58 : decode b_L_takeSpecials 58 = .ok (.aload_n 1, 1) := by decide +kernel
theorem d_L_takeSpecials_59 : decode b_L_takeSpecials 59 = .ok (.getfield 50, 3) := by decide +kernel
theorem d_L_takeSpecials_62 : decode b_L_takeSpecials 62 = .ok (.iload_n 3, 1) := by decide +kernel
theorem d_L_takeSpecials_63 : decode b_L_takeSpecials 63 = .ok (.aload_n 0, 1) := by decide +kernel
theorem d_L_takeSpecials_64 : decode b_L_takeSpecials 64 = .ok (.iload 4, 2) := by decide +kernel
theorem d_L_takeSpecials_66 : decode b_L_takeSpecials 66 = .ok (.invokevirtual 53, 3) := by decide +kernel
theorem d_L_takeSpecials_69 : decode b_L_takeSpecials 69 = .ok (.iastore, 1) := by decide +kernel
theorem d_L_takeSpecials_70 : decode b_L_takeSpecials 70 = .ok (.iinc 3 1, 3) := by decide +kernel
theorem d_L_takeSpecials_73 : decode b_L_takeSpecials 73 = .ok (.goto (-42), 3) := by decide +kernel
theorem d_L_takeSpecials_76 : decode b_L_takeSpecials 76 = .ok (.iconst (-1), 1) := by decide +kernel
theorem d_L_takeSpecials_77 : decode b_L_takeSpecials 77 = .ok (.ireturn, 1) := by decide +kernel
theorem d_Mt_max_0 : decode b_Mt_max 0 = .ok (.iload_n 0, 1) := by decide +kernel
theorem d_Mt_max_1 : decode b_Mt_max 1 = .ok (.iload_n 1, 1) := by decide +kernel
theorem d_Mt_max_2 : decode b_Mt_max 2 = .ok (.if_icmp .lt 7, 3) := by decide +kernel
theorem d_Mt_max_5 : decode b_Mt_max 5 = .ok (.iload_n 0, 1) := by decide +kernel
theorem d_Mt_max_6 : decode b_Mt_max 6 = .ok (.goto 4, 3) := by decide +kernel
theorem d_Mt_max_9 : decode b_Mt_max 9 = .ok (.iload_n 1, 1) := by decide +kernel
theorem d_Mt_max_10 : decode b_Mt_max 10 = .ok (.ireturn, 1) := by decide +kernel
theorem d_Mt_min_0 : decode b_Mt_min 0 = .ok (.iload_n 0, 1) := by decide +kernel
theorem d_Mt_min_1 : decode b_Mt_min 1 = .ok (.iload_n 1, 1) := by decide +kernel
theorem d_Mt_min_2 : decode b_Mt_min 2 = .ok (.if_icmp .gt 7, 3) := by decide +kernel
theorem d_Mt_min_5 : decode b_Mt_min 5 = .ok (.iload_n 0, 1) := by decide +kernel
theorem d_Mt_min_6 : decode b_Mt_min 6 = .ok (.goto 4, 3) := by decide +kernel
theorem d_Mt_min_9 : decode b_Mt_min 9 = .ok (.iload_n 1, 1) := by decide +kernel
theorem d_Mt_min_10 : decode b_Mt_min 10 = .ok (.ireturn, 1) := by decide +kernel
theorem d_P_clear_0 : decode b_P_clear 0 = .ok (.aload_n 0, 1) := by decide +kernel
theorem d_P_clear_1 : decode b_P_clear 1 = .ok (.iconst 0, 1) := by decide +kernel
theorem d_P_clear_2 : decode b_P_clear 2 = .ok (.putfield 41, 3) := by decide +kernel
theorem d_P_clear_5 : decode b_P_clear 5 = .ok (.aload_n 1, 1) := by decide +kernel
theorem d_P_clear_6 : decode b_P_clear 6 = .ok (.getfield 50, 3) := by decide +kernel
theorem d_P_clear_9 : decode b_P_clear 9 = .ok (.arraylength, 1) := by decide +kernel
theorem d_P_clear_10 : decode b_P_clear 10 = .ok (.aload_n 2, 1) := by decide +kernel
theorem d_P_clear_11 : decode b_P_clear 11 = .ok (.getfield 50, 3) := by decide +kernel
theorem d_P_clear_14 : decode b_P_clear 14 = .ok (.arraylength, 1) := by decide +kernel
theorem d_P_clear_15 : decode b_P_clear 15 = .ok (.invokestatic 53, 3) := by decide +kernel
theorem d_P_clear_18 : decode b_P_clear 18 = .ok (.istore_n 3, 1) := by decide +kernel
theorem d_P_clear_19 : decode b_P_clear 19 = .ok (.aload_n 0, 1) := by decide +kernel
theorem d_P_clear_20 : decode b_P_clear 20 = .ok (.getfield 9, 3) := by decide +kernel
theorem d_P_clear_23 : decode b_P_clear 23 = .ok (.arraylength, 1) := by decide +kernel
theorem d_P_clear_24 : decode b_P_clear 24 = .ok (.iload_n 3, 1) := by decide +kernel
theorem d_P_clear_25 : decode b_P_clear 25 = .ok (.if_icmp .ge 24, 3) := by decide +kernel
theorem d_P_clear_28 : decode b_P_clear 28 = .ok (.aload_n 0, 1) := by decide +kernel
theorem d_P_clear_29 : decode b_P_clear 29 = .ok (.iload_n 3, 1) := by decide +kernel
theorem d_P_clear_30 : decode b_P_clear 30 = .ok (.newarray .int, 2) := by decide +kernel
theorem d_P_clear_32 : decode b_P_clear 32 = .ok (.putfield 9, 3) := by decide +kernel
theorem d_P_clear_35 : decode b_P_clear 35 = .ok (.aload_n 0, 1) := by decide +kernel
theorem d_P_clear_36 : decode b_P_clear 36 = .ok (.iload_n 3, 1) := by decide +kernel
theorem d_P_clear_37 : decode b_P_clear 37 = .ok (.newarray .int, 2) := by decide +kernel
theorem d_P_clear_39 : decode b_P_clear 39 = .ok (.putfield 15, 3) := by decide +kernel
theorem d_P_clear_42 : decode b_P_clear 42 = .ok (.aload_n 0, 1) := by decide +kernel
theorem d_P_clear_43 : decode b_P_clear 43 = .ok (.iload_n 3, 1) := by decide +kernel
theorem d_P_clear_44 : decode b_P_clear 44 = .ok (.newarray .int, 2) := by decide +kernel
theorem d_P_clear_46 : decode b_P_clear 46 = .ok (.putfield 18, 3) := by decide +kernel
theorem d_P_clear_49 : decode b_P_clear 49 = .ok (.aload_n 0, 1) := by decide +kernel
theorem d_P_clear_50 : decode b_P_clear 50 = .ok (.getfield 9, 3) := by decide +kernel
theorem d_P_clear_53 : decode b_P_clear 53 = .ok (.iconst 0, 1) := by decide +kernel
theorem d_P_clear_54 : decode b_P_clear 54 = .ok (.invokestatic 59, 3) := by decide +kernel
theorem d_P_clear_57 : decode b_P_clear 57 = .ok (.aload_n 0, 1) := by decide +kernel
theorem d_P_clear_58 : decode b_P_clear 58 = .ok (.getfield 15, 3) := by decide +kernel
theorem d_P_clear_61 : decode b_P_clear 61 = .ok (.iconst 0, 1) := by decide +kernel
theorem d_P_clear_62 : decode b_P_clear 62 = .ok (.invokestatic 59, 3) := by decide +kernel
theorem d_P_clear_65 : decode b_P_clear 65 = .ok (.return_, 1) := by decide +kernel
theorem d_P_init_0 : decode b_P_init 0 = .ok (.aload_n 0, 1) := by decide +kernel
theorem d_P_init_1 : decode b_P_init 1 = .ok (.invokespecial 3, 3) := by decide +kernel
theorem d_P_init_4 : decode b_P_init 4 = .ok (.aload_n 0, 1) := by decide +kernel
theorem d_P_init_5 : decode b_P_init 5 = .ok (.bipush 64, 2) := by decide +kernel
theorem d_P_init_7 : decode b_P_init 7 = .ok (.newarray .int, 2) := by decide +kernel
theorem d_P_init_9 : decode b_P_init 9 = .ok (.putfield 9, 3) := by decide +kernel
theorem d_P_init_12 : decode b_P_init 12 = .ok (.aload_n 0, 1) := by decide +kernel
theorem d_P_init_13 : decode b_P_init 13 = .ok (.bipush 64, 2) := by decide +kernel
theorem d_P_init_15 : decode b_P_init 15 = .ok (.newarray .int, 2) := by decide +kernel
theorem d_P_init_17 : decode b_P_init 17 = .ok (.putfield 15, 3) := by decide +kernel
theorem d_P_init_20 : decode b_P_init 20 = .ok (.aload_n 0, 1) := by decide +kernel
theorem d_P_init_21 : decode b_P_init 21 = .ok (.bipush 64, 2) := by decide +kernel
theorem d_P_init_23 : decode b_P_init 23 = .ok (.newarray .int, 2) := by decide +kernel
theorem d_P_init_25 : decode b_P_init 25 = .ok (.putfield 18, 3) := by decide +kernel
theorem d_P_init_28 : decode b_P_init 28 = .ok (.return_, 1) := by decide +kernel
theorem d_P_match_0 : decode b_P_match 0 = .ok (.aload_n 1, 1) := by decide +kernel
theorem d_P_match_1 : decode b_P_match 1 = .ok (.iload_n 2, 1) := by decide +kernel
theorem d_P_match_2 : decode b_P_match 2 = .ok (.invokevirtual 65, 3) := by decide +kernel
theorem d_P_match_5 : decode b_P_match 5 = .ok (.istore 5, 2) := by decide +kernel
theorem d_P_match_7 : decode b_P_match 7 = .ok (.aload_n 3, 1) := by decide +kernel
theorem d_P_match_8 : decode b_P_match 8 = .ok (.iload 4, 2) := by decide +kernel
theorem d_P_match_10 : decode b_P_match 10 = .ok (.invokevirtual 65, 3) := by decide +kernel
theorem d_P_match_13 : decode b_P_match 13 = .ok (.istore 6, 2) := by decide +kernel
theorem d_P_match_15 : decode b_P_match 15 = .ok (.iload 5, 2) := by decide +kernel
theorem d_P_match_17 : decode b_P_match 17 = .ok (.ifCond .eq 8, 3) := by decide +kernel
theorem d_P_match_20 : decode b_P_match 20 = .ok (.iload 6, 2) := by decide +kernel
theorem d_P_match_22 : decode b_P_match 22 = .ok (.ifCond .ne 22, 3) := by decide +kernel
theorem d_P_match_25 : decode b_P_match 25 = .ok (.iload 5, 2) := by decide +kernel
theorem d_P_match_27 : decode b_P_match 27 = .ok (.iload 6, 2) := by decide +kernel
theorem d_P_match_29 : decode b_P_match 29 = .ok (.if_icmp .ne 13, 3) := by decide +kernel
theorem d_P_match_32 : decode b_P_match 32 = .ok (.iload_n 2, 1) := by decide +kernel
theorem d_P_match_33 : decode b_P_match 33 = .ok (.iload 4, 2) := by decide +kernel
theorem d_P_match_35 : decode b_P_match 35 = .ok (.if_icmp .ne 7, 3) := by decide +kernel
theorem d_P_match_38 : decode b_P_match 38 = .ok (.iconst 1, 1) := by decide +kernel
theorem d_P_match_39 : decode b_P_match 39 = .ok (.goto 4, 3) := by decide +kernel
theorem d_P_match_42 : decode b_P_match 42 = .ok (.iconst 0, 1) := by decide +kernel
theorem d_P_match_43 : decode b_P_match 43 = .ok (.ireturn, 1) := by decide +kernel
theorem d_P_match_44 : decode b_P_match 44 = .ok (.aload_n 0, 1) := by decide +kernel
theorem d_P_match_45 : decode b_P_match 45 = .ok (.getfield 9, 3) := by decide +kernel
theorem d_P_match_48 : decode b_P_match 48 = .ok (.iload 5, 2) := by decide +kernel
theorem d_P_match_50 : decode b_P_match 50 = .ok (.iaload, 1) := by decide +kernel
theorem d_P_match_51 : decode b_P_match 51 = .ok (.ifCond .ne 52, 3) := by decide +kernel
theorem d_P_match_54 : decode b_P_match 54 = .ok (.aload_n 0, 1) := by decide +kernel
theorem d_P_match_55 : decode b_P_match 55 = .ok (.getfield 15, 3) := by decide +kernel
theorem d_P_match_58 : decode b_P_match 58 = .ok (.iload 6, 2) := by decide +kernel
theorem d_P_match_60 : decode b_P_match 60 = .ok (.iaload, 1) := by decide +kernel
theorem d_P_match_61 : decode b_P_match 61 = .ok (.ifCond .ne 42, 3) := by decide +kernel
theorem d_P_match_64 : decode b_P_match 64 = .ok (.aload_n 0, 1) := by decide +kernel
theorem d_P_match_65 : decode b_P_match 65 = .ok (.getfield 9, 3) := by decide +kernel
theorem d_P_match_68 : decode b_P_match 68 = .ok (.iload 5, 2) := by decide +kernel
theorem d_P_match_70 : decode b_P_match 70 = .ok (.iload 6, 2) := by decide +kernel
theorem d_P_match_72 : decode b_P_match 72 = .ok (.iastore, 1) := by decide +kernel
theorem d_P_match_73 : decode b_P_match 73 = .ok (.aload_n 0, 1) := by decide +kernel
theorem d_P_match_74 : decode b_P_match 74 = .ok (.getfield 15, 3) := by decide +kernel
theorem d_P_match_77 : decode b_P_match 77 = .ok (.iload 6, 2) := by decide +kernel
theorem d_P_match_79 : decode b_P_match 79 = .ok (.iload 5, 2) := by decide +kernel
theorem d_P_match_81 : decode b_P_match 81 = .ok (.iastore, 1) := by decide +kernel
theorem d_P_match_82 : decode b_P_match 82 = .ok (.aload_n 0, 1) := by decide +kernel
theorem d_P_match_83 : decode b_P_match 83 = .ok (.getfield 18, 3) := by decide +kernel
theorem d_P_match_86 : decode b_P_match 86 = .ok (.aload_n 0, 1) := by decide +kernel
theorem d_P_match_87 : decode b_P_match 87 = .ok (.getfield 41, 3) := by decide +kernel
theorem d_P_match_90 : decode b_P_match 90 = .ok (.iload 5, 2) := by decide +kernel
theorem d_P_match_92 : decode b_P_match 92 = .ok (.iastore, 1) := by decide +kernel
theorem d_P_match_93 : decode b_P_match 93 = .ok (.aload_n 0, 1) := by decide +kernel
theorem d_P_match_94 : decode b_P_match 94 = .ok (.dup, 1) := by decide +kernel
theorem d_P_match_95 : decode b_P_match 95 = .ok (.getfield 41, 3) := by decide +kernel
theorem d_P_match_98 : decode b_P_match 98 = .ok (.iconst 1, 1) := by decide +kernel
theorem d_P_match_99 : decode b_P_match 99 = .ok (.iadd, 1) := by decide +kernel
theorem d_P_match_100 : decode b_P_match 100 = .ok (.putfield 41, 3) := by decide +kernel
theorem d_P_match_103 : decode b_P_match 103 = .ok (.aload_n 0, 1) := by decide +kernel
theorem d_P_match_104 : decode b_P_match 104 = .ok (.getfield 9, 3) := by decide +kernel
theorem d_P_match_107 : decode b_P_match 107 = .ok (.iload 5, 2) := by decide +kernel
theorem d_P_match_109 : decode b_P_match 109 = .ok (.iaload, 1) := by decide +kernel
theorem d_P_match_110 : decode b_P_match 110 = .ok (.iload 6, 2) := by decide +kernel
theorem d_P_match_112 : decode b_P_match 112 = .ok (.if_icmp .ne 7, 3) := by decide +kernel
theorem d_P_match_115 : decode b_P_match 115 = .ok (.iconst 1, 1) := by decide +kernel
theorem d_P_match_116 : decode b_P_match 116 = .ok (.goto 4, 3) := by decide +kernel
theorem d_P_match_119 : decode b_P_match 119 = .ok (.iconst 0, 1) := by decide +kernel
theorem d_P_match_120 : decode b_P_match 120 = .ok (.ireturn, 1) := by decide +kernel
theorem d_P_matchBodies_0 : decode b_P_matchBodies 0 = .ok (.aload_n 1, 1) := by decide +kernel
theorem d_P_matchBodies_1 : decode b_P_matchBodies 1 = .ok (.getfield 69, 3) := by decide +kernel
theorem d_P_matchBodies_4 : decode b_P_matchBodies 4 = .ok (.iload_n 2, 1) := by decide +kernel
theorem d_P_matchBodies_5 : decode b_P_matchBodies 5 = .ok (.iaload, 1) := by decide +kernel
theorem d_P_matchBodies_6 : decode b_P_matchBodies 6 = .ok (.aload_n 3, 1) := by decide +kernel
theorem d_P_matchBodies_7 : decode b_P_matchBodies 7 = .ok (.getfield 69, 3) := by decide +kernel
theorem d_P_matchBodies_10 : decode b_P_matchBodies 10 = .ok (.iload 4, 2) := by decide +kernel
theorem d_P_matchBodies_12 : decode b_P_matchBodies 12 = .ok (.iaload, 1) := by decide +kernel
theorem d_P_matchBodies_13 : decode b_P_matchBodies 13 = .ok (.if_icmp .ne 41, 3) := by decide +kernel
theorem d_P_matchBodies_16 : decode b_P_matchBodies 16 = .ok (.aload_n 1, 1) := by decide +kernel
theorem d_P_matchBodies_17 : decode b_P_matchBodies 17 = .ok (.getfield 72, 3) := by decide +kernel
theorem d_P_matchBodies_20 : decode b_P_matchBodies 20 = .ok (.iload_n 2, 1) := by decide +kernel
theorem d_P_matchBodies_21 : decode b_P_matchBodies 21 = .ok (.iaload, 1) := by decide +kernel
theorem d_P_matchBodies_22 : decode b_P_matchBodies 22 = .ok (.aload_n 3, 1) := by decide +kernel
theorem d_P_matchBodies_23 : decode b_P_matchBodies 23 = .ok (.getfield 72, 3) := by decide +kernel
theorem d_P_matchBodies_26 : decode b_P_matchBodies 26 = .ok (.iload 4, 2) := by decide +kernel
theorem d_P_matchBodies_28 : decode b_P_matchBodies 28 = .ok (.iaload, 1) := by decide +kernel
theorem d_P_matchBodies_29 : decode b_P_matchBodies 29 = .ok (.if_icmp .ne 25, 3) := by decide +kernel
theorem d_P_matchBodies_32 : decode b_P_matchBodies 32 = .ok (.aload_n 0, 1) := by decide +kernel
theorem d_P_matchBodies_33 : decode b_P_matchBodies 33 = .ok (.aload_n 1, 1) := by decide +kernel
theorem d_P_matchBodies_34 : decode b_P_matchBodies 34 = .ok (.aload_n 1, 1) := by decide +kernel
theorem d_P_matchBodies_35 : decode b_P_matchBodies 35 = .ok (.getfield 50, 3) := by decide +kernel
theorem d_P_matchBodies_38 : decode b_P_matchBodies 38 = .ok (.iload_n 2, 1) := by decide +kernel
theorem d_P_matchBodies_39 : decode b_P_matchBodies 39 = .ok (.iaload, 1) := by decide +kernel
theorem d_P_matchBodies_40 : decode b_P_matchBodies 40 = .ok (.aload_n 3, 1) := by decide +kernel
theorem d_P_matchBodies_41 : decode b_P_matchBodies 41 = .ok (.aload_n 3, 1) := by decide +kernel
theorem d_P_matchBodies_42 : decode b_P_matchBodies 42 = .ok (.getfield 50, 3) := by decide +kernel
theorem d_P_matchBodies_45 : decode b_P_matchBodies 45 = .ok (.iload 4, 2) := by decide +kernel
theorem d_P_matchBodies_47 : decode b_P_matchBodies 47 = .ok (.iaload, 1) := by decide +kernel
theorem d_P_matchBodies_48 : decode b_P_matchBodies 48 = .ok (.invokevirtual 37, 3) := by decide +kernel
theorem d_P_matchBodies_51 : decode b_P_matchBodies 51 = .ok (.ifCond .ne 5, 3) := by decide +kernel
theorem d_P_matchBodies_54 : decode b_P_matchBodies 54 = .ok (.iconst 0, 1) := by decide +kernel
theorem d_P_matchBodies_55 : decode b_P_matchBodies 55 = .ok (.ireturn, 1) := by decide +kernel
theorem d_P_matchBodies_56 : decode b_P_matchBodies 56 = .ok (.aload_n 1, 1) := by decide +kernel
theorem d_P_matchBodies_57 : decode b_P_matchBodies 57 = .ok (.getfield 69, 3) := by decide +kernel
theorem d_P_matchBodies_60 : decode b_P_matchBodies 60 = .ok (.iload_n 2, 1) := by decide +kernel
theorem d_P_matchBodies_61 : decode b_P_matchBodies 61 = .ok (.iaload, 1) := by decide +kernel
theorem d_P_matchBodies_62 : decode b_P_matchBodies 62 = .ok (.iconst 1, 1) := by decide +kernel
theorem d_P_matchBodies_63 : decode b_P_matchBodies 63 = .ok (.if_icmp .ne 7, 3) := by decide +kernel
theorem d_P_matchBodies_66 : decode b_P_matchBodies 66 = .ok (.iconst 1, 1) := by decide +kernel
theorem d_P_matchBodies_67 : decode b_P_matchBodies 67 = .ok (.goto 4, 3) := by decide +kernel
theorem d_P_matchBodies_70 : decode b_P_matchBodies 70 = .ok (.iconst 0, 1) := by decide +kernel
theorem d_P_matchBodies_71 : decode b_P_matchBodies 71 = .ok (.istore 5, 2) := by decide +kernel
theorem d_P_matchBodies_73 : decode b_P_matchBodies 73 = .ok (.iconst 0, 1) := by decide +kernel
theorem d_P_matchBodies_74 : decode b_P_matchBodies 74 = .ok (.istore 6, 2) := by decide +kernel
theorem d_P_matchBodies_76 : decode b_P_matchBodies 76 = .ok (.iload 6, 2) := by decide +kernel
theorem d_P_matchBodies_78 : decode b_P_matchBodies 78 = .ok (.aload_n 1, 1) := by decide +kernel
theorem d_P_matchBodies_79 : decode b_P_matchBodies 79 = .ok (.getfield 72, 3) := by decide +kernel
theorem d_P_matchBodies_82 : decode b_P_matchBodies 82 = .ok (.iload_n 2, 1) := by decide +kernel
theorem d_P_matchBodies_83 : decode b_P_matchBodies 83 = .ok (.iaload, 1) := by decide +kernel
theorem d_P_matchBodies_84 : decode b_P_matchBodies 84 = .ok (.if_icmp .ge 72, 3) := by decide +kernel
theorem d_P_matchBodies_87 : decode b_P_matchBodies 87 = .ok (.aload_n 1, 1) := by decide +kernel
theorem d_P_matchBodies_88 : decode b_P_matchBodies 88 = .ok (.getfield 75, 3) := by decide +kernel
theorem d_P_matchBodies_91 : decode b_P_matchBodies 91 = .ok (.aload_n 1, 1) := by decide +kernel
theorem d_P_matchBodies_92 : decode b_P_matchBodies 92 = .ok (.getfield 78, 3) := by decide +kernel
theorem d_P_matchBodies_95 : decode b_P_matchBodies 95 = .ok (.iload_n 2, 1) := by decide +kernel
theorem d_P_matchBodies_96 : decode b_P_matchBodies 96 = .ok (.iaload, 1) := by decide +kernel
theorem d_P_matchBodies_97 : decode b_P_matchBodies 97 = .ok (.iload 6, 2) := by decide +kernel
theorem d_P_matchBodies_99 : decode b_P_matchBodies 99 = .ok (.iadd, 1) := by decide +kernel
theorem d_P_matchBodies_100 : decode b_P_matchBodies 100 = .ok (.iaload, 1) := by decide +kernel
theorem d_P_matchBodies_101 : decode b_P_matchBodies 101 = .ok (.istore 7, 2) := by decide +kernel
theorem d_P_matchBodies_103 : decode b_P_matchBodies 103 = .ok (.aload_n 3, 1) := by decide +kernel
theorem d_P_matchBodies_104 : decode b_P_matchBodies 104 = .ok (.getfield 75, 3) := by decide +kernel
theorem d_P_matchBodies_107 : decode b_P_matchBodies 107 = .ok (.aload_n 3, 1) := by decide +kernel
theorem d_P_matchBodies_108 : decode b_P_matchBodies 108 = .ok (.getfield 78, 3) := by decide +kernel
theorem d_P_matchBodies_111 : decode b_P_matchBodies 111 = .ok (.iload 4, 2) := by decide +kernel
theorem d_P_matchBodies_113 : decode b_P_matchBodies 113 = .ok (.iaload, 1) := by decide +kernel
theorem d_P_matchBodies_114 : decode b_P_matchBodies 114 = .ok (.iload 6, 2) := by decide +kernel
theorem d_P_matchBodies_116 : decode b_P_matchBodies 116 = .ok (.iadd, 1) := by decide +kernel
theorem d_P_matchBodies_117 : decode b_P_matchBodies 117 = .ok (.iaload, 1) := by decide +kernel
theorem d_P_matchBodies_118 : decode b_P_matchBodies 118 = .ok (.istore 8, 2) := by decide +kernel
theorem d_P_matchBodies_120 : decode b_P_matchBodies 120 = .ok (.iload 5, 2) := by decide +kernel
theorem d_P_matchBodies_122 : decode b_P_matchBodies 122 = .ok (.ifCond .eq 13, 3) := by decide +kernel
theorem d_P_matchBodies_125 : decode b_P_matchBodies 125 = .ok (.iload 7, 2) := by decide +kernel
theorem d_P_matchBodies_127 : decode b_P_matchBodies 127 = .ok (.iload 8, 2) := by decide +kernel
theorem d_P_matchBodies_129 : decode b_P_matchBodies 129 = .ok (.if_icmp .eq 21, 3) := by decide +kernel
theorem d_P_matchBodies_132 : decode b_P_matchBodies 132 = .ok (.goto 16, 3) := by decide +kernel
theorem d_P_matchBodies_135 : decode b_P_matchBodies 135 = .ok (.aload_n 0, 1) := by decide +kernel
theorem d_P_matchBodies_136 : decode b_P_matchBodies 136 = .ok (.aload_n 1, 1) := by decide +kernel
theorem d_P_matchBodies_137 : decode b_P_matchBodies 137 = .ok (.iload 7, 2) := by decide +kernel
theorem d_P_matchBodies_139 : decode b_P_matchBodies 139 = .ok (.aload_n 3, 1) := by decide +kernel
theorem d_P_matchBodies_140 : decode b_P_matchBodies 140 = .ok (.iload 8, 2) := by decide +kernel
theorem d_P_matchBodies_142 : decode b_P_matchBodies 142 = .ok (.invokevirtual 37, 3) := by decide +kernel
theorem d_P_matchBodies_145 : decode b_P_matchBodies 145 = .ok (.ifCond .ne 5, 3) := by decide +kernel
theorem d_P_matchBodies_148 : decode b_P_matchBodies 148 = .ok (.iconst 0, 1) := by decide +kernel
theorem d_P_matchBodies_149 : decode b_P_matchBodies 149 = .ok (.ireturn, 1) := by decide +kernel
theorem d_P_matchBodies_150 : decode b_P_matchBodies 150 = .ok (.iinc 6 1, 3) := by decide +kernel
theorem d_P_matchBodies_153 : decode b_P_matchBodies 153 = .ok (.goto (-77), 3) := by decide +kernel
theorem d_P_matchBodies_156 : decode b_P_matchBodies 156 = .ok (.iconst 1, 1) := by decide +kernel
theorem d_P_matchBodies_157 : decode b_P_matchBodies 157 = .ok (.ireturn, 1) := by decide +kernel
end
section
theorem d_P_pairs_0 : decode b_P_pairs 0 = .ok (.aload_n 0, 1) := by decide +kernel
theorem d_P_pairs_1 : decode b_P_pairs 1 = .ok (.aload_n 1, 1) := by decide +kernel
theorem d_P_pairs_2 : decode b_P_pairs 2 = .ok (.aload_n 2, 1) := by decide +kernel
theorem d_P_pairs_3 : decode b_P_pairs 3 = .ok (.invokevirtual 21, 3) := by decide +kernel
theorem d_P_pairs_6 : decode b_P_pairs 6 = .ok (.aload_n 1, 1) := by decide +kernel
theorem d_P_pairs_7 : decode b_P_pairs 7 = .ok (.getfield 25, 3) := by decide +kernel
theorem d_P_pairs_10 : decode b_P_pairs 10 = .ok (.aload_n 2, 1) := by decide +kernel
theorem d_P_pairs_11 : decode b_P_pairs 11 = .ok (.getfield 25, 3) := by decide +kernel
theorem d_P_pairs_14 : decode b_P_pairs 14 = .ok (.if_icmp .ne 14, 3) := by decide +kernel
theorem d_P_pairs_17 : decode b_P_pairs 17 = .ok (.aload_n 1, 1) := by decide +kernel
theorem d_P_pairs_18 : decode b_P_pairs 18 = .ok (.getfield 31, 3) := by decide +kernel
theorem d_P_pairs_21 : decode b_P_pairs 21 = .ok (.aload_n 2, 1) := by decide +kernel
theorem d_P_pairs_22 : decode b_P_pairs 22 = .ok (.getfield 31, 3) := by decide +kernel
theorem d_P_pairs_25 : decode b_P_pairs 25 = .ok (.if_icmp .eq 5, 3) := by decide +kernel
theorem d_P_pairs_28 : decode b_P_pairs 28 = .ok (.iconst 0, 1) := by decide +kernel
theorem d_P_pairs_29 : decode b_P_pairs 29 = .ok (.ireturn, 1) := by decide +kernel
theorem d_P_pairs_30 : decode b_P_pairs 30 = .ok (.iconst 0, 1) := by decide +kernel
theorem d_P_pairs_31 : decode b_P_pairs 31 = .ok (.istore_n 3, 1) := by decide +kernel
theorem d_P_pairs_32 : decode b_P_pairs 32 = .ok (.iload_n 3, 1) := by decide +kernel
theorem d_P_pairs_33 : decode b_P_pairs 33 = .ok (.bipush 50, 2) := by decide +kernel
theorem d_P_pairs_35 : decode b_P_pairs 35 = .ok (.if_icmp .ge 32, 3) := by decide +kernel
theorem d_P_pairs_38 : decode b_P_pairs 38 = .ok (.aload_n 0, 1) := by decide +kernel
theorem d_P_pairs_39 : decode b_P_pairs 39 = .ok (.aload_n 1, 1) := by decide +kernel
theorem d_P_pairs_40 : decode b_P_pairs 40 = .ok (.aload_n 1, 1) := by decide +kernel
theorem d_P_pairs_41 : decode b_P_pairs 41 = .ok (.getfield 34, 3) := by decide +kernel
theorem d_P_pairs_44 : decode b_P_pairs 44 = .ok (.iload_n 3, 1) := by decide +kernel
theorem d_P_pairs_45 : decode b_P_pairs 45 = .ok (.iaload, 1) := by decide +kernel
theorem d_P_pairs_46 : decode b_P_pairs 46 = .ok (.aload_n 2, 1) := by decide +kernel
theorem d_P_pairs_47 : decode b_P_pairs 47 = .ok (.aload_n 2, 1) := by decide +kernel
theorem d_P_pairs_48 : decode b_P_pairs 48 = .ok (.getfield 34, 3) := by decide +kernel
theorem d_P_pairs_51 : decode b_P_pairs 51 = .ok (.iload_n 3, 1) := by decide +kernel
theorem d_P_pairs_52 : decode b_P_pairs 52 = .ok (.iaload, 1) := by decide +kernel
theorem d_P_pairs_53 : decode b_P_pairs 53 = .ok (.invokevirtual 37, 3) := by decide +kernel
theorem d_P_pairs_56 : decode b_P_pairs 56 = .ok (.ifCond .ne 5, 3) := by decide +kernel
theorem d_P_pairs_59 : decode b_P_pairs 59 = .ok (.iconst 0, 1) := by decide +kernel
theorem d_P_pairs_60 : decode b_P_pairs 60 = .ok (.ireturn, 1) := by decide +kernel
theorem d_P_pairs_61 : decode b_P_pairs 61 = .ok (.iinc 3 1, 3) := by decide +kernel
theorem d_P_pairs_64 : decode b_P_pairs 64 = .ok (.goto (-32), 3) := by decide +kernel
theorem d_P_pairs_67 : decode b_P_pairs 67 = .ok (.iconst 0, 1) := by decide +kernel
theorem d_P_pairs_68 : decode b_P_pairs 68 = .ok (.istore_n 3, 1) := by decide +kernel
theorem d_P_pairs_69 : decode b_P_pairs 69 = .ok (.iload_n 3, 1) := by decide +kernel
theorem d_P_pairs_70 : decode b_P_pairs 70 = .ok (.aload_n 0, 1) := by decide +kernel
theorem d_P_pairs_71 : decode b_P_pairs 71 = .ok (.getfield 41, 3) := by decide +kernel
theorem d_P_pairs_74 : decode b_P_pairs 74 = .ok (.if_icmp .ge 45, 3) := by decide +kernel
theorem d_P_pairs_77 : decode b_P_pairs 77 = .ok (.iload_n 3, 1) := by decide +kernel
theorem d_P_pairs_78 : decode b_P_pairs 78 = .ok (.aload_n 1, 1) := by decide +kernel
theorem d_P_pairs_79 : decode b_P_pairs 79 = .ok (.getfield 44, 3) := by decide +kernel
theorem d_P_pairs_82 : decode b_P_pairs 82 = .ok (.if_icmp .ge 37, 3) := by decide +kernel
theorem d_P_pairs_85 : decode b_P_pairs 85 = .ok (.aload_n 0, 1) := by decide +kernel
theorem d_P_pairs_86 : decode b_P_pairs 86 = .ok (.aload_n 1, 1) := by decide +kernel
theorem d_P_pairs_87 : decode b_P_pairs 87 = .ok (.aload_n 0, 1) := by decide +kernel
theorem d_P_pairs_88 : decode b_P_pairs 88 = .ok (.getfield 18, 3) := by decide +kernel
theorem d_P_pairs_91 : decode b_P_pairs 91 = .ok (.iload_n 3, 1) := by decide +kernel
theorem d_P_pairs_92 : decode b_P_pairs 92 = .ok (.iaload, 1) := by decide +kernel
theorem d_P_pairs_93 : decode b_P_pairs 93 = .ok (.aload_n 2, 1) := by decide +kernel
theorem d_P_pairs_94 : decode b_P_pairs 94 = .ok (.aload_n 0, 1) := by decide +kernel
theorem d_P_pairs_95 : decode b_P_pairs 95 = .ok (.getfield 9, 3) := by decide +kernel
theorem d_P_pairs_98 : decode b_P_pairs 98 = .ok (.aload_n 0, 1) := by decide +kernel
theorem d_P_pairs_99 : decode b_P_pairs 99 = .ok (.getfield 18, 3) := by decide +kernel
theorem d_P_pairs_102 : decode b_P_pairs 102 = .ok (.iload_n 3, 1) := by decide +kernel
theorem d_P_pairs_103 : decode b_P_pairs 103 = .ok (.iaload, 1) := by decide +kernel
theorem d_P_pairs_104 : decode b_P_pairs 104 = .ok (.iaload, 1) := by decide +kernel
theorem d_P_pairs_105 : decode b_P_pairs 105 = .ok (.invokevirtual 47, 3) := by decide +kernel
theorem d_P_pairs_108 : decode b_P_pairs 108 = .ok (.ifCond .ne 5, 3) := by decide +kernel
theorem d_P_pairs_111 : decode b_P_pairs 111 = .ok (.iconst 0, 1) := by decide +kernel
theorem d_P_pairs_112 : decode b_P_pairs 112 = .ok (.ireturn, 1) := by decide +kernel
theorem d_P_pairs_113 : decode b_P_pairs 113 = .ok (.iinc 3 1, 3) := by decide +kernel
theorem d_P_pairs_116 : decode b_P_pairs 116 = .ok (.goto (-47), 3) := by decide +kernel
theorem d_P_pairs_119 : decode b_P_pairs 119 = .ok (.iconst 1, 1) := by decide +kernel
theorem d_P_pairs_120 : decode b_P_pairs 120 = .ok (.ireturn, 1) := by decide +kernel
theorem d_R_byteAt_0 : decode b_R_byteAt 0 = .ok (.aload_n 0, 1) := by decide +kernel
theorem d_R_byteAt_1 : decode b_R_byteAt 1 = .ok (.getfield 43, 3) := by decide +kernel
theorem d_R_byteAt_4 : decode b_R_byteAt 4 = .ok (.iload_n 1, 1) := by decide +kernel
theorem d_R_byteAt_5 : decode b_R_byteAt 5 = .ok (.iload_n 2, 1) := by decide +kernel
theorem d_R_byteAt_6 : decode b_R_byteAt 6 = .ok (.invokevirtual 117, 3) := by decide +kernel
theorem d_R_byteAt_9 : decode b_R_byteAt 9 = .ok (.ireturn, 1) := by decide +kernel
theorem d_R_came_0 : decode b_R_came 0 = .ok (.aload_n 0, 1) := by decide +kernel
theorem d_R_came_1 : decode b_R_came 1 = .ok (.getfield 10, 3) := by decide +kernel
theorem d_R_came_4 : decode b_R_came 4 = .ok (.iload_n 1, 1) := by decide +kernel
theorem d_R_came_5 : decode b_R_came 5 = .ok (.invokevirtual 70, 3) := by decide +kernel
theorem d_R_came_8 : decode b_R_came 8 = .ok (.ireturn, 1) := by decide +kernel
theorem d_R_change_0 : decode b_R_change 0 = .ok (.aload_n 0, 1) := by decide +kernel
theorem d_R_change_1 : decode b_R_change 1 = .ok (.getfield 10, 3) := by decide +kernel
theorem d_R_change_4 : decode b_R_change 4 = .ok (.iload_n 1, 1) := by decide +kernel
theorem d_R_change_5 : decode b_R_change 5 = .ok (.invokevirtual 70, 3) := by decide +kernel
theorem d_R_change_8 : decode b_R_change 8 = .ok (.istore_n 3, 1) := by decide +kernel
theorem d_R_change_9 : decode b_R_change 9 = .ok (.iload_n 3, 1) := by decide +kernel
theorem d_R_change_10 : decode b_R_change 10 = .ok (.iconst (-1), 1) := by decide +kernel
theorem d_R_change_11 : decode b_R_change 11 = .ok (.if_icmp .eq 14, 3) := by decide +kernel
theorem d_R_change_14 : decode b_R_change 14 = .ok (.iload_n 2, 1) := by decide +kernel
theorem d_R_change_15 : decode b_R_change 15 = .ok (.ifCond .lt 10, 3) := by decide +kernel
theorem d_R_change_18 : decode b_R_change 18 = .ok (.iload_n 2, 1) := by decide +kernel
theorem d_R_change_19 : decode b_R_change 19 = .ok (.sipush 255, 3) := by decide +kernel
theorem d_R_change_22 : decode b_R_change 22 = .ok (.if_icmp .le 5, 3) := by decide +kernel
theorem d_R_change_25 : decode b_R_change 25 = .ok (.iconst (-1), 1) := by decide +kernel
theorem d_R_change_26 : decode b_R_change 26 = .ok (.ireturn, 1) := by decide +kernel
theorem d_R_change_27 : decode b_R_change 27 = .ok (.aload_n 0, 1) := by decide +kernel
theorem d_R_change_28 : decode b_R_change 28 = .ok (.getfield 10, 3) := by decide +kernel
theorem d_R_change_31 : decode b_R_change 31 = .ok (.getfield 74, 3) := by decide +kernel
theorem d_R_change_34 : decode b_R_change 34 = .ok (.iload_n 1, 1) := by decide +kernel
theorem d_R_change_35 : decode b_R_change 35 = .ok (.iload_n 2, 1) := by decide +kernel
theorem d_R_change_36 : decode b_R_change 36 = .ok (.i2b, 1) := by decide +kernel
theorem d_R_change_37 : decode b_R_change 37 = .ok (.bastore, 1) := by decide +kernel
theorem d_R_change_38 : decode b_R_change 38 = .ok (.iload_n 3, 1) := by decide +kernel
theorem d_R_change_39 : decode b_R_change 39 = .ok (.ireturn, 1) := by decide +kernel
theorem d_R_classOf_0 : decode b_R_classOf 0 = .ok (.aload_n 0, 1) := by decide +kernel
theorem d_R_classOf_1 : decode b_R_classOf 1 = .ok (.getfield 43, 3) := by decide +kernel
theorem d_R_classOf_4 : decode b_R_classOf 4 = .ok (.iload_n 1, 1) := by decide +kernel
theorem d_R_classOf_5 : decode b_R_classOf 5 = .ok (.invokevirtual 107, 3) := by decide +kernel
theorem d_R_classOf_8 : decode b_R_classOf 8 = .ok (.ireturn, 1) := by decide +kernel
theorem d_R_end_0 : decode b_R_end 0 = .ok (.iload_n 1, 1) := by decide +kernel
theorem d_R_end_1 : decode b_R_end 1 = .ok (.ifCond .lt 14, 3) := by decide +kernel
theorem d_R_end_4 : decode b_R_end 4 = .ok (.iload_n 1, 1) := by decide +kernel
theorem d_R_end_5 : decode b_R_end 5 = .ok (.aload_n 0, 1) := by decide +kernel
theorem d_R_end_6 : decode b_R_end 6 = .ok (.getfield 10, 3) := by decide +kernel
theorem d_R_end_9 : decode b_R_end 9 = .ok (.getfield 49, 3) := by decide +kernel
theorem d_R_end_12 : decode b_R_end 12 = .ok (.if_icmp .le 13, 3) := by decide +kernel
theorem d_R_end_15 : decode b_R_end 15 = .ok (.new 65, 3) := by decide +kernel
theorem d_R_end_18 : decode b_R_end 18 = .ok (.dup, 1) := by decide +kernel
theorem d_R_end_19 : decode b_R_end 19 = .ok (.ldc 67, 2) := by decide +kernel
theorem d_R_end_21 : decode b_R_end 21 = .ok (.invokespecial 69, 3) := by decide +kernel
theorem d_R_end_24 : decode b_R_end 24 = .ok (.athrow, 1) := by decide +kernel
theorem d_R_end_25 : decode b_R_end 25 = .ok (.aload_n 0, 1) := by decide +kernel
theorem d_R_end_26 : decode b_R_end 26 = .ok (.getfield 10, 3) := by decide +kernel
theorem d_R_end_29 : decode b_R_end 29 = .ok (.getfield 49, 3) := by decide +kernel
theorem d_R_end_32 : decode b_R_end 32 = .ok (.istore_n 2, 1) := by decide +kernel
theorem d_R_end_33 : decode b_R_end 33 = .ok (.aload_n 0, 1) := by decide +kernel
theorem d_R_end_34 : decode b_R_end 34 = .ok (.getfield 10, 3) := by decide +kernel
theorem d_R_end_37 : decode b_R_end 37 = .ok (.iload_n 1, 1) := by decide +kernel
theorem d_R_end_38 : decode b_R_end 38 = .ok (.putfield 49, 3) := by decide +kernel
theorem d_R_end_41 : decode b_R_end 41 = .ok (.iload_n 2, 1) := by decide +kernel
theorem d_R_end_42 : decode b_R_end 42 = .ok (.ireturn, 1) := by decide +kernel
theorem d_R_feed_0 : decode b_R_feed 0 = .ok (.aload_n 0, 1) := by decide +kernel
theorem d_R_feed_1 : decode b_R_feed 1 = .ok (.getfield 10, 3) := by decide +kernel
theorem d_R_feed_4 : decode b_R_feed 4 = .ok (.getfield 49, 3) := by decide +kernel
theorem d_R_feed_7 : decode b_R_feed 7 = .ok (.bipush 20, 2) := by decide +kernel
theorem d_R_feed_9 : decode b_R_feed 9 = .ok (.iadd, 1) := by decide +kernel
theorem d_R_feed_10 : decode b_R_feed 10 = .ok (.ldc 53, 2) := by decide +kernel
theorem d_R_feed_12 : decode b_R_feed 12 = .ok (.if_icmp .le 13, 3) := by decide +kernel
theorem d_R_feed_15 : decode b_R_feed 15 = .ok (.new 54, 3) := by decide +kernel
theorem d_R_feed_18 : decode b_R_feed 18 = .ok (.dup, 1) := by decide +kernel
theorem d_R_feed_19 : decode b_R_feed 19 = .ok (.ldc 56, 2) := by decide +kernel
theorem d_R_feed_21 : decode b_R_feed 21 = .ok (.invokespecial 58, 3) := by decide +kernel
theorem d_R_feed_24 : decode b_R_feed 24 = .ok (.athrow, 1) := by decide +kernel
theorem d_R_feed_25 : decode b_R_feed 25 = .ok (.aload_n 0, 1) := by decide +kernel
theorem d_R_feed_26 : decode b_R_feed 26 = .ok (.getfield 10, 3) := by decide +kernel
theorem d_R_feed_29 : decode b_R_feed 29 = .ok (.iload_n 1, 1) := by decide +kernel
theorem d_R_feed_30 : decode b_R_feed 30 = .ok (.invokevirtual 61, 3) := by decide +kernel
theorem d_R_feed_33 : decode b_R_feed 33 = .ok (.aload_n 0, 1) := by decide +kernel
theorem d_R_feed_34 : decode b_R_feed 34 = .ok (.getfield 10, 3) := by decide +kernel
theorem d_R_feed_37 : decode b_R_feed 37 = .ok (.iload_n 2, 1) := by decide +kernel
theorem d_R_feed_38 : decode b_R_feed 38 = .ok (.invokevirtual 61, 3) := by decide +kernel
theorem d_R_feed_41 : decode b_R_feed 41 = .ok (.aload_n 0, 1) := by decide +kernel
theorem d_R_feed_42 : decode b_R_feed 42 = .ok (.getfield 10, 3) := by decide +kernel
theorem d_R_feed_45 : decode b_R_feed 45 = .ok (.iload_n 3, 1) := by decide +kernel
theorem d_R_feed_46 : decode b_R_feed 46 = .ok (.invokevirtual 61, 3) := by decide +kernel
theorem d_R_feed_49 : decode b_R_feed 49 = .ok (.aload_n 0, 1) := by decide +kernel
theorem d_R_feed_50 : decode b_R_feed 50 = .ok (.getfield 10, 3) := by decide +kernel
theorem d_R_feed_53 : decode b_R_feed 53 = .ok (.iload 4, 2) := by decide +kernel
theorem d_R_feed_55 : decode b_R_feed 55 = .ok (.invokevirtual 61, 3) := by decide +kernel
theorem d_R_feed_58 : decode b_R_feed 58 = .ok (.aload_n 0, 1) := by decide +kernel
theorem d_R_feed_59 : decode b_R_feed 59 = .ok (.getfield 10, 3) := by decide +kernel
theorem d_R_feed_62 : decode b_R_feed 62 = .ok (.iload 5, 2) := by decide +kernel
theorem d_R_feed_64 : decode b_R_feed 64 = .ok (.invokevirtual 61, 3) := by decide +kernel
theorem d_R_feed_67 : decode b_R_feed 67 = .ok (.return_, 1) := by decide +kernel
theorem d_R_field_0 : decode b_R_field 0 = .ok (.aload_n 0, 1) := by decide +kernel
theorem d_R_field_1 : decode b_R_field 1 = .ok (.getfield 43, 3) := by decide +kernel
theorem d_R_field_4 : decode b_R_field 4 = .ok (.iload_n 1, 1) := by decide +kernel
theorem d_R_field_5 : decode b_R_field 5 = .ok (.iload_n 2, 1) := by decide +kernel
theorem d_R_field_6 : decode b_R_field 6 = .ok (.invokevirtual 113, 3) := by decide +kernel
theorem d_R_field_9 : decode b_R_field 9 = .ok (.ireturn, 1) := by decide +kernel
theorem d_R_init_0 : decode b_R_init 0 = .ok (.aload_n 0, 1) := by decide +kernel
theorem d_R_init_1 : decode b_R_init 1 = .ok (.invokespecial 1, 3) := by decide +kernel
theorem d_R_init_4 : decode b_R_init 4 = .ok (.aload_n 0, 1) := by decide +kernel
theorem d_R_init_5 : decode b_R_init 5 = .ok (.new 7, 3) := by decide +kernel
theorem d_R_init_8 : decode b_R_init 8 = .ok (.dup, 1) := by decide +kernel
theorem d_R_init_9 : decode b_R_init 9 = .ok (.invokespecial 9, 3) := by decide +kernel
theorem d_R_init_12 : decode b_R_init 12 = .ok (.putfield 10, 3) := by decide +kernel
theorem d_R_init_15 : decode b_R_init 15 = .ok (.aload_n 0, 1) := by decide +kernel
theorem d_R_init_16 : decode b_R_init 16 = .ok (.new 16, 3) := by decide +kernel
theorem d_R_init_19 : decode b_R_init 19 = .ok (.dup, 1) := by decide +kernel
theorem d_R_init_20 : decode b_R_init 20 = .ok (.invokespecial 18, 3) := by decide +kernel
theorem d_R_init_23 : decode b_R_init 23 = .ok (.putfield 19, 3) := by decide +kernel
theorem d_R_init_26 : decode b_R_init 26 = .ok (.aload_n 0, 1) := by decide +kernel
theorem d_R_init_27 : decode b_R_init 27 = .ok (.new 16, 3) := by decide +kernel
theorem d_R_init_30 : decode b_R_init 30 = .ok (.dup, 1) := by decide +kernel
theorem d_R_init_31 : decode b_R_init 31 = .ok (.invokespecial 18, 3) := by decide +kernel
theorem d_R_init_34 : decode b_R_init 34 = .ok (.putfield 23, 3) := by decide +kernel
theorem d_R_init_37 : decode b_R_init 37 = .ok (.aload_n 0, 1) := by decide +kernel
theorem d_R_init_38 : decode b_R_init 38 = .ok (.new 16, 3) := by decide +kernel
theorem d_R_init_41 : decode b_R_init 41 = .ok (.dup, 1) := by decide +kernel
theorem d_R_init_42 : decode b_R_init 42 = .ok (.invokespecial 18, 3) := by decide +kernel
theorem d_R_init_45 : decode b_R_init 45 = .ok (.putfield 26, 3) := by decide +kernel
theorem d_R_init_48 : decode b_R_init 48 = .ok (.aload_n 0, 1) := by decide +kernel
theorem d_R_init_49 : decode b_R_init 49 = .ok (.new 29, 3) := by decide +kernel
theorem d_R_init_52 : decode b_R_init 52 = .ok (.dup, 1) := by decide +kernel
theorem d_R_init_53 : decode b_R_init 53 = .ok (.invokespecial 31, 3) := by decide +kernel
theorem d_R_init_56 : decode b_R_init 56 = .ok (.putfield 32, 3) := by decide +kernel
theorem d_R_init_59 : decode b_R_init 59 = .ok (.aload_n 0, 1) := by decide +kernel
theorem d_R_init_60 : decode b_R_init 60 = .ok (.new 36, 3) := by decide +kernel
theorem d_R_init_63 : decode b_R_init 63 = .ok (.dup, 1) := by decide +kernel
theorem d_R_init_64 : decode b_R_init 64 = .ok (.invokespecial 38, 3) := by decide +kernel
theorem d_R_init_67 : decode b_R_init 67 = .ok (.putfield 39, 3) := by decide +kernel
theorem d_R_init_70 : decode b_R_init 70 = .ok (.aload_n 0, 1) := by decide +kernel
theorem d_R_init_71 : decode b_R_init 71 = .ok (.aload_n 0, 1) := by decide +kernel
theorem d_R_init_72 : decode b_R_init 72 = .ok (.getfield 19, 3) := by decide +kernel
theorem d_R_init_75 : decode b_R_init 75 = .ok (.putfield 43, 3) := by decide +kernel
theorem d_R_init_78 : decode b_R_init 78 = .ok (.aload_n 0, 1) := by decide +kernel
theorem d_R_init_79 : decode b_R_init 79 = .ok (.aload_n 0, 1) := by decide +kernel
theorem d_R_init_80 : decode b_R_init 80 = .ok (.getfield 19, 3) := by decide +kernel
theorem d_R_init_83 : decode b_R_init 83 = .ok (.putfield 46, 3) := by decide +kernel
theorem d_R_init_86 : decode b_R_init 86 = .ok (.return_, 1) := by decide +kernel
theorem d_R_isNumber_0 : decode b_R_isNumber 0 = .ok (.iload_n 0, 1) := by decide +kernel
theorem d_R_isNumber_1 : decode b_R_isNumber 1 = .ok (.iconst 1, 1) := by decide +kernel
theorem d_R_isNumber_2 : decode b_R_isNumber 2 = .ok (.iand, 1) := by decide +kernel
theorem d_R_isNumber_3 : decode b_R_isNumber 3 = .ok (.ifCond .eq 7, 3) := by decide +kernel
theorem d_R_isNumber_6 : decode b_R_isNumber 6 = .ok (.iconst 1, 1) := by decide +kernel
theorem d_R_isNumber_7 : decode b_R_isNumber 7 = .ok (.goto 4, 3) := by decide +kernel
theorem d_R_isNumber_10 : decode b_R_isNumber 10 = .ok (.iconst 0, 1) := by decide +kernel
theorem d_R_isNumber_11 : decode b_R_isNumber 11 = .ok (.ireturn, 1) := by decide +kernel
theorem d_R_isNumberWithin_0 : decode b_R_isNumberWithin 0 = .ok (.iload_n 0, 1) := by decide +kernel
theorem d_R_isNumberWithin_1 : decode b_R_isNumberWithin 1 = .ok (.invokestatic 198, 3) := by decide +kernel
theorem d_R_isNumberWithin_4 : decode b_R_isNumberWithin 4 = .ok (.ifCond .eq 23, 3) := by decide +kernel
theorem d_R_isNumberWithin_7 : decode b_R_isNumberWithin 7 = .ok (.iload_n 0, 1) := by decide +kernel
theorem d_R_isNumberWithin_8 : decode b_R_isNumberWithin 8 = .ok (.invokestatic 201, 3) := by decide +kernel
theorem d_R_isNumberWithin_11 : decode b_R_isNumberWithin 11 = .ok (.iload_n 1, 1) := by decide +kernel
theorem d_R_isNumberWithin_12 : decode b_R_isNumberWithin 12 = .ok (.if_icmp .lt 15, 3) := by decide +kernel
theorem d_R_isNumberWithin_15 : decode b_R_isNumberWithin 15 = .ok (.iload_n 0, 1) := by decide +kernel
theorem d_R_isNumberWithin_16 : decode b_R_isNumberWithin 16 = .ok (.invokestatic 201, 3) := by decide +kernel
theorem d_R_isNumberWithin_19 : decode b_R_isNumberWithin 19 = .ok (.iload_n 2, 1) := by decide +kernel
theorem d_R_isNumberWithin_20 : decode b_R_isNumberWithin 20 = .ok (.if_icmp .gt 7, 3) := by decide +kernel
theorem d_R_isNumberWithin_23 : decode b_R_isNumberWithin 23 = .ok (.iconst 1, 1) := by decide +kernel
theorem d_R_isNumberWithin_24 : decode b_R_isNumberWithin 24 = .ok (.goto 4, 3) := by decide +kernel
theorem d_R_isNumberWithin_27 : decode b_R_isNumberWithin 27 = .ok (.iconst 0, 1) := by decide +kernel
theorem d_R_isNumberWithin_28 : decode b_R_isNumberWithin 28 = .ok (.ireturn, 1) := by decide +kernel
theorem d_R_keep_0 : decode b_R_keep 0 = .ok (.aload_n 0, 1) := by decide +kernel
theorem d_R_keep_1 : decode b_R_keep 1 = .ok (.getfield 43, 3) := by decide +kernel
theorem d_R_keep_4 : decode b_R_keep 4 = .ok (.getfield 86, 3) := by decide +kernel
theorem d_R_keep_7 : decode b_R_keep 7 = .ok (.ifCond .ne 5, 3) := by decide +kernel
theorem d_R_keep_10 : decode b_R_keep 10 = .ok (.iconst 0, 1) := by decide +kernel
theorem d_R_keep_11 : decode b_R_keep 11 = .ok (.ireturn, 1) := by decide +kernel
theorem d_R_keep_12 : decode b_R_keep 12 = .ok (.aload_n 0, 1) := by decide +kernel
theorem d_R_keep_13 : decode b_R_keep 13 = .ok (.aload_n 0, 1) := by decide +kernel
theorem d_R_keep_14 : decode b_R_keep 14 = .ok (.getfield 43, 3) := by decide +kernel
theorem d_R_keep_17 : decode b_R_keep 17 = .ok (.putfield 46, 3) := by decide +kernel
theorem d_R_keep_20 : decode b_R_keep 20 = .ok (.iconst 1, 1) := by decide +kernel
theorem d_R_keep_21 : decode b_R_keep 21 = .ok (.ireturn, 1) := by decide +kernel
theorem d_R_kind_0 : decode b_R_kind 0 = .ok (.aload_n 0, 1) := by decide +kernel
theorem d_R_kind_1 : decode b_R_kind 1 = .ok (.getfield 43, 3) := by decide +kernel
theorem d_R_kind_4 : decode b_R_kind 4 = .ok (.iload_n 1, 1) := by decide +kernel
theorem d_R_kind_5 : decode b_R_kind 5 = .ok (.invokevirtual 95, 3) := by decide +kernel
theorem d_R_kind_8 : decode b_R_kind 8 = .ok (.ifCond .ne 5, 3) := by decide +kernel
theorem d_R_kind_11 : decode b_R_kind 11 = .ok (.iconst (-1), 1) := by decide +kernel
theorem d_R_kind_12 : decode b_R_kind 12 = .ok (.ireturn, 1) := by decide +kernel
theorem d_R_kind_13 : decode b_R_kind 13 = .ok (.aload_n 0, 1) := by decide +kernel
theorem d_R_kind_14 : decode b_R_kind 14 = .ok (.getfield 43, 3) := by decide +kernel
theorem d_R_kind_17 : decode b_R_kind 17 = .ok (.iload_n 1, 1) := by decide +kernel
theorem d_R_kind_18 : decode b_R_kind 18 = .ok (.bipush 7, 2) := by decide +kernel
theorem d_R_kind_20 : decode b_R_kind 20 = .ok (.invokevirtual 99, 3) := by decide +kernel
theorem d_R_kind_23 : decode b_R_kind 23 = .ok (.ifCond .eq 5, 3) := by decide +kernel
theorem d_R_kind_26 : decode b_R_kind 26 = .ok (.iconst 2, 1) := by decide +kernel
theorem d_R_kind_27 : decode b_R_kind 27 = .ok (.ireturn, 1) := by decide +kernel
theorem d_R_kind_28 : decode b_R_kind 28 = .ok (.aload_n 0, 1) := by decide +kernel
theorem d_R_kind_29 : decode b_R_kind 29 = .ok (.getfield 43, 3) := by decide +kernel
theorem d_R_kind_32 : decode b_R_kind 32 = .ok (.iload_n 1, 1) := by decide +kernel
theorem d_R_kind_33 : decode b_R_kind 33 = .ok (.bipush 8, 2) := by decide +kernel
theorem d_R_kind_35 : decode b_R_kind 35 = .ok (.invokevirtual 99, 3) := by decide +kernel
theorem d_R_kind_38 : decode b_R_kind 38 = .ok (.ifCond .eq 7, 3) := by decide +kernel
theorem d_R_kind_41 : decode b_R_kind 41 = .ok (.iconst 3, 1) := by decide +kernel
theorem d_R_kind_42 : decode b_R_kind 42 = .ok (.goto 12, 3) := by decide +kernel
theorem d_R_kind_45 : decode b_R_kind 45 = .ok (.aload_n 0, 1) := by decide +kernel
theorem d_R_kind_46 : decode b_R_kind 46 = .ok (.getfield 43, 3) := by decide +kernel
theorem d_R_kind_49 : decode b_R_kind 49 = .ok (.getfield 103, 3) := by decide +kernel
theorem d_R_kind_52 : decode b_R_kind 52 = .ok (.iload_n 1, 1) := by decide +kernel
theorem d_R_kind_53 : decode b_R_kind 53 = .ok (.iaload, 1) := by decide +kernel
theorem d_R_kind_54 : decode b_R_kind 54 = .ok (.ireturn, 1) := by decide +kernel
theorem d_R_numberOf_0 : decode b_R_numberOf 0 = .ok (.iload_n 0, 1) := by decide +kernel
theorem d_R_numberOf_1 : decode b_R_numberOf 1 = .ok (.iconst 1, 1) := by decide +kernel
theorem d_R_numberOf_2 : decode b_R_numberOf 2 = .ok (.ishr, 1) := by decide +kernel
theorem d_R_numberOf_3 : decode b_R_numberOf 3 = .ok (.ireturn, 1) := by decide +kernel
theorem d_R_objects_0 : decode b_R_objects 0 = .ok (.aload_n 0, 1) := by decide +kernel
theorem d_R_objects_1 : decode b_R_objects 1 = .ok (.getfield 43, 3) := by decide +kernel
theorem d_R_objects_4 : decode b_R_objects 4 = .ok (.getfield 86, 3) := by decide +kernel
theorem d_R_objects_7 : decode b_R_objects 7 = .ok (.ireturn, 1) := by decide +kernel
theorem d_R_placeOfRefusal_0 : decode b_R_placeOfRefusal 0 = .ok (.aload_n 0, 1) := by decide +kernel
theorem d_R_placeOfRefusal_1 : decode b_R_placeOfRefusal 1 = .ok (.getfield 10, 3) := by decide +kernel
theorem d_R_placeOfRefusal_4 : decode b_R_placeOfRefusal 4 = .ok (.invokestatic 147, 3) := by decide +kernel
theorem d_R_placeOfRefusal_7 : decode b_R_placeOfRefusal 7 = .ok (.istore_n 2, 1) := by decide +kernel
theorem d_R_placeOfRefusal_8 : decode b_R_placeOfRefusal 8 = .ok (.iload_n 2, 1) := by decide +kernel
theorem d_R_placeOfRefusal_9 : decode b_R_placeOfRefusal 9 = .ok (.iconst (-1), 1) := by decide +kernel
theorem d_R_placeOfRefusal_10 : decode b_R_placeOfRefusal 10 = .ok (.if_icmp .ne 12, 3) := by decide +kernel
theorem d_R_placeOfRefusal_13 : decode b_R_placeOfRefusal 13 = .ok (.aload_n 0, 1) := by decide +kernel
theorem d_R_placeOfRefusal_14 : decode b_R_placeOfRefusal 14 = .ok (.getfield 10, 3) := by decide +kernel
theorem d_R_placeOfRefusal_17 : decode b_R_placeOfRefusal 17 = .ok (.aload_n 1, 1) := by decide +kernel
theorem d_R_placeOfRefusal_18 : decode b_R_placeOfRefusal 18 = .ok (.invokestatic 153, 3) := by decide +kernel
theorem d_R_placeOfRefusal_21 : decode b_R_placeOfRefusal 21 = .ok (.istore_n 2, 1) := by decide +kernel
theorem d_R_placeOfRefusal_22 : decode b_R_placeOfRefusal 22 = .ok (.iload_n 2, 1) := by decide +kernel
theorem d_R_placeOfRefusal_23 : decode b_R_placeOfRefusal 23 = .ok (.iconst (-1), 1) := by decide +kernel
theorem d_R_placeOfRefusal_24 : decode b_R_placeOfRefusal 24 = .ok (.if_icmp .ne 12, 3) := by decide +kernel
theorem d_R_placeOfRefusal_27 : decode b_R_placeOfRefusal 27 = .ok (.aload_n 0, 1) := by decide +kernel
theorem d_R_placeOfRefusal_28 : decode b_R_placeOfRefusal 28 = .ok (.getfield 10, 3) := by decide +kernel
theorem d_R_placeOfRefusal_31 : decode b_R_placeOfRefusal 31 = .ok (.aload_n 1, 1) := by decide +kernel
theorem d_R_placeOfRefusal_32 : decode b_R_placeOfRefusal 32 = .ok (.invokestatic 157, 3) := by decide +kernel
theorem d_R_placeOfRefusal_35 : decode b_R_placeOfRefusal 35 = .ok (.istore_n 2, 1) := by decide +kernel
theorem d_R_placeOfRefusal_36 : decode b_R_placeOfRefusal 36 = .ok (.iload_n 2, 1) := by decide +kernel
theorem d_R_placeOfRefusal_37 : decode b_R_placeOfRefusal 37 = .ok (.iconst (-1), 1) := by decide +kernel
theorem d_R_placeOfRefusal_38 : decode b_R_placeOfRefusal 38 = .ok (.if_icmp .ne 8, 3) := by decide +kernel
theorem d_R_placeOfRefusal_41 : decode b_R_placeOfRefusal 41 = .ok (.aload_n 1, 1) := by decide +kernel
theorem d_R_placeOfRefusal_42 : decode b_R_placeOfRefusal 42 = .ok (.invokestatic 160, 3) := by decide +kernel
theorem d_R_placeOfRefusal_45 : decode b_R_placeOfRefusal 45 = .ok (.istore_n 2, 1) := by decide +kernel
theorem d_R_placeOfRefusal_46 : decode b_R_placeOfRefusal 46 = .ok (.iload_n 2, 1) := by decide +kernel
theorem d_R_placeOfRefusal_47 : decode b_R_placeOfRefusal 47 = .ok (.iconst (-1), 1) := by decide +kernel
theorem d_R_placeOfRefusal_48 : decode b_R_placeOfRefusal 48 = .ok (.if_icmp .ne 8, 3) := by decide +kernel
theorem d_R_placeOfRefusal_51 : decode b_R_placeOfRefusal 51 = .ok (.aload_n 1, 1) := by decide +kernel
theorem d_R_placeOfRefusal_52 : decode b_R_placeOfRefusal 52 = .ok (.invokestatic 165, 3) := by decide +kernel
theorem d_R_placeOfRefusal_55 : decode b_R_placeOfRefusal 55 = .ok (.istore_n 2, 1) := by decide +kernel
theorem d_R_placeOfRefusal_56 : decode b_R_placeOfRefusal 56 = .ok (.iload_n 2, 1) := by decide +kernel
theorem d_R_placeOfRefusal_57 : decode b_R_placeOfRefusal 57 = .ok (.iconst (-1), 1) := by decide +kernel
theorem d_R_placeOfRefusal_58 : decode b_R_placeOfRefusal 58 = .ok (.if_icmp .ne 8, 3) := by decide +kernel
theorem d_R_placeOfRefusal_61 : decode b_R_placeOfRefusal 61 = .ok (.aload_n 1, 1) := by decide +kernel
theorem d_R_placeOfRefusal_62 : decode b_R_placeOfRefusal 62 = .ok (.invokestatic 168, 3) := by decide +kernel
theorem d_R_placeOfRefusal_65 : decode b_R_placeOfRefusal 65 = .ok (.istore_n 2, 1) := by decide +kernel
theorem d_R_placeOfRefusal_66 : decode b_R_placeOfRefusal 66 = .ok (.iload_n 2, 1) := by decide +kernel
theorem d_R_placeOfRefusal_67 : decode b_R_placeOfRefusal 67 = .ok (.iconst (-1), 1) := by decide +kernel
theorem d_R_placeOfRefusal_68 : decode b_R_placeOfRefusal 68 = .ok (.if_icmp .ne 8, 3) := by decide +kernel
theorem d_R_placeOfRefusal_71 : decode b_R_placeOfRefusal 71 = .ok (.aload_n 1, 1) := by decide +kernel
theorem d_R_placeOfRefusal_72 : decode b_R_placeOfRefusal 72 = .ok (.invokestatic 171, 3) := by decide +kernel
theorem d_R_placeOfRefusal_75 : decode b_R_placeOfRefusal 75 = .ok (.istore_n 2, 1) := by decide +kernel
theorem d_R_placeOfRefusal_76 : decode b_R_placeOfRefusal 76 = .ok (.iload_n 2, 1) := by decide +kernel
theorem d_R_placeOfRefusal_77 : decode b_R_placeOfRefusal 77 = .ok (.ireturn, 1) := by decide +kernel
theorem d_R_reachable_0 : decode b_R_reachable 0 = .ok (.aload_n 0, 1) := by decide +kernel
theorem d_R_reachable_1 : decode b_R_reachable 1 = .ok (.getfield 32, 3) := by decide +kernel
theorem d_R_reachable_4 : decode b_R_reachable 4 = .ok (.aload_n 0, 1) := by decide +kernel
theorem d_R_reachable_5 : decode b_R_reachable 5 = .ok (.getfield 43, 3) := by decide +kernel
theorem d_R_reachable_8 : decode b_R_reachable 8 = .ok (.invokevirtual 120, 3) := by decide +kernel
theorem d_R_reachable_11 : decode b_R_reachable 11 = .ok (.ireturn, 1) := by decide +kernel
theorem d_R_read_0 : decode b_R_read 0 = .ok (.aload_n 0, 1) := by decide +kernel
theorem d_R_read_1 : decode b_R_read 1 = .ok (.invokevirtual 78, 3) := by decide +kernel
theorem d_R_read_4 : decode b_R_read 4 = .ok (.astore_n 1, 1) := by decide +kernel
theorem d_R_read_5 : decode b_R_read 5 = .ok (.aload_n 0, 1) := by decide +kernel
theorem d_R_read_6 : decode b_R_read 6 = .ok (.aload_n 1, 1) := by decide +kernel
theorem d_R_read_7 : decode b_R_read 7 = .ok (.invokevirtual 82, 3) := by decide +kernel
theorem d_R_read_10 : decode b_R_read 10 = .ok (.istore_n 2, 1) := by decide +kernel
theorem d_R_read_11 : decode b_R_read 11 = .ok (.aload_n 0, 1) := by decide +kernel
theorem d_R_read_12 : decode b_R_read 12 = .ok (.getfield 10, 3) := by decide +kernel
theorem d_R_read_15 : decode b_R_read 15 = .ok (.iconst 0, 1) := by decide +kernel
theorem d_R_read_16 : decode b_R_read 16 = .ok (.putfield 49, 3) := by decide +kernel
theorem d_R_read_19 : decode b_R_read 19 = .ok (.iload_n 2, 1) := by decide +kernel
theorem d_R_read_20 : decode b_R_read 20 = .ok (.iconst (-1), 1) := by decide +kernel
theorem d_R_read_21 : decode b_R_read 21 = .ok (.if_icmp .ne 8, 3) := by decide +kernel
theorem d_R_read_24 : decode b_R_read 24 = .ok (.aload_n 0, 1) := by decide +kernel
theorem d_R_read_25 : decode b_R_read 25 = .ok (.aload_n 1, 1) := by decide +kernel
theorem d_R_read_26 : decode b_R_read 26 = .ok (.putfield 43, 3) := by decide +kernel
theorem d_R_read_29 : decode b_R_read 29 = .ok (.iload_n 2, 1) := by decide +kernel
theorem d_R_read_30 : decode b_R_read 30 = .ok (.ireturn, 1) := by decide +kernel
theorem d_R_same_0 : decode b_R_same 0 = .ok (.aload_n 0, 1) := by decide +kernel
theorem d_R_same_1 : decode b_R_same 1 = .ok (.getfield 43, 3) := by decide +kernel
theorem d_R_same_4 : decode b_R_same 4 = .ok (.getfield 86, 3) := by decide +kernel
theorem d_R_same_7 : decode b_R_same 7 = .ok (.ifCond .eq 35, 3) := by decide +kernel
theorem d_R_same_10 : decode b_R_same 10 = .ok (.aload_n 0, 1) := by decide +kernel
theorem d_R_same_11 : decode b_R_same 11 = .ok (.getfield 46, 3) := by decide +kernel
theorem d_R_same_14 : decode b_R_same 14 = .ok (.getfield 86, 3) := by decide +kernel
theorem d_R_same_17 : decode b_R_same 17 = .ok (.ifCond .eq 25, 3) := by decide +kernel
theorem d_R_same_20 : decode b_R_same 20 = .ok (.aload_n 0, 1) := by decide +kernel
theorem d_R_same_21 : decode b_R_same 21 = .ok (.getfield 39, 3) := by decide +kernel
theorem d_R_same_24 : decode b_R_same 24 = .ok (.aload_n 0, 1) := by decide +kernel
theorem d_R_same_25 : decode b_R_same 25 = .ok (.getfield 43, 3) := by decide +kernel
theorem d_R_same_28 : decode b_R_same 28 = .ok (.aload_n 0, 1) := by decide +kernel
theorem d_R_same_29 : decode b_R_same 29 = .ok (.getfield 46, 3) := by decide +kernel
theorem d_R_same_32 : decode b_R_same 32 = .ok (.invokevirtual 143, 3) := by decide +kernel
theorem d_R_same_35 : decode b_R_same 35 = .ok (.ifCond .eq 7, 3) := by decide +kernel
theorem d_R_same_38 : decode b_R_same 38 = .ok (.iconst 1, 1) := by decide +kernel
theorem d_R_same_39 : decode b_R_same 39 = .ok (.goto 4, 3) := by decide +kernel
theorem d_R_same_42 : decode b_R_same 42 = .ok (.iconst 0, 1) := by decide +kernel
theorem d_R_same_43 : decode b_R_same 43 = .ok (.ireturn, 1) := by decide +kernel
theorem d_R_size_0 : decode b_R_size 0 = .ok (.aload_n 0, 1) := by decide +kernel
theorem d_R_size_1 : decode b_R_size 1 = .ok (.getfield 43, 3) := by decide +kernel
theorem d_R_size_4 : decode b_R_size 4 = .ok (.iload_n 1, 1) := by decide +kernel
theorem d_R_size_5 : decode b_R_size 5 = .ok (.invokevirtual 95, 3) := by decide +kernel
theorem d_R_size_8 : decode b_R_size 8 = .ok (.ifCond .eq 15, 3) := by decide +kernel
theorem d_R_size_11 : decode b_R_size 11 = .ok (.aload_n 0, 1) := by decide +kernel
theorem d_R_size_12 : decode b_R_size 12 = .ok (.getfield 43, 3) := by decide +kernel
theorem d_R_size_15 : decode b_R_size 15 = .ok (.getfield 110, 3) := by decide +kernel
theorem d_R_size_18 : decode b_R_size 18 = .ok (.iload_n 1, 1) := by decide +kernel
theorem d_R_size_19 : decode b_R_size 19 = .ok (.iaload, 1) := by decide +kernel
theorem d_R_size_20 : decode b_R_size 20 = .ok (.goto 4, 3) := by decide +kernel
theorem d_R_size_23 : decode b_R_size 23 = .ok (.iconst (-1), 1) := by decide +kernel
theorem d_R_size_24 : decode b_R_size 24 = .ok (.ireturn, 1) := by decide +kernel
theorem d_R_spareImage_0 : decode b_R_spareImage 0 = .ok (.aload_n 0, 1) := by decide +kernel
theorem d_R_spareImage_1 : decode b_R_spareImage 1 = .ok (.getfield 19, 3) := by decide +kernel
theorem d_R_spareImage_4 : decode b_R_spareImage 4 = .ok (.aload_n 0, 1) := by decide +kernel
theorem d_R_spareImage_5 : decode b_R_spareImage 5 = .ok (.getfield 43, 3) := by decide +kernel
theorem d_R_spareImage_8 : decode b_R_spareImage 8 = .ok (.if_acmp .eq 19, 3) := by decide +kernel
theorem d_R_spareImage_11 : decode b_R_spareImage 11 = .ok (.aload_n 0, 1) := by decide +kernel
theorem d_R_spareImage_12 : decode b_R_spareImage 12 = .ok (.getfield 19, 3) := by decide +kernel
theorem d_R_spareImage_15 : decode b_R_spareImage 15 = .ok (.aload_n 0, 1) := by decide +kernel
theorem d_R_spareImage_16 : decode b_R_spareImage 16 = .ok (.getfield 46, 3) := by decide +kernel
theorem d_R_spareImage_19 : decode b_R_spareImage 19 = .ok (.if_acmp .eq 8, 3) := by decide +kernel
theorem d_R_spareImage_22 : decode b_R_spareImage 22 = .ok (.aload_n 0, 1) := by decide +kernel
theorem d_R_spareImage_23 : decode b_R_spareImage 23 = .ok (.getfield 19, 3) := by decide +kernel
theorem d_R_spareImage_26 : decode b_R_spareImage 26 = .ok (.areturn, 1) := by decide +kernel
theorem d_R_spareImage_27 : decode b_R_spareImage 27 = .ok (.aload_n 0, 1) := by decide +kernel
theorem d_R_spareImage_28 : decode b_R_spareImage 28 = .ok (.getfield 23, 3) := by decide +kernel
theorem d_R_spareImage_31 : decode b_R_spareImage 31 = .ok (.aload_n 0, 1) := by decide +kernel
theorem d_R_spareImage_32 : decode b_R_spareImage 32 = .ok (.getfield 43, 3) := by decide +kernel
theorem d_R_spareImage_35 : decode b_R_spareImage 35 = .ok (.if_acmp .eq 21, 3) := by decide +kernel
theorem d_R_spareImage_38 : decode b_R_spareImage 38 = .ok (.aload_n 0, 1) := by decide +kernel
theorem d_R_spareImage_39 : decode b_R_spareImage 39 = .ok (.getfield 23, 3) := by decide +kernel
theorem d_R_spareImage_42 : decode b_R_spareImage 42 = .ok (.aload_n 0, 1) := by decide +kernel
theorem d_R_spareImage_43 : decode b_R_spareImage 43 = .ok (.getfield 46, 3) := by decide +kernel
theorem d_R_spareImage_46 : decode b_R_spareImage 46 = .ok (.if_acmp .eq 10, 3) := by decide +kernel
theorem d_R_spareImage_49 : decode b_R_spareImage 49 = .ok (.aload_n 0, 1) := by decide +kernel
theorem d_R_spareImage_50 : decode b_R_spareImage 50 = .ok (.getfield 23, 3) := by decide +kernel
theorem d_R_spareImage_53 : decode b_R_spareImage 53 = .ok (.goto 7, 3) := by decide +kernel
theorem d_R_spareImage_56 : decode b_R_spareImage 56 = .ok (.aload_n 0, 1) := by decide +kernel
theorem d_R_spareImage_57 : decode b_R_spareImage 57 = .ok (.getfield 26, 3) := by decide +kernel
theorem d_R_spareImage_60 : decode b_R_spareImage 60 = .ok (.areturn, 1) := by decide +kernel
theorem d_R_special_0 : decode b_R_special 0 = .ok (.aload_n 0, 1) := by decide +kernel
theorem d_R_special_1 : decode b_R_special 1 = .ok (.getfield 43, 3) := by decide +kernel
theorem d_R_special_4 : decode b_R_special 4 = .ok (.iload_n 1, 1) := by decide +kernel
theorem d_R_special_5 : decode b_R_special 5 = .ok (.invokevirtual 92, 3) := by decide +kernel
theorem d_R_special_8 : decode b_R_special 8 = .ok (.ireturn, 1) := by decide +kernel
theorem d_R_words_0 : decode b_R_words 0 = .ok (.aload_n 0, 1) := by decide +kernel
theorem d_R_words_1 : decode b_R_words 1 = .ok (.getfield 43, 3) := by decide +kernel
theorem d_R_words_4 : decode b_R_words 4 = .ok (.getfield 89, 3) := by decide +kernel
theorem d_R_words_7 : decode b_R_words 7 = .ok (.ireturn, 1) := by decide +kernel
theorem d_R_write_0 : decode b_R_write 0 = .ok (.aload_n 0, 1) := by decide +kernel
theorem d_R_write_1 : decode b_R_write 1 = .ok (.getfield 43, 3) := by decide +kernel
theorem d_R_write_4 : decode b_R_write 4 = .ok (.getfield 86, 3) := by decide +kernel
theorem d_R_write_7 : decode b_R_write 7 = .ok (.ifCond .ne 5, 3) := by decide +kernel
theorem d_R_write_10 : decode b_R_write 10 = .ok (.iconst (-1), 1) := by decide +kernel
theorem d_R_write_11 : decode b_R_write 11 = .ok (.ireturn, 1) := by decide +kernel
theorem d_R_write_12 : decode b_R_write 12 = .ok (.aload_n 0, 1) := by decide +kernel
theorem d_R_write_13 : decode b_R_write 13 = .ok (.getfield 32, 3) := by decide +kernel
theorem d_R_write_16 : decode b_R_write 16 = .ok (.aload_n 0, 1) := by decide +kernel
theorem d_R_write_17 : decode b_R_write 17 = .ok (.getfield 43, 3) := by decide +kernel
theorem d_R_write_20 : decode b_R_write 20 = .ok (.invokevirtual 120, 3) := by decide +kernel
theorem d_R_write_23 : decode b_R_write 23 = .ok (.istore_n 1, 1) := by decide +kernel
theorem d_R_write_24 : decode b_R_write 24 = .ok (.aload_n 0, 1) := by decide +kernel
theorem d_R_write_25 : decode b_R_write 25 = .ok (.getfield 32, 3) := by decide +kernel
theorem d_R_write_28 : decode b_R_write 28 = .ok (.aload_n 0, 1) := by decide +kernel
theorem d_R_write_29 : decode b_R_write 29 = .ok (.getfield 43, 3) := by decide +kernel
theorem d_R_write_32 : decode b_R_write 32 = .ok (.invokevirtual 123, 3) := by decide +kernel
theorem d_R_write_35 : decode b_R_write 35 = .ok (.aload_n 0, 1) := by decide +kernel
theorem d_R_write_36 : decode b_R_write 36 = .ok (.getfield 10, 3) := by decide +kernel
theorem d_R_write_39 : decode b_R_write 39 = .ok (.iconst 0, 1) := by decide +kernel
theorem d_R_write_40 : decode b_R_write 40 = .ok (.putfield 49, 3) := by decide +kernel
theorem d_R_write_43 : decode b_R_write 43 = .ok (.aload_n 0, 1) := by decide +kernel
theorem d_R_write_44 : decode b_R_write 44 = .ok (.iload_n 1, 1) := by decide +kernel
theorem d_R_write_45 : decode b_R_write 45 = .ok (.invokevirtual 127, 3) := by decide +kernel
theorem d_R_write_48 : decode b_R_write 48 = .ok (.iconst 0, 1) := by decide +kernel
theorem d_R_write_49 : decode b_R_write 49 = .ok (.istore_n 2, 1) := by decide +kernel
theorem d_R_write_50 : decode b_R_write 50 = .ok (.iload_n 2, 1) := by decide +kernel
theorem d_R_write_51 : decode b_R_write 51 = .ok (.bipush 50, 2) := by decide +kernel
theorem d_R_write_53 : decode b_R_write 53 = .ok (.if_icmp .ge 36, 3) := by decide +kernel
theorem d_R_write_56 : decode b_R_write 56 = .ok (.aload_n 0, 1) := by decide +kernel
theorem d_R_write_57 : decode b_R_write 57 = .ok (.getfield 10, 3) := by decide +kernel
theorem d_R_write_60 : decode b_R_write 60 = .ok (.aload_n 0, 1) := by decide +kernel
theorem d_R_write_61 : decode b_R_write 61 = .ok (.getfield 32, 3) := by decide +kernel
theorem d_R_write_64 : decode b_R_write 64 = .ok (.aload_n 0, 1) := by decide +kernel
theorem d_R_write_65 : decode b_R_write 65 = .ok (.getfield 43, 3) := by decide +kernel
theorem d_R_write_68 : decode b_R_write 68 = .ok (.aload_n 0, 1) := by decide +kernel
theorem d_R_write_69 : decode b_R_write 69 = .ok (.getfield 43, 3) := by decide +kernel
theorem d_R_write_72 : decode b_R_write 72 = .ok (.getfield 130, 3) := by decide +kernel
theorem d_R_write_75 : decode b_R_write 75 = .ok (.iload_n 2, 1) := by decide +kernel
theorem d_R_write_76 : decode b_R_write 76 = .ok (.iaload, 1) := by decide +kernel
theorem d_R_write_77 : decode b_R_write 77 = .ok (.invokevirtual 133, 3) := by decide +kernel
theorem d_R_write_80 : decode b_R_write 80 = .ok (.invokevirtual 61, 3) := by decide +kernel
theorem d_R_write_83 : decode b_R_write 83 = .ok (.iinc 2 1, 3) := by decide +kernel
theorem d_R_write_86 : decode b_R_write 86 = .ok (.goto (-36), 3) := by decide +kernel
theorem d_R_write_89 : decode b_R_write 89 = .ok (.iconst 1, 1) := by decide +kernel
theorem d_R_write_90 : decode b_R_write 90 = .ok (.istore_n 2, 1) := by decide +kernel
theorem d_R_write_91 : decode b_R_write 91 = .ok (.iload_n 2, 1) := by decide +kernel
theorem d_R_write_92 : decode b_R_write 92 = .ok (.aload_n 0, 1) := by decide +kernel
theorem d_R_write_93 : decode b_R_write 93 = .ok (.getfield 43, 3) := by decide +kernel
theorem d_R_write_96 : decode b_R_write 96 = .ok (.getfield 86, 3) := by decide +kernel
theorem d_R_write_99 : decode b_R_write 99 = .ok (.if_icmp .gt 26, 3) := by decide +kernel
theorem d_R_write_102 : decode b_R_write 102 = .ok (.aload_n 0, 1) := by decide +kernel
theorem d_R_write_103 : decode b_R_write 103 = .ok (.getfield 32, 3) := by decide +kernel
theorem d_R_write_106 : decode b_R_write 106 = .ok (.getfield 137, 3) := by decide +kernel
theorem d_R_write_109 : decode b_R_write 109 = .ok (.iload_n 2, 1) := by decide +kernel
theorem d_R_write_110 : decode b_R_write 110 = .ok (.iaload, 1) := by decide +kernel
theorem d_R_write_111 : decode b_R_write 111 = .ok (.ifCond .eq 8, 3) := by decide +kernel
theorem d_R_write_114 : decode b_R_write 114 = .ok (.aload_n 0, 1) := by decide +kernel
theorem d_R_write_115 : decode b_R_write 115 = .ok (.iload_n 2, 1) := by decide +kernel
theorem d_R_write_116 : decode b_R_write 116 = .ok (.invokevirtual 140, 3) := by decide +kernel
theorem d_R_write_119 : decode b_R_write 119 = .ok (.iinc 2 1, 3) := by decide +kernel
theorem d_R_write_122 : decode b_R_write 122 = .ok (.goto (-31), 3) := by decide +kernel
theorem d_R_write_125 : decode b_R_write 125 = .ok (.aload_n 0, 1) := by decide +kernel
theorem d_R_write_126 : decode b_R_write 126 = .ok (.getfield 10, 3) := by decide +kernel
theorem d_R_write_129 : decode b_R_write 129 = .ok (.getfield 49, 3) := by decide +kernel
theorem d_R_write_132 : decode b_R_write 132 = .ok (.ireturn, 1) := by decide +kernel
theorem d_R_writeHead_0 : decode b_R_writeHead 0 = .ok (.iconst 0, 1) := by decide +kernel
theorem d_R_writeHead_1 : decode b_R_writeHead 1 = .ok (.istore_n 2, 1) := by decide +kernel
theorem d_R_writeHead_2 : decode b_R_writeHead 2 = .ok (.iload_n 2, 1) := by decide +kernel
theorem d_R_writeHead_3 : decode b_R_writeHead 3 = .ok (.iconst 4, 1) := by decide +kernel
theorem d_R_writeHead_4 : decode b_R_writeHead 4 = .ok (.if_icmp .ge 21, 3) := by decide +kernel
theorem d_R_writeHead_7 : decode b_R_writeHead 7 = .ok (.aload_n 0, 1) := by decide +kernel
theorem d_R_writeHead_8 : decode b_R_writeHead 8 = .ok (.getfield 10, 3) := by decide +kernel
theorem d_R_writeHead_11 : decode b_R_writeHead 11 = .ok (.getstatic 174, 3) := by decide +kernel
theorem d_R_writeHead_14 : decode b_R_writeHead 14 = .ok (.iload_n 2, 1) := by decide +kernel
theorem d_R_writeHead_15 : decode b_R_writeHead 15 = .ok (.iaload, 1) := by decide +kernel
theorem d_R_writeHead_16 : decode b_R_writeHead 16 = .ok (.invokevirtual 177, 3) := by decide +kernel
theorem d_R_writeHead_19 : decode b_R_writeHead 19 = .ok (.iinc 2 1, 3) := by decide +kernel
theorem d_R_writeHead_22 : decode b_R_writeHead 22 = .ok (.goto (-20), 3) := by decide +kernel
theorem d_R_writeHead_25 : decode b_R_writeHead 25 = .ok (.aload_n 0, 1) := by decide +kernel
theorem d_R_writeHead_26 : decode b_R_writeHead 26 = .ok (.getfield 10, 3) := by decide +kernel
theorem d_R_writeHead_29 : decode b_R_writeHead 29 = .ok (.aload_n 0, 1) := by decide +kernel
theorem d_R_writeHead_30 : decode b_R_writeHead 30 = .ok (.getfield 43, 3) := by decide +kernel
theorem d_R_writeHead_33 : decode b_R_writeHead 33 = .ok (.getfield 180, 3) := by decide +kernel
theorem d_R_writeHead_36 : decode b_R_writeHead 36 = .ok (.invokevirtual 177, 3) := by decide +kernel
theorem d_R_writeHead_39 : decode b_R_writeHead 39 = .ok (.aload_n 0, 1) := by decide +kernel
theorem d_R_writeHead_40 : decode b_R_writeHead 40 = .ok (.getfield 10, 3) := by decide +kernel
theorem d_R_writeHead_43 : decode b_R_writeHead 43 = .ok (.aload_n 0, 1) := by decide +kernel
theorem d_R_writeHead_44 : decode b_R_writeHead 44 = .ok (.getfield 43, 3) := by decide +kernel
theorem d_R_writeHead_47 : decode b_R_writeHead 47 = .ok (.getfield 183, 3) := by decide +kernel
theorem d_R_writeHead_50 : decode b_R_writeHead 50 = .ok (.invokevirtual 177, 3) := by decide +kernel
theorem d_R_writeHead_53 : decode b_R_writeHead 53 = .ok (.aload_n 0, 1) := by decide +kernel
theorem d_R_writeHead_54 : decode b_R_writeHead 54 = .ok (.getfield 10, 3) := by decide +kernel
theorem d_R_writeHead_57 : decode b_R_writeHead 57 = .ok (.iload_n 1, 1) := by decide +kernel
theorem d_R_writeHead_58 : decode b_R_writeHead 58 = .ok (.invokevirtual 186, 3) := by decide +kernel
theorem d_R_writeHead_61 : decode b_R_writeHead 61 = .ok (.return_, 1) := by decide +kernel
theorem d_R_writeObject_0 : decode b_R_writeObject 0 = .ok (.aload_n 0, 1) := by decide +kernel
theorem d_R_writeObject_1 : decode b_R_writeObject 1 = .ok (.getfield 10, 3) := by decide +kernel
theorem d_R_writeObject_4 : decode b_R_writeObject 4 = .ok (.aload_n 0, 1) := by decide +kernel
theorem d_R_writeObject_5 : decode b_R_writeObject 5 = .ok (.getfield 32, 3) := by decide +kernel
theorem d_R_writeObject_8 : decode b_R_writeObject 8 = .ok (.aload_n 0, 1) := by decide +kernel
theorem d_R_writeObject_9 : decode b_R_writeObject 9 = .ok (.getfield 43, 3) := by decide +kernel
theorem d_R_writeObject_12 : decode b_R_writeObject 12 = .ok (.aload_n 0, 1) := by decide +kernel
theorem d_R_writeObject_13 : decode b_R_writeObject 13 = .ok (.getfield 43, 3) := by decide +kernel
theorem d_R_writeObject_16 : decode b_R_writeObject 16 = .ok (.getfield 189, 3) := by decide +kernel
theorem d_R_writeObject_19 : decode b_R_writeObject 19 = .ok (.iload_n 1, 1) := by decide +kernel
theorem d_R_writeObject_20 : decode b_R_writeObject 20 = .ok (.iaload, 1) := by decide +kernel
theorem d_R_writeObject_21 : decode b_R_writeObject 21 = .ok (.invokevirtual 133, 3) := by decide +kernel
theorem d_R_writeObject_24 : decode b_R_writeObject 24 = .ok (.invokevirtual 61, 3) := by decide +kernel
theorem d_R_writeObject_27 : decode b_R_writeObject 27 = .ok (.aload_n 0, 1) := by decide +kernel
theorem d_R_writeObject_28 : decode b_R_writeObject 28 = .ok (.getfield 10, 3) := by decide +kernel
theorem d_R_writeObject_31 : decode b_R_writeObject 31 = .ok (.aload_n 0, 1) := by decide +kernel
theorem d_R_writeObject_32 : decode b_R_writeObject 32 = .ok (.getfield 43, 3) := by decide +kernel
theorem d_R_writeObject_35 : decode b_R_writeObject 35 = .ok (.getfield 103, 3) := by decide +kernel
theorem d_R_writeObject_38 : decode b_R_writeObject 38 = .ok (.iload_n 1, 1) := by decide +kernel
theorem d_R_writeObject_39 : decode b_R_writeObject 39 = .ok (.iaload, 1) := by decide +kernel
theorem d_R_writeObject_40 : decode b_R_writeObject 40 = .ok (.invokevirtual 177, 3) := by decide +kernel
theorem d_R_writeObject_43 : decode b_R_writeObject 43 = .ok (.aload_n 0, 1) := by decide +kernel
theorem d_R_writeObject_44 : decode b_R_writeObject 44 = .ok (.getfield 10, 3) := by decide +kernel
theorem d_R_writeObject_47 : decode b_R_writeObject 47 = .ok (.aload_n 0, 1) := by decide +kernel
theorem d_R_writeObject_48 : decode b_R_writeObject 48 = .ok (.getfield 43, 3) := by decide +kernel
theorem d_R_writeObject_51 : decode b_R_writeObject 51 = .ok (.getfield 110, 3) := by decide +kernel
theorem d_R_writeObject_54 : decode b_R_writeObject 54 = .ok (.iload_n 1, 1) := by decide +kernel
theorem d_R_writeObject_55 : decode b_R_writeObject 55 = .ok (.iaload, 1) := by decide +kernel
theorem d_R_writeObject_56 : decode b_R_writeObject 56 = .ok (.invokevirtual 186, 3) := by decide +kernel
theorem d_R_writeObject_59 : decode b_R_writeObject 59 = .ok (.iconst 0, 1) := by decide +kernel
theorem d_R_writeObject_60 : decode b_R_writeObject 60 = .ok (.istore_n 2, 1) := by decide +kernel
theorem d_R_writeObject_61 : decode b_R_writeObject 61 = .ok (.iload_n 2, 1) := by decide +kernel
theorem d_R_writeObject_62 : decode b_R_writeObject 62 = .ok (.aload_n 0, 1) := by decide +kernel
theorem d_R_writeObject_63 : decode b_R_writeObject 63 = .ok (.getfield 43, 3) := by decide +kernel
theorem d_R_writeObject_66 : decode b_R_writeObject 66 = .ok (.getfield 110, 3) := by decide +kernel
theorem d_R_writeObject_69 : decode b_R_writeObject 69 = .ok (.iload_n 1, 1) := by decide +kernel
theorem d_R_writeObject_70 : decode b_R_writeObject 70 = .ok (.iaload, 1) := by decide +kernel
theorem d_R_writeObject_71 : decode b_R_writeObject 71 = .ok (.if_icmp .ge 72, 3) := by decide +kernel
theorem d_R_writeObject_74 : decode b_R_writeObject 74 = .ok (.aload_n 0, 1) := by decide +kernel
theorem d_R_writeObject_75 : decode b_R_writeObject 75 = .ok (.getfield 43, 3) := by decide +kernel
theorem d_R_writeObject_78 : decode b_R_writeObject 78 = .ok (.getfield 192, 3) := by decide +kernel
theorem d_R_writeObject_81 : decode b_R_writeObject 81 = .ok (.aload_n 0, 1) := by decide +kernel
theorem d_R_writeObject_82 : decode b_R_writeObject 82 = .ok (.getfield 43, 3) := by decide +kernel
theorem d_R_writeObject_85 : decode b_R_writeObject 85 = .ok (.getfield 195, 3) := by decide +kernel
theorem d_R_writeObject_88 : decode b_R_writeObject 88 = .ok (.iload_n 1, 1) := by decide +kernel
theorem d_R_writeObject_89 : decode b_R_writeObject 89 = .ok (.iaload, 1) := by decide +kernel
theorem d_R_writeObject_90 : decode b_R_writeObject 90 = .ok (.iload_n 2, 1) := by decide +kernel
theorem d_R_writeObject_91 : decode b_R_writeObject 91 = .ok (.iadd, 1) := by decide +kernel
theorem d_R_writeObject_92 : decode b_R_writeObject 92 = .ok (.iaload, 1) := by decide +kernel
theorem d_R_writeObject_93 : decode b_R_writeObject 93 = .ok (.istore_n 3, 1) := by decide +kernel
theorem d_R_writeObject_94 : decode b_R_writeObject 94 = .ok (.aload_n 0, 1) := by decide +kernel
theorem d_R_writeObject_95 : decode b_R_writeObject 95 = .ok (.getfield 43, 3) := by decide +kernel
theorem d_R_writeObject_98 : decode b_R_writeObject 98 = .ok (.getfield 103, 3) := by decide +kernel
theorem d_R_writeObject_101 : decode b_R_writeObject 101 = .ok (.iload_n 1, 1) := by decide +kernel
theorem d_R_writeObject_102 : decode b_R_writeObject 102 = .ok (.iaload, 1) := by decide +kernel
theorem d_R_writeObject_103 : decode b_R_writeObject 103 = .ok (.iconst 1, 1) := by decide +kernel
theorem d_R_writeObject_104 : decode b_R_writeObject 104 = .ok (.if_icmp .ne 14, 3) := by decide +kernel
theorem d_R_writeObject_107 : decode b_R_writeObject 107 = .ok (.aload_n 0, 1) := by decide +kernel
theorem d_R_writeObject_108 : decode b_R_writeObject 108 = .ok (.getfield 10, 3) := by decide +kernel
theorem d_R_writeObject_111 : decode b_R_writeObject 111 = .ok (.iload_n 3, 1) := by decide +kernel
theorem d_R_writeObject_112 : decode b_R_writeObject 112 = .ok (.invokevirtual 177, 3) := by decide +kernel
theorem d_R_writeObject_115 : decode b_R_writeObject 115 = .ok (.goto 22, 3) := by decide +kernel
theorem d_R_writeObject_118 : decode b_R_writeObject 118 = .ok (.aload_n 0, 1) := by decide +kernel
theorem d_R_writeObject_119 : decode b_R_writeObject 119 = .ok (.getfield 10, 3) := by decide +kernel
theorem d_R_writeObject_122 : decode b_R_writeObject 122 = .ok (.aload_n 0, 1) := by decide +kernel
theorem d_R_writeObject_123 : decode b_R_writeObject 123 = .ok (.getfield 32, 3) := by decide +kernel
theorem d_R_writeObject_126 : decode b_R_writeObject 126 = .ok (.aload_n 0, 1) := by decide +kernel
theorem d_R_writeObject_127 : decode b_R_writeObject 127 = .ok (.getfield 43, 3) := by decide +kernel
theorem d_R_writeObject_130 : decode b_R_writeObject 130 = .ok (.iload_n 3, 1) := by decide +kernel
theorem d_R_writeObject_131 : decode b_R_writeObject 131 = .ok (.invokevirtual 133, 3) := by decide +kernel
theorem d_R_writeObject_134 : decode b_R_writeObject 134 = .ok (.invokevirtual 61, 3) := by decide +kernel
theorem d_R_writeObject_137 : decode b_R_writeObject 137 = .ok (.iinc 2 1, 3) := by decide +kernel
theorem d_R_writeObject_140 : decode b_R_writeObject 140 = .ok (.goto (-79), 3) := by decide +kernel
theorem d_R_writeObject_143 : decode b_R_writeObject 143 = .ok (.return_, 1) := by decide +kernel
theorem d_W_clear_0 : decode b_W_clear 0 = .ok (.aload_n 0, 1) := by decide +kernel
theorem d_W_clear_1 : decode b_W_clear 1 = .ok (.iconst 0, 1) := by decide +kernel
theorem d_W_clear_2 : decode b_W_clear 2 = .ok (.putfield 35, 3) := by decide +kernel
theorem d_W_clear_5 : decode b_W_clear 5 = .ok (.aload_n 0, 1) := by decide +kernel
theorem d_W_clear_6 : decode b_W_clear 6 = .ok (.getfield 9, 3) := by decide +kernel
theorem d_W_clear_9 : decode b_W_clear 9 = .ok (.arraylength, 1) := by decide +kernel
theorem d_W_clear_10 : decode b_W_clear 10 = .ok (.aload_n 1, 1) := by decide +kernel
theorem d_W_clear_11 : decode b_W_clear 11 = .ok (.getfield 52, 3) := by decide +kernel
theorem d_W_clear_14 : decode b_W_clear 14 = .ok (.arraylength, 1) := by decide +kernel
theorem d_W_clear_15 : decode b_W_clear 15 = .ok (.if_icmp .ge 25, 3) := by decide +kernel
theorem d_W_clear_18 : decode b_W_clear 18 = .ok (.aload_n 0, 1) := by decide +kernel
theorem d_W_clear_19 : decode b_W_clear 19 = .ok (.aload_n 1, 1) := by decide +kernel
theorem d_W_clear_20 : decode b_W_clear 20 = .ok (.getfield 52, 3) := by decide +kernel
theorem d_W_clear_23 : decode b_W_clear 23 = .ok (.arraylength, 1) := by decide +kernel
theorem d_W_clear_24 : decode b_W_clear 24 = .ok (.newarray .int, 2) := by decide +kernel
theorem d_W_clear_26 : decode b_W_clear 26 = .ok (.putfield 9, 3) := by decide +kernel
theorem d_W_clear_29 : decode b_W_clear 29 = .ok (.aload_n 0, 1) := by decide +kernel
theorem d_W_clear_30 : decode b_W_clear 30 = .ok (.aload_n 1, 1) := by decide +kernel
theorem d_W_clear_31 : decode b_W_clear 31 = .ok (.getfield 52, 3) := by decide +kernel
theorem d_W_clear_34 : decode b_W_clear 34 = .ok (.arraylength, 1) := by decide +kernel
theorem d_W_clear_35 : decode b_W_clear 35 = .ok (.newarray .int, 2) := by decide +kernel
theorem d_W_clear_37 : decode b_W_clear 37 = .ok (.putfield 15, 3) := by decide +kernel
theorem d_W_clear_40 : decode b_W_clear 40 = .ok (.aload_n 0, 1) := by decide +kernel
theorem d_W_clear_41 : decode b_W_clear 41 = .ok (.getfield 9, 3) := by decide +kernel
theorem d_W_clear_44 : decode b_W_clear 44 = .ok (.iconst 0, 1) := by decide +kernel
theorem d_W_clear_45 : decode b_W_clear 45 = .ok (.invokestatic 55, 3) := by decide +kernel
theorem d_W_clear_48 : decode b_W_clear 48 = .ok (.return_, 1) := by decide +kernel
theorem d_W_init_0 : decode b_W_init 0 = .ok (.aload_n 0, 1) := by decide +kernel
theorem d_W_init_1 : decode b_W_init 1 = .ok (.invokespecial 3, 3) := by decide +kernel
theorem d_W_init_4 : decode b_W_init 4 = .ok (.aload_n 0, 1) := by decide +kernel
theorem d_W_init_5 : decode b_W_init 5 = .ok (.bipush 64, 2) := by decide +kernel
theorem d_W_init_7 : decode b_W_init 7 = .ok (.newarray .int, 2) := by decide +kernel
theorem d_W_init_9 : decode b_W_init 9 = .ok (.putfield 9, 3) := by decide +kernel
theorem d_W_init_12 : decode b_W_init 12 = .ok (.aload_n 0, 1) := by decide +kernel
theorem d_W_init_13 : decode b_W_init 13 = .ok (.bipush 64, 2) := by decide +kernel
theorem d_W_init_15 : decode b_W_init 15 = .ok (.newarray .int, 2) := by decide +kernel
theorem d_W_init_17 : decode b_W_init 17 = .ok (.putfield 15, 3) := by decide +kernel
theorem d_W_init_20 : decode b_W_init 20 = .ok (.return_, 1) := by decide +kernel
theorem d_W_numberAnew_0 : decode b_W_numberAnew 0 = .ok (.iconst 0, 1) := by decide +kernel
theorem d_W_numberAnew_1 : decode b_W_numberAnew 1 = .ok (.istore_n 2, 1) := by decide +kernel
theorem d_W_numberAnew_2 : decode b_W_numberAnew 2 = .ok (.iconst 1, 1) := by decide +kernel
theorem d_W_numberAnew_3 : decode b_W_numberAnew 3 = .ok (.istore_n 3, 1) := by decide +kernel
theorem d_W_numberAnew_4 : decode b_W_numberAnew 4 = .ok (.iload_n 3, 1) := by decide +kernel
theorem d_W_numberAnew_5 : decode b_W_numberAnew 5 = .ok (.aload_n 1, 1) := by decide +kernel
theorem d_W_numberAnew_6 : decode b_W_numberAnew 6 = .ok (.getfield 39, 3) := by decide +kernel
theorem d_W_numberAnew_9 : decode b_W_numberAnew 9 = .ok (.if_icmp .gt 28, 3) := by decide +kernel
theorem d_W_numberAnew_12 : decode b_W_numberAnew 12 = .ok (.aload_n 0, 1) := by decide +kernel
theorem d_W_numberAnew_13 : decode b_W_numberAnew 13 = .ok (.getfield 9, 3) := by decide +kernel
theorem d_W_numberAnew_16 : decode b_W_numberAnew 16 = .ok (.iload_n 3, 1) := by decide +kernel
theorem d_W_numberAnew_17 : decode b_W_numberAnew 17 = .ok (.iaload, 1) := by decide +kernel
theorem d_W_numberAnew_18 : decode b_W_numberAnew 18 = .ok (.ifCond .eq 13, 3) := by decide +kernel
theorem d_W_numberAnew_21 : decode b_W_numberAnew 21 = .ok (.iinc 2 1, 3) := by decide +kernel
theorem d_W_numberAnew_24 : decode b_W_numberAnew 24 = .ok (.aload_n 0, 1) := by decide +kernel
theorem d_W_numberAnew_25 : decode b_W_numberAnew 25 = .ok (.getfield 9, 3) := by decide +kernel
theorem d_W_numberAnew_28 : decode b_W_numberAnew 28 = .ok (.iload_n 3, 1) := by decide +kernel
theorem d_W_numberAnew_29 : decode b_W_numberAnew 29 = .ok (.iload_n 2, 1) := by decide +kernel
theorem d_W_numberAnew_30 : decode b_W_numberAnew 30 = .ok (.iastore, 1) := by decide +kernel
theorem d_W_numberAnew_31 : decode b_W_numberAnew 31 = .ok (.iinc 3 1, 3) := by decide +kernel
theorem d_W_numberAnew_34 : decode b_W_numberAnew 34 = .ok (.goto (-30), 3) := by decide +kernel
theorem d_W_numberAnew_37 : decode b_W_numberAnew 37 = .ok (.return_, 1) := by decide +kernel
theorem d_W_reach_0 : decode b_W_reach 0 = .ok (.aload_n 0, 1) := by decide +kernel
theorem d_W_reach_1 : decode b_W_reach 1 = .ok (.aload_n 1, 1) := by decide +kernel
theorem d_W_reach_2 : decode b_W_reach 2 = .ok (.invokevirtual 18, 3) := by decide +kernel
theorem d_W_reach_5 : decode b_W_reach 5 = .ok (.iconst 0, 1) := by decide +kernel
theorem d_W_reach_6 : decode b_W_reach 6 = .ok (.istore_n 2, 1) := by decide +kernel
theorem d_W_reach_7 : decode b_W_reach 7 = .ok (.iload_n 2, 1) := by decide +kernel
theorem d_W_reach_8 : decode b_W_reach 8 = .ok (.bipush 50, 2) := by decide +kernel
theorem d_W_reach_10 : decode b_W_reach 10 = .ok (.if_icmp .ge 23, 3) := by decide +kernel
theorem d_W_reach_13 : decode b_W_reach 13 = .ok (.aload_n 0, 1) := by decide +kernel
theorem d_W_reach_14 : decode b_W_reach 14 = .ok (.aload_n 1, 1) := by decide +kernel
theorem d_W_reach_15 : decode b_W_reach 15 = .ok (.aload_n 1, 1) := by decide +kernel
theorem d_W_reach_16 : decode b_W_reach 16 = .ok (.getfield 22, 3) := by decide +kernel
theorem d_W_reach_19 : decode b_W_reach 19 = .ok (.iload_n 2, 1) := by decide +kernel
theorem d_W_reach_20 : decode b_W_reach 20 = .ok (.iaload, 1) := by decide +kernel
theorem d_W_reach_21 : decode b_W_reach 21 = .ok (.invokevirtual 27, 3) := by decide +kernel
theorem d_W_reach_24 : decode b_W_reach 24 = .ok (.invokevirtual 31, 3) := by decide +kernel
theorem d_W_reach_27 : decode b_W_reach 27 = .ok (.iinc 2 1, 3) := by decide +kernel
theorem d_W_reach_30 : decode b_W_reach 30 = .ok (.goto (-23), 3) := by decide +kernel
theorem d_W_reach_33 : decode b_W_reach 33 = .ok (.iconst 0, 1) := by decide +kernel
theorem d_W_reach_34 : decode b_W_reach 34 = .ok (.istore_n 2, 1) := by decide +kernel
theorem d_W_reach_35 : decode b_W_reach 35 = .ok (.iload_n 2, 1) := by decide +kernel
theorem d_W_reach_36 : decode b_W_reach 36 = .ok (.aload_n 0, 1) := by decide +kernel
theorem d_W_reach_37 : decode b_W_reach 37 = .ok (.getfield 35, 3) := by decide +kernel
theorem d_W_reach_40 : decode b_W_reach 40 = .ok (.if_icmp .ge 75, 3) := by decide +kernel
theorem d_W_reach_43 : decode b_W_reach 43 = .ok (.iload_n 2, 1) := by decide +kernel
theorem d_W_reach_44 : decode b_W_reach 44 = .ok (.aload_n 1, 1) := by decide +kernel
theorem d_W_reach_45 : decode b_W_reach 45 = .ok (.getfield 39, 3) := by decide +kernel
theorem d_W_reach_48 : decode b_W_reach 48 = .ok (.if_icmp .ge 67, 3) := by decide +kernel
theorem d_W_reach_51 : decode b_W_reach 51 = .ok (.aload_n 0, 1) := by decide +kernel
theorem d_W_reach_52 : decode b_W_reach 52 = .ok (.getfield 15, 3) := by decide +kernel
theorem d_W_reach_55 : decode b_W_reach 55 = .ok (.iload_n 2, 1) := by decide +kernel
theorem d_W_reach_56 : decode b_W_reach 56 = .ok (.iaload, 1) := by decide +kernel
theorem d_W_reach_57 : decode b_W_reach 57 = .ok (.istore_n 3, 1) := by decide +kernel
theorem d_W_reach_58 : decode b_W_reach 58 = .ok (.aload_n 0, 1) := by decide +kernel
theorem d_W_reach_59 : decode b_W_reach 59 = .ok (.aload_n 1, 1) := by decide +kernel
theorem d_W_reach_60 : decode b_W_reach 60 = .ok (.aload_n 1, 1) := by decide +kernel
theorem d_W_reach_61 : decode b_W_reach 61 = .ok (.iload_n 3, 1) := by decide +kernel
theorem d_W_reach_62 : decode b_W_reach 62 = .ok (.invokevirtual 42, 3) := by decide +kernel
theorem d_W_reach_65 : decode b_W_reach 65 = .ok (.invokevirtual 27, 3) := by decide +kernel
theorem d_W_reach_68 : decode b_W_reach 68 = .ok (.invokevirtual 31, 3) := by decide +kernel
theorem d_W_reach_71 : decode b_W_reach 71 = .ok (.aload_n 1, 1) := by decide +kernel
theorem d_W_reach_72 : decode b_W_reach 72 = .ok (.iload_n 3, 1) := by decide +kernel
theorem d_W_reach_73 : decode b_W_reach 73 = .ok (.invokevirtual 45, 3) := by decide +kernel
theorem d_W_reach_76 : decode b_W_reach 76 = .ok (.istore 4, 2) := by decide +kernel
theorem d_W_reach_78 : decode b_W_reach 78 = .ok (.iconst 0, 1) := by decide +kernel
theorem d_W_reach_79 : decode b_W_reach 79 = .ok (.istore 5, 2) := by decide +kernel
theorem d_W_reach_81 : decode b_W_reach 81 = .ok (.iload 5, 2) := by decide +kernel
theorem d_W_reach_83 : decode b_W_reach 83 = .ok (.iload 4, 2) := by decide +kernel
theorem d_W_reach_85 : decode b_W_reach 85 = .ok (.if_icmp .ge 24, 3) := by decide +kernel
theorem d_W_reach_88 : decode b_W_reach 88 = .ok (.aload_n 0, 1) := by decide +kernel
theorem d_W_reach_89 : decode b_W_reach 89 = .ok (.aload_n 1, 1) := by decide +kernel
theorem d_W_reach_90 : decode b_W_reach 90 = .ok (.aload_n 1, 1) := by decide +kernel
theorem d_W_reach_91 : decode b_W_reach 91 = .ok (.iload_n 3, 1) := by decide +kernel
theorem d_W_reach_92 : decode b_W_reach 92 = .ok (.iload 5, 2) := by decide +kernel
theorem d_W_reach_94 : decode b_W_reach 94 = .ok (.invokevirtual 48, 3) := by decide +kernel
theorem d_W_reach_97 : decode b_W_reach 97 = .ok (.invokevirtual 27, 3) := by decide +kernel
theorem d_W_reach_100 : decode b_W_reach 100 = .ok (.invokevirtual 31, 3) := by decide +kernel
theorem d_W_reach_103 : decode b_W_reach 103 = .ok (.iinc 5 1, 3) := by decide +kernel
theorem d_W_reach_106 : decode b_W_reach 106 = .ok (.goto (-25), 3) := by decide +kernel
theorem d_W_reach_109 : decode b_W_reach 109 = .ok (.iinc 2 1, 3) := by decide +kernel
theorem d_W_reach_112 : decode b_W_reach 112 = .ok (.goto (-77), 3) := by decide +kernel
theorem d_W_reach_115 : decode b_W_reach 115 = .ok (.aload_n 0, 1) := by decide +kernel
theorem d_W_reach_116 : decode b_W_reach 116 = .ok (.getfield 35, 3) := by decide +kernel
theorem d_W_reach_119 : decode b_W_reach 119 = .ok (.ireturn, 1) := by decide +kernel
theorem d_W_renumbered_0 : decode b_W_renumbered 0 = .ok (.aload_n 1, 1) := by decide +kernel
theorem d_W_renumbered_1 : decode b_W_renumbered 1 = .ok (.iload_n 2, 1) := by decide +kernel
theorem d_W_renumbered_2 : decode b_W_renumbered 2 = .ok (.invokevirtual 27, 3) := by decide +kernel
theorem d_W_renumbered_5 : decode b_W_renumbered 5 = .ok (.istore_n 3, 1) := by decide +kernel
theorem d_W_renumbered_6 : decode b_W_renumbered 6 = .ok (.iload_n 3, 1) := by decide +kernel
theorem d_W_renumbered_7 : decode b_W_renumbered 7 = .ok (.ifCond .ne 7, 3) := by decide +kernel
theorem d_W_renumbered_10 : decode b_W_renumbered 10 = .ok (.iload_n 2, 1) := by decide +kernel
theorem d_W_renumbered_11 : decode b_W_renumbered 11 = .ok (.goto 11, 3) := by decide +kernel
theorem d_W_renumbered_14 : decode b_W_renumbered 14 = .ok (.iconst 2, 1) := by decide +kernel
theorem d_W_renumbered_15 : decode b_W_renumbered 15 = .ok (.aload_n 0, 1) := by decide +kernel
theorem d_W_renumbered_16 : decode b_W_renumbered 16 = .ok (.getfield 9, 3) := by decide +kernel
theorem d_W_renumbered_19 : decode b_W_renumbered 19 = .ok (.iload_n 3, 1) := by decide +kernel
theorem d_W_renumbered_20 : decode b_W_renumbered 20 = .ok (.iaload, 1) := by decide +kernel
theorem d_W_renumbered_21 : decode b_W_renumbered 21 = .ok (.imul, 1) := by decide +kernel
theorem d_W_renumbered_22 : decode b_W_renumbered 22 = .ok (.ireturn, 1) := by decide +kernel
theorem d_W_visit_0 : decode b_W_visit 0 = .ok (.iload_n 1, 1) := by decide +kernel
theorem d_W_visit_1 : decode b_W_visit 1 = .ok (.ifCond .eq 39, 3) := by decide +kernel
theorem d_W_visit_4 : decode b_W_visit 4 = .ok (.aload_n 0, 1) := by decide +kernel
theorem d_W_visit_5 : decode b_W_visit 5 = .ok (.getfield 9, 3) := by decide +kernel
theorem d_W_visit_8 : decode b_W_visit 8 = .ok (.iload_n 1, 1) := by decide +kernel
theorem d_W_visit_9 : decode b_W_visit 9 = .ok (.iaload, 1) := by decide +kernel
theorem d_W_visit_10 : decode b_W_visit 10 = .ok (.ifCond .ne 30, 3) := by decide +kernel
theorem d_W_visit_13 : decode b_W_visit 13 = .ok (.aload_n 0, 1) := by decide +kernel
theorem d_W_visit_14 : decode b_W_visit 14 = .ok (.getfield 9, 3) := by decide +kernel
theorem d_W_visit_17 : decode b_W_visit 17 = .ok (.iload_n 1, 1) := by decide +kernel
theorem d_W_visit_18 : decode b_W_visit 18 = .ok (.iload_n 1, 1) := by decide +kernel
theorem d_W_visit_19 : decode b_W_visit 19 = .ok (.iastore, 1) := by decide +kernel
theorem d_W_visit_20 : decode b_W_visit 20 = .ok (.aload_n 0, 1) := by decide +kernel
theorem d_W_visit_21 : decode b_W_visit 21 = .ok (.getfield 15, 3) := by decide +kernel
theorem d_W_visit_24 : decode b_W_visit 24 = .ok (.aload_n 0, 1) := by decide +kernel
theorem d_W_visit_25 : decode b_W_visit 25 = .ok (.getfield 35, 3) := by decide +kernel
theorem d_W_visit_28 : decode b_W_visit 28 = .ok (.iload_n 1, 1) := by decide +kernel
theorem d_W_visit_29 : decode b_W_visit 29 = .ok (.iastore, 1) := by decide +kernel
theorem d_W_visit_30 : decode b_W_visit 30 = .ok (.aload_n 0, 1) := by decide +kernel
theorem d_W_visit_31 : decode b_W_visit 31 = .ok (.dup, 1) := by decide +kernel
theorem d_W_visit_32 : decode b_W_visit 32 = .ok (.getfield 35, 3) := by decide +kernel
theorem d_W_visit_35 : decode b_W_visit 35 = .ok (.iconst 1, 1) := by decide +kernel
theorem d_W_visit_36 : decode b_W_visit 36 = .ok (.iadd, 1) := by decide +kernel
theorem d_W_visit_37 : decode b_W_visit 37 = .ok (.putfield 35, 3) := by decide +kernel
theorem d_W_visit_40 : decode b_W_visit 40 = .ok (.return_, 1) := by decide +kernel
theorem d_M_byteAt_0 : decode b_M_byteAt 0 = .ok (.aload_n 0, 1) := by decide +kernel
theorem d_M_byteAt_1 : decode b_M_byteAt 1 = .ok (.iconst 0, 1) := by decide +kernel
theorem d_M_byteAt_2 : decode b_M_byteAt 2 = .ok (.putfield 36, 3) := by decide +kernel
theorem d_M_byteAt_5 : decode b_M_byteAt 5 = .ok (.aload_n 0, 1) := by decide +kernel
theorem d_M_byteAt_6 : decode b_M_byteAt 6 = .ok (.iload_n 1, 1) := by decide +kernel
theorem d_M_byteAt_7 : decode b_M_byteAt 7 = .ok (.invokevirtual 156, 3) := by decide +kernel
theorem d_M_byteAt_10 : decode b_M_byteAt 10 = .ok (.ifCond .eq 44, 3) := by decide +kernel
theorem d_M_byteAt_13 : decode b_M_byteAt 13 = .ok (.aload_n 0, 1) := by decide +kernel
theorem d_M_byteAt_14 : decode b_M_byteAt 14 = .ok (.getfield 14, 3) := by decide +kernel
theorem d_M_byteAt_17 : decode b_M_byteAt 17 = .ok (.aload_n 0, 1) := by decide +kernel
theorem d_M_byteAt_18 : decode b_M_byteAt 18 = .ok (.getfield 20, 3) := by decide +kernel
theorem d_M_byteAt_21 : decode b_M_byteAt 21 = .ok (.iload_n 1, 1) := by decide +kernel
theorem d_M_byteAt_22 : decode b_M_byteAt 22 = .ok (.iaload, 1) := by decide +kernel
theorem d_M_byteAt_23 : decode b_M_byteAt 23 = .ok (.invokestatic 50, 3) := by decide +kernel
theorem d_M_byteAt_26 : decode b_M_byteAt 26 = .ok (.ifCond .eq 28, 3) := by decide +kernel
theorem d_M_byteAt_29 : decode b_M_byteAt 29 = .ok (.iload_n 2, 1) := by decide +kernel
theorem d_M_byteAt_30 : decode b_M_byteAt 30 = .ok (.ifCond .lt 24, 3) := by decide +kernel
theorem d_M_byteAt_33 : decode b_M_byteAt 33 = .ok (.iload_n 2, 1) := by decide +kernel
theorem d_M_byteAt_34 : decode b_M_byteAt 34 = .ok (.aload_n 0, 1) := by decide +kernel
theorem d_M_byteAt_35 : decode b_M_byteAt 35 = .ok (.getfield 14, 3) := by decide +kernel
theorem d_M_byteAt_38 : decode b_M_byteAt 38 = .ok (.aload_n 0, 1) := by decide +kernel
theorem d_M_byteAt_39 : decode b_M_byteAt 39 = .ok (.getfield 20, 3) := by decide +kernel
theorem d_M_byteAt_42 : decode b_M_byteAt 42 = .ok (.iload_n 1, 1) := by decide +kernel
theorem d_M_byteAt_43 : decode b_M_byteAt 43 = .ok (.iaload, 1) := by decide +kernel
theorem d_M_byteAt_44 : decode b_M_byteAt 44 = .ok (.invokestatic 54, 3) := by decide +kernel
theorem d_M_byteAt_47 : decode b_M_byteAt 47 = .ok (.if_icmp .ge 7, 3) := by decide +kernel
theorem d_M_byteAt_50 : decode b_M_byteAt 50 = .ok (.iconst 1, 1) := by decide +kernel
theorem d_M_byteAt_51 : decode b_M_byteAt 51 = .ok (.goto 4, 3) := by decide +kernel
theorem d_M_byteAt_54 : decode b_M_byteAt 54 = .ok (.iconst 0, 1) := by decide +kernel
theorem d_M_byteAt_55 : decode b_M_byteAt 55 = .ok (.istore_n 3, 1) := by decide +kernel
theorem d_M_byteAt_56 : decode b_M_byteAt 56 = .ok (.iload_n 3, 1) := by decide +kernel
theorem d_M_byteAt_57 : decode b_M_byteAt 57 = .ok (.ifCond .eq 26, 3) := by decide +kernel
theorem d_M_byteAt_60 : decode b_M_byteAt 60 = .ok (.aload_n 0, 1) := by decide +kernel
theorem d_M_byteAt_61 : decode b_M_byteAt 61 = .ok (.getfield 14, 3) := by decide +kernel
theorem d_M_byteAt_64 : decode b_M_byteAt 64 = .ok (.aload_n 0, 1) := by decide +kernel
theorem d_M_byteAt_65 : decode b_M_byteAt 65 = .ok (.getfield 20, 3) := by decide +kernel
theorem d_M_byteAt_68 : decode b_M_byteAt 68 = .ok (.iload_n 1, 1) := by decide +kernel
theorem d_M_byteAt_69 : decode b_M_byteAt 69 = .ok (.iaload, 1) := by decide +kernel
theorem d_M_byteAt_70 : decode b_M_byteAt 70 = .ok (.bipush 7, 2) := by decide +kernel
theorem d_M_byteAt_72 : decode b_M_byteAt 72 = .ok (.iadd, 1) := by decide +kernel
theorem d_M_byteAt_73 : decode b_M_byteAt 73 = .ok (.iload_n 2, 1) := by decide +kernel
theorem d_M_byteAt_74 : decode b_M_byteAt 74 = .ok (.iadd, 1) := by decide +kernel
theorem d_M_byteAt_75 : decode b_M_byteAt 75 = .ok (.baload, 1) := by decide +kernel
theorem d_M_byteAt_76 : decode b_M_byteAt 76 = .ok (.sipush 255, 3) := by decide +kernel
theorem d_M_byteAt_79 : decode b_M_byteAt 79 = .ok (.iand, 1) := by decide +kernel
theorem d_M_byteAt_80 : decode b_M_byteAt 80 = .ok (.goto 4, 3) := by decide +kernel
theorem d_M_byteAt_83 : decode b_M_byteAt 83 = .ok (.iconst (-1), 1) := by decide +kernel
theorem d_M_byteAt_84 : decode b_M_byteAt 84 = .ok (.ireturn, 1) := by decide +kernel
theorem d_M_came_0 : decode b_M_came 0 = .ok (.aload_n 0, 1) := by decide +kernel
theorem d_M_came_1 : decode b_M_came 1 = .ok (.iconst 0, 1) := by decide +kernel
theorem d_M_came_2 : decode b_M_came 2 = .ok (.putfield 36, 3) := by decide +kernel
theorem d_M_came_5 : decode b_M_came 5 = .ok (.iload_n 1, 1) := by decide +kernel
theorem d_M_came_6 : decode b_M_came 6 = .ok (.ifCond .lt 11, 3) := by decide +kernel
theorem d_M_came_9 : decode b_M_came 9 = .ok (.iload_n 1, 1) := by decide +kernel
theorem d_M_came_10 : decode b_M_came 10 = .ok (.aload_n 0, 1) := by decide +kernel
theorem d_M_came_11 : decode b_M_came 11 = .ok (.getfield 40, 3) := by decide +kernel
theorem d_M_came_14 : decode b_M_came 14 = .ok (.if_icmp .lt 7, 3) := by decide +kernel
theorem d_M_came_17 : decode b_M_came 17 = .ok (.iconst (-1), 1) := by decide +kernel
theorem d_M_came_18 : decode b_M_came 18 = .ok (.goto 13, 3) := by decide +kernel
theorem d_M_came_21 : decode b_M_came 21 = .ok (.aload_n 0, 1) := by decide +kernel
theorem d_M_came_22 : decode b_M_came 22 = .ok (.getfield 8, 3) := by decide +kernel
theorem d_M_came_25 : decode b_M_came 25 = .ok (.iload_n 1, 1) := by decide +kernel
theorem d_M_came_26 : decode b_M_came 26 = .ok (.baload, 1) := by decide +kernel
theorem d_M_came_27 : decode b_M_came 27 = .ok (.sipush 255, 3) := by decide +kernel
theorem d_M_came_30 : decode b_M_came 30 = .ok (.iand, 1) := by decide +kernel
theorem d_M_came_31 : decode b_M_came 31 = .ok (.ireturn, 1) := by decide +kernel
end
section
theorem d_M_change_0 : decode b_M_change 0 = .ok (.aload_n 0, 1) := by decide +kernel
theorem d_M_change_1 : decode b_M_change 1 = .ok (.iconst 0, 1) := by decide +kernel
theorem d_M_change_2 : decode b_M_change 2 = .ok (.putfield 36, 3) := by decide +kernel
theorem d_M_change_5 : decode b_M_change 5 = .ok (.iload_n 1, 1) := by decide +kernel
theorem d_M_change_6 : decode b_M_change 6 = .ok (.ifCond .lt 22, 3) := by decide +kernel
theorem d_M_change_9 : decode b_M_change 9 = .ok (.iload_n 1, 1) := by decide +kernel
theorem d_M_change_10 : decode b_M_change 10 = .ok (.aload_n 0, 1) := by decide +kernel
theorem d_M_change_11 : decode b_M_change 11 = .ok (.getfield 40, 3) := by decide +kernel
theorem d_M_change_14 : decode b_M_change 14 = .ok (.if_icmp .ge 14, 3) := by decide +kernel
theorem d_M_change_17 : decode b_M_change 17 = .ok (.iload_n 2, 1) := by decide +kernel
theorem d_M_change_18 : decode b_M_change 18 = .ok (.ifCond .lt 10, 3) := by decide +kernel
theorem d_M_change_21 : decode b_M_change 21 = .ok (.iload_n 2, 1) := by decide +kernel
theorem d_M_change_22 : decode b_M_change 22 = .ok (.sipush 255, 3) := by decide +kernel
theorem d_M_change_25 : decode b_M_change 25 = .ok (.if_icmp .le 5, 3) := by decide +kernel
theorem d_M_change_28 : decode b_M_change 28 = .ok (.iconst (-1), 1) := by decide +kernel
theorem d_M_change_29 : decode b_M_change 29 = .ok (.ireturn, 1) := by decide +kernel
theorem d_M_change_30 : decode b_M_change 30 = .ok (.aload_n 0, 1) := by decide +kernel
theorem d_M_change_31 : decode b_M_change 31 = .ok (.getfield 8, 3) := by decide +kernel
theorem d_M_change_34 : decode b_M_change 34 = .ok (.iload_n 1, 1) := by decide +kernel
theorem d_M_change_35 : decode b_M_change 35 = .ok (.baload, 1) := by decide +kernel
theorem d_M_change_36 : decode b_M_change 36 = .ok (.sipush 255, 3) := by decide +kernel
theorem d_M_change_39 : decode b_M_change 39 = .ok (.iand, 1) := by decide +kernel
theorem d_M_change_40 : decode b_M_change 40 = .ok (.istore_n 3, 1) := by decide +kernel
theorem d_M_change_41 : decode b_M_change 41 = .ok (.aload_n 0, 1) := by decide +kernel
theorem d_M_change_42 : decode b_M_change 42 = .ok (.getfield 8, 3) := by decide +kernel
theorem d_M_change_45 : decode b_M_change 45 = .ok (.iload_n 1, 1) := by decide +kernel
theorem d_M_change_46 : decode b_M_change 46 = .ok (.iload_n 2, 1) := by decide +kernel
theorem d_M_change_47 : decode b_M_change 47 = .ok (.i2b, 1) := by decide +kernel
theorem d_M_change_48 : decode b_M_change 48 = .ok (.bastore, 1) := by decide +kernel
theorem d_M_change_49 : decode b_M_change 49 = .ok (.iload_n 3, 1) := by decide +kernel
theorem d_M_change_50 : decode b_M_change 50 = .ok (.ireturn, 1) := by decide +kernel
theorem d_M_classOf_0 : decode b_M_classOf 0 = .ok (.aload_n 0, 1) := by decide +kernel
theorem d_M_classOf_1 : decode b_M_classOf 1 = .ok (.iconst 0, 1) := by decide +kernel
theorem d_M_classOf_2 : decode b_M_classOf 2 = .ok (.putfield 36, 3) := by decide +kernel
theorem d_M_classOf_5 : decode b_M_classOf 5 = .ok (.aload_n 0, 1) := by decide +kernel
theorem d_M_classOf_6 : decode b_M_classOf 6 = .ok (.iload_n 1, 1) := by decide +kernel
theorem d_M_classOf_7 : decode b_M_classOf 7 = .ok (.invokevirtual 156, 3) := by decide +kernel
theorem d_M_classOf_10 : decode b_M_classOf 10 = .ok (.ifCond .eq 19, 3) := by decide +kernel
theorem d_M_classOf_13 : decode b_M_classOf 13 = .ok (.aload_n 0, 1) := by decide +kernel
theorem d_M_classOf_14 : decode b_M_classOf 14 = .ok (.getfield 14, 3) := by decide +kernel
theorem d_M_classOf_17 : decode b_M_classOf 17 = .ok (.aload_n 0, 1) := by decide +kernel
theorem d_M_classOf_18 : decode b_M_classOf 18 = .ok (.getfield 20, 3) := by decide +kernel
theorem d_M_classOf_21 : decode b_M_classOf 21 = .ok (.iload_n 1, 1) := by decide +kernel
theorem d_M_classOf_22 : decode b_M_classOf 22 = .ok (.iaload, 1) := by decide +kernel
theorem d_M_classOf_23 : decode b_M_classOf 23 = .ok (.invokestatic 47, 3) := by decide +kernel
theorem d_M_classOf_26 : decode b_M_classOf 26 = .ok (.goto 4, 3) := by decide +kernel
theorem d_M_classOf_29 : decode b_M_classOf 29 = .ok (.iconst 0, 1) := by decide +kernel
theorem d_M_classOf_30 : decode b_M_classOf 30 = .ok (.ireturn, 1) := by decide +kernel
theorem d_M_depth_0 : decode b_M_depth 0 = .ok (.aload_n 0, 1) := by decide +kernel
theorem d_M_depth_1 : decode b_M_depth 1 = .ok (.iload_n 1, 1) := by decide +kernel
theorem d_M_depth_2 : decode b_M_depth 2 = .ok (.iconst 0, 1) := by decide +kernel
theorem d_M_depth_3 : decode b_M_depth 3 = .ok (.invokevirtual 72, 3) := by decide +kernel
theorem d_M_depth_6 : decode b_M_depth 6 = .ok (.bipush 10, 2) := by decide +kernel
theorem d_M_depth_8 : decode b_M_depth 8 = .ok (.ishr, 1) := by decide +kernel
theorem d_M_depth_9 : decode b_M_depth 9 = .ok (.bipush 63, 2) := by decide +kernel
theorem d_M_depth_11 : decode b_M_depth 11 = .ok (.iand, 1) := by decide +kernel
theorem d_M_depth_12 : decode b_M_depth 12 = .ok (.ireturn, 1) := by decide +kernel
theorem d_M_end_0 : decode b_M_end 0 = .ok (.aload_n 0, 1) := by decide +kernel
theorem d_M_end_1 : decode b_M_end 1 = .ok (.iload_n 1, 1) := by decide +kernel
theorem d_M_end_2 : decode b_M_end 2 = .ok (.ifCond .lt 11, 3) := by decide +kernel
theorem d_M_end_5 : decode b_M_end 5 = .ok (.iload_n 1, 1) := by decide +kernel
theorem d_M_end_6 : decode b_M_end 6 = .ok (.aload_n 0, 1) := by decide +kernel
theorem d_M_end_7 : decode b_M_end 7 = .ok (.getfield 40, 3) := by decide +kernel
theorem d_M_end_10 : decode b_M_end 10 = .ok (.if_icmp .le 7, 3) := by decide +kernel
theorem d_M_end_13 : decode b_M_end 13 = .ok (.iconst 1, 1) := by decide +kernel
theorem d_M_end_14 : decode b_M_end 14 = .ok (.goto 4, 3) := by decide +kernel
theorem d_M_end_17 : decode b_M_end 17 = .ok (.iconst 0, 1) := by decide +kernel
theorem d_M_end_18 : decode b_M_end 18 = .ok (.putfield 36, 3) := by decide +kernel
theorem d_M_end_21 : decode b_M_end 21 = .ok (.aload_n 0, 1) := by decide +kernel
theorem d_M_end_22 : decode b_M_end 22 = .ok (.getfield 36, 3) := by decide +kernel
theorem d_M_end_25 : decode b_M_end 25 = .ok (.ifCond .le 5, 3) := by decide +kernel
theorem d_M_end_28 : decode b_M_end 28 = .ok (.iconst 0, 1) := by decide +kernel
theorem d_M_end_29 : decode b_M_end 29 = .ok (.ireturn, 1) := by decide +kernel
theorem d_M_end_30 : decode b_M_end 30 = .ok (.aload_n 0, 1) := by decide +kernel
theorem d_M_end_31 : decode b_M_end 31 = .ok (.getfield 40, 3) := by decide +kernel
theorem d_M_end_34 : decode b_M_end 34 = .ok (.istore_n 2, 1) := by decide +kernel
theorem d_M_end_35 : decode b_M_end 35 = .ok (.aload_n 0, 1) := by decide +kernel
theorem d_M_end_36 : decode b_M_end 36 = .ok (.iload_n 1, 1) := by decide +kernel
theorem d_M_end_37 : decode b_M_end 37 = .ok (.putfield 40, 3) := by decide +kernel
theorem d_M_end_40 : decode b_M_end 40 = .ok (.iload_n 2, 1) := by decide +kernel
theorem d_M_end_41 : decode b_M_end 41 = .ok (.ireturn, 1) := by decide +kernel
theorem d_M_endAt_0 : decode b_M_endAt 0 = .ok (.iload_n 1, 1) := by decide +kernel
theorem d_M_endAt_1 : decode b_M_endAt 1 = .ok (.bipush 7, 2) := by decide +kernel
theorem d_M_endAt_3 : decode b_M_endAt 3 = .ok (.iadd, 1) := by decide +kernel
theorem d_M_endAt_4 : decode b_M_endAt 4 = .ok (.aload_n 0, 1) := by decide +kernel
theorem d_M_endAt_5 : decode b_M_endAt 5 = .ok (.iload_n 1, 1) := by decide +kernel
theorem d_M_endAt_6 : decode b_M_endAt 6 = .ok (.invokestatic 50, 3) := by decide +kernel
theorem d_M_endAt_9 : decode b_M_endAt 9 = .ok (.ifCond .eq 7, 3) := by decide +kernel
theorem d_M_endAt_12 : decode b_M_endAt 12 = .ok (.iconst 1, 1) := by decide +kernel
theorem d_M_endAt_13 : decode b_M_endAt 13 = .ok (.goto 4, 3) := by decide +kernel
theorem d_M_endAt_16 : decode b_M_endAt 16 = .ok (.iconst 4, 1) := by decide +kernel
theorem d_M_endAt_17 : decode b_M_endAt 17 = .ok (.aload_n 0, 1) := by decide +kernel
theorem d_M_endAt_18 : decode b_M_endAt 18 = .ok (.iload_n 1, 1) := by decide +kernel
theorem d_M_endAt_19 : decode b_M_endAt 19 = .ok (.invokestatic 54, 3) := by decide +kernel
theorem d_M_endAt_22 : decode b_M_endAt 22 = .ok (.imul, 1) := by decide +kernel
theorem d_M_endAt_23 : decode b_M_endAt 23 = .ok (.iadd, 1) := by decide +kernel
theorem d_M_endAt_24 : decode b_M_endAt 24 = .ok (.ireturn, 1) := by decide +kernel
theorem d_M_feed_0 : decode b_M_feed 0 = .ok (.aload_n 0, 1) := by decide +kernel
theorem d_M_feed_1 : decode b_M_feed 1 = .ok (.aload_n 0, 1) := by decide +kernel
theorem d_M_feed_2 : decode b_M_feed 2 = .ok (.getfield 40, 3) := by decide +kernel
theorem d_M_feed_5 : decode b_M_feed 5 = .ok (.bipush 20, 2) := by decide +kernel
theorem d_M_feed_7 : decode b_M_feed 7 = .ok (.iadd, 1) := by decide +kernel
theorem d_M_feed_8 : decode b_M_feed 8 = .ok (.ldc 7, 2) := by decide +kernel
theorem d_M_feed_10 : decode b_M_feed 10 = .ok (.if_icmp .le 7, 3) := by decide +kernel
theorem d_M_feed_13 : decode b_M_feed 13 = .ok (.iconst 1, 1) := by decide +kernel
theorem d_M_feed_14 : decode b_M_feed 14 = .ok (.goto 4, 3) := by decide +kernel
theorem d_M_feed_17 : decode b_M_feed 17 = .ok (.iconst 0, 1) := by decide +kernel
theorem d_M_feed_18 : decode b_M_feed 18 = .ok (.putfield 36, 3) := by decide +kernel
theorem d_M_feed_21 : decode b_M_feed 21 = .ok (.iconst 0, 1) := by decide +kernel
theorem d_M_feed_22 : decode b_M_feed 22 = .ok (.istore 6, 2) := by decide +kernel
theorem d_M_feed_24 : decode b_M_feed 24 = .ok (.iload 6, 2) := by decide +kernel
theorem d_M_feed_26 : decode b_M_feed 26 = .ok (.bipush 20, 2) := by decide +kernel
theorem d_M_feed_28 : decode b_M_feed 28 = .ok (.if_icmp .ge 97, 3) := by decide +kernel
theorem d_M_feed_31 : decode b_M_feed 31 = .ok (.aload_n 0, 1) := by decide +kernel
theorem d_M_feed_32 : decode b_M_feed 32 = .ok (.getfield 36, 3) := by decide +kernel
theorem d_M_feed_35 : decode b_M_feed 35 = .ok (.ifCond .ne 90, 3) := by decide +kernel
theorem d_M_feed_38 : decode b_M_feed 38 = .ok (.iload 6, 2) := by decide +kernel
theorem d_M_feed_40 : decode b_M_feed 40 = .ok (.iconst 4, 1) := by decide +kernel
theorem d_M_feed_41 : decode b_M_feed 41 = .ok (.if_icmp .ge 7, 3) := by decide +kernel
theorem d_M_feed_44 : decode b_M_feed 44 = .ok (.iload_n 1, 1) := by decide +kernel
theorem d_M_feed_45 : decode b_M_feed 45 = .ok (.goto 39, 3) := by decide +kernel
theorem d_M_feed_48 : decode b_M_feed 48 = .ok (.iload 6, 2) := by decide +kernel
theorem d_M_feed_50 : decode b_M_feed 50 = .ok (.bipush 8, 2) := by decide +kernel
theorem d_M_feed_52 : decode b_M_feed 52 = .ok (.if_icmp .ge 7, 3) := by decide +kernel
theorem d_M_feed_55 : decode b_M_feed 55 = .ok (.iload_n 2, 1) := by decide +kernel
theorem d_M_feed_56 : decode b_M_feed 56 = .ok (.goto 28, 3) := by decide +kernel
theorem d_M_feed_59 : decode b_M_feed 59 = .ok (.iload 6, 2) := by decide +kernel
theorem d_M_feed_61 : decode b_M_feed 61 = .ok (.bipush 12, 2) := by decide +kernel
theorem d_M_feed_63 : decode b_M_feed 63 = .ok (.if_icmp .ge 7, 3) := by decide +kernel
theorem d_M_feed_66 : decode b_M_feed 66 = .ok (.iload_n 3, 1) := by decide +kernel
theorem d_M_feed_67 : decode b_M_feed 67 = .ok (.goto 17, 3) := by decide +kernel
theorem d_M_feed_70 : decode b_M_feed 70 = .ok (.iload 6, 2) := by decide +kernel
theorem d_M_feed_72 : decode b_M_feed 72 = .ok (.bipush 16, 2) := by decide +kernel
theorem d_M_feed_74 : decode b_M_feed 74 = .ok (.if_icmp .ge 8, 3) := by decide +kernel
theorem d_M_feed_77 : decode b_M_feed 77 = .ok (.iload 4, 2) := by decide +kernel
theorem d_M_feed_79 : decode b_M_feed 79 = .ok (.goto 5, 3) := by decide +kernel
theorem d_M_feed_82 : decode b_M_feed 82 = .ok (.iload 5, 2) := by decide +kernel
theorem d_M_feed_84 : decode b_M_feed 84 = .ok (.istore 7, 2) := by decide +kernel
theorem d_M_feed_86 : decode b_M_feed 86 = .ok (.aload_n 0, 1) := by decide +kernel
theorem d_M_feed_87 : decode b_M_feed 87 = .ok (.getfield 8, 3) := by decide +kernel
theorem d_M_feed_90 : decode b_M_feed 90 = .ok (.aload_n 0, 1) := by decide +kernel
theorem d_M_feed_91 : decode b_M_feed 91 = .ok (.getfield 40, 3) := by decide +kernel
theorem d_M_feed_94 : decode b_M_feed 94 = .ok (.iload 7, 2) := by decide +kernel
theorem d_M_feed_96 : decode b_M_feed 96 = .ok (.bipush 24, 2) := by decide +kernel
theorem d_M_feed_98 : decode b_M_feed 98 = .ok (.bipush 8, 2) := by decide +kernel
theorem d_M_feed_100 : decode b_M_feed 100 = .ok (.iload 6, 2) := by decide +kernel
theorem d_M_feed_102 : decode b_M_feed 102 = .ok (.iconst 4, 1) := by decide +kernel
theorem d_M_feed_103 : decode b_M_feed 103 = .ok (.irem, 1) := by decide +kernel
theorem d_M_feed_104 : decode b_M_feed 104 = .ok (.imul, 1) := by decide +kernel
theorem d_M_feed_105 : decode b_M_feed 105 = .ok (.isub, 1) := by decide +kernel
theorem d_M_feed_106 : decode b_M_feed 106 = .ok (.ishr, 1) := by decide +kernel
theorem d_M_feed_107 : decode b_M_feed 107 = .ok (.i2b, 1) := by decide +kernel
theorem d_M_feed_108 : decode b_M_feed 108 = .ok (.bastore, 1) := by decide +kernel
theorem d_M_feed_109 : decode b_M_feed 109 = .ok (.aload_n 0, 1) := by decide +kernel
theorem d_M_feed_110 : decode b_M_feed 110 = .ok (.dup, 1) := by decide +kernel
theorem d_M_feed_111 : decode b_M_feed 111 = .ok (.getfield 40, 3) := by decide +kernel
theorem d_M_feed_114 : decode b_M_feed 114 = .ok (.iconst 1, 1) := by decide +kernel
theorem d_M_feed_115 : decode b_M_feed 115 = .ok (.iadd, 1) := by decide +kernel
theorem d_M_feed_116 : decode b_M_feed 116 = .ok (.putfield 40, 3) := by decide +kernel
theorem d_M_feed_119 : decode b_M_feed 119 = .ok (.iinc 6 1, 3) := by decide +kernel
theorem d_M_feed_122 : decode b_M_feed 122 = .ok (.goto (-98), 3) := by decide +kernel
theorem d_M_feed_125 : decode b_M_feed 125 = .ok (.return_, 1) := by decide +kernel
theorem d_M_field_0 : decode b_M_field 0 = .ok (.aload_n 0, 1) := by decide +kernel
theorem d_M_field_1 : decode b_M_field 1 = .ok (.iconst 0, 1) := by decide +kernel
theorem d_M_field_2 : decode b_M_field 2 = .ok (.putfield 36, 3) := by decide +kernel
theorem d_M_field_5 : decode b_M_field 5 = .ok (.aload_n 0, 1) := by decide +kernel
theorem d_M_field_6 : decode b_M_field 6 = .ok (.iload_n 1, 1) := by decide +kernel
theorem d_M_field_7 : decode b_M_field 7 = .ok (.invokevirtual 156, 3) := by decide +kernel
theorem d_M_field_10 : decode b_M_field 10 = .ok (.ifCond .eq 44, 3) := by decide +kernel
theorem d_M_field_13 : decode b_M_field 13 = .ok (.aload_n 0, 1) := by decide +kernel
theorem d_M_field_14 : decode b_M_field 14 = .ok (.getfield 14, 3) := by decide +kernel
theorem d_M_field_17 : decode b_M_field 17 = .ok (.aload_n 0, 1) := by decide +kernel
theorem d_M_field_18 : decode b_M_field 18 = .ok (.getfield 20, 3) := by decide +kernel
theorem d_M_field_21 : decode b_M_field 21 = .ok (.iload_n 1, 1) := by decide +kernel
theorem d_M_field_22 : decode b_M_field 22 = .ok (.iaload, 1) := by decide +kernel
theorem d_M_field_23 : decode b_M_field 23 = .ok (.invokestatic 50, 3) := by decide +kernel
theorem d_M_field_26 : decode b_M_field 26 = .ok (.ifCond .ne 28, 3) := by decide +kernel
theorem d_M_field_29 : decode b_M_field 29 = .ok (.iload_n 2, 1) := by decide +kernel
theorem d_M_field_30 : decode b_M_field 30 = .ok (.ifCond .lt 24, 3) := by decide +kernel
theorem d_M_field_33 : decode b_M_field 33 = .ok (.iload_n 2, 1) := by decide +kernel
theorem d_M_field_34 : decode b_M_field 34 = .ok (.aload_n 0, 1) := by decide +kernel
theorem d_M_field_35 : decode b_M_field 35 = .ok (.getfield 14, 3) := by decide +kernel
theorem d_M_field_38 : decode b_M_field 38 = .ok (.aload_n 0, 1) := by decide +kernel
theorem d_M_field_39 : decode b_M_field 39 = .ok (.getfield 20, 3) := by decide +kernel
theorem d_M_field_42 : decode b_M_field 42 = .ok (.iload_n 1, 1) := by decide +kernel
theorem d_M_field_43 : decode b_M_field 43 = .ok (.iaload, 1) := by decide +kernel
theorem d_M_field_44 : decode b_M_field 44 = .ok (.invokestatic 54, 3) := by decide +kernel
theorem d_M_field_47 : decode b_M_field 47 = .ok (.if_icmp .ge 7, 3) := by decide +kernel
theorem d_M_field_50 : decode b_M_field 50 = .ok (.iconst 1, 1) := by decide +kernel
theorem d_M_field_51 : decode b_M_field 51 = .ok (.goto 4, 3) := by decide +kernel
theorem d_M_field_54 : decode b_M_field 54 = .ok (.iconst 0, 1) := by decide +kernel
theorem d_M_field_55 : decode b_M_field 55 = .ok (.istore_n 3, 1) := by decide +kernel
theorem d_M_field_56 : decode b_M_field 56 = .ok (.iload_n 3, 1) := by decide +kernel
theorem d_M_field_57 : decode b_M_field 57 = .ok (.ifCond .eq 20, 3) := by decide +kernel
theorem d_M_field_60 : decode b_M_field 60 = .ok (.aload_n 0, 1) := by decide +kernel
theorem d_M_field_61 : decode b_M_field 61 = .ok (.getfield 14, 3) := by decide +kernel
theorem d_M_field_64 : decode b_M_field 64 = .ok (.aload_n 0, 1) := by decide +kernel
theorem d_M_field_65 : decode b_M_field 65 = .ok (.getfield 20, 3) := by decide +kernel
theorem d_M_field_68 : decode b_M_field 68 = .ok (.iload_n 1, 1) := by decide +kernel
theorem d_M_field_69 : decode b_M_field 69 = .ok (.iaload, 1) := by decide +kernel
theorem d_M_field_70 : decode b_M_field 70 = .ok (.iload_n 2, 1) := by decide +kernel
theorem d_M_field_71 : decode b_M_field 71 = .ok (.invokestatic 61, 3) := by decide +kernel
theorem d_M_field_74 : decode b_M_field 74 = .ok (.goto 4, 3) := by decide +kernel
theorem d_M_field_77 : decode b_M_field 77 = .ok (.iconst 0, 1) := by decide +kernel
theorem d_M_field_78 : decode b_M_field 78 = .ok (.ireturn, 1) := by decide +kernel
theorem d_M_fieldAt_0 : decode b_M_fieldAt 0 = .ok (.aload_n 0, 1) := by decide +kernel
theorem d_M_fieldAt_1 : decode b_M_fieldAt 1 = .ok (.iload_n 1, 1) := by decide +kernel
theorem d_M_fieldAt_2 : decode b_M_fieldAt 2 = .ok (.bipush 7, 2) := by decide +kernel
theorem d_M_fieldAt_4 : decode b_M_fieldAt 4 = .ok (.iadd, 1) := by decide +kernel
theorem d_M_fieldAt_5 : decode b_M_fieldAt 5 = .ok (.iconst 4, 1) := by decide +kernel
theorem d_M_fieldAt_6 : decode b_M_fieldAt 6 = .ok (.iload_n 2, 1) := by decide +kernel
theorem d_M_fieldAt_7 : decode b_M_fieldAt 7 = .ok (.imul, 1) := by decide +kernel
theorem d_M_fieldAt_8 : decode b_M_fieldAt 8 = .ok (.iadd, 1) := by decide +kernel
theorem d_M_fieldAt_9 : decode b_M_fieldAt 9 = .ok (.invokestatic 47, 3) := by decide +kernel
theorem d_M_fieldAt_12 : decode b_M_fieldAt 12 = .ok (.ireturn, 1) := by decide +kernel
theorem d_M_fieldOf_0 : decode b_M_fieldOf 0 = .ok (.aload_n 0, 1) := by decide +kernel
theorem d_M_fieldOf_1 : decode b_M_fieldOf 1 = .ok (.getfield 8, 3) := by decide +kernel
theorem d_M_fieldOf_4 : decode b_M_fieldOf 4 = .ok (.aload_n 0, 1) := by decide +kernel
theorem d_M_fieldOf_5 : decode b_M_fieldOf 5 = .ok (.getfield 20, 3) := by decide +kernel
theorem d_M_fieldOf_8 : decode b_M_fieldOf 8 = .ok (.iload_n 1, 1) := by decide +kernel
theorem d_M_fieldOf_9 : decode b_M_fieldOf 9 = .ok (.iconst 2, 1) := by decide +kernel
theorem d_M_fieldOf_10 : decode b_M_fieldOf 10 = .ok (.idiv, 1) := by decide +kernel
theorem d_M_fieldOf_11 : decode b_M_fieldOf 11 = .ok (.iaload, 1) := by decide +kernel
theorem d_M_fieldOf_12 : decode b_M_fieldOf 12 = .ok (.iload_n 2, 1) := by decide +kernel
theorem d_M_fieldOf_13 : decode b_M_fieldOf 13 = .ok (.invokestatic 61, 3) := by decide +kernel
theorem d_M_fieldOf_16 : decode b_M_fieldOf 16 = .ok (.ireturn, 1) := by decide +kernel
theorem d_M_goTogether_0 : decode b_M_goTogether 0 = .ok (.aload_n 0, 1) := by decide +kernel
theorem d_M_goTogether_1 : decode b_M_goTogether 1 = .ok (.getfield 20, 3) := by decide +kernel
theorem d_M_goTogether_4 : decode b_M_goTogether 4 = .ok (.iload_n 1, 1) := by decide +kernel
theorem d_M_goTogether_5 : decode b_M_goTogether 5 = .ok (.iaload, 1) := by decide +kernel
theorem d_M_goTogether_6 : decode b_M_goTogether 6 = .ok (.istore_n 2, 1) := by decide +kernel
theorem d_M_goTogether_7 : decode b_M_goTogether 7 = .ok (.aload_n 0, 1) := by decide +kernel
theorem d_M_goTogether_8 : decode b_M_goTogether 8 = .ok (.getfield 24, 3) := by decide +kernel
theorem d_M_goTogether_11 : decode b_M_goTogether 11 = .ok (.aload_n 0, 1) := by decide +kernel
theorem d_M_goTogether_12 : decode b_M_goTogether 12 = .ok (.getfield 30, 3) := by decide +kernel
theorem d_M_goTogether_15 : decode b_M_goTogether 15 = .ok (.iload_n 1, 1) := by decide +kernel
theorem d_M_goTogether_16 : decode b_M_goTogether 16 = .ok (.iaload, 1) := by decide +kernel
theorem d_M_goTogether_17 : decode b_M_goTogether 17 = .ok (.iaload, 1) := by decide +kernel
theorem d_M_goTogether_18 : decode b_M_goTogether 18 = .ok (.istore_n 3, 1) := by decide +kernel
theorem d_M_goTogether_19 : decode b_M_goTogether 19 = .ok (.aload_n 0, 1) := by decide +kernel
theorem d_M_goTogether_20 : decode b_M_goTogether 20 = .ok (.aload_n 0, 1) := by decide +kernel
theorem d_M_goTogether_21 : decode b_M_goTogether 21 = .ok (.getfield 14, 3) := by decide +kernel
theorem d_M_goTogether_24 : decode b_M_goTogether 24 = .ok (.iload_n 2, 1) := by decide +kernel
theorem d_M_goTogether_25 : decode b_M_goTogether 25 = .ok (.invokestatic 47, 3) := by decide +kernel
theorem d_M_goTogether_28 : decode b_M_goTogether 28 = .ok (.aload_n 0, 1) := by decide +kernel
theorem d_M_goTogether_29 : decode b_M_goTogether 29 = .ok (.getfield 17, 3) := by decide +kernel
theorem d_M_goTogether_32 : decode b_M_goTogether 32 = .ok (.iload_n 3, 1) := by decide +kernel
theorem d_M_goTogether_33 : decode b_M_goTogether 33 = .ok (.invokestatic 47, 3) := by decide +kernel
theorem d_M_goTogether_36 : decode b_M_goTogether 36 = .ok (.invokevirtual 179, 3) := by decide +kernel
theorem d_M_goTogether_39 : decode b_M_goTogether 39 = .ok (.ifCond .eq 45, 3) := by decide +kernel
theorem d_M_goTogether_42 : decode b_M_goTogether 42 = .ok (.aload_n 0, 1) := by decide +kernel
theorem d_M_goTogether_43 : decode b_M_goTogether 43 = .ok (.getfield 14, 3) := by decide +kernel
theorem d_M_goTogether_46 : decode b_M_goTogether 46 = .ok (.iload_n 2, 1) := by decide +kernel
theorem d_M_goTogether_47 : decode b_M_goTogether 47 = .ok (.iconst 4, 1) := by decide +kernel
theorem d_M_goTogether_48 : decode b_M_goTogether 48 = .ok (.iadd, 1) := by decide +kernel
theorem d_M_goTogether_49 : decode b_M_goTogether 49 = .ok (.baload, 1) := by decide +kernel
theorem d_M_goTogether_50 : decode b_M_goTogether 50 = .ok (.aload_n 0, 1) := by decide +kernel
theorem d_M_goTogether_51 : decode b_M_goTogether 51 = .ok (.getfield 17, 3) := by decide +kernel
theorem d_M_goTogether_54 : decode b_M_goTogether 54 = .ok (.iload_n 3, 1) := by decide +kernel
theorem d_M_goTogether_55 : decode b_M_goTogether 55 = .ok (.iconst 4, 1) := by decide +kernel
theorem d_M_goTogether_56 : decode b_M_goTogether 56 = .ok (.iadd, 1) := by decide +kernel
theorem d_M_goTogether_57 : decode b_M_goTogether 57 = .ok (.baload, 1) := by decide +kernel
theorem d_M_goTogether_58 : decode b_M_goTogether 58 = .ok (.if_icmp .ne 26, 3) := by decide +kernel
theorem d_M_goTogether_61 : decode b_M_goTogether 61 = .ok (.aload_n 0, 1) := by decide +kernel
theorem d_M_goTogether_62 : decode b_M_goTogether 62 = .ok (.getfield 14, 3) := by decide +kernel
theorem d_M_goTogether_65 : decode b_M_goTogether 65 = .ok (.iload_n 2, 1) := by decide +kernel
theorem d_M_goTogether_66 : decode b_M_goTogether 66 = .ok (.invokestatic 54, 3) := by decide +kernel
theorem d_M_goTogether_69 : decode b_M_goTogether 69 = .ok (.aload_n 0, 1) := by decide +kernel
theorem d_M_goTogether_70 : decode b_M_goTogether 70 = .ok (.getfield 17, 3) := by decide +kernel
theorem d_M_goTogether_73 : decode b_M_goTogether 73 = .ok (.iload_n 3, 1) := by decide +kernel
theorem d_M_goTogether_74 : decode b_M_goTogether 74 = .ok (.invokestatic 54, 3) := by decide +kernel
theorem d_M_goTogether_77 : decode b_M_goTogether 77 = .ok (.if_icmp .ne 7, 3) := by decide +kernel
theorem d_M_goTogether_80 : decode b_M_goTogether 80 = .ok (.iconst 1, 1) := by decide +kernel
theorem d_M_goTogether_81 : decode b_M_goTogether 81 = .ok (.goto 4, 3) := by decide +kernel
theorem d_M_goTogether_84 : decode b_M_goTogether 84 = .ok (.iconst 0, 1) := by decide +kernel
theorem d_M_goTogether_85 : decode b_M_goTogether 85 = .ok (.istore 4, 2) := by decide +kernel
theorem d_M_goTogether_87 : decode b_M_goTogether 87 = .ok (.iconst 0, 1) := by decide +kernel
theorem d_M_goTogether_88 : decode b_M_goTogether 88 = .ok (.istore 5, 2) := by decide +kernel
theorem d_M_goTogether_90 : decode b_M_goTogether 90 = .ok (.iload 4, 2) := by decide +kernel
theorem d_M_goTogether_92 : decode b_M_goTogether 92 = .ok (.ifCond .eq 94, 3) := by decide +kernel
theorem d_M_goTogether_95 : decode b_M_goTogether 95 = .ok (.iload 5, 2) := by decide +kernel
theorem d_M_goTogether_97 : decode b_M_goTogether 97 = .ok (.aload_n 0, 1) := by decide +kernel
theorem d_M_goTogether_98 : decode b_M_goTogether 98 = .ok (.getfield 14, 3) := by decide +kernel
theorem d_M_goTogether_101 : decode b_M_goTogether 101 = .ok (.iload_n 2, 1) := by decide +kernel
theorem d_M_goTogether_102 : decode b_M_goTogether 102 = .ok (.invokestatic 54, 3) := by decide +kernel
theorem d_M_goTogether_105 : decode b_M_goTogether 105 = .ok (.if_icmp .ge 81, 3) := by decide +kernel
theorem d_M_goTogether_108 : decode b_M_goTogether 108 = .ok (.aload_n 0, 1) := by decide +kernel
theorem d_M_goTogether_109 : decode b_M_goTogether 109 = .ok (.getfield 14, 3) := by decide +kernel
theorem d_M_goTogether_112 : decode b_M_goTogether 112 = .ok (.iload_n 2, 1) := by decide +kernel
theorem d_M_goTogether_113 : decode b_M_goTogether 113 = .ok (.invokestatic 50, 3) := by decide +kernel
theorem d_M_goTogether_116 : decode b_M_goTogether 116 = .ok (.ifCond .eq 38, 3) := by decide +kernel
theorem d_M_goTogether_119 : decode b_M_goTogether 119 = .ok (.aload_n 0, 1) := by decide +kernel
theorem d_M_goTogether_120 : decode b_M_goTogether 120 = .ok (.getfield 14, 3) := by decide +kernel
theorem d_M_goTogether_123 : decode b_M_goTogether 123 = .ok (.iload_n 2, 1) := by decide +kernel
theorem d_M_goTogether_124 : decode b_M_goTogether 124 = .ok (.bipush 7, 2) := by decide +kernel
theorem d_M_goTogether_126 : decode b_M_goTogether 126 = .ok (.iadd, 1) := by decide +kernel
theorem d_M_goTogether_127 : decode b_M_goTogether 127 = .ok (.iload 5, 2) := by decide +kernel
theorem d_M_goTogether_129 : decode b_M_goTogether 129 = .ok (.iadd, 1) := by decide +kernel
theorem d_M_goTogether_130 : decode b_M_goTogether 130 = .ok (.baload, 1) := by decide +kernel
theorem d_M_goTogether_131 : decode b_M_goTogether 131 = .ok (.aload_n 0, 1) := by decide +kernel
theorem d_M_goTogether_132 : decode b_M_goTogether 132 = .ok (.getfield 17, 3) := by decide +kernel
theorem d_M_goTogether_135 : decode b_M_goTogether 135 = .ok (.iload_n 3, 1) := by decide +kernel
theorem d_M_goTogether_136 : decode b_M_goTogether 136 = .ok (.bipush 7, 2) := by decide +kernel
theorem d_M_goTogether_138 : decode b_M_goTogether 138 = .ok (.iadd, 1) := by decide +kernel
theorem d_M_goTogether_139 : decode b_M_goTogether 139 = .ok (.iload 5, 2) := by decide +kernel
theorem d_M_goTogether_141 : decode b_M_goTogether 141 = .ok (.iadd, 1) := by decide +kernel
theorem d_M_goTogether_142 : decode b_M_goTogether 142 = .ok (.baload, 1) := by decide +kernel
theorem d_M_goTogether_143 : decode b_M_goTogether 143 = .ok (.if_icmp .ne 7, 3) := by decide +kernel
theorem d_M_goTogether_146 : decode b_M_goTogether 146 = .ok (.iconst 1, 1) := by decide +kernel
theorem d_M_goTogether_147 : decode b_M_goTogether 147 = .ok (.goto 31, 3) := by decide +kernel
theorem d_M_goTogether_150 : decode b_M_goTogether 150 = .ok (.iconst 0, 1) := by decide +kernel
theorem d_M_goTogether_151 : decode b_M_goTogether 151 = .ok (.goto 27, 3) := by decide +kernel
theorem d_M_goTogether_154 : decode b_M_goTogether 154 = .ok (.aload_n 0, 1) := by decide +kernel
theorem d_M_goTogether_155 : decode b_M_goTogether 155 = .ok (.aload_n 0, 1) := by decide +kernel
theorem d_M_goTogether_156 : decode b_M_goTogether 156 = .ok (.getfield 14, 3) := by decide +kernel
theorem d_M_goTogether_159 : decode b_M_goTogether 159 = .ok (.iload_n 2, 1) := by decide +kernel
theorem d_M_goTogether_160 : decode b_M_goTogether 160 = .ok (.iload 5, 2) := by decide +kernel
theorem d_M_goTogether_162 : decode b_M_goTogether 162 = .ok (.invokestatic 61, 3) := by decide +kernel
theorem d_M_goTogether_165 : decode b_M_goTogether 165 = .ok (.aload_n 0, 1) := by decide +kernel
theorem d_M_goTogether_166 : decode b_M_goTogether 166 = .ok (.getfield 17, 3) := by decide +kernel
theorem d_M_goTogether_169 : decode b_M_goTogether 169 = .ok (.iload_n 3, 1) := by decide +kernel
theorem d_M_goTogether_170 : decode b_M_goTogether 170 = .ok (.iload 5, 2) := by decide +kernel
theorem d_M_goTogether_172 : decode b_M_goTogether 172 = .ok (.invokestatic 61, 3) := by decide +kernel
theorem d_M_goTogether_175 : decode b_M_goTogether 175 = .ok (.invokevirtual 179, 3) := by decide +kernel
theorem d_M_goTogether_178 : decode b_M_goTogether 178 = .ok (.istore 4, 2) := by decide +kernel
theorem d_M_goTogether_180 : decode b_M_goTogether 180 = .ok (.iinc 5 1, 3) := by decide +kernel
theorem d_M_goTogether_183 : decode b_M_goTogether 183 = .ok (.goto (-93), 3) := by decide +kernel
theorem d_M_goTogether_186 : decode b_M_goTogether 186 = .ok (.iload 4, 2) := by decide +kernel
theorem d_M_goTogether_188 : decode b_M_goTogether 188 = .ok (.ireturn, 1) := by decide +kernel
theorem d_M_goes_0 : decode b_M_goes 0 = .ok (.iload_n 1, 1) := by decide +kernel
theorem d_M_goes_1 : decode b_M_goes 1 = .ok (.invokestatic 57, 3) := by decide +kernel
theorem d_M_goes_4 : decode b_M_goes 4 = .ok (.ifCond .eq 10, 3) := by decide +kernel
theorem d_M_goes_7 : decode b_M_goes 7 = .ok (.iload_n 2, 1) := by decide +kernel
theorem d_M_goes_8 : decode b_M_goes 8 = .ok (.invokestatic 57, 3) := by decide +kernel
theorem d_M_goes_11 : decode b_M_goes 11 = .ok (.ifCond .ne 14, 3) := by decide +kernel
theorem d_M_goes_14 : decode b_M_goes 14 = .ok (.iload_n 1, 1) := by decide +kernel
theorem d_M_goes_15 : decode b_M_goes 15 = .ok (.iload_n 2, 1) := by decide +kernel
theorem d_M_goes_16 : decode b_M_goes 16 = .ok (.if_icmp .ne 7, 3) := by decide +kernel
theorem d_M_goes_19 : decode b_M_goes 19 = .ok (.iconst 1, 1) := by decide +kernel
theorem d_M_goes_20 : decode b_M_goes 20 = .ok (.goto 4, 3) := by decide +kernel
theorem d_M_goes_23 : decode b_M_goes 23 = .ok (.iconst 0, 1) := by decide +kernel
theorem d_M_goes_24 : decode b_M_goes 24 = .ok (.ireturn, 1) := by decide +kernel
theorem d_M_goes_25 : decode b_M_goes 25 = .ok (.aload_n 0, 1) := by decide +kernel
theorem d_M_goes_26 : decode b_M_goes 26 = .ok (.getfield 30, 3) := by decide +kernel
theorem d_M_goes_29 : decode b_M_goes 29 = .ok (.iload_n 1, 1) := by decide +kernel
theorem d_M_goes_30 : decode b_M_goes 30 = .ok (.iconst 2, 1) := by decide +kernel
theorem d_M_goes_31 : decode b_M_goes 31 = .ok (.idiv, 1) := by decide +kernel
theorem d_M_goes_32 : decode b_M_goes 32 = .ok (.iaload, 1) := by decide +kernel
theorem d_M_goes_33 : decode b_M_goes 33 = .ok (.ifCond .ne 58, 3) := by decide +kernel
theorem d_M_goes_36 : decode b_M_goes 36 = .ok (.aload_n 0, 1) := by decide +kernel
theorem d_M_goes_37 : decode b_M_goes 37 = .ok (.getfield 33, 3) := by decide +kernel
theorem d_M_goes_40 : decode b_M_goes 40 = .ok (.iload_n 2, 1) := by decide +kernel
theorem d_M_goes_41 : decode b_M_goes 41 = .ok (.iconst 2, 1) := by decide +kernel
theorem d_M_goes_42 : decode b_M_goes 42 = .ok (.idiv, 1) := by decide +kernel
theorem d_M_goes_43 : decode b_M_goes 43 = .ok (.iaload, 1) := by decide +kernel
theorem d_M_goes_44 : decode b_M_goes 44 = .ok (.ifCond .ne 47, 3) := by decide +kernel
theorem d_M_goes_47 : decode b_M_goes 47 = .ok (.aload_n 0, 1) := by decide +kernel
theorem d_M_goes_48 : decode b_M_goes 48 = .ok (.getfield 30, 3) := by decide +kernel
theorem d_M_goes_51 : decode b_M_goes 51 = .ok (.iload_n 1, 1) := by decide +kernel
theorem d_M_goes_52 : decode b_M_goes 52 = .ok (.iconst 2, 1) := by decide +kernel
theorem d_M_goes_53 : decode b_M_goes 53 = .ok (.idiv, 1) := by decide +kernel
theorem d_M_goes_54 : decode b_M_goes 54 = .ok (.iload_n 2, 1) := by decide +kernel
theorem d_M_goes_55 : decode b_M_goes 55 = .ok (.iconst 2, 1) := by decide +kernel
theorem d_M_goes_56 : decode b_M_goes 56 = .ok (.idiv, 1) := by decide +kernel
theorem d_M_goes_57 : decode b_M_goes 57 = .ok (.iastore, 1) := by decide +kernel
theorem d_M_goes_58 : decode b_M_goes 58 = .ok (.aload_n 0, 1) := by decide +kernel
theorem d_M_goes_59 : decode b_M_goes 59 = .ok (.getfield 33, 3) := by decide +kernel
theorem d_M_goes_62 : decode b_M_goes 62 = .ok (.iload_n 2, 1) := by decide +kernel
theorem d_M_goes_63 : decode b_M_goes 63 = .ok (.iconst 2, 1) := by decide +kernel
theorem d_M_goes_64 : decode b_M_goes 64 = .ok (.idiv, 1) := by decide +kernel
theorem d_M_goes_65 : decode b_M_goes 65 = .ok (.iload_n 1, 1) := by decide +kernel
theorem d_M_goes_66 : decode b_M_goes 66 = .ok (.iconst 2, 1) := by decide +kernel
theorem d_M_goes_67 : decode b_M_goes 67 = .ok (.idiv, 1) := by decide +kernel
theorem d_M_goes_68 : decode b_M_goes 68 = .ok (.iastore, 1) := by decide +kernel
theorem d_M_goes_69 : decode b_M_goes 69 = .ok (.aload_n 0, 1) := by decide +kernel
theorem d_M_goes_70 : decode b_M_goes 70 = .ok (.getfield 27, 3) := by decide +kernel
theorem d_M_goes_73 : decode b_M_goes 73 = .ok (.aload_n 0, 1) := by decide +kernel
theorem d_M_goes_74 : decode b_M_goes 74 = .ok (.getfield 159, 3) := by decide +kernel
theorem d_M_goes_77 : decode b_M_goes 77 = .ok (.iload_n 1, 1) := by decide +kernel
theorem d_M_goes_78 : decode b_M_goes 78 = .ok (.iconst 2, 1) := by decide +kernel
theorem d_M_goes_79 : decode b_M_goes 79 = .ok (.idiv, 1) := by decide +kernel
theorem d_M_goes_80 : decode b_M_goes 80 = .ok (.iastore, 1) := by decide +kernel
theorem d_M_goes_81 : decode b_M_goes 81 = .ok (.aload_n 0, 1) := by decide +kernel
theorem d_M_goes_82 : decode b_M_goes 82 = .ok (.dup, 1) := by decide +kernel
theorem d_M_goes_83 : decode b_M_goes 83 = .ok (.getfield 159, 3) := by decide +kernel
theorem d_M_goes_86 : decode b_M_goes 86 = .ok (.iconst 1, 1) := by decide +kernel
theorem d_M_goes_87 : decode b_M_goes 87 = .ok (.iadd, 1) := by decide +kernel
theorem d_M_goes_88 : decode b_M_goes 88 = .ok (.putfield 159, 3) := by decide +kernel
theorem d_M_goes_91 : decode b_M_goes 91 = .ok (.aload_n 0, 1) := by decide +kernel
theorem d_M_goes_92 : decode b_M_goes 92 = .ok (.getfield 30, 3) := by decide +kernel
theorem d_M_goes_95 : decode b_M_goes 95 = .ok (.iload_n 1, 1) := by decide +kernel
theorem d_M_goes_96 : decode b_M_goes 96 = .ok (.iconst 2, 1) := by decide +kernel
theorem d_M_goes_97 : decode b_M_goes 97 = .ok (.idiv, 1) := by decide +kernel
theorem d_M_goes_98 : decode b_M_goes 98 = .ok (.iaload, 1) := by decide +kernel
theorem d_M_goes_99 : decode b_M_goes 99 = .ok (.iload_n 2, 1) := by decide +kernel
theorem d_M_goes_100 : decode b_M_goes 100 = .ok (.iconst 2, 1) := by decide +kernel
theorem d_M_goes_101 : decode b_M_goes 101 = .ok (.idiv, 1) := by decide +kernel
theorem d_M_goes_102 : decode b_M_goes 102 = .ok (.if_icmp .ne 21, 3) := by decide +kernel
theorem d_M_goes_105 : decode b_M_goes 105 = .ok (.aload_n 0, 1) := by decide +kernel
theorem d_M_goes_106 : decode b_M_goes 106 = .ok (.getfield 33, 3) := by decide +kernel
theorem d_M_goes_109 : decode b_M_goes 109 = .ok (.iload_n 2, 1) := by decide +kernel
theorem d_M_goes_110 : decode b_M_goes 110 = .ok (.iconst 2, 1) := by decide +kernel
theorem d_M_goes_111 : decode b_M_goes 111 = .ok (.idiv, 1) := by decide +kernel
theorem d_M_goes_112 : decode b_M_goes 112 = .ok (.iaload, 1) := by decide +kernel
theorem d_M_goes_113 : decode b_M_goes 113 = .ok (.iload_n 1, 1) := by decide +kernel
theorem d_M_goes_114 : decode b_M_goes 114 = .ok (.iconst 2, 1) := by decide +kernel
theorem d_M_goes_115 : decode b_M_goes 115 = .ok (.idiv, 1) := by decide +kernel
theorem d_M_goes_116 : decode b_M_goes 116 = .ok (.if_icmp .ne 7, 3) := by decide +kernel
theorem d_M_goes_119 : decode b_M_goes 119 = .ok (.iconst 1, 1) := by decide +kernel
theorem d_M_goes_120 : decode b_M_goes 120 = .ok (.goto 4, 3) := by decide +kernel
theorem d_M_goes_123 : decode b_M_goes 123 = .ok (.iconst 0, 1) := by decide +kernel
theorem d_M_goes_124 : decode b_M_goes 124 = .ok (.ireturn, 1) := by decide +kernel
theorem d_M_half_0 : decode b_M_half 0 = .ok (.aload_n 0, 1) := by decide +kernel
theorem d_M_half_1 : decode b_M_half 1 = .ok (.iload_n 1, 1) := by decide +kernel
theorem d_M_half_2 : decode b_M_half 2 = .ok (.baload, 1) := by decide +kernel
theorem d_M_half_3 : decode b_M_half 3 = .ok (.sipush 255, 3) := by decide +kernel
theorem d_M_half_6 : decode b_M_half 6 = .ok (.iand, 1) := by decide +kernel
theorem d_M_half_7 : decode b_M_half 7 = .ok (.bipush 8, 2) := by decide +kernel
theorem d_M_half_9 : decode b_M_half 9 = .ok (.ishl, 1) := by decide +kernel
theorem d_M_half_10 : decode b_M_half 10 = .ok (.aload_n 0, 1) := by decide +kernel
theorem d_M_half_11 : decode b_M_half 11 = .ok (.iload_n 1, 1) := by decide +kernel
theorem d_M_half_12 : decode b_M_half 12 = .ok (.iconst 1, 1) := by decide +kernel
theorem d_M_half_13 : decode b_M_half 13 = .ok (.iadd, 1) := by decide +kernel
theorem d_M_half_14 : decode b_M_half 14 = .ok (.baload, 1) := by decide +kernel
theorem d_M_half_15 : decode b_M_half 15 = .ok (.sipush 255, 3) := by decide +kernel
theorem d_M_half_18 : decode b_M_half 18 = .ok (.iand, 1) := by decide +kernel
theorem d_M_half_19 : decode b_M_half 19 = .ok (.ior, 1) := by decide +kernel
theorem d_M_half_20 : decode b_M_half 20 = .ok (.ireturn, 1) := by decide +kernel
theorem d_M_hasFields_0 : decode b_M_hasFields 0 = .ok (.iload_n 1, 1) := by decide +kernel
theorem d_M_hasFields_1 : decode b_M_hasFields 1 = .ok (.invokestatic 57, 3) := by decide +kernel
theorem d_M_hasFields_4 : decode b_M_hasFields 4 = .ok (.ifCond .eq 44, 3) := by decide +kernel
theorem d_M_hasFields_7 : decode b_M_hasFields 7 = .ok (.aload_n 0, 1) := by decide +kernel
theorem d_M_hasFields_8 : decode b_M_hasFields 8 = .ok (.getfield 8, 3) := by decide +kernel
theorem d_M_hasFields_11 : decode b_M_hasFields 11 = .ok (.aload_n 0, 1) := by decide +kernel
theorem d_M_hasFields_12 : decode b_M_hasFields 12 = .ok (.getfield 20, 3) := by decide +kernel
theorem d_M_hasFields_15 : decode b_M_hasFields 15 = .ok (.iload_n 1, 1) := by decide +kernel
theorem d_M_hasFields_16 : decode b_M_hasFields 16 = .ok (.iconst 2, 1) := by decide +kernel
theorem d_M_hasFields_17 : decode b_M_hasFields 17 = .ok (.idiv, 1) := by decide +kernel
theorem d_M_hasFields_18 : decode b_M_hasFields 18 = .ok (.iaload, 1) := by decide +kernel
theorem d_M_hasFields_19 : decode b_M_hasFields 19 = .ok (.invokestatic 50, 3) := by decide +kernel
theorem d_M_hasFields_22 : decode b_M_hasFields 22 = .ok (.ifCond .ne 26, 3) := by decide +kernel
theorem d_M_hasFields_25 : decode b_M_hasFields 25 = .ok (.aload_n 0, 1) := by decide +kernel
theorem d_M_hasFields_26 : decode b_M_hasFields 26 = .ok (.getfield 8, 3) := by decide +kernel
theorem d_M_hasFields_29 : decode b_M_hasFields 29 = .ok (.aload_n 0, 1) := by decide +kernel
theorem d_M_hasFields_30 : decode b_M_hasFields 30 = .ok (.getfield 20, 3) := by decide +kernel
theorem d_M_hasFields_33 : decode b_M_hasFields 33 = .ok (.iload_n 1, 1) := by decide +kernel
theorem d_M_hasFields_34 : decode b_M_hasFields 34 = .ok (.iconst 2, 1) := by decide +kernel
theorem d_M_hasFields_35 : decode b_M_hasFields 35 = .ok (.idiv, 1) := by decide +kernel
theorem d_M_hasFields_36 : decode b_M_hasFields 36 = .ok (.iaload, 1) := by decide +kernel
theorem d_M_hasFields_37 : decode b_M_hasFields 37 = .ok (.invokestatic 54, 3) := by decide +kernel
theorem d_M_hasFields_40 : decode b_M_hasFields 40 = .ok (.iload_n 2, 1) := by decide +kernel
theorem d_M_hasFields_41 : decode b_M_hasFields 41 = .ok (.if_icmp .lt 7, 3) := by decide +kernel
theorem d_M_hasFields_44 : decode b_M_hasFields 44 = .ok (.iconst 1, 1) := by decide +kernel
theorem d_M_hasFields_45 : decode b_M_hasFields 45 = .ok (.goto 4, 3) := by decide +kernel
theorem d_M_hasFields_48 : decode b_M_hasFields 48 = .ok (.iconst 0, 1) := by decide +kernel
theorem d_M_hasFields_49 : decode b_M_hasFields 49 = .ok (.ireturn, 1) := by decide +kernel
theorem d_M_init_0 : decode b_M_init 0 = .ok (.aload_n 0, 1) := by decide +kernel
theorem d_M_init_1 : decode b_M_init 1 = .ok (.invokespecial 1, 3) := by decide +kernel
theorem d_M_init_4 : decode b_M_init 4 = .ok (.aload_n 0, 1) := by decide +kernel
theorem d_M_init_5 : decode b_M_init 5 = .ok (.ldc 7, 2) := by decide +kernel
theorem d_M_init_7 : decode b_M_init 7 = .ok (.newarray .byte, 2) := by decide +kernel
theorem d_M_init_9 : decode b_M_init 9 = .ok (.putfield 8, 3) := by decide +kernel
theorem d_M_init_12 : decode b_M_init 12 = .ok (.aload_n 0, 1) := by decide +kernel
theorem d_M_init_13 : decode b_M_init 13 = .ok (.ldc 7, 2) := by decide +kernel
theorem d_M_init_15 : decode b_M_init 15 = .ok (.newarray .byte, 2) := by decide +kernel
theorem d_M_init_17 : decode b_M_init 17 = .ok (.putfield 14, 3) := by decide +kernel
theorem d_M_init_20 : decode b_M_init 20 = .ok (.aload_n 0, 1) := by decide +kernel
theorem d_M_init_21 : decode b_M_init 21 = .ok (.ldc 7, 2) := by decide +kernel
theorem d_M_init_23 : decode b_M_init 23 = .ok (.newarray .byte, 2) := by decide +kernel
theorem d_M_init_25 : decode b_M_init 25 = .ok (.putfield 17, 3) := by decide +kernel
theorem d_M_init_28 : decode b_M_init 28 = .ok (.aload_n 0, 1) := by decide +kernel
theorem d_M_init_29 : decode b_M_init 29 = .ok (.sipush 8192, 3) := by decide +kernel
theorem d_M_init_32 : decode b_M_init 32 = .ok (.newarray .int, 2) := by decide +kernel
theorem d_M_init_34 : decode b_M_init 34 = .ok (.putfield 20, 3) := by decide +kernel
theorem d_M_init_37 : decode b_M_init 37 = .ok (.aload_n 0, 1) := by decide +kernel
theorem d_M_init_38 : decode b_M_init 38 = .ok (.sipush 8192, 3) := by decide +kernel
theorem d_M_init_41 : decode b_M_init 41 = .ok (.newarray .int, 2) := by decide +kernel
theorem d_M_init_43 : decode b_M_init 43 = .ok (.putfield 24, 3) := by decide +kernel
theorem d_M_init_46 : decode b_M_init 46 = .ok (.aload_n 0, 1) := by decide +kernel
theorem d_M_init_47 : decode b_M_init 47 = .ok (.sipush 8192, 3) := by decide +kernel
theorem d_M_init_50 : decode b_M_init 50 = .ok (.newarray .int, 2) := by decide +kernel
theorem d_M_init_52 : decode b_M_init 52 = .ok (.putfield 27, 3) := by decide +kernel
theorem d_M_init_55 : decode b_M_init 55 = .ok (.aload_n 0, 1) := by decide +kernel
theorem d_M_init_56 : decode b_M_init 56 = .ok (.sipush 8192, 3) := by decide +kernel
theorem d_M_init_59 : decode b_M_init 59 = .ok (.newarray .int, 2) := by decide +kernel
theorem d_M_init_61 : decode b_M_init 61 = .ok (.putfield 30, 3) := by decide +kernel
theorem d_M_init_64 : decode b_M_init 64 = .ok (.aload_n 0, 1) := by decide +kernel
theorem d_M_init_65 : decode b_M_init 65 = .ok (.sipush 8192, 3) := by decide +kernel
theorem d_M_init_68 : decode b_M_init 68 = .ok (.newarray .int, 2) := by decide +kernel
theorem d_M_init_70 : decode b_M_init 70 = .ok (.putfield 33, 3) := by decide +kernel
theorem d_M_init_73 : decode b_M_init 73 = .ok (.return_, 1) := by decide +kernel
theorem d_M_isBlockContext_0 : decode b_M_isBlockContext 0 = .ok (.aload_n 0, 1) := by decide +kernel
theorem d_M_isBlockContext_1 : decode b_M_isBlockContext 1 = .ok (.iload_n 1, 1) := by decide +kernel
theorem d_M_isBlockContext_2 : decode b_M_isBlockContext 2 = .ok (.bipush 6, 2) := by decide +kernel
theorem d_M_isBlockContext_4 : decode b_M_isBlockContext 4 = .ok (.invokevirtual 68, 3) := by decide +kernel
theorem d_M_isBlockContext_7 : decode b_M_isBlockContext 7 = .ok (.ifCond .ne 5, 3) := by decide +kernel
theorem d_M_isBlockContext_10 : decode b_M_isBlockContext 10 = .ok (.iconst 0, 1) := by decide +kernel
theorem d_M_isBlockContext_11 : decode b_M_isBlockContext 11 = .ok (.ireturn, 1) := by decide +kernel
theorem d_M_isBlockContext_12 : decode b_M_isBlockContext 12 = .ok (.aload_n 0, 1) := by decide +kernel
theorem d_M_isBlockContext_13 : decode b_M_isBlockContext 13 = .ok (.iload_n 1, 1) := by decide +kernel
theorem d_M_isBlockContext_14 : decode b_M_isBlockContext 14 = .ok (.iconst 5, 1) := by decide +kernel
theorem d_M_isBlockContext_15 : decode b_M_isBlockContext 15 = .ok (.invokevirtual 72, 3) := by decide +kernel
theorem d_M_isBlockContext_18 : decode b_M_isBlockContext 18 = .ok (.istore_n 2, 1) := by decide +kernel
theorem d_M_isBlockContext_19 : decode b_M_isBlockContext 19 = .ok (.aload_n 0, 1) := by decide +kernel
theorem d_M_isBlockContext_20 : decode b_M_isBlockContext 20 = .ok (.iload_n 2, 1) := by decide +kernel
theorem d_M_isBlockContext_21 : decode b_M_isBlockContext 21 = .ok (.iconst 5, 1) := by decide +kernel
theorem d_M_isBlockContext_22 : decode b_M_isBlockContext 22 = .ok (.invokevirtual 68, 3) := by decide +kernel
theorem d_M_isBlockContext_25 : decode b_M_isBlockContext 25 = .ok (.ifCond .eq 43, 3) := by decide +kernel
theorem d_M_isBlockContext_28 : decode b_M_isBlockContext 28 = .ok (.aload_n 0, 1) := by decide +kernel
theorem d_M_isBlockContext_29 : decode b_M_isBlockContext 29 = .ok (.getfield 8, 3) := by decide +kernel
theorem d_M_isBlockContext_32 : decode b_M_isBlockContext 32 = .ok (.aload_n 0, 1) := by decide +kernel
theorem d_M_isBlockContext_33 : decode b_M_isBlockContext 33 = .ok (.getfield 20, 3) := by decide +kernel
theorem d_M_isBlockContext_36 : decode b_M_isBlockContext 36 = .ok (.iload_n 2, 1) := by decide +kernel
theorem d_M_isBlockContext_37 : decode b_M_isBlockContext 37 = .ok (.iconst 2, 1) := by decide +kernel
theorem d_M_isBlockContext_38 : decode b_M_isBlockContext 38 = .ok (.idiv, 1) := by decide +kernel
theorem d_M_isBlockContext_39 : decode b_M_isBlockContext 39 = .ok (.iaload, 1) := by decide +kernel
theorem d_M_isBlockContext_40 : decode b_M_isBlockContext 40 = .ok (.invokestatic 47, 3) := by decide +kernel
theorem d_M_isBlockContext_43 : decode b_M_isBlockContext 43 = .ok (.aload_n 0, 1) := by decide +kernel
theorem d_M_isBlockContext_44 : decode b_M_isBlockContext 44 = .ok (.getfield 8, 3) := by decide +kernel
theorem d_M_isBlockContext_47 : decode b_M_isBlockContext 47 = .ok (.bipush 7, 2) := by decide +kernel
theorem d_M_isBlockContext_49 : decode b_M_isBlockContext 49 = .ok (.invokestatic 65, 3) := by decide +kernel
theorem d_M_isBlockContext_52 : decode b_M_isBlockContext 52 = .ok (.if_icmp .ne 16, 3) := by decide +kernel
theorem d_M_isBlockContext_55 : decode b_M_isBlockContext 55 = .ok (.aload_n 0, 1) := by decide +kernel
theorem d_M_isBlockContext_56 : decode b_M_isBlockContext 56 = .ok (.aload_n 0, 1) := by decide +kernel
theorem d_M_isBlockContext_57 : decode b_M_isBlockContext 57 = .ok (.iload_n 2, 1) := by decide +kernel
theorem d_M_isBlockContext_58 : decode b_M_isBlockContext 58 = .ok (.iconst 3, 1) := by decide +kernel
theorem d_M_isBlockContext_59 : decode b_M_isBlockContext 59 = .ok (.invokevirtual 72, 3) := by decide +kernel
theorem d_M_isBlockContext_62 : decode b_M_isBlockContext 62 = .ok (.invokevirtual 88, 3) := by decide +kernel
theorem d_M_isBlockContext_65 : decode b_M_isBlockContext 65 = .ok (.ifCond .ne 5, 3) := by decide +kernel
theorem d_M_isBlockContext_68 : decode b_M_isBlockContext 68 = .ok (.iconst 0, 1) := by decide +kernel
theorem d_M_isBlockContext_69 : decode b_M_isBlockContext 69 = .ok (.ireturn, 1) := by decide +kernel
theorem d_M_isBlockContext_70 : decode b_M_isBlockContext 70 = .ok (.aload_n 0, 1) := by decide +kernel
theorem d_M_isBlockContext_71 : decode b_M_isBlockContext 71 = .ok (.aload_n 0, 1) := by decide +kernel
theorem d_M_isBlockContext_72 : decode b_M_isBlockContext 72 = .ok (.iload_n 2, 1) := by decide +kernel
theorem d_M_isBlockContext_73 : decode b_M_isBlockContext 73 = .ok (.iconst 3, 1) := by decide +kernel
theorem d_M_isBlockContext_74 : decode b_M_isBlockContext 74 = .ok (.invokevirtual 72, 3) := by decide +kernel
theorem d_M_isBlockContext_77 : decode b_M_isBlockContext 77 = .ok (.invokevirtual 95, 3) := by decide +kernel
theorem d_M_isBlockContext_80 : decode b_M_isBlockContext 80 = .ok (.istore_n 3, 1) := by decide +kernel
theorem d_M_isBlockContext_81 : decode b_M_isBlockContext 81 = .ok (.aload_n 0, 1) := by decide +kernel
theorem d_M_isBlockContext_82 : decode b_M_isBlockContext 82 = .ok (.iload_n 1, 1) := by decide +kernel
theorem d_M_isBlockContext_83 : decode b_M_isBlockContext 83 = .ok (.iconst 2, 1) := by decide +kernel
theorem d_M_isBlockContext_84 : decode b_M_isBlockContext 84 = .ok (.invokevirtual 72, 3) := by decide +kernel
theorem d_M_isBlockContext_87 : decode b_M_isBlockContext 87 = .ok (.istore 4, 2) := by decide +kernel
theorem d_M_isBlockContext_89 : decode b_M_isBlockContext 89 = .ok (.aload_n 0, 1) := by decide +kernel
theorem d_M_isBlockContext_90 : decode b_M_isBlockContext 90 = .ok (.iload_n 1, 1) := by decide +kernel
theorem d_M_isBlockContext_91 : decode b_M_isBlockContext 91 = .ok (.iconst 4, 1) := by decide +kernel
theorem d_M_isBlockContext_92 : decode b_M_isBlockContext 92 = .ok (.invokevirtual 72, 3) := by decide +kernel
theorem d_M_isBlockContext_95 : decode b_M_isBlockContext 95 = .ok (.istore 5, 2) := by decide +kernel
theorem d_M_isBlockContext_97 : decode b_M_isBlockContext 97 = .ok (.aload_n 0, 1) := by decide +kernel
theorem d_M_isBlockContext_98 : decode b_M_isBlockContext 98 = .ok (.getfield 8, 3) := by decide +kernel
theorem d_M_isBlockContext_101 : decode b_M_isBlockContext 101 = .ok (.aload_n 0, 1) := by decide +kernel
theorem d_M_isBlockContext_102 : decode b_M_isBlockContext 102 = .ok (.getfield 20, 3) := by decide +kernel
theorem d_M_isBlockContext_105 : decode b_M_isBlockContext 105 = .ok (.iload_n 1, 1) := by decide +kernel
theorem d_M_isBlockContext_106 : decode b_M_isBlockContext 106 = .ok (.iconst 2, 1) := by decide +kernel
theorem d_M_isBlockContext_107 : decode b_M_isBlockContext 107 = .ok (.idiv, 1) := by decide +kernel
theorem d_M_isBlockContext_108 : decode b_M_isBlockContext 108 = .ok (.iaload, 1) := by decide +kernel
theorem d_M_isBlockContext_109 : decode b_M_isBlockContext 109 = .ok (.invokestatic 54, 3) := by decide +kernel
theorem d_M_isBlockContext_112 : decode b_M_isBlockContext 112 = .ok (.bipush 6, 2) := by decide +kernel
theorem d_M_isBlockContext_114 : decode b_M_isBlockContext 114 = .ok (.iload_n 3, 1) := by decide +kernel
theorem d_M_isBlockContext_115 : decode b_M_isBlockContext 115 = .ok (.iadd, 1) := by decide +kernel
theorem d_M_isBlockContext_116 : decode b_M_isBlockContext 116 = .ok (.if_icmp .ne 51, 3) := by decide +kernel
theorem d_M_isBlockContext_119 : decode b_M_isBlockContext 119 = .ok (.aload_n 0, 1) := by decide +kernel
theorem d_M_isBlockContext_120 : decode b_M_isBlockContext 120 = .ok (.iload 4, 2) := by decide +kernel
theorem d_M_isBlockContext_122 : decode b_M_isBlockContext 122 = .ok (.iconst 0, 1) := by decide +kernel
theorem d_M_isBlockContext_123 : decode b_M_isBlockContext 123 = .ok (.iload_n 3, 1) := by decide +kernel
theorem d_M_isBlockContext_124 : decode b_M_isBlockContext 124 = .ok (.invokevirtual 84, 3) := by decide +kernel
theorem d_M_isBlockContext_127 : decode b_M_isBlockContext 127 = .ok (.ifCond .eq 40, 3) := by decide +kernel
theorem d_M_isBlockContext_130 : decode b_M_isBlockContext 130 = .ok (.aload_n 0, 1) := by decide +kernel
theorem d_M_isBlockContext_131 : decode b_M_isBlockContext 131 = .ok (.aload_n 0, 1) := by decide +kernel
theorem d_M_isBlockContext_132 : decode b_M_isBlockContext 132 = .ok (.iload_n 1, 1) := by decide +kernel
theorem d_M_isBlockContext_133 : decode b_M_isBlockContext 133 = .ok (.iconst 3, 1) := by decide +kernel
theorem d_M_isBlockContext_134 : decode b_M_isBlockContext 134 = .ok (.invokevirtual 72, 3) := by decide +kernel
theorem d_M_isBlockContext_137 : decode b_M_isBlockContext 137 = .ok (.iconst 0, 1) := by decide +kernel
theorem d_M_isBlockContext_138 : decode b_M_isBlockContext 138 = .ok (.bipush 15, 2) := by decide +kernel
theorem d_M_isBlockContext_140 : decode b_M_isBlockContext 140 = .ok (.invokevirtual 84, 3) := by decide +kernel
theorem d_M_isBlockContext_143 : decode b_M_isBlockContext 143 = .ok (.ifCond .eq 24, 3) := by decide +kernel
theorem d_M_isBlockContext_146 : decode b_M_isBlockContext 146 = .ok (.iload 5, 2) := by decide +kernel
theorem d_M_isBlockContext_148 : decode b_M_isBlockContext 148 = .ok (.ifCond .eq 15, 3) := by decide +kernel
theorem d_M_isBlockContext_151 : decode b_M_isBlockContext 151 = .ok (.aload_n 0, 1) := by decide +kernel
theorem d_M_isBlockContext_152 : decode b_M_isBlockContext 152 = .ok (.iload 5, 2) := by decide +kernel
theorem d_M_isBlockContext_154 : decode b_M_isBlockContext 154 = .ok (.iconst 0, 1) := by decide +kernel
theorem d_M_isBlockContext_155 : decode b_M_isBlockContext 155 = .ok (.ldc 83, 2) := by decide +kernel
theorem d_M_isBlockContext_157 : decode b_M_isBlockContext 157 = .ok (.invokevirtual 84, 3) := by decide +kernel
theorem d_M_isBlockContext_160 : decode b_M_isBlockContext 160 = .ok (.ifCond .eq 7, 3) := by decide +kernel
theorem d_M_isBlockContext_163 : decode b_M_isBlockContext 163 = .ok (.iconst 1, 1) := by decide +kernel
theorem d_M_isBlockContext_164 : decode b_M_isBlockContext 164 = .ok (.goto 4, 3) := by decide +kernel
theorem d_M_isBlockContext_167 : decode b_M_isBlockContext 167 = .ok (.iconst 0, 1) := by decide +kernel
theorem d_M_isBlockContext_168 : decode b_M_isBlockContext 168 = .ok (.istore 6, 2) := by decide +kernel
theorem d_M_isBlockContext_170 : decode b_M_isBlockContext 170 = .ok (.iload 6, 2) := by decide +kernel
theorem d_M_isBlockContext_172 : decode b_M_isBlockContext 172 = .ok (.ifCond .eq 22, 3) := by decide +kernel
theorem d_M_isBlockContext_175 : decode b_M_isBlockContext 175 = .ok (.aload_n 0, 1) := by decide +kernel
theorem d_M_isBlockContext_176 : decode b_M_isBlockContext 176 = .ok (.iload_n 1, 1) := by decide +kernel
theorem d_M_isBlockContext_177 : decode b_M_isBlockContext 177 = .ok (.bipush 6, 2) := by decide +kernel
theorem d_M_isBlockContext_179 : decode b_M_isBlockContext 179 = .ok (.iload 4, 2) := by decide +kernel
theorem d_M_isBlockContext_181 : decode b_M_isBlockContext 181 = .ok (.iconst 1, 1) := by decide +kernel
theorem d_M_isBlockContext_182 : decode b_M_isBlockContext 182 = .ok (.ishr, 1) := by decide +kernel
theorem d_M_isBlockContext_183 : decode b_M_isBlockContext 183 = .ok (.iadd, 1) := by decide +kernel
theorem d_M_isBlockContext_184 : decode b_M_isBlockContext 184 = .ok (.invokevirtual 98, 3) := by decide +kernel
theorem d_M_isBlockContext_187 : decode b_M_isBlockContext 187 = .ok (.ifCond .eq 7, 3) := by decide +kernel
theorem d_M_isBlockContext_190 : decode b_M_isBlockContext 190 = .ok (.iconst 1, 1) := by decide +kernel
theorem d_M_isBlockContext_191 : decode b_M_isBlockContext 191 = .ok (.goto 4, 3) := by decide +kernel
theorem d_M_isBlockContext_194 : decode b_M_isBlockContext 194 = .ok (.iconst 0, 1) := by decide +kernel
theorem d_M_isBlockContext_195 : decode b_M_isBlockContext 195 = .ok (.ireturn, 1) := by decide +kernel
theorem d_M_isClass_0 : decode b_M_isClass 0 = .ok (.aload_n 0, 1) := by decide +kernel
theorem d_M_isClass_1 : decode b_M_isClass 1 = .ok (.iload_n 1, 1) := by decide +kernel
theorem d_M_isClass_2 : decode b_M_isClass 2 = .ok (.iconst 3, 1) := by decide +kernel
theorem d_M_isClass_3 : decode b_M_isClass 3 = .ok (.invokevirtual 68, 3) := by decide +kernel
theorem d_M_isClass_6 : decode b_M_isClass 6 = .ok (.ifCond .ne 5, 3) := by decide +kernel
theorem d_M_isClass_9 : decode b_M_isClass 9 = .ok (.iconst 0, 1) := by decide +kernel
theorem d_M_isClass_10 : decode b_M_isClass 10 = .ok (.ireturn, 1) := by decide +kernel
theorem d_M_isClass_11 : decode b_M_isClass 11 = .ok (.aload_n 0, 1) := by decide +kernel
theorem d_M_isClass_12 : decode b_M_isClass 12 = .ok (.iload_n 1, 1) := by decide +kernel
theorem d_M_isClass_13 : decode b_M_isClass 13 = .ok (.iconst 2, 1) := by decide +kernel
theorem d_M_isClass_14 : decode b_M_isClass 14 = .ok (.invokevirtual 72, 3) := by decide +kernel
theorem d_M_isClass_17 : decode b_M_isClass 17 = .ok (.istore_n 2, 1) := by decide +kernel
theorem d_M_isClass_18 : decode b_M_isClass 18 = .ok (.iload_n 2, 1) := by decide +kernel
theorem d_M_isClass_19 : decode b_M_isClass 19 = .ok (.iconst 1, 1) := by decide +kernel
theorem d_M_isClass_20 : decode b_M_isClass 20 = .ok (.ishr, 1) := by decide +kernel
theorem d_M_isClass_21 : decode b_M_isClass 21 = .ok (.istore_n 3, 1) := by decide +kernel
theorem d_M_isClass_22 : decode b_M_isClass 22 = .ok (.iload_n 2, 1) := by decide +kernel
theorem d_M_isClass_23 : decode b_M_isClass 23 = .ok (.invokestatic 76, 3) := by decide +kernel
theorem d_M_isClass_26 : decode b_M_isClass 26 = .ok (.ifCond .eq 26, 3) := by decide +kernel
theorem d_M_isClass_29 : decode b_M_isClass 29 = .ok (.iload_n 3, 1) := by decide +kernel
theorem d_M_isClass_30 : decode b_M_isClass 30 = .ok (.ifCond .lt 22, 3) := by decide +kernel
theorem d_M_isClass_33 : decode b_M_isClass 33 = .ok (.iload_n 3, 1) := by decide +kernel
theorem d_M_isClass_34 : decode b_M_isClass 34 = .ok (.sipush 4096, 3) := by decide +kernel
theorem d_M_isClass_37 : decode b_M_isClass 37 = .ok (.if_icmp .ge 15, 3) := by decide +kernel
theorem d_M_isClass_40 : decode b_M_isClass 40 = .ok (.iload_n 3, 1) := by decide +kernel
theorem d_M_isClass_41 : decode b_M_isClass 41 = .ok (.sipush 768, 3) := by decide +kernel
theorem d_M_isClass_44 : decode b_M_isClass 44 = .ok (.iand, 1) := by decide +kernel
theorem d_M_isClass_45 : decode b_M_isClass 45 = .ok (.ifCond .ne 7, 3) := by decide +kernel
theorem d_M_isClass_48 : decode b_M_isClass 48 = .ok (.iconst 1, 1) := by decide +kernel
theorem d_M_isClass_49 : decode b_M_isClass 49 = .ok (.goto 4, 3) := by decide +kernel
theorem d_M_isClass_52 : decode b_M_isClass 52 = .ok (.iconst 0, 1) := by decide +kernel
theorem d_M_isClass_53 : decode b_M_isClass 53 = .ok (.istore 4, 2) := by decide +kernel
theorem d_M_isClass_55 : decode b_M_isClass 55 = .ok (.iload 4, 2) := by decide +kernel
theorem d_M_isClass_57 : decode b_M_isClass 57 = .ok (.ifCond .eq 30, 3) := by decide +kernel
theorem d_M_isClass_60 : decode b_M_isClass 60 = .ok (.iload_n 3, 1) := by decide +kernel
theorem d_M_isClass_61 : decode b_M_isClass 61 = .ok (.sipush 2048, 3) := by decide +kernel
theorem d_M_isClass_64 : decode b_M_isClass 64 = .ok (.if_icmp .lt 19, 3) := by decide +kernel
theorem d_M_isClass_67 : decode b_M_isClass 67 = .ok (.iload_n 3, 1) := by decide +kernel
theorem d_M_isClass_68 : decode b_M_isClass 68 = .ok (.sipush 255, 3) := by decide +kernel
theorem d_M_isClass_71 : decode b_M_isClass 71 = .ok (.iand, 1) := by decide +kernel
theorem d_M_isClass_72 : decode b_M_isClass 72 = .ok (.ifCond .ne 15, 3) := by decide +kernel
theorem d_M_isClass_75 : decode b_M_isClass 75 = .ok (.iload_n 3, 1) := by decide +kernel
theorem d_M_isClass_76 : decode b_M_isClass 76 = .ok (.sipush 1024, 3) := by decide +kernel
theorem d_M_isClass_79 : decode b_M_isClass 79 = .ok (.iand, 1) := by decide +kernel
theorem d_M_isClass_80 : decode b_M_isClass 80 = .ok (.ifCond .le 7, 3) := by decide +kernel
theorem d_M_isClass_83 : decode b_M_isClass 83 = .ok (.iconst 1, 1) := by decide +kernel
theorem d_M_isClass_84 : decode b_M_isClass 84 = .ok (.goto 4, 3) := by decide +kernel
theorem d_M_isClass_87 : decode b_M_isClass 87 = .ok (.iconst 0, 1) := by decide +kernel
theorem d_M_isClass_88 : decode b_M_isClass 88 = .ok (.ireturn, 1) := by decide +kernel
theorem d_M_isCommon_0 : decode b_M_isCommon 0 = .ok (.aload_n 0, 1) := by decide +kernel
theorem d_M_isCommon_1 : decode b_M_isCommon 1 = .ok (.iload_n 1, 1) := by decide +kernel
theorem d_M_isCommon_2 : decode b_M_isCommon 2 = .ok (.iconst 0, 1) := by decide +kernel
theorem d_M_isCommon_3 : decode b_M_isCommon 3 = .ok (.invokevirtual 72, 3) := by decide +kernel
theorem d_M_isCommon_6 : decode b_M_isCommon 6 = .ok (.istore_n 3, 1) := by decide +kernel
theorem d_M_isCommon_7 : decode b_M_isCommon 7 = .ok (.aload_n 0, 1) := by decide +kernel
theorem d_M_isCommon_8 : decode b_M_isCommon 8 = .ok (.iload_n 1, 1) := by decide +kernel
theorem d_M_isCommon_9 : decode b_M_isCommon 9 = .ok (.iconst 1, 1) := by decide +kernel
theorem d_M_isCommon_10 : decode b_M_isCommon 10 = .ok (.invokevirtual 72, 3) := by decide +kernel
theorem d_M_isCommon_13 : decode b_M_isCommon 13 = .ok (.istore 4, 2) := by decide +kernel
theorem d_M_isCommon_15 : decode b_M_isCommon 15 = .ok (.iload_n 3, 1) := by decide +kernel
theorem d_M_isCommon_16 : decode b_M_isCommon 16 = .ok (.ifCond .eq 11, 3) := by decide +kernel
theorem d_M_isCommon_19 : decode b_M_isCommon 19 = .ok (.aload_n 0, 1) := by decide +kernel
theorem d_M_isCommon_20 : decode b_M_isCommon 20 = .ok (.iload_n 3, 1) := by decide +kernel
theorem d_M_isCommon_21 : decode b_M_isCommon 21 = .ok (.invokevirtual 80, 3) := by decide +kernel
theorem d_M_isCommon_24 : decode b_M_isCommon 24 = .ok (.ifCond .eq 24, 3) := by decide +kernel
theorem d_M_isCommon_27 : decode b_M_isCommon 27 = .ok (.iload 4, 2) := by decide +kernel
theorem d_M_isCommon_29 : decode b_M_isCommon 29 = .ok (.ifCond .eq 15, 3) := by decide +kernel
theorem d_M_isCommon_32 : decode b_M_isCommon 32 = .ok (.aload_n 0, 1) := by decide +kernel
theorem d_M_isCommon_33 : decode b_M_isCommon 33 = .ok (.iload 4, 2) := by decide +kernel
theorem d_M_isCommon_35 : decode b_M_isCommon 35 = .ok (.iconst 0, 1) := by decide +kernel
theorem d_M_isCommon_36 : decode b_M_isCommon 36 = .ok (.ldc 83, 2) := by decide +kernel
theorem d_M_isCommon_38 : decode b_M_isCommon 38 = .ok (.invokevirtual 84, 3) := by decide +kernel
theorem d_M_isCommon_41 : decode b_M_isCommon 41 = .ok (.ifCond .eq 7, 3) := by decide +kernel
theorem d_M_isCommon_44 : decode b_M_isCommon 44 = .ok (.iconst 1, 1) := by decide +kernel
theorem d_M_isCommon_45 : decode b_M_isCommon 45 = .ok (.goto 4, 3) := by decide +kernel
theorem d_M_isCommon_48 : decode b_M_isCommon 48 = .ok (.iconst 0, 1) := by decide +kernel
theorem d_M_isCommon_49 : decode b_M_isCommon 49 = .ok (.istore 5, 2) := by decide +kernel
theorem d_M_isCommon_51 : decode b_M_isCommon 51 = .ok (.iload_n 2, 1) := by decide +kernel
theorem d_M_isCommon_52 : decode b_M_isCommon 52 = .ok (.istore 6, 2) := by decide +kernel
theorem d_M_isCommon_54 : decode b_M_isCommon 54 = .ok (.iload 6, 2) := by decide +kernel
theorem d_M_isCommon_56 : decode b_M_isCommon 56 = .ok (.aload_n 0, 1) := by decide +kernel
theorem d_M_isCommon_57 : decode b_M_isCommon 57 = .ok (.getfield 8, 3) := by decide +kernel
theorem d_M_isCommon_60 : decode b_M_isCommon 60 = .ok (.aload_n 0, 1) := by decide +kernel
theorem d_M_isCommon_61 : decode b_M_isCommon 61 = .ok (.getfield 20, 3) := by decide +kernel
theorem d_M_isCommon_64 : decode b_M_isCommon 64 = .ok (.iload_n 1, 1) := by decide +kernel
theorem d_M_isCommon_65 : decode b_M_isCommon 65 = .ok (.iconst 2, 1) := by decide +kernel
theorem d_M_isCommon_66 : decode b_M_isCommon 66 = .ok (.idiv, 1) := by decide +kernel
theorem d_M_isCommon_67 : decode b_M_isCommon 67 = .ok (.iaload, 1) := by decide +kernel
theorem d_M_isCommon_68 : decode b_M_isCommon 68 = .ok (.invokestatic 54, 3) := by decide +kernel
theorem d_M_isCommon_71 : decode b_M_isCommon 71 = .ok (.if_icmp .ge 31, 3) := by decide +kernel
theorem d_M_isCommon_74 : decode b_M_isCommon 74 = .ok (.iload 5, 2) := by decide +kernel
theorem d_M_isCommon_76 : decode b_M_isCommon 76 = .ok (.ifCond .eq 26, 3) := by decide +kernel
theorem d_M_isCommon_79 : decode b_M_isCommon 79 = .ok (.aload_n 0, 1) := by decide +kernel
theorem d_M_isCommon_80 : decode b_M_isCommon 80 = .ok (.iload_n 1, 1) := by decide +kernel
theorem d_M_isCommon_81 : decode b_M_isCommon 81 = .ok (.iload 6, 2) := by decide +kernel
theorem d_M_isCommon_83 : decode b_M_isCommon 83 = .ok (.invokevirtual 72, 3) := by decide +kernel
theorem d_M_isCommon_86 : decode b_M_isCommon 86 = .ok (.ifCond .ne 7, 3) := by decide +kernel
theorem d_M_isCommon_89 : decode b_M_isCommon 89 = .ok (.iconst 1, 1) := by decide +kernel
theorem d_M_isCommon_90 : decode b_M_isCommon 90 = .ok (.goto 4, 3) := by decide +kernel
theorem d_M_isCommon_93 : decode b_M_isCommon 93 = .ok (.iconst 0, 1) := by decide +kernel
theorem d_M_isCommon_94 : decode b_M_isCommon 94 = .ok (.istore 5, 2) := by decide +kernel
theorem d_M_isCommon_96 : decode b_M_isCommon 96 = .ok (.iinc 6 1, 3) := by decide +kernel
theorem d_M_isCommon_99 : decode b_M_isCommon 99 = .ok (.goto (-45), 3) := by decide +kernel
theorem d_M_isCommon_102 : decode b_M_isCommon 102 = .ok (.iload 5, 2) := by decide +kernel
theorem d_M_isCommon_104 : decode b_M_isCommon 104 = .ok (.ireturn, 1) := by decide +kernel
theorem d_M_isContext_0 : decode b_M_isContext 0 = .ok (.iload_n 1, 1) := by decide +kernel
theorem d_M_isContext_1 : decode b_M_isContext 1 = .ok (.invokestatic 57, 3) := by decide +kernel
theorem d_M_isContext_4 : decode b_M_isContext 4 = .ok (.ifCond .ne 5, 3) := by decide +kernel
theorem d_M_isContext_7 : decode b_M_isContext 7 = .ok (.iconst 0, 1) := by decide +kernel
theorem d_M_isContext_8 : decode b_M_isContext 8 = .ok (.ireturn, 1) := by decide +kernel
theorem d_M_isContext_9 : decode b_M_isContext 9 = .ok (.aload_n 0, 1) := by decide +kernel
theorem d_M_isContext_10 : decode b_M_isContext 10 = .ok (.getfield 8, 3) := by decide +kernel
theorem d_M_isContext_13 : decode b_M_isContext 13 = .ok (.aload_n 0, 1) := by decide +kernel
theorem d_M_isContext_14 : decode b_M_isContext 14 = .ok (.getfield 20, 3) := by decide +kernel
theorem d_M_isContext_17 : decode b_M_isContext 17 = .ok (.iload_n 1, 1) := by decide +kernel
theorem d_M_isContext_18 : decode b_M_isContext 18 = .ok (.iconst 2, 1) := by decide +kernel
theorem d_M_isContext_19 : decode b_M_isContext 19 = .ok (.idiv, 1) := by decide +kernel
theorem d_M_isContext_20 : decode b_M_isContext 20 = .ok (.iaload, 1) := by decide +kernel
theorem d_M_isContext_21 : decode b_M_isContext 21 = .ok (.invokestatic 47, 3) := by decide +kernel
theorem d_M_isContext_24 : decode b_M_isContext 24 = .ok (.istore_n 2, 1) := by decide +kernel
theorem d_M_isContext_25 : decode b_M_isContext 25 = .ok (.iload_n 2, 1) := by decide +kernel
theorem d_M_isContext_26 : decode b_M_isContext 26 = .ok (.aload_n 0, 1) := by decide +kernel
theorem d_M_isContext_27 : decode b_M_isContext 27 = .ok (.getfield 8, 3) := by decide +kernel
theorem d_M_isContext_30 : decode b_M_isContext 30 = .ok (.bipush 7, 2) := by decide +kernel
theorem d_M_isContext_32 : decode b_M_isContext 32 = .ok (.invokestatic 65, 3) := by decide +kernel
theorem d_M_isContext_35 : decode b_M_isContext 35 = .ok (.if_icmp .eq 16, 3) := by decide +kernel
theorem d_M_isContext_38 : decode b_M_isContext 38 = .ok (.iload_n 2, 1) := by decide +kernel
theorem d_M_isContext_39 : decode b_M_isContext 39 = .ok (.aload_n 0, 1) := by decide +kernel
theorem d_M_isContext_40 : decode b_M_isContext 40 = .ok (.getfield 8, 3) := by decide +kernel
theorem d_M_isContext_43 : decode b_M_isContext 43 = .ok (.bipush 8, 2) := by decide +kernel
theorem d_M_isContext_45 : decode b_M_isContext 45 = .ok (.invokestatic 65, 3) := by decide +kernel
theorem d_M_isContext_48 : decode b_M_isContext 48 = .ok (.if_icmp .ne 7, 3) := by decide +kernel
theorem d_M_isContext_51 : decode b_M_isContext 51 = .ok (.iconst 1, 1) := by decide +kernel
theorem d_M_isContext_52 : decode b_M_isContext 52 = .ok (.goto 4, 3) := by decide +kernel
theorem d_M_isContext_55 : decode b_M_isContext 55 = .ok (.iconst 0, 1) := by decide +kernel
theorem d_M_isContext_56 : decode b_M_isContext 56 = .ok (.ireturn, 1) := by decide +kernel
theorem d_M_isMethod_0 : decode b_M_isMethod 0 = .ok (.aload_n 0, 1) := by decide +kernel
theorem d_M_isMethod_1 : decode b_M_isMethod 1 = .ok (.iload_n 1, 1) := by decide +kernel
theorem d_M_isMethod_2 : decode b_M_isMethod 2 = .ok (.iconst 2, 1) := by decide +kernel
theorem d_M_isMethod_3 : decode b_M_isMethod 3 = .ok (.invokevirtual 68, 3) := by decide +kernel
theorem d_M_isMethod_6 : decode b_M_isMethod 6 = .ok (.ifCond .ne 5, 3) := by decide +kernel
theorem d_M_isMethod_9 : decode b_M_isMethod 9 = .ok (.iconst 0, 1) := by decide +kernel
theorem d_M_isMethod_10 : decode b_M_isMethod 10 = .ok (.ireturn, 1) := by decide +kernel
theorem d_M_isMethod_11 : decode b_M_isMethod 11 = .ok (.aload_n 0, 1) := by decide +kernel
theorem d_M_isMethod_12 : decode b_M_isMethod 12 = .ok (.iload_n 1, 1) := by decide +kernel
theorem d_M_isMethod_13 : decode b_M_isMethod 13 = .ok (.iconst 0, 1) := by decide +kernel
theorem d_M_isMethod_14 : decode b_M_isMethod 14 = .ok (.invokevirtual 72, 3) := by decide +kernel
theorem d_M_isMethod_17 : decode b_M_isMethod 17 = .ok (.iconst 1, 1) := by decide +kernel
theorem d_M_isMethod_18 : decode b_M_isMethod 18 = .ok (.ishr, 1) := by decide +kernel
theorem d_M_isMethod_19 : decode b_M_isMethod 19 = .ok (.istore_n 2, 1) := by decide +kernel
theorem d_M_isMethod_20 : decode b_M_isMethod 20 = .ok (.aload_n 0, 1) := by decide +kernel
theorem d_M_isMethod_21 : decode b_M_isMethod 21 = .ok (.iload_n 1, 1) := by decide +kernel
theorem d_M_isMethod_22 : decode b_M_isMethod 22 = .ok (.iconst 1, 1) := by decide +kernel
theorem d_M_isMethod_23 : decode b_M_isMethod 23 = .ok (.invokevirtual 72, 3) := by decide +kernel
theorem d_M_isMethod_26 : decode b_M_isMethod 26 = .ok (.istore_n 3, 1) := by decide +kernel
theorem d_M_isMethod_27 : decode b_M_isMethod 27 = .ok (.aload_n 0, 1) := by decide +kernel
theorem d_M_isMethod_28 : decode b_M_isMethod 28 = .ok (.iload_n 1, 1) := by decide +kernel
theorem d_M_isMethod_29 : decode b_M_isMethod 29 = .ok (.iconst 0, 1) := by decide +kernel
theorem d_M_isMethod_30 : decode b_M_isMethod 30 = .ok (.invokevirtual 72, 3) := by decide +kernel
theorem d_M_isMethod_33 : decode b_M_isMethod 33 = .ok (.invokestatic 76, 3) := by decide +kernel
theorem d_M_isMethod_36 : decode b_M_isMethod 36 = .ok (.ifCond .eq 30, 3) := by decide +kernel
theorem d_M_isMethod_39 : decode b_M_isMethod 39 = .ok (.iload_n 2, 1) := by decide +kernel
theorem d_M_isMethod_40 : decode b_M_isMethod 40 = .ok (.ifCond .lt 26, 3) := by decide +kernel
theorem d_M_isMethod_43 : decode b_M_isMethod 43 = .ok (.iload_n 2, 1) := by decide +kernel
theorem d_M_isMethod_44 : decode b_M_isMethod 44 = .ok (.ldc 79, 2) := by decide +kernel
theorem d_M_isMethod_46 : decode b_M_isMethod 46 = .ok (.if_icmp .ge 20, 3) := by decide +kernel
theorem d_M_isMethod_49 : decode b_M_isMethod 49 = .ok (.iload_n 2, 1) := by decide +kernel
theorem d_M_isMethod_50 : decode b_M_isMethod 50 = .ok (.iconst 4, 1) := by decide +kernel
theorem d_M_isMethod_51 : decode b_M_isMethod 51 = .ok (.ishr, 1) := by decide +kernel
theorem d_M_isMethod_52 : decode b_M_isMethod 52 = .ok (.bipush 31, 2) := by decide +kernel
theorem d_M_isMethod_54 : decode b_M_isMethod 54 = .ok (.iand, 1) := by decide +kernel
theorem d_M_isMethod_55 : decode b_M_isMethod 55 = .ok (.iload_n 2, 1) := by decide +kernel
theorem d_M_isMethod_56 : decode b_M_isMethod 56 = .ok (.bipush 15, 2) := by decide +kernel
theorem d_M_isMethod_58 : decode b_M_isMethod 58 = .ok (.iand, 1) := by decide +kernel
theorem d_M_isMethod_59 : decode b_M_isMethod 59 = .ok (.if_icmp .lt 7, 3) := by decide +kernel
theorem d_M_isMethod_62 : decode b_M_isMethod 62 = .ok (.iconst 1, 1) := by decide +kernel
theorem d_M_isMethod_63 : decode b_M_isMethod 63 = .ok (.goto 4, 3) := by decide +kernel
theorem d_M_isMethod_66 : decode b_M_isMethod 66 = .ok (.iconst 0, 1) := by decide +kernel
theorem d_M_isMethod_67 : decode b_M_isMethod 67 = .ok (.istore 4, 2) := by decide +kernel
theorem d_M_isMethod_69 : decode b_M_isMethod 69 = .ok (.iload 4, 2) := by decide +kernel
theorem d_M_isMethod_71 : decode b_M_isMethod 71 = .ok (.ifCond .eq 32, 3) := by decide +kernel
theorem d_M_isMethod_74 : decode b_M_isMethod 74 = .ok (.iload_n 3, 1) := by decide +kernel
theorem d_M_isMethod_75 : decode b_M_isMethod 75 = .ok (.invokestatic 57, 3) := by decide +kernel
theorem d_M_isMethod_78 : decode b_M_isMethod 78 = .ok (.ifCond .eq 25, 3) := by decide +kernel
theorem d_M_isMethod_81 : decode b_M_isMethod 81 = .ok (.aload_n 0, 1) := by decide +kernel
theorem d_M_isMethod_82 : decode b_M_isMethod 82 = .ok (.getfield 8, 3) := by decide +kernel
theorem d_M_isMethod_85 : decode b_M_isMethod 85 = .ok (.aload_n 0, 1) := by decide +kernel
theorem d_M_isMethod_86 : decode b_M_isMethod 86 = .ok (.getfield 20, 3) := by decide +kernel
theorem d_M_isMethod_89 : decode b_M_isMethod 89 = .ok (.iload_n 3, 1) := by decide +kernel
theorem d_M_isMethod_90 : decode b_M_isMethod 90 = .ok (.iconst 2, 1) := by decide +kernel
theorem d_M_isMethod_91 : decode b_M_isMethod 91 = .ok (.idiv, 1) := by decide +kernel
theorem d_M_isMethod_92 : decode b_M_isMethod 92 = .ok (.iaload, 1) := by decide +kernel
theorem d_M_isMethod_93 : decode b_M_isMethod 93 = .ok (.invokestatic 50, 3) := by decide +kernel
theorem d_M_isMethod_96 : decode b_M_isMethod 96 = .ok (.ifCond .eq 7, 3) := by decide +kernel
theorem d_M_isMethod_99 : decode b_M_isMethod 99 = .ok (.iconst 1, 1) := by decide +kernel
theorem d_M_isMethod_100 : decode b_M_isMethod 100 = .ok (.goto 4, 3) := by decide +kernel
theorem d_M_isMethod_103 : decode b_M_isMethod 103 = .ok (.iconst 0, 1) := by decide +kernel
theorem d_M_isMethod_104 : decode b_M_isMethod 104 = .ok (.ireturn, 1) := by decide +kernel
end
section
theorem d_M_isMethodContext_0 : decode b_M_isMethodContext 0 = .ok (.aload_n 0, 1) := by decide +kernel
theorem d_M_isMethodContext_1 : decode b_M_isMethodContext 1 = .ok (.iload_n 1, 1) := by decide +kernel
theorem d_M_isMethodContext_2 : decode b_M_isMethodContext 2 = .ok (.iconst 5, 1) := by decide +kernel
theorem d_M_isMethodContext_3 : decode b_M_isMethodContext 3 = .ok (.invokevirtual 68, 3) := by decide +kernel
theorem d_M_isMethodContext_6 : decode b_M_isMethodContext 6 = .ok (.ifCond .eq 16, 3) := by decide +kernel
theorem d_M_isMethodContext_9 : decode b_M_isMethodContext 9 = .ok (.aload_n 0, 1) := by decide +kernel
theorem d_M_isMethodContext_10 : decode b_M_isMethodContext 10 = .ok (.aload_n 0, 1) := by decide +kernel
theorem d_M_isMethodContext_11 : decode b_M_isMethodContext 11 = .ok (.iload_n 1, 1) := by decide +kernel
theorem d_M_isMethodContext_12 : decode b_M_isMethodContext 12 = .ok (.iconst 3, 1) := by decide +kernel
theorem d_M_isMethodContext_13 : decode b_M_isMethodContext 13 = .ok (.invokevirtual 72, 3) := by decide +kernel
theorem d_M_isMethodContext_16 : decode b_M_isMethodContext 16 = .ok (.invokevirtual 88, 3) := by decide +kernel
theorem d_M_isMethodContext_19 : decode b_M_isMethodContext 19 = .ok (.ifCond .ne 5, 3) := by decide +kernel
theorem d_M_isMethodContext_22 : decode b_M_isMethodContext 22 = .ok (.iconst 0, 1) := by decide +kernel
theorem d_M_isMethodContext_23 : decode b_M_isMethodContext 23 = .ok (.ireturn, 1) := by decide +kernel
theorem d_M_isMethodContext_24 : decode b_M_isMethodContext 24 = .ok (.aload_n 0, 1) := by decide +kernel
theorem d_M_isMethodContext_25 : decode b_M_isMethodContext 25 = .ok (.aload_n 0, 1) := by decide +kernel
theorem d_M_isMethodContext_26 : decode b_M_isMethodContext 26 = .ok (.iload_n 1, 1) := by decide +kernel
theorem d_M_isMethodContext_27 : decode b_M_isMethodContext 27 = .ok (.iconst 3, 1) := by decide +kernel
theorem d_M_isMethodContext_28 : decode b_M_isMethodContext 28 = .ok (.invokevirtual 72, 3) := by decide +kernel
theorem d_M_isMethodContext_31 : decode b_M_isMethodContext 31 = .ok (.invokevirtual 91, 3) := by decide +kernel
theorem d_M_isMethodContext_34 : decode b_M_isMethodContext 34 = .ok (.istore_n 2, 1) := by decide +kernel
theorem d_M_isMethodContext_35 : decode b_M_isMethodContext 35 = .ok (.aload_n 0, 1) := by decide +kernel
theorem d_M_isMethodContext_36 : decode b_M_isMethodContext 36 = .ok (.aload_n 0, 1) := by decide +kernel
theorem d_M_isMethodContext_37 : decode b_M_isMethodContext 37 = .ok (.iload_n 1, 1) := by decide +kernel
theorem d_M_isMethodContext_38 : decode b_M_isMethodContext 38 = .ok (.iconst 3, 1) := by decide +kernel
theorem d_M_isMethodContext_39 : decode b_M_isMethodContext 39 = .ok (.invokevirtual 72, 3) := by decide +kernel
theorem d_M_isMethodContext_42 : decode b_M_isMethodContext 42 = .ok (.invokevirtual 95, 3) := by decide +kernel
theorem d_M_isMethodContext_45 : decode b_M_isMethodContext 45 = .ok (.istore_n 3, 1) := by decide +kernel
theorem d_M_isMethodContext_46 : decode b_M_isMethodContext 46 = .ok (.aload_n 0, 1) := by decide +kernel
theorem d_M_isMethodContext_47 : decode b_M_isMethodContext 47 = .ok (.iload_n 1, 1) := by decide +kernel
theorem d_M_isMethodContext_48 : decode b_M_isMethodContext 48 = .ok (.iconst 2, 1) := by decide +kernel
theorem d_M_isMethodContext_49 : decode b_M_isMethodContext 49 = .ok (.invokevirtual 72, 3) := by decide +kernel
theorem d_M_isMethodContext_52 : decode b_M_isMethodContext 52 = .ok (.istore 4, 2) := by decide +kernel
theorem d_M_isMethodContext_54 : decode b_M_isMethodContext 54 = .ok (.aload_n 0, 1) := by decide +kernel
theorem d_M_isMethodContext_55 : decode b_M_isMethodContext 55 = .ok (.getfield 8, 3) := by decide +kernel
theorem d_M_isMethodContext_58 : decode b_M_isMethodContext 58 = .ok (.aload_n 0, 1) := by decide +kernel
theorem d_M_isMethodContext_59 : decode b_M_isMethodContext 59 = .ok (.getfield 20, 3) := by decide +kernel
theorem d_M_isMethodContext_62 : decode b_M_isMethodContext 62 = .ok (.iload_n 1, 1) := by decide +kernel
theorem d_M_isMethodContext_63 : decode b_M_isMethodContext 63 = .ok (.iconst 2, 1) := by decide +kernel
theorem d_M_isMethodContext_64 : decode b_M_isMethodContext 64 = .ok (.idiv, 1) := by decide +kernel
theorem d_M_isMethodContext_65 : decode b_M_isMethodContext 65 = .ok (.iaload, 1) := by decide +kernel
theorem d_M_isMethodContext_66 : decode b_M_isMethodContext 66 = .ok (.invokestatic 54, 3) := by decide +kernel
theorem d_M_isMethodContext_69 : decode b_M_isMethodContext 69 = .ok (.iconst 5, 1) := by decide +kernel
theorem d_M_isMethodContext_70 : decode b_M_isMethodContext 70 = .ok (.iload_n 2, 1) := by decide +kernel
theorem d_M_isMethodContext_71 : decode b_M_isMethodContext 71 = .ok (.iadd, 1) := by decide +kernel
theorem d_M_isMethodContext_72 : decode b_M_isMethodContext 72 = .ok (.iload_n 3, 1) := by decide +kernel
theorem d_M_isMethodContext_73 : decode b_M_isMethodContext 73 = .ok (.iadd, 1) := by decide +kernel
theorem d_M_isMethodContext_74 : decode b_M_isMethodContext 74 = .ok (.if_icmp .ne 34, 3) := by decide +kernel
theorem d_M_isMethodContext_77 : decode b_M_isMethodContext 77 = .ok (.aload_n 0, 1) := by decide +kernel
theorem d_M_isMethodContext_78 : decode b_M_isMethodContext 78 = .ok (.iload 4, 2) := by decide +kernel
theorem d_M_isMethodContext_80 : decode b_M_isMethodContext 80 = .ok (.iload_n 2, 1) := by decide +kernel
theorem d_M_isMethodContext_81 : decode b_M_isMethodContext 81 = .ok (.iload_n 2, 1) := by decide +kernel
theorem d_M_isMethodContext_82 : decode b_M_isMethodContext 82 = .ok (.iload_n 3, 1) := by decide +kernel
theorem d_M_isMethodContext_83 : decode b_M_isMethodContext 83 = .ok (.iadd, 1) := by decide +kernel
theorem d_M_isMethodContext_84 : decode b_M_isMethodContext 84 = .ok (.invokevirtual 84, 3) := by decide +kernel
theorem d_M_isMethodContext_87 : decode b_M_isMethodContext 87 = .ok (.ifCond .eq 21, 3) := by decide +kernel
theorem d_M_isMethodContext_90 : decode b_M_isMethodContext 90 = .ok (.aload_n 0, 1) := by decide +kernel
theorem d_M_isMethodContext_91 : decode b_M_isMethodContext 91 = .ok (.iload_n 1, 1) := by decide +kernel
theorem d_M_isMethodContext_92 : decode b_M_isMethodContext 92 = .ok (.iconst 5, 1) := by decide +kernel
theorem d_M_isMethodContext_93 : decode b_M_isMethodContext 93 = .ok (.iload 4, 2) := by decide +kernel
theorem d_M_isMethodContext_95 : decode b_M_isMethodContext 95 = .ok (.iconst 1, 1) := by decide +kernel
theorem d_M_isMethodContext_96 : decode b_M_isMethodContext 96 = .ok (.ishr, 1) := by decide +kernel
theorem d_M_isMethodContext_97 : decode b_M_isMethodContext 97 = .ok (.iadd, 1) := by decide +kernel
theorem d_M_isMethodContext_98 : decode b_M_isMethodContext 98 = .ok (.invokevirtual 98, 3) := by decide +kernel
theorem d_M_isMethodContext_101 : decode b_M_isMethodContext 101 = .ok (.ifCond .eq 7, 3) := by decide +kernel
theorem d_M_isMethodContext_104 : decode b_M_isMethodContext 104 = .ok (.iconst 1, 1) := by decide +kernel
theorem d_M_isMethodContext_105 : decode b_M_isMethodContext 105 = .ok (.goto 4, 3) := by decide +kernel
theorem d_M_isMethodContext_108 : decode b_M_isMethodContext 108 = .ok (.iconst 0, 1) := by decide +kernel
theorem d_M_isMethodContext_109 : decode b_M_isMethodContext 109 = .ok (.ireturn, 1) := by decide +kernel
theorem d_M_isNumber_0 : decode b_M_isNumber 0 = .ok (.iload_n 0, 1) := by decide +kernel
theorem d_M_isNumber_1 : decode b_M_isNumber 1 = .ok (.iconst 1, 1) := by decide +kernel
theorem d_M_isNumber_2 : decode b_M_isNumber 2 = .ok (.iand, 1) := by decide +kernel
theorem d_M_isNumber_3 : decode b_M_isNumber 3 = .ok (.iconst 1, 1) := by decide +kernel
theorem d_M_isNumber_4 : decode b_M_isNumber 4 = .ok (.if_icmp .ne 7, 3) := by decide +kernel
theorem d_M_isNumber_7 : decode b_M_isNumber 7 = .ok (.iconst 1, 1) := by decide +kernel
theorem d_M_isNumber_8 : decode b_M_isNumber 8 = .ok (.goto 4, 3) := by decide +kernel
theorem d_M_isNumber_11 : decode b_M_isNumber 11 = .ok (.iconst 0, 1) := by decide +kernel
theorem d_M_isNumber_12 : decode b_M_isNumber 12 = .ok (.ireturn, 1) := by decide +kernel
theorem d_M_isNumberFrom_0 : decode b_M_isNumberFrom 0 = .ok (.iload_n 1, 1) := by decide +kernel
theorem d_M_isNumberFrom_1 : decode b_M_isNumberFrom 1 = .ok (.invokestatic 76, 3) := by decide +kernel
theorem d_M_isNumberFrom_4 : decode b_M_isNumberFrom 4 = .ok (.ifCond .eq 21, 3) := by decide +kernel
theorem d_M_isNumberFrom_7 : decode b_M_isNumberFrom 7 = .ok (.iload_n 1, 1) := by decide +kernel
theorem d_M_isNumberFrom_8 : decode b_M_isNumberFrom 8 = .ok (.iconst 1, 1) := by decide +kernel
theorem d_M_isNumberFrom_9 : decode b_M_isNumberFrom 9 = .ok (.ishr, 1) := by decide +kernel
theorem d_M_isNumberFrom_10 : decode b_M_isNumberFrom 10 = .ok (.iload_n 2, 1) := by decide +kernel
theorem d_M_isNumberFrom_11 : decode b_M_isNumberFrom 11 = .ok (.if_icmp .lt 14, 3) := by decide +kernel
theorem d_M_isNumberFrom_14 : decode b_M_isNumberFrom 14 = .ok (.iload_n 1, 1) := by decide +kernel
theorem d_M_isNumberFrom_15 : decode b_M_isNumberFrom 15 = .ok (.iconst 1, 1) := by decide +kernel
theorem d_M_isNumberFrom_16 : decode b_M_isNumberFrom 16 = .ok (.ishr, 1) := by decide +kernel
theorem d_M_isNumberFrom_17 : decode b_M_isNumberFrom 17 = .ok (.iload_n 3, 1) := by decide +kernel
theorem d_M_isNumberFrom_18 : decode b_M_isNumberFrom 18 = .ok (.if_icmp .gt 7, 3) := by decide +kernel
theorem d_M_isNumberFrom_21 : decode b_M_isNumberFrom 21 = .ok (.iconst 1, 1) := by decide +kernel
theorem d_M_isNumberFrom_22 : decode b_M_isNumberFrom 22 = .ok (.goto 4, 3) := by decide +kernel
theorem d_M_isNumberFrom_25 : decode b_M_isNumberFrom 25 = .ok (.iconst 0, 1) := by decide +kernel
theorem d_M_isNumberFrom_26 : decode b_M_isNumberFrom 26 = .ok (.ireturn, 1) := by decide +kernel
theorem d_M_isObject_0 : decode b_M_isObject 0 = .ok (.iload_n 0, 1) := by decide +kernel
theorem d_M_isObject_1 : decode b_M_isObject 1 = .ok (.ifCond .le 13, 3) := by decide +kernel
theorem d_M_isObject_4 : decode b_M_isObject 4 = .ok (.iload_n 0, 1) := by decide +kernel
theorem d_M_isObject_5 : decode b_M_isObject 5 = .ok (.iconst 1, 1) := by decide +kernel
theorem d_M_isObject_6 : decode b_M_isObject 6 = .ok (.iand, 1) := by decide +kernel
theorem d_M_isObject_7 : decode b_M_isObject 7 = .ok (.ifCond .ne 7, 3) := by decide +kernel
theorem d_M_isObject_10 : decode b_M_isObject 10 = .ok (.iconst 1, 1) := by decide +kernel
theorem d_M_isObject_11 : decode b_M_isObject 11 = .ok (.goto 4, 3) := by decide +kernel
theorem d_M_isObject_14 : decode b_M_isObject 14 = .ok (.iconst 0, 1) := by decide +kernel
theorem d_M_isObject_15 : decode b_M_isObject 15 = .ok (.ireturn, 1) := by decide +kernel
theorem d_M_isOfBytes_0 : decode b_M_isOfBytes 0 = .ok (.aload_n 0, 1) := by decide +kernel
theorem d_M_isOfBytes_1 : decode b_M_isOfBytes 1 = .ok (.iload_n 1, 1) := by decide +kernel
theorem d_M_isOfBytes_2 : decode b_M_isOfBytes 2 = .ok (.iconst 4, 1) := by decide +kernel
theorem d_M_isOfBytes_3 : decode b_M_isOfBytes 3 = .ok (.iadd, 1) := by decide +kernel
theorem d_M_isOfBytes_4 : decode b_M_isOfBytes 4 = .ok (.baload, 1) := by decide +kernel
theorem d_M_isOfBytes_5 : decode b_M_isOfBytes 5 = .ok (.iconst 1, 1) := by decide +kernel
theorem d_M_isOfBytes_6 : decode b_M_isOfBytes 6 = .ok (.if_icmp .ne 7, 3) := by decide +kernel
theorem d_M_isOfBytes_9 : decode b_M_isOfBytes 9 = .ok (.iconst 1, 1) := by decide +kernel
theorem d_M_isOfBytes_10 : decode b_M_isOfBytes 10 = .ok (.goto 4, 3) := by decide +kernel
theorem d_M_isOfBytes_13 : decode b_M_isOfBytes 13 = .ok (.iconst 0, 1) := by decide +kernel
theorem d_M_isOfBytes_14 : decode b_M_isOfBytes 14 = .ok (.ireturn, 1) := by decide +kernel
theorem d_M_isRightObject_0 : decode b_M_isRightObject 0 = .ok (.aload_n 0, 1) := by decide +kernel
theorem d_M_isRightObject_1 : decode b_M_isRightObject 1 = .ok (.getfield 8, 3) := by decide +kernel
theorem d_M_isRightObject_4 : decode b_M_isRightObject 4 = .ok (.aload_n 0, 1) := by decide +kernel
theorem d_M_isRightObject_5 : decode b_M_isRightObject 5 = .ok (.getfield 20, 3) := by decide +kernel
theorem d_M_isRightObject_8 : decode b_M_isRightObject 8 = .ok (.iload_n 1, 1) := by decide +kernel
theorem d_M_isRightObject_9 : decode b_M_isRightObject 9 = .ok (.iaload, 1) := by decide +kernel
theorem d_M_isRightObject_10 : decode b_M_isRightObject 10 = .ok (.invokestatic 47, 3) := by decide +kernel
theorem d_M_isRightObject_13 : decode b_M_isRightObject 13 = .ok (.istore_n 2, 1) := by decide +kernel
theorem d_M_isRightObject_14 : decode b_M_isRightObject 14 = .ok (.aload_n 0, 1) := by decide +kernel
theorem d_M_isRightObject_15 : decode b_M_isRightObject 15 = .ok (.iload_n 2, 1) := by decide +kernel
theorem d_M_isRightObject_16 : decode b_M_isRightObject 16 = .ok (.invokevirtual 112, 3) := by decide +kernel
theorem d_M_isRightObject_19 : decode b_M_isRightObject 19 = .ok (.ifCond .ne 5, 3) := by decide +kernel
theorem d_M_isRightObject_22 : decode b_M_isRightObject 22 = .ok (.iconst 0, 1) := by decide +kernel
theorem d_M_isRightObject_23 : decode b_M_isRightObject 23 = .ok (.ireturn, 1) := by decide +kernel
theorem d_M_isRightObject_24 : decode b_M_isRightObject 24 = .ok (.aload_n 0, 1) := by decide +kernel
theorem d_M_isRightObject_25 : decode b_M_isRightObject 25 = .ok (.iload_n 2, 1) := by decide +kernel
theorem d_M_isRightObject_26 : decode b_M_isRightObject 26 = .ok (.iconst 2, 1) := by decide +kernel
theorem d_M_isRightObject_27 : decode b_M_isRightObject 27 = .ok (.invokevirtual 72, 3) := by decide +kernel
theorem d_M_isRightObject_30 : decode b_M_isRightObject 30 = .ok (.iconst 1, 1) := by decide +kernel
theorem d_M_isRightObject_31 : decode b_M_isRightObject 31 = .ok (.ishr, 1) := by decide +kernel
theorem d_M_isRightObject_32 : decode b_M_isRightObject 32 = .ok (.istore_n 3, 1) := by decide +kernel
theorem d_M_isRightObject_33 : decode b_M_isRightObject 33 = .ok (.aload_n 0, 1) := by decide +kernel
theorem d_M_isRightObject_34 : decode b_M_isRightObject 34 = .ok (.getfield 8, 3) := by decide +kernel
theorem d_M_isRightObject_37 : decode b_M_isRightObject 37 = .ok (.aload_n 0, 1) := by decide +kernel
theorem d_M_isRightObject_38 : decode b_M_isRightObject 38 = .ok (.getfield 20, 3) := by decide +kernel
theorem d_M_isRightObject_41 : decode b_M_isRightObject 41 = .ok (.iload_n 1, 1) := by decide +kernel
theorem d_M_isRightObject_42 : decode b_M_isRightObject 42 = .ok (.iaload, 1) := by decide +kernel
theorem d_M_isRightObject_43 : decode b_M_isRightObject 43 = .ok (.invokestatic 54, 3) := by decide +kernel
theorem d_M_isRightObject_46 : decode b_M_isRightObject 46 = .ok (.istore 4, 2) := by decide +kernel
theorem d_M_isRightObject_48 : decode b_M_isRightObject 48 = .ok (.aload_n 0, 1) := by decide +kernel
theorem d_M_isRightObject_49 : decode b_M_isRightObject 49 = .ok (.getfield 8, 3) := by decide +kernel
theorem d_M_isRightObject_52 : decode b_M_isRightObject 52 = .ok (.aload_n 0, 1) := by decide +kernel
theorem d_M_isRightObject_53 : decode b_M_isRightObject 53 = .ok (.getfield 20, 3) := by decide +kernel
theorem d_M_isRightObject_56 : decode b_M_isRightObject 56 = .ok (.iload_n 1, 1) := by decide +kernel
theorem d_M_isRightObject_57 : decode b_M_isRightObject 57 = .ok (.iaload, 1) := by decide +kernel
theorem d_M_isRightObject_58 : decode b_M_isRightObject 58 = .ok (.invokestatic 50, 3) := by decide +kernel
theorem d_M_isRightObject_61 : decode b_M_isRightObject 61 = .ok (.iload_n 3, 1) := by decide +kernel
theorem d_M_isRightObject_62 : decode b_M_isRightObject 62 = .ok (.sipush 2048, 3) := by decide +kernel
theorem d_M_isRightObject_65 : decode b_M_isRightObject 65 = .ok (.if_icmp .lt 7, 3) := by decide +kernel
theorem d_M_isRightObject_68 : decode b_M_isRightObject 68 = .ok (.iconst 1, 1) := by decide +kernel
theorem d_M_isRightObject_69 : decode b_M_isRightObject 69 = .ok (.goto 4, 3) := by decide +kernel
theorem d_M_isRightObject_72 : decode b_M_isRightObject 72 = .ok (.iconst 0, 1) := by decide +kernel
theorem d_M_isRightObject_73 : decode b_M_isRightObject 73 = .ok (.if_icmp .eq 5, 3) := by decide +kernel
theorem d_M_isRightObject_76 : decode b_M_isRightObject 76 = .ok (.iconst 0, 1) := by decide +kernel
theorem d_M_isRightObject_77 : decode b_M_isRightObject 77 = .ok (.ireturn, 1) := by decide +kernel
theorem d_M_isRightObject_78 : decode b_M_isRightObject 78 = .ok (.iload_n 3, 1) := by decide +kernel
theorem d_M_isRightObject_79 : decode b_M_isRightObject 79 = .ok (.sipush 255, 3) := by decide +kernel
theorem d_M_isRightObject_82 : decode b_M_isRightObject 82 = .ok (.iand, 1) := by decide +kernel
theorem d_M_isRightObject_83 : decode b_M_isRightObject 83 = .ok (.istore 5, 2) := by decide +kernel
theorem d_M_isRightObject_85 : decode b_M_isRightObject 85 = .ok (.iload_n 3, 1) := by decide +kernel
theorem d_M_isRightObject_86 : decode b_M_isRightObject 86 = .ok (.sipush 2048, 3) := by decide +kernel
theorem d_M_isRightObject_89 : decode b_M_isRightObject 89 = .ok (.if_icmp .ge 28, 3) := by decide +kernel
theorem d_M_isRightObject_92 : decode b_M_isRightObject 92 = .ok (.iload_n 3, 1) := by decide +kernel
theorem d_M_isRightObject_93 : decode b_M_isRightObject 93 = .ok (.sipush 1024, 3) := by decide +kernel
theorem d_M_isRightObject_96 : decode b_M_isRightObject 96 = .ok (.iand, 1) := by decide +kernel
theorem d_M_isRightObject_97 : decode b_M_isRightObject 97 = .ok (.ifCond .le 13, 3) := by decide +kernel
theorem d_M_isRightObject_100 : decode b_M_isRightObject 100 = .ok (.iload 4, 2) := by decide +kernel
theorem d_M_isRightObject_102 : decode b_M_isRightObject 102 = .ok (.iload 5, 2) := by decide +kernel
theorem d_M_isRightObject_104 : decode b_M_isRightObject 104 = .ok (.if_icmp .lt 17, 3) := by decide +kernel
theorem d_M_isRightObject_107 : decode b_M_isRightObject 107 = .ok (.goto 10, 3) := by decide +kernel
theorem d_M_isRightObject_110 : decode b_M_isRightObject 110 = .ok (.iload 4, 2) := by decide +kernel
theorem d_M_isRightObject_112 : decode b_M_isRightObject 112 = .ok (.iload 5, 2) := by decide +kernel
theorem d_M_isRightObject_114 : decode b_M_isRightObject 114 = .ok (.if_icmp .ne 7, 3) := by decide +kernel
theorem d_M_isRightObject_117 : decode b_M_isRightObject 117 = .ok (.iconst 1, 1) := by decide +kernel
theorem d_M_isRightObject_118 : decode b_M_isRightObject 118 = .ok (.goto 4, 3) := by decide +kernel
theorem d_M_isRightObject_121 : decode b_M_isRightObject 121 = .ok (.iconst 0, 1) := by decide +kernel
theorem d_M_isRightObject_122 : decode b_M_isRightObject 122 = .ok (.istore 6, 2) := by decide +kernel
theorem d_M_isRightObject_124 : decode b_M_isRightObject 124 = .ok (.iload 6, 2) := by decide +kernel
theorem d_M_isRightObject_126 : decode b_M_isRightObject 126 = .ok (.ifCond .eq 53, 3) := by decide +kernel
theorem d_M_isRightObject_129 : decode b_M_isRightObject 129 = .ok (.iload_n 2, 1) := by decide +kernel
theorem d_M_isRightObject_130 : decode b_M_isRightObject 130 = .ok (.aload_n 0, 1) := by decide +kernel
theorem d_M_isRightObject_131 : decode b_M_isRightObject 131 = .ok (.getfield 8, 3) := by decide +kernel
theorem d_M_isRightObject_134 : decode b_M_isRightObject 134 = .ok (.bipush 7, 2) := by decide +kernel
theorem d_M_isRightObject_136 : decode b_M_isRightObject 136 = .ok (.invokestatic 65, 3) := by decide +kernel
theorem d_M_isRightObject_139 : decode b_M_isRightObject 139 = .ok (.if_icmp .ne 13, 3) := by decide +kernel
theorem d_M_isRightObject_142 : decode b_M_isRightObject 142 = .ok (.aload_n 0, 1) := by decide +kernel
theorem d_M_isRightObject_143 : decode b_M_isRightObject 143 = .ok (.iconst 2, 1) := by decide +kernel
theorem d_M_isRightObject_144 : decode b_M_isRightObject 144 = .ok (.iload_n 1, 1) := by decide +kernel
theorem d_M_isRightObject_145 : decode b_M_isRightObject 145 = .ok (.imul, 1) := by decide +kernel
theorem d_M_isRightObject_146 : decode b_M_isRightObject 146 = .ok (.invokevirtual 115, 3) := by decide +kernel
theorem d_M_isRightObject_149 : decode b_M_isRightObject 149 = .ok (.ifCond .eq 30, 3) := by decide +kernel
theorem d_M_isRightObject_152 : decode b_M_isRightObject 152 = .ok (.iload_n 2, 1) := by decide +kernel
theorem d_M_isRightObject_153 : decode b_M_isRightObject 153 = .ok (.aload_n 0, 1) := by decide +kernel
theorem d_M_isRightObject_154 : decode b_M_isRightObject 154 = .ok (.getfield 8, 3) := by decide +kernel
theorem d_M_isRightObject_157 : decode b_M_isRightObject 157 = .ok (.bipush 8, 2) := by decide +kernel
theorem d_M_isRightObject_159 : decode b_M_isRightObject 159 = .ok (.invokestatic 65, 3) := by decide +kernel
theorem d_M_isRightObject_162 : decode b_M_isRightObject 162 = .ok (.if_icmp .ne 13, 3) := by decide +kernel
theorem d_M_isRightObject_165 : decode b_M_isRightObject 165 = .ok (.aload_n 0, 1) := by decide +kernel
theorem d_M_isRightObject_166 : decode b_M_isRightObject 166 = .ok (.iconst 2, 1) := by decide +kernel
theorem d_M_isRightObject_167 : decode b_M_isRightObject 167 = .ok (.iload_n 1, 1) := by decide +kernel
theorem d_M_isRightObject_168 : decode b_M_isRightObject 168 = .ok (.imul, 1) := by decide +kernel
theorem d_M_isRightObject_169 : decode b_M_isRightObject 169 = .ok (.invokevirtual 118, 3) := by decide +kernel
theorem d_M_isRightObject_172 : decode b_M_isRightObject 172 = .ok (.ifCond .eq 7, 3) := by decide +kernel
theorem d_M_isRightObject_175 : decode b_M_isRightObject 175 = .ok (.iconst 1, 1) := by decide +kernel
theorem d_M_isRightObject_176 : decode b_M_isRightObject 176 = .ok (.goto 4, 3) := by decide +kernel
theorem d_M_isRightObject_179 : decode b_M_isRightObject 179 = .ok (.iconst 0, 1) := by decide +kernel
theorem d_M_isRightObject_180 : decode b_M_isRightObject 180 = .ok (.ireturn, 1) := by decide +kernel
theorem d_M_isThere_0 : decode b_M_isThere 0 = .ok (.aload_n 0, 1) := by decide +kernel
theorem d_M_isThere_1 : decode b_M_isThere 1 = .ok (.getfield 149, 3) := by decide +kernel
theorem d_M_isThere_4 : decode b_M_isThere 4 = .ok (.ifCond .le 22, 3) := by decide +kernel
theorem d_M_isThere_7 : decode b_M_isThere 7 = .ok (.iload_n 1, 1) := by decide +kernel
theorem d_M_isThere_8 : decode b_M_isThere 8 = .ok (.ifCond .le 18, 3) := by decide +kernel
theorem d_M_isThere_11 : decode b_M_isThere 11 = .ok (.iload_n 1, 1) := by decide +kernel
theorem d_M_isThere_12 : decode b_M_isThere 12 = .ok (.aload_n 0, 1) := by decide +kernel
theorem d_M_isThere_13 : decode b_M_isThere 13 = .ok (.getfield 14, 3) := by decide +kernel
theorem d_M_isThere_16 : decode b_M_isThere 16 = .ok (.invokestatic 101, 3) := by decide +kernel
theorem d_M_isThere_19 : decode b_M_isThere 19 = .ok (.if_icmp .gt 7, 3) := by decide +kernel
theorem d_M_isThere_22 : decode b_M_isThere 22 = .ok (.iconst 1, 1) := by decide +kernel
theorem d_M_isThere_23 : decode b_M_isThere 23 = .ok (.goto 4, 3) := by decide +kernel
theorem d_M_isThere_26 : decode b_M_isThere 26 = .ok (.iconst 0, 1) := by decide +kernel
theorem d_M_isThere_27 : decode b_M_isThere 27 = .ok (.ireturn, 1) := by decide +kernel
theorem d_M_isValue_0 : decode b_M_isValue 0 = .ok (.iload_n 1, 1) := by decide +kernel
theorem d_M_isValue_1 : decode b_M_isValue 1 = .ok (.iconst 4, 1) := by decide +kernel
theorem d_M_isValue_2 : decode b_M_isValue 2 = .ok (.iadd, 1) := by decide +kernel
theorem d_M_isValue_3 : decode b_M_isValue 3 = .ok (.aload_n 0, 1) := by decide +kernel
theorem d_M_isValue_4 : decode b_M_isValue 4 = .ok (.getfield 40, 3) := by decide +kernel
theorem d_M_isValue_7 : decode b_M_isValue 7 = .ok (.if_icmp .le 5, 3) := by decide +kernel
theorem d_M_isValue_10 : decode b_M_isValue 10 = .ok (.iconst 0, 1) := by decide +kernel
theorem d_M_isValue_11 : decode b_M_isValue 11 = .ok (.ireturn, 1) := by decide +kernel
theorem d_M_isValue_12 : decode b_M_isValue 12 = .ok (.aload_n 0, 1) := by decide +kernel
theorem d_M_isValue_13 : decode b_M_isValue 13 = .ok (.getfield 8, 3) := by decide +kernel
theorem d_M_isValue_16 : decode b_M_isValue 16 = .ok (.iload_n 1, 1) := by decide +kernel
theorem d_M_isValue_17 : decode b_M_isValue 17 = .ok (.invokestatic 47, 3) := by decide +kernel
theorem d_M_isValue_20 : decode b_M_isValue 20 = .ok (.istore_n 2, 1) := by decide +kernel
theorem d_M_isValue_21 : decode b_M_isValue 21 = .ok (.iload_n 2, 1) := by decide +kernel
theorem d_M_isValue_22 : decode b_M_isValue 22 = .ok (.ifCond .eq 27, 3) := by decide +kernel
theorem d_M_isValue_25 : decode b_M_isValue 25 = .ok (.iload_n 2, 1) := by decide +kernel
theorem d_M_isValue_26 : decode b_M_isValue 26 = .ok (.invokestatic 76, 3) := by decide +kernel
theorem d_M_isValue_29 : decode b_M_isValue 29 = .ok (.ifCond .ne 20, 3) := by decide +kernel
theorem d_M_isValue_32 : decode b_M_isValue 32 = .ok (.iload_n 2, 1) := by decide +kernel
theorem d_M_isValue_33 : decode b_M_isValue 33 = .ok (.ifCond .le 20, 3) := by decide +kernel
theorem d_M_isValue_36 : decode b_M_isValue 36 = .ok (.iload_n 2, 1) := by decide +kernel
theorem d_M_isValue_37 : decode b_M_isValue 37 = .ok (.iconst 2, 1) := by decide +kernel
theorem d_M_isValue_38 : decode b_M_isValue 38 = .ok (.idiv, 1) := by decide +kernel
theorem d_M_isValue_39 : decode b_M_isValue 39 = .ok (.aload_n 0, 1) := by decide +kernel
theorem d_M_isValue_40 : decode b_M_isValue 40 = .ok (.getfield 8, 3) := by decide +kernel
theorem d_M_isValue_43 : decode b_M_isValue 43 = .ok (.invokestatic 101, 3) := by decide +kernel
theorem d_M_isValue_46 : decode b_M_isValue 46 = .ok (.if_icmp .gt 7, 3) := by decide +kernel
theorem d_M_isValue_49 : decode b_M_isValue 49 = .ok (.iconst 1, 1) := by decide +kernel
theorem d_M_isValue_50 : decode b_M_isValue 50 = .ok (.goto 4, 3) := by decide +kernel
theorem d_M_isValue_53 : decode b_M_isValue 53 = .ok (.iconst 0, 1) := by decide +kernel
theorem d_M_isValue_54 : decode b_M_isValue 54 = .ok (.ireturn, 1) := by decide +kernel
theorem d_M_keep_0 : decode b_M_keep 0 = .ok (.aload_n 0, 1) := by decide +kernel
theorem d_M_keep_1 : decode b_M_keep 1 = .ok (.iconst 0, 1) := by decide +kernel
theorem d_M_keep_2 : decode b_M_keep 2 = .ok (.putfield 36, 3) := by decide +kernel
theorem d_M_keep_5 : decode b_M_keep 5 = .ok (.iconst 0, 1) := by decide +kernel
theorem d_M_keep_6 : decode b_M_keep 6 = .ok (.istore_n 1, 1) := by decide +kernel
theorem d_M_keep_7 : decode b_M_keep 7 = .ok (.iload_n 1, 1) := by decide +kernel
theorem d_M_keep_8 : decode b_M_keep 8 = .ok (.aload_n 0, 1) := by decide +kernel
theorem d_M_keep_9 : decode b_M_keep 9 = .ok (.getfield 149, 3) := by decide +kernel
theorem d_M_keep_12 : decode b_M_keep 12 = .ok (.if_icmp .ge 21, 3) := by decide +kernel
theorem d_M_keep_15 : decode b_M_keep 15 = .ok (.aload_n 0, 1) := by decide +kernel
theorem d_M_keep_16 : decode b_M_keep 16 = .ok (.getfield 17, 3) := by decide +kernel
theorem d_M_keep_19 : decode b_M_keep 19 = .ok (.iload_n 1, 1) := by decide +kernel
theorem d_M_keep_20 : decode b_M_keep 20 = .ok (.aload_n 0, 1) := by decide +kernel
theorem d_M_keep_21 : decode b_M_keep 21 = .ok (.getfield 14, 3) := by decide +kernel
theorem d_M_keep_24 : decode b_M_keep 24 = .ok (.iload_n 1, 1) := by decide +kernel
theorem d_M_keep_25 : decode b_M_keep 25 = .ok (.baload, 1) := by decide +kernel
theorem d_M_keep_26 : decode b_M_keep 26 = .ok (.bastore, 1) := by decide +kernel
theorem d_M_keep_27 : decode b_M_keep 27 = .ok (.iinc 1 1, 3) := by decide +kernel
theorem d_M_keep_30 : decode b_M_keep 30 = .ok (.goto (-23), 3) := by decide +kernel
theorem d_M_keep_33 : decode b_M_keep 33 = .ok (.aload_n 0, 1) := by decide +kernel
theorem d_M_keep_34 : decode b_M_keep 34 = .ok (.aload_n 0, 1) := by decide +kernel
theorem d_M_keep_35 : decode b_M_keep 35 = .ok (.getfield 149, 3) := by decide +kernel
theorem d_M_keep_38 : decode b_M_keep 38 = .ok (.ifCond .le 10, 3) := by decide +kernel
theorem d_M_keep_41 : decode b_M_keep 41 = .ok (.aload_n 0, 1) := by decide +kernel
theorem d_M_keep_42 : decode b_M_keep 42 = .ok (.getfield 149, 3) := by decide +kernel
theorem d_M_keep_45 : decode b_M_keep 45 = .ok (.goto 7, 3) := by decide +kernel
theorem d_M_keep_48 : decode b_M_keep 48 = .ok (.aload_n 0, 1) := by decide +kernel
theorem d_M_keep_49 : decode b_M_keep 49 = .ok (.getfield 176, 3) := by decide +kernel
theorem d_M_keep_52 : decode b_M_keep 52 = .ok (.putfield 176, 3) := by decide +kernel
theorem d_M_keep_55 : decode b_M_keep 55 = .ok (.aload_n 0, 1) := by decide +kernel
theorem d_M_keep_56 : decode b_M_keep 56 = .ok (.getfield 149, 3) := by decide +kernel
theorem d_M_keep_59 : decode b_M_keep 59 = .ok (.ifCond .le 7, 3) := by decide +kernel
theorem d_M_keep_62 : decode b_M_keep 62 = .ok (.iconst 1, 1) := by decide +kernel
theorem d_M_keep_63 : decode b_M_keep 63 = .ok (.goto 4, 3) := by decide +kernel
theorem d_M_keep_66 : decode b_M_keep 66 = .ok (.iconst 0, 1) := by decide +kernel
theorem d_M_keep_67 : decode b_M_keep 67 = .ok (.ireturn, 1) := by decide +kernel
theorem d_M_kind_0 : decode b_M_kind 0 = .ok (.aload_n 0, 1) := by decide +kernel
theorem d_M_kind_1 : decode b_M_kind 1 = .ok (.iconst 0, 1) := by decide +kernel
theorem d_M_kind_2 : decode b_M_kind 2 = .ok (.putfield 36, 3) := by decide +kernel
theorem d_M_kind_5 : decode b_M_kind 5 = .ok (.aload_n 0, 1) := by decide +kernel
theorem d_M_kind_6 : decode b_M_kind 6 = .ok (.iload_n 1, 1) := by decide +kernel
theorem d_M_kind_7 : decode b_M_kind 7 = .ok (.invokevirtual 156, 3) := by decide +kernel
theorem d_M_kind_10 : decode b_M_kind 10 = .ok (.ifCond .ne 5, 3) := by decide +kernel
theorem d_M_kind_13 : decode b_M_kind 13 = .ok (.iconst (-1), 1) := by decide +kernel
theorem d_M_kind_14 : decode b_M_kind 14 = .ok (.ireturn, 1) := by decide +kernel
theorem d_M_kind_15 : decode b_M_kind 15 = .ok (.aload_n 0, 1) := by decide +kernel
theorem d_M_kind_16 : decode b_M_kind 16 = .ok (.getfield 14, 3) := by decide +kernel
theorem d_M_kind_19 : decode b_M_kind 19 = .ok (.aload_n 0, 1) := by decide +kernel
theorem d_M_kind_20 : decode b_M_kind 20 = .ok (.getfield 20, 3) := by decide +kernel
theorem d_M_kind_23 : decode b_M_kind 23 = .ok (.iload_n 1, 1) := by decide +kernel
theorem d_M_kind_24 : decode b_M_kind 24 = .ok (.iaload, 1) := by decide +kernel
theorem d_M_kind_25 : decode b_M_kind 25 = .ok (.invokestatic 47, 3) := by decide +kernel
theorem d_M_kind_28 : decode b_M_kind 28 = .ok (.istore_n 2, 1) := by decide +kernel
theorem d_M_kind_29 : decode b_M_kind 29 = .ok (.iload_n 2, 1) := by decide +kernel
theorem d_M_kind_30 : decode b_M_kind 30 = .ok (.aload_n 0, 1) := by decide +kernel
theorem d_M_kind_31 : decode b_M_kind 31 = .ok (.getfield 14, 3) := by decide +kernel
theorem d_M_kind_34 : decode b_M_kind 34 = .ok (.bipush 7, 2) := by decide +kernel
theorem d_M_kind_36 : decode b_M_kind 36 = .ok (.invokestatic 65, 3) := by decide +kernel
theorem d_M_kind_39 : decode b_M_kind 39 = .ok (.if_icmp .ne 7, 3) := by decide +kernel
theorem d_M_kind_42 : decode b_M_kind 42 = .ok (.iconst 2, 1) := by decide +kernel
theorem d_M_kind_43 : decode b_M_kind 43 = .ok (.goto 33, 3) := by decide +kernel
theorem d_M_kind_46 : decode b_M_kind 46 = .ok (.iload_n 2, 1) := by decide +kernel
theorem d_M_kind_47 : decode b_M_kind 47 = .ok (.aload_n 0, 1) := by decide +kernel
theorem d_M_kind_48 : decode b_M_kind 48 = .ok (.getfield 14, 3) := by decide +kernel
theorem d_M_kind_51 : decode b_M_kind 51 = .ok (.bipush 8, 2) := by decide +kernel
theorem d_M_kind_53 : decode b_M_kind 53 = .ok (.invokestatic 65, 3) := by decide +kernel
theorem d_M_kind_56 : decode b_M_kind 56 = .ok (.if_icmp .ne 7, 3) := by decide +kernel
theorem d_M_kind_59 : decode b_M_kind 59 = .ok (.iconst 3, 1) := by decide +kernel
theorem d_M_kind_60 : decode b_M_kind 60 = .ok (.goto 16, 3) := by decide +kernel
theorem d_M_kind_63 : decode b_M_kind 63 = .ok (.aload_n 0, 1) := by decide +kernel
theorem d_M_kind_64 : decode b_M_kind 64 = .ok (.getfield 14, 3) := by decide +kernel
theorem d_M_kind_67 : decode b_M_kind 67 = .ok (.aload_n 0, 1) := by decide +kernel
theorem d_M_kind_68 : decode b_M_kind 68 = .ok (.getfield 20, 3) := by decide +kernel
theorem d_M_kind_71 : decode b_M_kind 71 = .ok (.iload_n 1, 1) := by decide +kernel
theorem d_M_kind_72 : decode b_M_kind 72 = .ok (.iaload, 1) := by decide +kernel
theorem d_M_kind_73 : decode b_M_kind 73 = .ok (.iconst 4, 1) := by decide +kernel
theorem d_M_kind_74 : decode b_M_kind 74 = .ok (.iadd, 1) := by decide +kernel
theorem d_M_kind_75 : decode b_M_kind 75 = .ok (.baload, 1) := by decide +kernel
theorem d_M_kind_76 : decode b_M_kind 76 = .ok (.ireturn, 1) := by decide +kernel
theorem d_M_note_0 : decode b_M_note 0 = .ok (.sipush 208, 3) := by decide +kernel
theorem d_M_note_3 : decode b_M_note 3 = .ok (.istore_n 2, 1) := by decide +kernel
theorem d_M_note_4 : decode b_M_note 4 = .ok (.iconst 1, 1) := by decide +kernel
theorem d_M_note_5 : decode b_M_note 5 = .ok (.istore_n 3, 1) := by decide +kernel
theorem d_M_note_6 : decode b_M_note 6 = .ok (.iload_n 3, 1) := by decide +kernel
theorem d_M_note_7 : decode b_M_note 7 = .ok (.aload_n 0, 1) := by decide +kernel
theorem d_M_note_8 : decode b_M_note 8 = .ok (.invokestatic 101, 3) := by decide +kernel
theorem d_M_note_11 : decode b_M_note 11 = .ok (.if_icmp .gt 19, 3) := by decide +kernel
theorem d_M_note_14 : decode b_M_note 14 = .ok (.aload_n 1, 1) := by decide +kernel
theorem d_M_note_15 : decode b_M_note 15 = .ok (.iload_n 3, 1) := by decide +kernel
theorem d_M_note_16 : decode b_M_note 16 = .ok (.iload_n 2, 1) := by decide +kernel
theorem d_M_note_17 : decode b_M_note 17 = .ok (.iastore, 1) := by decide +kernel
theorem d_M_note_18 : decode b_M_note 18 = .ok (.aload_n 0, 1) := by decide +kernel
theorem d_M_note_19 : decode b_M_note 19 = .ok (.iload_n 2, 1) := by decide +kernel
theorem d_M_note_20 : decode b_M_note 20 = .ok (.invokestatic 143, 3) := by decide +kernel
theorem d_M_note_23 : decode b_M_note 23 = .ok (.istore_n 2, 1) := by decide +kernel
theorem d_M_note_24 : decode b_M_note 24 = .ok (.iinc 3 1, 3) := by decide +kernel
theorem d_M_note_27 : decode b_M_note 27 = .ok (.goto (-21), 3) := by decide +kernel
theorem d_M_note_30 : decode b_M_note 30 = .ok (.return_, 1) := by decide +kernel
theorem d_M_objects__0 : decode b_M_objects_ 0 = .ok (.aload_n 0, 1) := by decide +kernel
theorem d_M_objects__1 : decode b_M_objects_ 1 = .ok (.iconst 0, 1) := by decide +kernel
theorem d_M_objects__2 : decode b_M_objects_ 2 = .ok (.putfield 36, 3) := by decide +kernel
theorem d_M_objects__5 : decode b_M_objects_ 5 = .ok (.aload_n 0, 1) := by decide +kernel
theorem d_M_objects__6 : decode b_M_objects_ 6 = .ok (.getfield 149, 3) := by decide +kernel
theorem d_M_objects__9 : decode b_M_objects_ 9 = .ok (.ifCond .ne 7, 3) := by decide +kernel
theorem d_M_objects__12 : decode b_M_objects_ 12 = .ok (.iconst 0, 1) := by decide +kernel
theorem d_M_objects__13 : decode b_M_objects_ 13 = .ok (.goto 10, 3) := by decide +kernel
theorem d_M_objects__16 : decode b_M_objects_ 16 = .ok (.aload_n 0, 1) := by decide +kernel
theorem d_M_objects__17 : decode b_M_objects_ 17 = .ok (.getfield 14, 3) := by decide +kernel
theorem d_M_objects__20 : decode b_M_objects_ 20 = .ok (.invokestatic 101, 3) := by decide +kernel
theorem d_M_objects__23 : decode b_M_objects_ 23 = .ok (.ireturn, 1) := by decide +kernel
theorem d_M_objects_aB_0 : decode b_M_objects_aB 0 = .ok (.aload_n 0, 1) := by decide +kernel
theorem d_M_objects_aB_1 : decode b_M_objects_aB 1 = .ok (.bipush 6, 2) := by decide +kernel
theorem d_M_objects_aB_3 : decode b_M_objects_aB 3 = .ok (.invokestatic 43, 3) := by decide +kernel
theorem d_M_objects_aB_6 : decode b_M_objects_aB 6 = .ok (.ireturn, 1) := by decide +kernel
theorem d_M_place_0 : decode b_M_place 0 = .ok (.aload_n 0, 1) := by decide +kernel
theorem d_M_place_1 : decode b_M_place 1 = .ok (.invokevirtual 124, 3) := by decide +kernel
theorem d_M_place_4 : decode b_M_place 4 = .ok (.istore_n 1, 1) := by decide +kernel
theorem d_M_place_5 : decode b_M_place 5 = .ok (.iload_n 1, 1) := by decide +kernel
theorem d_M_place_6 : decode b_M_place 6 = .ok (.iconst (-1), 1) := by decide +kernel
theorem d_M_place_7 : decode b_M_place 7 = .ok (.if_icmp .ne 10, 3) := by decide +kernel
theorem d_M_place_10 : decode b_M_place 10 = .ok (.aload_n 0, 1) := by decide +kernel
theorem d_M_place_11 : decode b_M_place 11 = .ok (.invokevirtual 128, 3) := by decide +kernel
theorem d_M_place_14 : decode b_M_place 14 = .ok (.goto 4, 3) := by decide +kernel
theorem d_M_place_17 : decode b_M_place 17 = .ok (.iload_n 1, 1) := by decide +kernel
theorem d_M_place_18 : decode b_M_place 18 = .ok (.istore_n 1, 1) := by decide +kernel
theorem d_M_place_19 : decode b_M_place 19 = .ok (.iload_n 1, 1) := by decide +kernel
theorem d_M_place_20 : decode b_M_place 20 = .ok (.iconst (-1), 1) := by decide +kernel
theorem d_M_place_21 : decode b_M_place 21 = .ok (.if_icmp .ne 10, 3) := by decide +kernel
theorem d_M_place_24 : decode b_M_place 24 = .ok (.aload_n 0, 1) := by decide +kernel
theorem d_M_place_25 : decode b_M_place 25 = .ok (.invokevirtual 131, 3) := by decide +kernel
theorem d_M_place_28 : decode b_M_place 28 = .ok (.goto 4, 3) := by decide +kernel
theorem d_M_place_31 : decode b_M_place 31 = .ok (.iload_n 1, 1) := by decide +kernel
theorem d_M_place_32 : decode b_M_place 32 = .ok (.istore_n 1, 1) := by decide +kernel
theorem d_M_place_33 : decode b_M_place 33 = .ok (.iload_n 1, 1) := by decide +kernel
theorem d_M_place_34 : decode b_M_place 34 = .ok (.iconst (-1), 1) := by decide +kernel
theorem d_M_place_35 : decode b_M_place 35 = .ok (.if_icmp .ne 10, 3) := by decide +kernel
theorem d_M_place_38 : decode b_M_place 38 = .ok (.aload_n 0, 1) := by decide +kernel
theorem d_M_place_39 : decode b_M_place 39 = .ok (.invokevirtual 134, 3) := by decide +kernel
theorem d_M_place_42 : decode b_M_place 42 = .ok (.goto 4, 3) := by decide +kernel
theorem d_M_place_45 : decode b_M_place 45 = .ok (.iload_n 1, 1) := by decide +kernel
theorem d_M_place_46 : decode b_M_place 46 = .ok (.istore_n 1, 1) := by decide +kernel
theorem d_M_place_47 : decode b_M_place 47 = .ok (.iload_n 1, 1) := by decide +kernel
theorem d_M_place_48 : decode b_M_place 48 = .ok (.iconst (-1), 1) := by decide +kernel
theorem d_M_place_49 : decode b_M_place 49 = .ok (.if_icmp .ne 10, 3) := by decide +kernel
theorem d_M_place_52 : decode b_M_place 52 = .ok (.aload_n 0, 1) := by decide +kernel
theorem d_M_place_53 : decode b_M_place 53 = .ok (.invokevirtual 137, 3) := by decide +kernel
theorem d_M_place_56 : decode b_M_place 56 = .ok (.goto 4, 3) := by decide +kernel
theorem d_M_place_59 : decode b_M_place 59 = .ok (.iload_n 1, 1) := by decide +kernel
theorem d_M_place_60 : decode b_M_place 60 = .ok (.istore_n 1, 1) := by decide +kernel
theorem d_M_place_61 : decode b_M_place 61 = .ok (.iload_n 1, 1) := by decide +kernel
theorem d_M_place_62 : decode b_M_place 62 = .ok (.iconst (-1), 1) := by decide +kernel
theorem d_M_place_63 : decode b_M_place 63 = .ok (.if_icmp .ne 10, 3) := by decide +kernel
theorem d_M_place_66 : decode b_M_place 66 = .ok (.aload_n 0, 1) := by decide +kernel
theorem d_M_place_67 : decode b_M_place 67 = .ok (.invokevirtual 140, 3) := by decide +kernel
theorem d_M_place_70 : decode b_M_place 70 = .ok (.goto 4, 3) := by decide +kernel
theorem d_M_place_73 : decode b_M_place 73 = .ok (.iload_n 1, 1) := by decide +kernel
theorem d_M_place_74 : decode b_M_place 74 = .ok (.ireturn, 1) := by decide +kernel
theorem d_M_put_0 : decode b_M_put 0 = .ok (.iload_n 2, 1) := by decide +kernel
theorem d_M_put_1 : decode b_M_put 1 = .ok (.iconst 1, 1) := by decide +kernel
theorem d_M_put_2 : decode b_M_put 2 = .ok (.isub, 1) := by decide +kernel
theorem d_M_put_3 : decode b_M_put 3 = .ok (.istore_n 3, 1) := by decide +kernel
theorem d_M_put_4 : decode b_M_put 4 = .ok (.iload_n 3, 1) := by decide +kernel
theorem d_M_put_5 : decode b_M_put 5 = .ok (.ifCond .lt 35, 3) := by decide +kernel
theorem d_M_put_8 : decode b_M_put 8 = .ok (.aload_n 0, 1) := by decide +kernel
theorem d_M_put_9 : decode b_M_put 9 = .ok (.getfield 8, 3) := by decide +kernel
theorem d_M_put_12 : decode b_M_put 12 = .ok (.aload_n 0, 1) := by decide +kernel
theorem d_M_put_13 : decode b_M_put 13 = .ok (.getfield 40, 3) := by decide +kernel
theorem d_M_put_16 : decode b_M_put 16 = .ok (.iload_n 1, 1) := by decide +kernel
theorem d_M_put_17 : decode b_M_put 17 = .ok (.bipush 8, 2) := by decide +kernel
theorem d_M_put_19 : decode b_M_put 19 = .ok (.iload_n 3, 1) := by decide +kernel
theorem d_M_put_20 : decode b_M_put 20 = .ok (.imul, 1) := by decide +kernel
theorem d_M_put_21 : decode b_M_put 21 = .ok (.ishr, 1) := by decide +kernel
theorem d_M_put_22 : decode b_M_put 22 = .ok (.i2b, 1) := by decide +kernel
theorem d_M_put_23 : decode b_M_put 23 = .ok (.bastore, 1) := by decide +kernel
theorem d_M_put_24 : decode b_M_put 24 = .ok (.aload_n 0, 1) := by decide +kernel
theorem d_M_put_25 : decode b_M_put 25 = .ok (.dup, 1) := by decide +kernel
theorem d_M_put_26 : decode b_M_put 26 = .ok (.getfield 40, 3) := by decide +kernel
theorem d_M_put_29 : decode b_M_put 29 = .ok (.iconst 1, 1) := by decide +kernel
theorem d_M_put_30 : decode b_M_put 30 = .ok (.iadd, 1) := by decide +kernel
theorem d_M_put_31 : decode b_M_put 31 = .ok (.putfield 40, 3) := by decide +kernel
theorem d_M_put_34 : decode b_M_put 34 = .ok (.iinc 3 (-1), 3) := by decide +kernel
theorem d_M_put_37 : decode b_M_put 37 = .ok (.goto (-33), 3) := by decide +kernel
theorem d_M_put_40 : decode b_M_put 40 = .ok (.return_, 1) := by decide +kernel
theorem d_M_reach_0 : decode b_M_reach 0 = .ok (.iload_n 1, 1) := by decide +kernel
theorem d_M_reach_1 : decode b_M_reach 1 = .ok (.invokestatic 57, 3) := by decide +kernel
theorem d_M_reach_4 : decode b_M_reach 4 = .ok (.ifCond .eq 45, 3) := by decide +kernel
theorem d_M_reach_7 : decode b_M_reach 7 = .ok (.aload_n 0, 1) := by decide +kernel
theorem d_M_reach_8 : decode b_M_reach 8 = .ok (.getfield 30, 3) := by decide +kernel
theorem d_M_reach_11 : decode b_M_reach 11 = .ok (.iload_n 1, 1) := by decide +kernel
theorem d_M_reach_12 : decode b_M_reach 12 = .ok (.iconst 2, 1) := by decide +kernel
theorem d_M_reach_13 : decode b_M_reach 13 = .ok (.idiv, 1) := by decide +kernel
theorem d_M_reach_14 : decode b_M_reach 14 = .ok (.iaload, 1) := by decide +kernel
theorem d_M_reach_15 : decode b_M_reach 15 = .ok (.ifCond .ne 34, 3) := by decide +kernel
theorem d_M_reach_18 : decode b_M_reach 18 = .ok (.aload_n 0, 1) := by decide +kernel
theorem d_M_reach_19 : decode b_M_reach 19 = .ok (.getfield 30, 3) := by decide +kernel
theorem d_M_reach_22 : decode b_M_reach 22 = .ok (.iload_n 1, 1) := by decide +kernel
theorem d_M_reach_23 : decode b_M_reach 23 = .ok (.iconst 2, 1) := by decide +kernel
theorem d_M_reach_24 : decode b_M_reach 24 = .ok (.idiv, 1) := by decide +kernel
theorem d_M_reach_25 : decode b_M_reach 25 = .ok (.iconst 1, 1) := by decide +kernel
theorem d_M_reach_26 : decode b_M_reach 26 = .ok (.iastore, 1) := by decide +kernel
theorem d_M_reach_27 : decode b_M_reach 27 = .ok (.aload_n 0, 1) := by decide +kernel
theorem d_M_reach_28 : decode b_M_reach 28 = .ok (.getfield 27, 3) := by decide +kernel
theorem d_M_reach_31 : decode b_M_reach 31 = .ok (.aload_n 0, 1) := by decide +kernel
theorem d_M_reach_32 : decode b_M_reach 32 = .ok (.getfield 159, 3) := by decide +kernel
theorem d_M_reach_35 : decode b_M_reach 35 = .ok (.iload_n 1, 1) := by decide +kernel
theorem d_M_reach_36 : decode b_M_reach 36 = .ok (.iconst 2, 1) := by decide +kernel
theorem d_M_reach_37 : decode b_M_reach 37 = .ok (.idiv, 1) := by decide +kernel
theorem d_M_reach_38 : decode b_M_reach 38 = .ok (.iastore, 1) := by decide +kernel
theorem d_M_reach_39 : decode b_M_reach 39 = .ok (.aload_n 0, 1) := by decide +kernel
theorem d_M_reach_40 : decode b_M_reach 40 = .ok (.dup, 1) := by decide +kernel
theorem d_M_reach_41 : decode b_M_reach 41 = .ok (.getfield 159, 3) := by decide +kernel
theorem d_M_reach_44 : decode b_M_reach 44 = .ok (.iconst 1, 1) := by decide +kernel
theorem d_M_reach_45 : decode b_M_reach 45 = .ok (.iadd, 1) := by decide +kernel
theorem d_M_reach_46 : decode b_M_reach 46 = .ok (.putfield 159, 3) := by decide +kernel
theorem d_M_reach_49 : decode b_M_reach 49 = .ok (.return_, 1) := by decide +kernel
theorem d_M_reachAll_0 : decode b_M_reachAll 0 = .ok (.aload_n 0, 1) := by decide +kernel
theorem d_M_reachAll_1 : decode b_M_reachAll 1 = .ok (.iconst 0, 1) := by decide +kernel
theorem d_M_reachAll_2 : decode b_M_reachAll 2 = .ok (.putfield 159, 3) := by decide +kernel
theorem d_M_reachAll_5 : decode b_M_reachAll 5 = .ok (.iconst 0, 1) := by decide +kernel
theorem d_M_reachAll_6 : decode b_M_reachAll 6 = .ok (.istore_n 1, 1) := by decide +kernel
theorem d_M_reachAll_7 : decode b_M_reachAll 7 = .ok (.iload_n 1, 1) := by decide +kernel
theorem d_M_reachAll_8 : decode b_M_reachAll 8 = .ok (.sipush 8192, 3) := by decide +kernel
theorem d_M_reachAll_11 : decode b_M_reachAll 11 = .ok (.if_icmp .ge 16, 3) := by decide +kernel
theorem d_M_reachAll_14 : decode b_M_reachAll 14 = .ok (.aload_n 0, 1) := by decide +kernel
theorem d_M_reachAll_15 : decode b_M_reachAll 15 = .ok (.getfield 30, 3) := by decide +kernel
theorem d_M_reachAll_18 : decode b_M_reachAll 18 = .ok (.iload_n 1, 1) := by decide +kernel
theorem d_M_reachAll_19 : decode b_M_reachAll 19 = .ok (.iconst 0, 1) := by decide +kernel
theorem d_M_reachAll_20 : decode b_M_reachAll 20 = .ok (.iastore, 1) := by decide +kernel
theorem d_M_reachAll_21 : decode b_M_reachAll 21 = .ok (.iinc 1 1, 3) := by decide +kernel
theorem d_M_reachAll_24 : decode b_M_reachAll 24 = .ok (.goto (-17), 3) := by decide +kernel
theorem d_M_reachAll_27 : decode b_M_reachAll 27 = .ok (.iconst 0, 1) := by decide +kernel
theorem d_M_reachAll_28 : decode b_M_reachAll 28 = .ok (.istore_n 1, 1) := by decide +kernel
theorem d_M_reachAll_29 : decode b_M_reachAll 29 = .ok (.iload_n 1, 1) := by decide +kernel
theorem d_M_reachAll_30 : decode b_M_reachAll 30 = .ok (.bipush 50, 2) := by decide +kernel
theorem d_M_reachAll_32 : decode b_M_reachAll 32 = .ok (.if_icmp .ge 21, 3) := by decide +kernel
theorem d_M_reachAll_35 : decode b_M_reachAll 35 = .ok (.aload_n 0, 1) := by decide +kernel
theorem d_M_reachAll_36 : decode b_M_reachAll 36 = .ok (.aload_n 0, 1) := by decide +kernel
theorem d_M_reachAll_37 : decode b_M_reachAll 37 = .ok (.getfield 14, 3) := by decide +kernel
theorem d_M_reachAll_40 : decode b_M_reachAll 40 = .ok (.iload_n 1, 1) := by decide +kernel
theorem d_M_reachAll_41 : decode b_M_reachAll 41 = .ok (.invokestatic 65, 3) := by decide +kernel
theorem d_M_reachAll_44 : decode b_M_reachAll 44 = .ok (.invokevirtual 162, 3) := by decide +kernel
theorem d_M_reachAll_47 : decode b_M_reachAll 47 = .ok (.iinc 1 1, 3) := by decide +kernel
theorem d_M_reachAll_50 : decode b_M_reachAll 50 = .ok (.goto (-21), 3) := by decide +kernel
theorem d_M_reachAll_53 : decode b_M_reachAll 53 = .ok (.iconst 0, 1) := by decide +kernel
theorem d_M_reachAll_54 : decode b_M_reachAll 54 = .ok (.istore_n 1, 1) := by decide +kernel
theorem d_M_reachAll_55 : decode b_M_reachAll 55 = .ok (.iload_n 1, 1) := by decide +kernel
theorem d_M_reachAll_56 : decode b_M_reachAll 56 = .ok (.aload_n 0, 1) := by decide +kernel
theorem d_M_reachAll_57 : decode b_M_reachAll 57 = .ok (.getfield 159, 3) := by decide +kernel
theorem d_M_reachAll_60 : decode b_M_reachAll 60 = .ok (.if_icmp .ge 77, 3) := by decide +kernel
theorem d_M_reachAll_63 : decode b_M_reachAll 63 = .ok (.aload_n 0, 1) := by decide +kernel
theorem d_M_reachAll_64 : decode b_M_reachAll 64 = .ok (.getfield 20, 3) := by decide +kernel
theorem d_M_reachAll_67 : decode b_M_reachAll 67 = .ok (.aload_n 0, 1) := by decide +kernel
theorem d_M_reachAll_68 : decode b_M_reachAll 68 = .ok (.getfield 27, 3) := by decide +kernel
theorem d_M_reachAll_71 : decode b_M_reachAll 71 = .ok (.iload_n 1, 1) := by decide +kernel
theorem d_M_reachAll_72 : decode b_M_reachAll 72 = .ok (.iaload, 1) := by decide +kernel
theorem d_M_reachAll_73 : decode b_M_reachAll 73 = .ok (.iaload, 1) := by decide +kernel
theorem d_M_reachAll_74 : decode b_M_reachAll 74 = .ok (.istore_n 2, 1) := by decide +kernel
theorem d_M_reachAll_75 : decode b_M_reachAll 75 = .ok (.aload_n 0, 1) := by decide +kernel
theorem d_M_reachAll_76 : decode b_M_reachAll 76 = .ok (.aload_n 0, 1) := by decide +kernel
theorem d_M_reachAll_77 : decode b_M_reachAll 77 = .ok (.getfield 14, 3) := by decide +kernel
theorem d_M_reachAll_80 : decode b_M_reachAll 80 = .ok (.iload_n 2, 1) := by decide +kernel
theorem d_M_reachAll_81 : decode b_M_reachAll 81 = .ok (.invokestatic 47, 3) := by decide +kernel
theorem d_M_reachAll_84 : decode b_M_reachAll 84 = .ok (.invokevirtual 162, 3) := by decide +kernel
theorem d_M_reachAll_87 : decode b_M_reachAll 87 = .ok (.iconst 0, 1) := by decide +kernel
theorem d_M_reachAll_88 : decode b_M_reachAll 88 = .ok (.istore_n 3, 1) := by decide +kernel
theorem d_M_reachAll_89 : decode b_M_reachAll 89 = .ok (.iload_n 3, 1) := by decide +kernel
theorem d_M_reachAll_90 : decode b_M_reachAll 90 = .ok (.aload_n 0, 1) := by decide +kernel
theorem d_M_reachAll_91 : decode b_M_reachAll 91 = .ok (.getfield 14, 3) := by decide +kernel
theorem d_M_reachAll_94 : decode b_M_reachAll 94 = .ok (.iload_n 2, 1) := by decide +kernel
theorem d_M_reachAll_95 : decode b_M_reachAll 95 = .ok (.invokestatic 54, 3) := by decide +kernel
theorem d_M_reachAll_98 : decode b_M_reachAll 98 = .ok (.if_icmp .ge 33, 3) := by decide +kernel
theorem d_M_reachAll_101 : decode b_M_reachAll 101 = .ok (.aload_n 0, 1) := by decide +kernel
theorem d_M_reachAll_102 : decode b_M_reachAll 102 = .ok (.getfield 14, 3) := by decide +kernel
theorem d_M_reachAll_105 : decode b_M_reachAll 105 = .ok (.iload_n 2, 1) := by decide +kernel
theorem d_M_reachAll_106 : decode b_M_reachAll 106 = .ok (.invokestatic 50, 3) := by decide +kernel
theorem d_M_reachAll_109 : decode b_M_reachAll 109 = .ok (.ifCond .ne 22, 3) := by decide +kernel
theorem d_M_reachAll_112 : decode b_M_reachAll 112 = .ok (.aload_n 0, 1) := by decide +kernel
theorem d_M_reachAll_113 : decode b_M_reachAll 113 = .ok (.aload_n 0, 1) := by decide +kernel
theorem d_M_reachAll_114 : decode b_M_reachAll 114 = .ok (.getfield 14, 3) := by decide +kernel
theorem d_M_reachAll_117 : decode b_M_reachAll 117 = .ok (.iload_n 2, 1) := by decide +kernel
theorem d_M_reachAll_118 : decode b_M_reachAll 118 = .ok (.iload_n 3, 1) := by decide +kernel
theorem d_M_reachAll_119 : decode b_M_reachAll 119 = .ok (.invokestatic 61, 3) := by decide +kernel
theorem d_M_reachAll_122 : decode b_M_reachAll 122 = .ok (.invokevirtual 162, 3) := by decide +kernel
theorem d_M_reachAll_125 : decode b_M_reachAll 125 = .ok (.iinc 3 1, 3) := by decide +kernel
theorem d_M_reachAll_128 : decode b_M_reachAll 128 = .ok (.goto (-39), 3) := by decide +kernel
theorem d_M_reachAll_131 : decode b_M_reachAll 131 = .ok (.iinc 1 1, 3) := by decide +kernel
theorem d_M_reachAll_134 : decode b_M_reachAll 134 = .ok (.goto (-79), 3) := by decide +kernel
theorem d_M_reachAll_137 : decode b_M_reachAll 137 = .ok (.return_, 1) := by decide +kernel
theorem d_M_reachable_0 : decode b_M_reachable 0 = .ok (.aload_n 0, 1) := by decide +kernel
theorem d_M_reachable_1 : decode b_M_reachable 1 = .ok (.iconst 0, 1) := by decide +kernel
theorem d_M_reachable_2 : decode b_M_reachable 2 = .ok (.putfield 36, 3) := by decide +kernel
theorem d_M_reachable_5 : decode b_M_reachable 5 = .ok (.aload_n 0, 1) := by decide +kernel
theorem d_M_reachable_6 : decode b_M_reachable 6 = .ok (.getfield 149, 3) := by decide +kernel
theorem d_M_reachable_9 : decode b_M_reachable 9 = .ok (.ifCond .ne 5, 3) := by decide +kernel
theorem d_M_reachable_12 : decode b_M_reachable 12 = .ok (.iconst 0, 1) := by decide +kernel
theorem d_M_reachable_13 : decode b_M_reachable 13 = .ok (.ireturn, 1) := by decide +kernel
theorem d_M_reachable_14 : decode b_M_reachable 14 = .ok (.aload_n 0, 1) := by decide +kernel
theorem d_M_reachable_15 : decode b_M_reachable 15 = .ok (.invokevirtual 166, 3) := by decide +kernel
theorem d_M_reachable_18 : decode b_M_reachable 18 = .ok (.aload_n 0, 1) := by decide +kernel
theorem d_M_reachable_19 : decode b_M_reachable 19 = .ok (.getfield 159, 3) := by decide +kernel
theorem d_M_reachable_22 : decode b_M_reachable 22 = .ok (.ireturn, 1) := by decide +kernel
theorem d_M_read_0 : decode b_M_read 0 = .ok (.aload_n 0, 1) := by decide +kernel
theorem d_M_read_1 : decode b_M_read 1 = .ok (.iconst 0, 1) := by decide +kernel
theorem d_M_read_2 : decode b_M_read 2 = .ok (.putfield 36, 3) := by decide +kernel
theorem d_M_read_5 : decode b_M_read 5 = .ok (.aload_n 0, 1) := by decide +kernel
theorem d_M_read_6 : decode b_M_read 6 = .ok (.invokevirtual 146, 3) := by decide +kernel
theorem d_M_read_9 : decode b_M_read 9 = .ok (.istore_n 1, 1) := by decide +kernel
theorem d_M_read_10 : decode b_M_read 10 = .ok (.iload_n 1, 1) := by decide +kernel
theorem d_M_read_11 : decode b_M_read 11 = .ok (.iconst (-1), 1) := by decide +kernel
theorem d_M_read_12 : decode b_M_read 12 = .ok (.if_icmp .ne 39, 3) := by decide +kernel
theorem d_M_read_15 : decode b_M_read 15 = .ok (.iconst 0, 1) := by decide +kernel
theorem d_M_read_16 : decode b_M_read 16 = .ok (.istore_n 2, 1) := by decide +kernel
theorem d_M_read_17 : decode b_M_read 17 = .ok (.iload_n 2, 1) := by decide +kernel
theorem d_M_read_18 : decode b_M_read 18 = .ok (.aload_n 0, 1) := by decide +kernel
theorem d_M_read_19 : decode b_M_read 19 = .ok (.getfield 40, 3) := by decide +kernel
theorem d_M_read_22 : decode b_M_read 22 = .ok (.if_icmp .ge 21, 3) := by decide +kernel
theorem d_M_read_25 : decode b_M_read 25 = .ok (.aload_n 0, 1) := by decide +kernel
theorem d_M_read_26 : decode b_M_read 26 = .ok (.getfield 14, 3) := by decide +kernel
theorem d_M_read_29 : decode b_M_read 29 = .ok (.iload_n 2, 1) := by decide +kernel
theorem d_M_read_30 : decode b_M_read 30 = .ok (.aload_n 0, 1) := by decide +kernel
theorem d_M_read_31 : decode b_M_read 31 = .ok (.getfield 8, 3) := by decide +kernel
theorem d_M_read_34 : decode b_M_read 34 = .ok (.iload_n 2, 1) := by decide +kernel
theorem d_M_read_35 : decode b_M_read 35 = .ok (.baload, 1) := by decide +kernel
theorem d_M_read_36 : decode b_M_read 36 = .ok (.bastore, 1) := by decide +kernel
theorem d_M_read_37 : decode b_M_read 37 = .ok (.iinc 2 1, 3) := by decide +kernel
theorem d_M_read_40 : decode b_M_read 40 = .ok (.goto (-23), 3) := by decide +kernel
theorem d_M_read_43 : decode b_M_read 43 = .ok (.aload_n 0, 1) := by decide +kernel
theorem d_M_read_44 : decode b_M_read 44 = .ok (.aload_n 0, 1) := by decide +kernel
theorem d_M_read_45 : decode b_M_read 45 = .ok (.getfield 40, 3) := by decide +kernel
theorem d_M_read_48 : decode b_M_read 48 = .ok (.putfield 149, 3) := by decide +kernel
theorem d_M_read_51 : decode b_M_read 51 = .ok (.aload_n 0, 1) := by decide +kernel
theorem d_M_read_52 : decode b_M_read 52 = .ok (.iconst 0, 1) := by decide +kernel
theorem d_M_read_53 : decode b_M_read 53 = .ok (.putfield 40, 3) := by decide +kernel
theorem d_M_read_56 : decode b_M_read 56 = .ok (.aload_n 0, 1) := by decide +kernel
theorem d_M_read_57 : decode b_M_read 57 = .ok (.getfield 149, 3) := by decide +kernel
theorem d_M_read_60 : decode b_M_read 60 = .ok (.ifCond .le 14, 3) := by decide +kernel
theorem d_M_read_63 : decode b_M_read 63 = .ok (.aload_n 0, 1) := by decide +kernel
theorem d_M_read_64 : decode b_M_read 64 = .ok (.getfield 14, 3) := by decide +kernel
theorem d_M_read_67 : decode b_M_read 67 = .ok (.aload_n 0, 1) := by decide +kernel
theorem d_M_read_68 : decode b_M_read 68 = .ok (.getfield 20, 3) := by decide +kernel
theorem d_M_read_71 : decode b_M_read 71 = .ok (.invokestatic 152, 3) := by decide +kernel
theorem d_M_read_74 : decode b_M_read 74 = .ok (.iload_n 1, 1) := by decide +kernel
theorem d_M_read_75 : decode b_M_read 75 = .ok (.ireturn, 1) := by decide +kernel
theorem d_M_renumbered_0 : decode b_M_renumbered 0 = .ok (.iload_n 1, 1) := by decide +kernel
theorem d_M_renumbered_1 : decode b_M_renumbered 1 = .ok (.invokestatic 57, 3) := by decide +kernel
theorem d_M_renumbered_4 : decode b_M_renumbered 4 = .ok (.ifCond .eq 16, 3) := by decide +kernel
theorem d_M_renumbered_7 : decode b_M_renumbered 7 = .ok (.iconst 2, 1) := by decide +kernel
theorem d_M_renumbered_8 : decode b_M_renumbered 8 = .ok (.aload_n 0, 1) := by decide +kernel
theorem d_M_renumbered_9 : decode b_M_renumbered 9 = .ok (.getfield 30, 3) := by decide +kernel
theorem d_M_renumbered_12 : decode b_M_renumbered 12 = .ok (.iload_n 1, 1) := by decide +kernel
theorem d_M_renumbered_13 : decode b_M_renumbered 13 = .ok (.iconst 2, 1) := by decide +kernel
theorem d_M_renumbered_14 : decode b_M_renumbered 14 = .ok (.idiv, 1) := by decide +kernel
theorem d_M_renumbered_15 : decode b_M_renumbered 15 = .ok (.iaload, 1) := by decide +kernel
theorem d_M_renumbered_16 : decode b_M_renumbered 16 = .ok (.imul, 1) := by decide +kernel
theorem d_M_renumbered_17 : decode b_M_renumbered 17 = .ok (.goto 4, 3) := by decide +kernel
theorem d_M_renumbered_20 : decode b_M_renumbered 20 = .ok (.iload_n 1, 1) := by decide +kernel
theorem d_M_renumbered_21 : decode b_M_renumbered 21 = .ok (.ireturn, 1) := by decide +kernel
theorem d_M_same_0 : decode b_M_same 0 = .ok (.aload_n 0, 1) := by decide +kernel
theorem d_M_same_1 : decode b_M_same 1 = .ok (.iconst 0, 1) := by decide +kernel
theorem d_M_same_2 : decode b_M_same 2 = .ok (.putfield 36, 3) := by decide +kernel
theorem d_M_same_5 : decode b_M_same 5 = .ok (.aload_n 0, 1) := by decide +kernel
theorem d_M_same_6 : decode b_M_same 6 = .ok (.getfield 149, 3) := by decide +kernel
theorem d_M_same_9 : decode b_M_same 9 = .ok (.ifCond .eq 40, 3) := by decide +kernel
theorem d_M_same_12 : decode b_M_same 12 = .ok (.aload_n 0, 1) := by decide +kernel
theorem d_M_same_13 : decode b_M_same 13 = .ok (.getfield 176, 3) := by decide +kernel
theorem d_M_same_16 : decode b_M_same 16 = .ok (.ifCond .eq 33, 3) := by decide +kernel
theorem d_M_same_19 : decode b_M_same 19 = .ok (.aload_n 0, 1) := by decide +kernel
theorem d_M_same_20 : decode b_M_same 20 = .ok (.getfield 14, 3) := by decide +kernel
theorem d_M_same_23 : decode b_M_same 23 = .ok (.iconst 4, 1) := by decide +kernel
theorem d_M_same_24 : decode b_M_same 24 = .ok (.baload, 1) := by decide +kernel
theorem d_M_same_25 : decode b_M_same 25 = .ok (.aload_n 0, 1) := by decide +kernel
theorem d_M_same_26 : decode b_M_same 26 = .ok (.getfield 17, 3) := by decide +kernel
theorem d_M_same_29 : decode b_M_same 29 = .ok (.iconst 4, 1) := by decide +kernel
theorem d_M_same_30 : decode b_M_same 30 = .ok (.baload, 1) := by decide +kernel
theorem d_M_same_31 : decode b_M_same 31 = .ok (.if_icmp .ne 18, 3) := by decide +kernel
theorem d_M_same_34 : decode b_M_same 34 = .ok (.aload_n 0, 1) := by decide +kernel
theorem d_M_same_35 : decode b_M_same 35 = .ok (.getfield 14, 3) := by decide +kernel
theorem d_M_same_38 : decode b_M_same 38 = .ok (.iconst 5, 1) := by decide +kernel
theorem d_M_same_39 : decode b_M_same 39 = .ok (.baload, 1) := by decide +kernel
theorem d_M_same_40 : decode b_M_same 40 = .ok (.aload_n 0, 1) := by decide +kernel
theorem d_M_same_41 : decode b_M_same 41 = .ok (.getfield 17, 3) := by decide +kernel
theorem d_M_same_44 : decode b_M_same 44 = .ok (.iconst 5, 1) := by decide +kernel
theorem d_M_same_45 : decode b_M_same 45 = .ok (.baload, 1) := by decide +kernel
theorem d_M_same_46 : decode b_M_same 46 = .ok (.if_icmp .eq 5, 3) := by decide +kernel
theorem d_M_same_49 : decode b_M_same 49 = .ok (.iconst 0, 1) := by decide +kernel
theorem d_M_same_50 : decode b_M_same 50 = .ok (.ireturn, 1) := by decide +kernel
theorem d_M_same_51 : decode b_M_same 51 = .ok (.aload_n 0, 1) := by decide +kernel
theorem d_M_same_52 : decode b_M_same 52 = .ok (.getfield 17, 3) := by decide +kernel
theorem d_M_same_55 : decode b_M_same 55 = .ok (.aload_n 0, 1) := by decide +kernel
theorem d_M_same_56 : decode b_M_same 56 = .ok (.getfield 24, 3) := by decide +kernel
theorem d_M_same_59 : decode b_M_same 59 = .ok (.invokestatic 152, 3) := by decide +kernel
theorem d_M_same_62 : decode b_M_same 62 = .ok (.aload_n 0, 1) := by decide +kernel
theorem d_M_same_63 : decode b_M_same 63 = .ok (.iconst 0, 1) := by decide +kernel
theorem d_M_same_64 : decode b_M_same 64 = .ok (.putfield 159, 3) := by decide +kernel
theorem d_M_same_67 : decode b_M_same 67 = .ok (.iconst 0, 1) := by decide +kernel
theorem d_M_same_68 : decode b_M_same 68 = .ok (.istore_n 1, 1) := by decide +kernel
theorem d_M_same_69 : decode b_M_same 69 = .ok (.iload_n 1, 1) := by decide +kernel
theorem d_M_same_70 : decode b_M_same 70 = .ok (.sipush 8192, 3) := by decide +kernel
theorem d_M_same_73 : decode b_M_same 73 = .ok (.if_icmp .ge 23, 3) := by decide +kernel
theorem d_M_same_76 : decode b_M_same 76 = .ok (.aload_n 0, 1) := by decide +kernel
theorem d_M_same_77 : decode b_M_same 77 = .ok (.getfield 30, 3) := by decide +kernel
theorem d_M_same_80 : decode b_M_same 80 = .ok (.iload_n 1, 1) := by decide +kernel
theorem d_M_same_81 : decode b_M_same 81 = .ok (.iconst 0, 1) := by decide +kernel
theorem d_M_same_82 : decode b_M_same 82 = .ok (.iastore, 1) := by decide +kernel
theorem d_M_same_83 : decode b_M_same 83 = .ok (.aload_n 0, 1) := by decide +kernel
theorem d_M_same_84 : decode b_M_same 84 = .ok (.getfield 33, 3) := by decide +kernel
theorem d_M_same_87 : decode b_M_same 87 = .ok (.iload_n 1, 1) := by decide +kernel
theorem d_M_same_88 : decode b_M_same 88 = .ok (.iconst 0, 1) := by decide +kernel
theorem d_M_same_89 : decode b_M_same 89 = .ok (.iastore, 1) := by decide +kernel
theorem d_M_same_90 : decode b_M_same 90 = .ok (.iinc 1 1, 3) := by decide +kernel
theorem d_M_same_93 : decode b_M_same 93 = .ok (.goto (-24), 3) := by decide +kernel
theorem d_M_same_96 : decode b_M_same 96 = .ok (.iconst 1, 1) := by decide +kernel
theorem d_M_same_97 : decode b_M_same 97 = .ok (.istore_n 1, 1) := by decide +kernel
theorem d_M_same_98 : decode b_M_same 98 = .ok (.iconst 0, 1) := by decide +kernel
theorem d_M_same_99 : decode b_M_same 99 = .ok (.istore_n 2, 1) := by decide +kernel
theorem d_M_same_100 : decode b_M_same 100 = .ok (.iload_n 2, 1) := by decide +kernel
theorem d_M_same_101 : decode b_M_same 101 = .ok (.bipush 50, 2) := by decide +kernel
theorem d_M_same_103 : decode b_M_same 103 = .ok (.if_icmp .ge 34, 3) := by decide +kernel
theorem d_M_same_106 : decode b_M_same 106 = .ok (.iload_n 1, 1) := by decide +kernel
theorem d_M_same_107 : decode b_M_same 107 = .ok (.ifCond .eq 30, 3) := by decide +kernel
theorem d_M_same_110 : decode b_M_same 110 = .ok (.aload_n 0, 1) := by decide +kernel
theorem d_M_same_111 : decode b_M_same 111 = .ok (.aload_n 0, 1) := by decide +kernel
theorem d_M_same_112 : decode b_M_same 112 = .ok (.getfield 14, 3) := by decide +kernel
theorem d_M_same_115 : decode b_M_same 115 = .ok (.iload_n 2, 1) := by decide +kernel
theorem d_M_same_116 : decode b_M_same 116 = .ok (.invokestatic 65, 3) := by decide +kernel
theorem d_M_same_119 : decode b_M_same 119 = .ok (.aload_n 0, 1) := by decide +kernel
theorem d_M_same_120 : decode b_M_same 120 = .ok (.getfield 17, 3) := by decide +kernel
theorem d_M_same_123 : decode b_M_same 123 = .ok (.iload_n 2, 1) := by decide +kernel
theorem d_M_same_124 : decode b_M_same 124 = .ok (.invokestatic 65, 3) := by decide +kernel
theorem d_M_same_127 : decode b_M_same 127 = .ok (.invokevirtual 179, 3) := by decide +kernel
theorem d_M_same_130 : decode b_M_same 130 = .ok (.istore_n 1, 1) := by decide +kernel
theorem d_M_same_131 : decode b_M_same 131 = .ok (.iinc 2 1, 3) := by decide +kernel
theorem d_M_same_134 : decode b_M_same 134 = .ok (.goto (-34), 3) := by decide +kernel
theorem d_M_same_137 : decode b_M_same 137 = .ok (.iconst 0, 1) := by decide +kernel
theorem d_M_same_138 : decode b_M_same 138 = .ok (.istore_n 2, 1) := by decide +kernel
theorem d_M_same_139 : decode b_M_same 139 = .ok (.iload_n 2, 1) := by decide +kernel
theorem d_M_same_140 : decode b_M_same 140 = .ok (.aload_n 0, 1) := by decide +kernel
theorem d_M_same_141 : decode b_M_same 141 = .ok (.getfield 159, 3) := by decide +kernel
theorem d_M_same_144 : decode b_M_same 144 = .ok (.if_icmp .ge 24, 3) := by decide +kernel
theorem d_M_same_147 : decode b_M_same 147 = .ok (.iload_n 1, 1) := by decide +kernel
theorem d_M_same_148 : decode b_M_same 148 = .ok (.ifCond .eq 20, 3) := by decide +kernel
theorem d_M_same_151 : decode b_M_same 151 = .ok (.aload_n 0, 1) := by decide +kernel
theorem d_M_same_152 : decode b_M_same 152 = .ok (.aload_n 0, 1) := by decide +kernel
theorem d_M_same_153 : decode b_M_same 153 = .ok (.getfield 27, 3) := by decide +kernel
theorem d_M_same_156 : decode b_M_same 156 = .ok (.iload_n 2, 1) := by decide +kernel
theorem d_M_same_157 : decode b_M_same 157 = .ok (.iaload, 1) := by decide +kernel
theorem d_M_same_158 : decode b_M_same 158 = .ok (.invokevirtual 182, 3) := by decide +kernel
theorem d_M_same_161 : decode b_M_same 161 = .ok (.istore_n 1, 1) := by decide +kernel
theorem d_M_same_162 : decode b_M_same 162 = .ok (.iinc 2 1, 3) := by decide +kernel
theorem d_M_same_165 : decode b_M_same 165 = .ok (.goto (-26), 3) := by decide +kernel
theorem d_M_same_168 : decode b_M_same 168 = .ok (.iload_n 1, 1) := by decide +kernel
theorem d_M_same_169 : decode b_M_same 169 = .ok (.ireturn, 1) := by decide +kernel
theorem d_M_size_0 : decode b_M_size 0 = .ok (.aload_n 0, 1) := by decide +kernel
theorem d_M_size_1 : decode b_M_size 1 = .ok (.iconst 0, 1) := by decide +kernel
theorem d_M_size_2 : decode b_M_size 2 = .ok (.putfield 36, 3) := by decide +kernel
theorem d_M_size_5 : decode b_M_size 5 = .ok (.aload_n 0, 1) := by decide +kernel
theorem d_M_size_6 : decode b_M_size 6 = .ok (.iload_n 1, 1) := by decide +kernel
theorem d_M_size_7 : decode b_M_size 7 = .ok (.invokevirtual 156, 3) := by decide +kernel
theorem d_M_size_10 : decode b_M_size 10 = .ok (.ifCond .eq 19, 3) := by decide +kernel
theorem d_M_size_13 : decode b_M_size 13 = .ok (.aload_n 0, 1) := by decide +kernel
theorem d_M_size_14 : decode b_M_size 14 = .ok (.getfield 14, 3) := by decide +kernel
theorem d_M_size_17 : decode b_M_size 17 = .ok (.aload_n 0, 1) := by decide +kernel
theorem d_M_size_18 : decode b_M_size 18 = .ok (.getfield 20, 3) := by decide +kernel
theorem d_M_size_21 : decode b_M_size 21 = .ok (.iload_n 1, 1) := by decide +kernel
theorem d_M_size_22 : decode b_M_size 22 = .ok (.iaload, 1) := by decide +kernel
theorem d_M_size_23 : decode b_M_size 23 = .ok (.invokestatic 54, 3) := by decide +kernel
theorem d_M_size_26 : decode b_M_size 26 = .ok (.goto 4, 3) := by decide +kernel
theorem d_M_size_29 : decode b_M_size 29 = .ok (.iconst (-1), 1) := by decide +kernel
theorem d_M_size_30 : decode b_M_size 30 = .ok (.ireturn, 1) := by decide +kernel
theorem d_M_sizeAt_0 : decode b_M_sizeAt 0 = .ok (.aload_n 0, 1) := by decide +kernel
theorem d_M_sizeAt_1 : decode b_M_sizeAt 1 = .ok (.iload_n 1, 1) := by decide +kernel
theorem d_M_sizeAt_2 : decode b_M_sizeAt 2 = .ok (.iconst 5, 1) := by decide +kernel
theorem d_M_sizeAt_3 : decode b_M_sizeAt 3 = .ok (.iadd, 1) := by decide +kernel
theorem d_M_sizeAt_4 : decode b_M_sizeAt 4 = .ok (.invokestatic 43, 3) := by decide +kernel
theorem d_M_sizeAt_7 : decode b_M_sizeAt 7 = .ok (.ireturn, 1) := by decide +kernel
theorem d_M_special_I_0 : decode b_M_special_I 0 = .ok (.aload_n 0, 1) := by decide +kernel
theorem d_M_special_I_1 : decode b_M_special_I 1 = .ok (.iconst 0, 1) := by decide +kernel
theorem d_M_special_I_2 : decode b_M_special_I 2 = .ok (.putfield 36, 3) := by decide +kernel
theorem d_M_special_I_5 : decode b_M_special_I 5 = .ok (.aload_n 0, 1) := by decide +kernel
theorem d_M_special_I_6 : decode b_M_special_I 6 = .ok (.getfield 149, 3) := by decide +kernel
theorem d_M_special_I_9 : decode b_M_special_I 9 = .ok (.ifCond .eq 13, 3) := by decide +kernel
theorem d_M_special_I_12 : decode b_M_special_I 12 = .ok (.iload_n 1, 1) := by decide +kernel
theorem d_M_special_I_13 : decode b_M_special_I 13 = .ok (.ifCond .lt 9, 3) := by decide +kernel
theorem d_M_special_I_16 : decode b_M_special_I 16 = .ok (.iload_n 1, 1) := by decide +kernel
theorem d_M_special_I_17 : decode b_M_special_I 17 = .ok (.bipush 49, 2) := by decide +kernel
theorem d_M_special_I_19 : decode b_M_special_I 19 = .ok (.if_icmp .le 7, 3) := by decide +kernel
theorem d_M_special_I_22 : decode b_M_special_I 22 = .ok (.iconst 0, 1) := by decide +kernel
theorem d_M_special_I_23 : decode b_M_special_I 23 = .ok (.goto 11, 3) := by decide +kernel
theorem d_M_special_I_26 : decode b_M_special_I 26 = .ok (.aload_n 0, 1) := by decide +kernel
theorem d_M_special_I_27 : decode b_M_special_I 27 = .ok (.getfield 14, 3) := by decide +kernel
theorem d_M_special_I_30 : decode b_M_special_I 30 = .ok (.iload_n 1, 1) := by decide +kernel
theorem d_M_special_I_31 : decode b_M_special_I 31 = .ok (.invokestatic 65, 3) := by decide +kernel
theorem d_M_special_I_34 : decode b_M_special_I 34 = .ok (.ireturn, 1) := by decide +kernel
theorem d_M_special_aBI_0 : decode b_M_special_aBI 0 = .ok (.aload_n 0, 1) := by decide +kernel
theorem d_M_special_aBI_1 : decode b_M_special_aBI 1 = .ok (.bipush 8, 2) := by decide +kernel
theorem d_M_special_aBI_3 : decode b_M_special_aBI 3 = .ok (.iconst 4, 1) := by decide +kernel
theorem d_M_special_aBI_4 : decode b_M_special_aBI 4 = .ok (.iload_n 1, 1) := by decide +kernel
theorem d_M_special_aBI_5 : decode b_M_special_aBI 5 = .ok (.imul, 1) := by decide +kernel
theorem d_M_special_aBI_6 : decode b_M_special_aBI 6 = .ok (.iadd, 1) := by decide +kernel
theorem d_M_special_aBI_7 : decode b_M_special_aBI 7 = .ok (.invokestatic 47, 3) := by decide +kernel
theorem d_M_special_aBI_10 : decode b_M_special_aBI 10 = .ok (.ireturn, 1) := by decide +kernel
end
section
theorem d_M_stepHead_0 : decode b_M_stepHead 0 = .ok (.iconst 0, 1) := by decide +kernel
theorem d_M_stepHead_1 : decode b_M_stepHead 1 = .ok (.istore_n 1, 1) := by decide +kernel
theorem d_M_stepHead_2 : decode b_M_stepHead 2 = .ok (.iload_n 1, 1) := by decide +kernel
theorem d_M_stepHead_3 : decode b_M_stepHead 3 = .ok (.bipush 8, 2) := by decide +kernel
theorem d_M_stepHead_5 : decode b_M_stepHead 5 = .ok (.if_icmp .ge 142, 3) := by decide +kernel
theorem d_M_stepHead_8 : decode b_M_stepHead 8 = .ok (.iload_n 1, 1) := by decide +kernel
theorem d_M_stepHead_9 : decode b_M_stepHead 9 = .ok (.aload_n 0, 1) := by decide +kernel
theorem d_M_stepHead_10 : decode b_M_stepHead 10 = .ok (.getfield 40, 3) := by decide +kernel
theorem d_M_stepHead_13 : decode b_M_stepHead 13 = .ok (.if_icmp .lt 5, 3) := by decide +kernel
theorem d_M_stepHead_16 : decode b_M_stepHead 16 = .ok (.iload_n 1, 1) := by decide +kernel
theorem d_M_stepHead_17 : decode b_M_stepHead 17 = .ok (.ireturn, 1) := by decide +kernel
theorem d_M_stepHead_18 : decode b_M_stepHead 18 = .ok (.aload_n 0, 1) := by decide +kernel
theorem d_M_stepHead_19 : decode b_M_stepHead 19 = .ok (.getfield 8, 3) := by decide +kernel
theorem d_M_stepHead_22 : decode b_M_stepHead 22 = .ok (.iload_n 1, 1) := by decide +kernel
theorem d_M_stepHead_23 : decode b_M_stepHead 23 = .ok (.baload, 1) := by decide +kernel
theorem d_M_stepHead_24 : decode b_M_stepHead 24 = .ok (.sipush 255, 3) := by decide +kernel
theorem d_M_stepHead_27 : decode b_M_stepHead 27 = .ok (.iand, 1) := by decide +kernel
theorem d_M_stepHead_28 : decode b_M_stepHead 28 = .ok (.istore_n 2, 1) := by decide +kernel
theorem d_M_stepHead_29 : decode b_M_stepHead 29 = .ok (.iload_n 1, 1) := by decide +kernel
theorem d_M_stepHead_30 : decode b_M_stepHead 30 = .ok (.iconst 2, 1) := by decide +kernel
theorem d_M_stepHead_31 : decode b_M_stepHead 31 = .ok (.if_icmp .ge 17, 3) := by decide +kernel
theorem d_M_stepHead_34 : decode b_M_stepHead 34 = .ok (.iload_n 2, 1) := by decide +kernel
theorem d_M_stepHead_35 : decode b_M_stepHead 35 = .ok (.bipush 77, 2) := by decide +kernel
theorem d_M_stepHead_37 : decode b_M_stepHead 37 = .ok (.if_icmp .ne 7, 3) := by decide +kernel
theorem d_M_stepHead_40 : decode b_M_stepHead 40 = .ok (.iconst 1, 1) := by decide +kernel
theorem d_M_stepHead_41 : decode b_M_stepHead 41 = .ok (.goto 93, 3) := by decide +kernel
theorem d_M_stepHead_44 : decode b_M_stepHead 44 = .ok (.iconst 0, 1) := by decide +kernel
theorem d_M_stepHead_45 : decode b_M_stepHead 45 = .ok (.goto 89, 3) := by decide +kernel
theorem d_M_stepHead_48 : decode b_M_stepHead 48 = .ok (.iload_n 1, 1) := by decide +kernel
theorem d_M_stepHead_49 : decode b_M_stepHead 49 = .ok (.iconst 2, 1) := by decide +kernel
theorem d_M_stepHead_50 : decode b_M_stepHead 50 = .ok (.if_icmp .ne 16, 3) := by decide +kernel
theorem d_M_stepHead_53 : decode b_M_stepHead 53 = .ok (.iload_n 2, 1) := by decide +kernel
theorem d_M_stepHead_54 : decode b_M_stepHead 54 = .ok (.iconst 1, 1) := by decide +kernel
theorem d_M_stepHead_55 : decode b_M_stepHead 55 = .ok (.if_icmp .ne 7, 3) := by decide +kernel
theorem d_M_stepHead_58 : decode b_M_stepHead 58 = .ok (.iconst 1, 1) := by decide +kernel
theorem d_M_stepHead_59 : decode b_M_stepHead 59 = .ok (.goto 75, 3) := by decide +kernel
theorem d_M_stepHead_62 : decode b_M_stepHead 62 = .ok (.iconst 0, 1) := by decide +kernel
theorem d_M_stepHead_63 : decode b_M_stepHead 63 = .ok (.goto 71, 3) := by decide +kernel
theorem d_M_stepHead_66 : decode b_M_stepHead 66 = .ok (.iload_n 1, 1) := by decide +kernel
theorem d_M_stepHead_67 : decode b_M_stepHead 67 = .ok (.iconst 3, 1) := by decide +kernel
theorem d_M_stepHead_68 : decode b_M_stepHead 68 = .ok (.if_icmp .ne 15, 3) := by decide +kernel
theorem d_M_stepHead_71 : decode b_M_stepHead 71 = .ok (.iload_n 2, 1) := by decide +kernel
theorem d_M_stepHead_72 : decode b_M_stepHead 72 = .ok (.ifCond .ne 7, 3) := by decide +kernel
theorem d_M_stepHead_75 : decode b_M_stepHead 75 = .ok (.iconst 1, 1) := by decide +kernel
theorem d_M_stepHead_76 : decode b_M_stepHead 76 = .ok (.goto 58, 3) := by decide +kernel
theorem d_M_stepHead_79 : decode b_M_stepHead 79 = .ok (.iconst 0, 1) := by decide +kernel
theorem d_M_stepHead_80 : decode b_M_stepHead 80 = .ok (.goto 54, 3) := by decide +kernel
theorem d_M_stepHead_83 : decode b_M_stepHead 83 = .ok (.iload_n 1, 1) := by decide +kernel
theorem d_M_stepHead_84 : decode b_M_stepHead 84 = .ok (.iconst 4, 1) := by decide +kernel
theorem d_M_stepHead_85 : decode b_M_stepHead 85 = .ok (.if_icmp .ne 23, 3) := by decide +kernel
theorem d_M_stepHead_88 : decode b_M_stepHead 88 = .ok (.iload_n 2, 1) := by decide +kernel
theorem d_M_stepHead_89 : decode b_M_stepHead 89 = .ok (.bipush 12, 2) := by decide +kernel
theorem d_M_stepHead_91 : decode b_M_stepHead 91 = .ok (.if_icmp .lt 13, 3) := by decide +kernel
theorem d_M_stepHead_94 : decode b_M_stepHead 94 = .ok (.iload_n 2, 1) := by decide +kernel
theorem d_M_stepHead_95 : decode b_M_stepHead 95 = .ok (.bipush 18, 2) := by decide +kernel
theorem d_M_stepHead_97 : decode b_M_stepHead 97 = .ok (.if_icmp .gt 7, 3) := by decide +kernel
theorem d_M_stepHead_100 : decode b_M_stepHead 100 = .ok (.iconst 1, 1) := by decide +kernel
theorem d_M_stepHead_101 : decode b_M_stepHead 101 = .ok (.goto 33, 3) := by decide +kernel
theorem d_M_stepHead_104 : decode b_M_stepHead 104 = .ok (.iconst 0, 1) := by decide +kernel
theorem d_M_stepHead_105 : decode b_M_stepHead 105 = .ok (.goto 29, 3) := by decide +kernel
theorem d_M_stepHead_108 : decode b_M_stepHead 108 = .ok (.iload_n 1, 1) := by decide +kernel
theorem d_M_stepHead_109 : decode b_M_stepHead 109 = .ok (.iconst 5, 1) := by decide +kernel
theorem d_M_stepHead_110 : decode b_M_stepHead 110 = .ok (.if_icmp .ne 23, 3) := by decide +kernel
theorem d_M_stepHead_113 : decode b_M_stepHead 113 = .ok (.iload_n 2, 1) := by decide +kernel
theorem d_M_stepHead_114 : decode b_M_stepHead 114 = .ok (.bipush 10, 2) := by decide +kernel
theorem d_M_stepHead_116 : decode b_M_stepHead 116 = .ok (.if_icmp .lt 13, 3) := by decide +kernel
theorem d_M_stepHead_119 : decode b_M_stepHead 119 = .ok (.iload_n 2, 1) := by decide +kernel
theorem d_M_stepHead_120 : decode b_M_stepHead 120 = .ok (.bipush 14, 2) := by decide +kernel
theorem d_M_stepHead_122 : decode b_M_stepHead 122 = .ok (.if_icmp .gt 7, 3) := by decide +kernel
theorem d_M_stepHead_125 : decode b_M_stepHead 125 = .ok (.iconst 1, 1) := by decide +kernel
theorem d_M_stepHead_126 : decode b_M_stepHead 126 = .ok (.goto 8, 3) := by decide +kernel
theorem d_M_stepHead_129 : decode b_M_stepHead 129 = .ok (.iconst 0, 1) := by decide +kernel
theorem d_M_stepHead_130 : decode b_M_stepHead 130 = .ok (.goto 4, 3) := by decide +kernel
theorem d_M_stepHead_133 : decode b_M_stepHead 133 = .ok (.iconst 1, 1) := by decide +kernel
theorem d_M_stepHead_134 : decode b_M_stepHead 134 = .ok (.istore_n 3, 1) := by decide +kernel
theorem d_M_stepHead_135 : decode b_M_stepHead 135 = .ok (.iload_n 3, 1) := by decide +kernel
theorem d_M_stepHead_136 : decode b_M_stepHead 136 = .ok (.ifCond .ne 5, 3) := by decide +kernel
theorem d_M_stepHead_139 : decode b_M_stepHead 139 = .ok (.iload_n 1, 1) := by decide +kernel
theorem d_M_stepHead_140 : decode b_M_stepHead 140 = .ok (.ireturn, 1) := by decide +kernel
theorem d_M_stepHead_141 : decode b_M_stepHead 141 = .ok (.iinc 1 1, 3) := by decide +kernel
theorem d_M_stepHead_144 : decode b_M_stepHead 144 = .ok (.goto (-142), 3) := by decide +kernel
theorem d_M_stepHead_147 : decode b_M_stepHead 147 = .ok (.aload_n 0, 1) := by decide +kernel
theorem d_M_stepHead_148 : decode b_M_stepHead 148 = .ok (.getfield 8, 3) := by decide +kernel
theorem d_M_stepHead_151 : decode b_M_stepHead 151 = .ok (.invokestatic 101, 3) := by decide +kernel
theorem d_M_stepHead_154 : decode b_M_stepHead 154 = .ok (.iconst 1, 1) := by decide +kernel
theorem d_M_stepHead_155 : decode b_M_stepHead 155 = .ok (.if_icmp .lt 16, 3) := by decide +kernel
theorem d_M_stepHead_158 : decode b_M_stepHead 158 = .ok (.aload_n 0, 1) := by decide +kernel
theorem d_M_stepHead_159 : decode b_M_stepHead 159 = .ok (.getfield 8, 3) := by decide +kernel
theorem d_M_stepHead_162 : decode b_M_stepHead 162 = .ok (.invokestatic 101, 3) := by decide +kernel
theorem d_M_stepHead_165 : decode b_M_stepHead 165 = .ok (.sipush 8191, 3) := by decide +kernel
theorem d_M_stepHead_168 : decode b_M_stepHead 168 = .ok (.if_icmp .le 8, 3) := by decide +kernel
theorem d_M_stepHead_171 : decode b_M_stepHead 171 = .ok (.bipush 6, 2) := by decide +kernel
theorem d_M_stepHead_173 : decode b_M_stepHead 173 = .ok (.goto 4, 3) := by decide +kernel
theorem d_M_stepHead_176 : decode b_M_stepHead 176 = .ok (.iconst (-1), 1) := by decide +kernel
theorem d_M_stepHead_177 : decode b_M_stepHead 177 = .ok (.ireturn, 1) := by decide +kernel
theorem d_M_stepObjects_0 : decode b_M_stepObjects 0 = .ok (.iconst 1, 1) := by decide +kernel
theorem d_M_stepObjects_1 : decode b_M_stepObjects 1 = .ok (.istore_n 1, 1) := by decide +kernel
theorem d_M_stepObjects_2 : decode b_M_stepObjects 2 = .ok (.iload_n 1, 1) := by decide +kernel
theorem d_M_stepObjects_3 : decode b_M_stepObjects 3 = .ok (.aload_n 0, 1) := by decide +kernel
theorem d_M_stepObjects_4 : decode b_M_stepObjects 4 = .ok (.getfield 8, 3) := by decide +kernel
theorem d_M_stepObjects_7 : decode b_M_stepObjects 7 = .ok (.invokestatic 101, 3) := by decide +kernel
theorem d_M_stepObjects_10 : decode b_M_stepObjects 10 = .ok (.if_icmp .gt 24, 3) := by decide +kernel
theorem d_M_stepObjects_13 : decode b_M_stepObjects 13 = .ok (.aload_n 0, 1) := by decide +kernel
theorem d_M_stepObjects_14 : decode b_M_stepObjects 14 = .ok (.iload_n 1, 1) := by decide +kernel
theorem d_M_stepObjects_15 : decode b_M_stepObjects 15 = .ok (.invokevirtual 121, 3) := by decide +kernel
theorem d_M_stepObjects_18 : decode b_M_stepObjects 18 = .ok (.ifCond .ne 10, 3) := by decide +kernel
theorem d_M_stepObjects_21 : decode b_M_stepObjects 21 = .ok (.aload_n 0, 1) := by decide +kernel
theorem d_M_stepObjects_22 : decode b_M_stepObjects 22 = .ok (.getfield 20, 3) := by decide +kernel
theorem d_M_stepObjects_25 : decode b_M_stepObjects 25 = .ok (.iload_n 1, 1) := by decide +kernel
theorem d_M_stepObjects_26 : decode b_M_stepObjects 26 = .ok (.iaload, 1) := by decide +kernel
theorem d_M_stepObjects_27 : decode b_M_stepObjects 27 = .ok (.ireturn, 1) := by decide +kernel
theorem d_M_stepObjects_28 : decode b_M_stepObjects 28 = .ok (.iinc 1 1, 3) := by decide +kernel
theorem d_M_stepObjects_31 : decode b_M_stepObjects 31 = .ok (.goto (-29), 3) := by decide +kernel
theorem d_M_stepObjects_34 : decode b_M_stepObjects 34 = .ok (.iconst (-1), 1) := by decide +kernel
theorem d_M_stepObjects_35 : decode b_M_stepObjects 35 = .ok (.ireturn, 1) := by decide +kernel
theorem d_M_stepProcess_0 : decode b_M_stepProcess 0 = .ok (.aload_n 0, 1) := by decide +kernel
theorem d_M_stepProcess_1 : decode b_M_stepProcess 1 = .ok (.getfield 8, 3) := by decide +kernel
theorem d_M_stepProcess_4 : decode b_M_stepProcess 4 = .ok (.bipush 14, 2) := by decide +kernel
theorem d_M_stepProcess_6 : decode b_M_stepProcess 6 = .ok (.invokestatic 65, 3) := by decide +kernel
theorem d_M_stepProcess_9 : decode b_M_stepProcess 9 = .ok (.istore_n 1, 1) := by decide +kernel
theorem d_M_stepProcess_10 : decode b_M_stepProcess 10 = .ok (.aload_n 0, 1) := by decide +kernel
theorem d_M_stepProcess_11 : decode b_M_stepProcess 11 = .ok (.iload_n 1, 1) := by decide +kernel
theorem d_M_stepProcess_12 : decode b_M_stepProcess 12 = .ok (.iconst 0, 1) := by decide +kernel
theorem d_M_stepProcess_13 : decode b_M_stepProcess 13 = .ok (.invokevirtual 72, 3) := by decide +kernel
theorem d_M_stepProcess_16 : decode b_M_stepProcess 16 = .ok (.istore_n 2, 1) := by decide +kernel
theorem d_M_stepProcess_17 : decode b_M_stepProcess 17 = .ok (.aload_n 0, 1) := by decide +kernel
theorem d_M_stepProcess_18 : decode b_M_stepProcess 18 = .ok (.iload_n 2, 1) := by decide +kernel
theorem d_M_stepProcess_19 : decode b_M_stepProcess 19 = .ok (.bipush 8, 2) := by decide +kernel
theorem d_M_stepProcess_21 : decode b_M_stepProcess 21 = .ok (.invokevirtual 68, 3) := by decide +kernel
theorem d_M_stepProcess_24 : decode b_M_stepProcess 24 = .ok (.ifCond .eq 15, 3) := by decide +kernel
theorem d_M_stepProcess_27 : decode b_M_stepProcess 27 = .ok (.aload_n 0, 1) := by decide +kernel
theorem d_M_stepProcess_28 : decode b_M_stepProcess 28 = .ok (.iload_n 2, 1) := by decide +kernel
theorem d_M_stepProcess_29 : decode b_M_stepProcess 29 = .ok (.invokevirtual 80, 3) := by decide +kernel
theorem d_M_stepProcess_32 : decode b_M_stepProcess 32 = .ok (.ifCond .ne 7, 3) := by decide +kernel
theorem d_M_stepProcess_35 : decode b_M_stepProcess 35 = .ok (.iconst 1, 1) := by decide +kernel
theorem d_M_stepProcess_36 : decode b_M_stepProcess 36 = .ok (.goto 4, 3) := by decide +kernel
theorem d_M_stepProcess_39 : decode b_M_stepProcess 39 = .ok (.iconst 0, 1) := by decide +kernel
theorem d_M_stepProcess_40 : decode b_M_stepProcess 40 = .ok (.istore_n 3, 1) := by decide +kernel
theorem d_M_stepProcess_41 : decode b_M_stepProcess 41 = .ok (.iconst 0, 1) := by decide +kernel
theorem d_M_stepProcess_42 : decode b_M_stepProcess 42 = .ok (.istore 4, 2) := by decide +kernel
theorem d_M_stepProcess_44 : decode b_M_stepProcess 44 = .ok (.iload 4, 2) := by decide +kernel
theorem d_M_stepProcess_46 : decode b_M_stepProcess 46 = .ok (.bipush 8, 2) := by decide +kernel
theorem d_M_stepProcess_48 : decode b_M_stepProcess 48 = .ok (.if_icmp .ge 48, 3) := by decide +kernel
theorem d_M_stepProcess_51 : decode b_M_stepProcess 51 = .ok (.iload_n 3, 1) := by decide +kernel
theorem d_M_stepProcess_52 : decode b_M_stepProcess 52 = .ok (.ifCond .eq 44, 3) := by decide +kernel
theorem d_M_stepProcess_55 : decode b_M_stepProcess 55 = .ok (.aload_n 0, 1) := by decide +kernel
theorem d_M_stepProcess_56 : decode b_M_stepProcess 56 = .ok (.aload_n 0, 1) := by decide +kernel
theorem d_M_stepProcess_57 : decode b_M_stepProcess 57 = .ok (.iload_n 2, 1) := by decide +kernel
theorem d_M_stepProcess_58 : decode b_M_stepProcess 58 = .ok (.iload 4, 2) := by decide +kernel
theorem d_M_stepProcess_60 : decode b_M_stepProcess 60 = .ok (.invokevirtual 72, 3) := by decide +kernel
theorem d_M_stepProcess_63 : decode b_M_stepProcess 63 = .ok (.iconst 2, 1) := by decide +kernel
theorem d_M_stepProcess_64 : decode b_M_stepProcess 64 = .ok (.invokevirtual 68, 3) := by decide +kernel
theorem d_M_stepProcess_67 : decode b_M_stepProcess 67 = .ok (.ifCond .eq 21, 3) := by decide +kernel
theorem d_M_stepProcess_70 : decode b_M_stepProcess 70 = .ok (.aload_n 0, 1) := by decide +kernel
theorem d_M_stepProcess_71 : decode b_M_stepProcess 71 = .ok (.aload_n 0, 1) := by decide +kernel
theorem d_M_stepProcess_72 : decode b_M_stepProcess 72 = .ok (.iload_n 2, 1) := by decide +kernel
theorem d_M_stepProcess_73 : decode b_M_stepProcess 73 = .ok (.iload 4, 2) := by decide +kernel
theorem d_M_stepProcess_75 : decode b_M_stepProcess 75 = .ok (.invokevirtual 72, 3) := by decide +kernel
theorem d_M_stepProcess_78 : decode b_M_stepProcess 78 = .ok (.invokevirtual 80, 3) := by decide +kernel
theorem d_M_stepProcess_81 : decode b_M_stepProcess 81 = .ok (.ifCond .ne 7, 3) := by decide +kernel
theorem d_M_stepProcess_84 : decode b_M_stepProcess 84 = .ok (.iconst 1, 1) := by decide +kernel
theorem d_M_stepProcess_85 : decode b_M_stepProcess 85 = .ok (.goto 4, 3) := by decide +kernel
theorem d_M_stepProcess_88 : decode b_M_stepProcess 88 = .ok (.iconst 0, 1) := by decide +kernel
theorem d_M_stepProcess_89 : decode b_M_stepProcess 89 = .ok (.istore_n 3, 1) := by decide +kernel
theorem d_M_stepProcess_90 : decode b_M_stepProcess 90 = .ok (.iinc 4 1, 3) := by decide +kernel
theorem d_M_stepProcess_93 : decode b_M_stepProcess 93 = .ok (.goto (-49), 3) := by decide +kernel
theorem d_M_stepProcess_96 : decode b_M_stepProcess 96 = .ok (.aload_n 0, 1) := by decide +kernel
theorem d_M_stepProcess_97 : decode b_M_stepProcess 97 = .ok (.iload_n 1, 1) := by decide +kernel
theorem d_M_stepProcess_98 : decode b_M_stepProcess 98 = .ok (.iconst 1, 1) := by decide +kernel
theorem d_M_stepProcess_99 : decode b_M_stepProcess 99 = .ok (.invokevirtual 72, 3) := by decide +kernel
theorem d_M_stepProcess_102 : decode b_M_stepProcess 102 = .ok (.istore 4, 2) := by decide +kernel
theorem d_M_stepProcess_104 : decode b_M_stepProcess 104 = .ok (.iload_n 3, 1) := by decide +kernel
theorem d_M_stepProcess_105 : decode b_M_stepProcess 105 = .ok (.ifCond .eq 26, 3) := by decide +kernel
theorem d_M_stepProcess_108 : decode b_M_stepProcess 108 = .ok (.aload_n 0, 1) := by decide +kernel
theorem d_M_stepProcess_109 : decode b_M_stepProcess 109 = .ok (.iload 4, 2) := by decide +kernel
theorem d_M_stepProcess_111 : decode b_M_stepProcess 111 = .ok (.iconst 4, 1) := by decide +kernel
theorem d_M_stepProcess_112 : decode b_M_stepProcess 112 = .ok (.invokevirtual 68, 3) := by decide +kernel
theorem d_M_stepProcess_115 : decode b_M_stepProcess 115 = .ok (.ifCond .eq 16, 3) := by decide +kernel
theorem d_M_stepProcess_118 : decode b_M_stepProcess 118 = .ok (.aload_n 0, 1) := by decide +kernel
theorem d_M_stepProcess_119 : decode b_M_stepProcess 119 = .ok (.iload 4, 2) := by decide +kernel
theorem d_M_stepProcess_121 : decode b_M_stepProcess 121 = .ok (.invokevirtual 80, 3) := by decide +kernel
theorem d_M_stepProcess_124 : decode b_M_stepProcess 124 = .ok (.ifCond .ne 7, 3) := by decide +kernel
theorem d_M_stepProcess_127 : decode b_M_stepProcess 127 = .ok (.iconst 1, 1) := by decide +kernel
theorem d_M_stepProcess_128 : decode b_M_stepProcess 128 = .ok (.goto 4, 3) := by decide +kernel
theorem d_M_stepProcess_131 : decode b_M_stepProcess 131 = .ok (.iconst 0, 1) := by decide +kernel
theorem d_M_stepProcess_132 : decode b_M_stepProcess 132 = .ok (.istore_n 3, 1) := by decide +kernel
theorem d_M_stepProcess_133 : decode b_M_stepProcess 133 = .ok (.iload_n 3, 1) := by decide +kernel
theorem d_M_stepProcess_134 : decode b_M_stepProcess 134 = .ok (.ifCond .eq 64, 3) := by decide +kernel
theorem d_M_stepProcess_137 : decode b_M_stepProcess 137 = .ok (.aload_n 0, 1) := by decide +kernel
theorem d_M_stepProcess_138 : decode b_M_stepProcess 138 = .ok (.iload 4, 2) := by decide +kernel
theorem d_M_stepProcess_140 : decode b_M_stepProcess 140 = .ok (.iconst 1, 1) := by decide +kernel
theorem d_M_stepProcess_141 : decode b_M_stepProcess 141 = .ok (.invokevirtual 72, 3) := by decide +kernel
theorem d_M_stepProcess_144 : decode b_M_stepProcess 144 = .ok (.istore 5, 2) := by decide +kernel
theorem d_M_stepProcess_146 : decode b_M_stepProcess 146 = .ok (.aload_n 0, 1) := by decide +kernel
theorem d_M_stepProcess_147 : decode b_M_stepProcess 147 = .ok (.iload 5, 2) := by decide +kernel
theorem d_M_stepProcess_149 : decode b_M_stepProcess 149 = .ok (.invokevirtual 80, 3) := by decide +kernel
theorem d_M_stepProcess_152 : decode b_M_stepProcess 152 = .ok (.ifCond .eq 44, 3) := by decide +kernel
theorem d_M_stepProcess_155 : decode b_M_stepProcess 155 = .ok (.aload_n 0, 1) := by decide +kernel
theorem d_M_stepProcess_156 : decode b_M_stepProcess 156 = .ok (.iload 5, 2) := by decide +kernel
theorem d_M_stepProcess_158 : decode b_M_stepProcess 158 = .ok (.iconst 2, 1) := by decide +kernel
theorem d_M_stepProcess_159 : decode b_M_stepProcess 159 = .ok (.invokevirtual 68, 3) := by decide +kernel
theorem d_M_stepProcess_162 : decode b_M_stepProcess 162 = .ok (.ifCond .eq 34, 3) := by decide +kernel
theorem d_M_stepProcess_165 : decode b_M_stepProcess 165 = .ok (.aload_n 0, 1) := by decide +kernel
theorem d_M_stepProcess_166 : decode b_M_stepProcess 166 = .ok (.iload 5, 2) := by decide +kernel
theorem d_M_stepProcess_168 : decode b_M_stepProcess 168 = .ok (.iconst 1, 1) := by decide +kernel
theorem d_M_stepProcess_169 : decode b_M_stepProcess 169 = .ok (.invokevirtual 72, 3) := by decide +kernel
theorem d_M_stepProcess_172 : decode b_M_stepProcess 172 = .ok (.ifCond .eq 24, 3) := by decide +kernel
theorem d_M_stepProcess_175 : decode b_M_stepProcess 175 = .ok (.aload_n 0, 1) := by decide +kernel
theorem d_M_stepProcess_176 : decode b_M_stepProcess 176 = .ok (.aload_n 0, 1) := by decide +kernel
theorem d_M_stepProcess_177 : decode b_M_stepProcess 177 = .ok (.iload 4, 2) := by decide +kernel
theorem d_M_stepProcess_179 : decode b_M_stepProcess 179 = .ok (.iconst 2, 1) := by decide +kernel
theorem d_M_stepProcess_180 : decode b_M_stepProcess 180 = .ok (.invokevirtual 72, 3) := by decide +kernel
theorem d_M_stepProcess_183 : decode b_M_stepProcess 183 = .ok (.iconst 1, 1) := by decide +kernel
theorem d_M_stepProcess_184 : decode b_M_stepProcess 184 = .ok (.bipush 8, 2) := by decide +kernel
theorem d_M_stepProcess_186 : decode b_M_stepProcess 186 = .ok (.invokevirtual 84, 3) := by decide +kernel
theorem d_M_stepProcess_189 : decode b_M_stepProcess 189 = .ok (.ifCond .eq 7, 3) := by decide +kernel
theorem d_M_stepProcess_192 : decode b_M_stepProcess 192 = .ok (.iconst 1, 1) := by decide +kernel
theorem d_M_stepProcess_193 : decode b_M_stepProcess 193 = .ok (.goto 4, 3) := by decide +kernel
theorem d_M_stepProcess_196 : decode b_M_stepProcess 196 = .ok (.iconst 0, 1) := by decide +kernel
theorem d_M_stepProcess_197 : decode b_M_stepProcess 197 = .ok (.istore_n 3, 1) := by decide +kernel
theorem d_M_stepProcess_198 : decode b_M_stepProcess 198 = .ok (.iload_n 3, 1) := by decide +kernel
theorem d_M_stepProcess_199 : decode b_M_stepProcess 199 = .ok (.ifCond .eq 7, 3) := by decide +kernel
theorem d_M_stepProcess_202 : decode b_M_stepProcess 202 = .ok (.iconst (-1), 1) := by decide +kernel
theorem d_M_stepProcess_203 : decode b_M_stepProcess 203 = .ok (.goto 5, 3) := by decide +kernel
theorem d_M_stepProcess_206 : decode b_M_stepProcess 206 = .ok (.bipush 64, 2) := by decide +kernel
theorem d_M_stepProcess_208 : decode b_M_stepProcess 208 = .ok (.ireturn, 1) := by decide +kernel
theorem d_M_stepRoom_0 : decode b_M_stepRoom 0 = .ok (.aload_n 0, 1) := by decide +kernel
theorem d_M_stepRoom_1 : decode b_M_stepRoom 1 = .ok (.getfield 8, 3) := by decide +kernel
theorem d_M_stepRoom_4 : decode b_M_stepRoom 4 = .ok (.aload_n 0, 1) := by decide +kernel
theorem d_M_stepRoom_5 : decode b_M_stepRoom 5 = .ok (.getfield 20, 3) := by decide +kernel
theorem d_M_stepRoom_8 : decode b_M_stepRoom 8 = .ok (.invokestatic 108, 3) := by decide +kernel
theorem d_M_stepRoom_11 : decode b_M_stepRoom 11 = .ok (.iconst 1, 1) := by decide +kernel
theorem d_M_stepRoom_12 : decode b_M_stepRoom 12 = .ok (.aload_n 0, 1) := by decide +kernel
theorem d_M_stepRoom_13 : decode b_M_stepRoom 13 = .ok (.getfield 8, 3) := by decide +kernel
theorem d_M_stepRoom_16 : decode b_M_stepRoom 16 = .ok (.iconst 4, 1) := by decide +kernel
theorem d_M_stepRoom_17 : decode b_M_stepRoom 17 = .ok (.baload, 1) := by decide +kernel
theorem d_M_stepRoom_18 : decode b_M_stepRoom 18 = .ok (.ishl, 1) := by decide +kernel
theorem d_M_stepRoom_19 : decode b_M_stepRoom 19 = .ok (.if_icmp .le 5, 3) := by decide +kernel
theorem d_M_stepRoom_22 : decode b_M_stepRoom 22 = .ok (.iconst 4, 1) := by decide +kernel
theorem d_M_stepRoom_23 : decode b_M_stepRoom 23 = .ok (.ireturn, 1) := by decide +kernel
theorem d_M_stepRoom_24 : decode b_M_stepRoom 24 = .ok (.aload_n 0, 1) := by decide +kernel
theorem d_M_stepRoom_25 : decode b_M_stepRoom 25 = .ok (.getfield 8, 3) := by decide +kernel
theorem d_M_stepRoom_28 : decode b_M_stepRoom 28 = .ok (.invokestatic 101, 3) := by decide +kernel
theorem d_M_stepRoom_31 : decode b_M_stepRoom 31 = .ok (.iconst 1, 1) := by decide +kernel
theorem d_M_stepRoom_32 : decode b_M_stepRoom 32 = .ok (.aload_n 0, 1) := by decide +kernel
theorem d_M_stepRoom_33 : decode b_M_stepRoom 33 = .ok (.getfield 8, 3) := by decide +kernel
theorem d_M_stepRoom_36 : decode b_M_stepRoom 36 = .ok (.iconst 5, 1) := by decide +kernel
theorem d_M_stepRoom_37 : decode b_M_stepRoom 37 = .ok (.baload, 1) := by decide +kernel
theorem d_M_stepRoom_38 : decode b_M_stepRoom 38 = .ok (.ishl, 1) := by decide +kernel
theorem d_M_stepRoom_39 : decode b_M_stepRoom 39 = .ok (.if_icmp .le 7, 3) := by decide +kernel
theorem d_M_stepRoom_42 : decode b_M_stepRoom 42 = .ok (.iconst 5, 1) := by decide +kernel
theorem d_M_stepRoom_43 : decode b_M_stepRoom 43 = .ok (.goto 4, 3) := by decide +kernel
theorem d_M_stepRoom_46 : decode b_M_stepRoom 46 = .ok (.iconst (-1), 1) := by decide +kernel
theorem d_M_stepRoom_47 : decode b_M_stepRoom 47 = .ok (.ireturn, 1) := by decide +kernel
theorem d_M_stepSpecials_0 : decode b_M_stepSpecials 0 = .ok (.iconst 0, 1) := by decide +kernel
theorem d_M_stepSpecials_1 : decode b_M_stepSpecials 1 = .ok (.istore_n 1, 1) := by decide +kernel
theorem d_M_stepSpecials_2 : decode b_M_stepSpecials 2 = .ok (.iload_n 1, 1) := by decide +kernel
theorem d_M_stepSpecials_3 : decode b_M_stepSpecials 3 = .ok (.bipush 15, 2) := by decide +kernel
theorem d_M_stepSpecials_5 : decode b_M_stepSpecials 5 = .ok (.if_icmp .ge 177, 3) := by decide +kernel
theorem d_M_stepSpecials_8 : decode b_M_stepSpecials 8 = .ok (.aload_n 0, 1) := by decide +kernel
theorem d_M_stepSpecials_9 : decode b_M_stepSpecials 9 = .ok (.getfield 8, 3) := by decide +kernel
theorem d_M_stepSpecials_12 : decode b_M_stepSpecials 12 = .ok (.iload_n 1, 1) := by decide +kernel
theorem d_M_stepSpecials_13 : decode b_M_stepSpecials 13 = .ok (.invokestatic 65, 3) := by decide +kernel
theorem d_M_stepSpecials_16 : decode b_M_stepSpecials 16 = .ok (.istore_n 2, 1) := by decide +kernel
theorem d_M_stepSpecials_17 : decode b_M_stepSpecials 17 = .ok (.iload_n 1, 1) := by decide +kernel
theorem d_M_stepSpecials_18 : decode b_M_stepSpecials 18 = .ok (.iconst 2, 1) := by decide +kernel
theorem d_M_stepSpecials_19 : decode b_M_stepSpecials 19 = .ok (.if_icmp .ge 10, 3) := by decide +kernel
theorem d_M_stepSpecials_22 : decode b_M_stepSpecials 22 = .ok (.iload_n 2, 1) := by decide +kernel
theorem d_M_stepSpecials_23 : decode b_M_stepSpecials 23 = .ok (.invokestatic 57, 3) := by decide +kernel
theorem d_M_stepSpecials_26 : decode b_M_stepSpecials 26 = .ok (.goto 85, 3) := by decide +kernel
theorem d_M_stepSpecials_29 : decode b_M_stepSpecials 29 = .ok (.iload_n 1, 1) := by decide +kernel
theorem d_M_stepSpecials_30 : decode b_M_stepSpecials 30 = .ok (.bipush 13, 2) := by decide +kernel
theorem d_M_stepSpecials_32 : decode b_M_stepSpecials 32 = .ok (.if_icmp .ge 11, 3) := by decide +kernel
theorem d_M_stepSpecials_35 : decode b_M_stepSpecials 35 = .ok (.aload_n 0, 1) := by decide +kernel
theorem d_M_stepSpecials_36 : decode b_M_stepSpecials 36 = .ok (.iload_n 2, 1) := by decide +kernel
theorem d_M_stepSpecials_37 : decode b_M_stepSpecials 37 = .ok (.invokevirtual 112, 3) := by decide +kernel
theorem d_M_stepSpecials_40 : decode b_M_stepSpecials 40 = .ok (.goto 71, 3) := by decide +kernel
theorem d_M_stepSpecials_43 : decode b_M_stepSpecials 43 = .ok (.iload_n 1, 1) := by decide +kernel
theorem d_M_stepSpecials_44 : decode b_M_stepSpecials 44 = .ok (.bipush 13, 2) := by decide +kernel
theorem d_M_stepSpecials_46 : decode b_M_stepSpecials 46 = .ok (.if_icmp .ne 43, 3) := by decide +kernel
theorem d_M_stepSpecials_49 : decode b_M_stepSpecials 49 = .ok (.aload_n 0, 1) := by decide +kernel
theorem d_M_stepSpecials_50 : decode b_M_stepSpecials 50 = .ok (.iload_n 2, 1) := by decide +kernel
theorem d_M_stepSpecials_51 : decode b_M_stepSpecials 51 = .ok (.sipush 256, 3) := by decide +kernel
theorem d_M_stepSpecials_54 : decode b_M_stepSpecials 54 = .ok (.invokevirtual 68, 3) := by decide +kernel
theorem d_M_stepSpecials_57 : decode b_M_stepSpecials 57 = .ok (.ifCond .eq 28, 3) := by decide +kernel
theorem d_M_stepSpecials_60 : decode b_M_stepSpecials 60 = .ok (.aload_n 0, 1) := by decide +kernel
theorem d_M_stepSpecials_61 : decode b_M_stepSpecials 61 = .ok (.getfield 8, 3) := by decide +kernel
theorem d_M_stepSpecials_64 : decode b_M_stepSpecials 64 = .ok (.aload_n 0, 1) := by decide +kernel
theorem d_M_stepSpecials_65 : decode b_M_stepSpecials 65 = .ok (.getfield 20, 3) := by decide +kernel
theorem d_M_stepSpecials_68 : decode b_M_stepSpecials 68 = .ok (.iload_n 2, 1) := by decide +kernel
theorem d_M_stepSpecials_69 : decode b_M_stepSpecials 69 = .ok (.iconst 2, 1) := by decide +kernel
theorem d_M_stepSpecials_70 : decode b_M_stepSpecials 70 = .ok (.idiv, 1) := by decide +kernel
theorem d_M_stepSpecials_71 : decode b_M_stepSpecials 71 = .ok (.iaload, 1) := by decide +kernel
theorem d_M_stepSpecials_72 : decode b_M_stepSpecials 72 = .ok (.invokestatic 54, 3) := by decide +kernel
theorem d_M_stepSpecials_75 : decode b_M_stepSpecials 75 = .ok (.sipush 256, 3) := by decide +kernel
theorem d_M_stepSpecials_78 : decode b_M_stepSpecials 78 = .ok (.if_icmp .ne 7, 3) := by decide +kernel
theorem d_M_stepSpecials_81 : decode b_M_stepSpecials 81 = .ok (.iconst 1, 1) := by decide +kernel
theorem d_M_stepSpecials_82 : decode b_M_stepSpecials 82 = .ok (.goto 29, 3) := by decide +kernel
theorem d_M_stepSpecials_85 : decode b_M_stepSpecials 85 = .ok (.iconst 0, 1) := by decide +kernel
theorem d_M_stepSpecials_86 : decode b_M_stepSpecials 86 = .ok (.goto 25, 3) := by decide +kernel
theorem d_M_stepSpecials_89 : decode b_M_stepSpecials 89 = .ok (.aload_n 0, 1) := by decide +kernel
theorem d_M_stepSpecials_90 : decode b_M_stepSpecials 90 = .ok (.iload_n 2, 1) := by decide +kernel
theorem d_M_stepSpecials_91 : decode b_M_stepSpecials 91 = .ok (.iconst 2, 1) := by decide +kernel
theorem d_M_stepSpecials_92 : decode b_M_stepSpecials 92 = .ok (.invokevirtual 68, 3) := by decide +kernel
theorem d_M_stepSpecials_95 : decode b_M_stepSpecials 95 = .ok (.ifCond .eq 15, 3) := by decide +kernel
theorem d_M_stepSpecials_98 : decode b_M_stepSpecials 98 = .ok (.aload_n 0, 1) := by decide +kernel
theorem d_M_stepSpecials_99 : decode b_M_stepSpecials 99 = .ok (.iload_n 2, 1) := by decide +kernel
theorem d_M_stepSpecials_100 : decode b_M_stepSpecials 100 = .ok (.invokevirtual 80, 3) := by decide +kernel
theorem d_M_stepSpecials_103 : decode b_M_stepSpecials 103 = .ok (.ifCond .ne 7, 3) := by decide +kernel
theorem d_M_stepSpecials_106 : decode b_M_stepSpecials 106 = .ok (.iconst 1, 1) := by decide +kernel
theorem d_M_stepSpecials_107 : decode b_M_stepSpecials 107 = .ok (.goto 4, 3) := by decide +kernel
theorem d_M_stepSpecials_110 : decode b_M_stepSpecials 110 = .ok (.iconst 0, 1) := by decide +kernel
theorem d_M_stepSpecials_111 : decode b_M_stepSpecials 111 = .ok (.istore_n 3, 1) := by decide +kernel
theorem d_M_stepSpecials_112 : decode b_M_stepSpecials 112 = .ok (.iload_n 1, 1) := by decide +kernel
theorem d_M_stepSpecials_113 : decode b_M_stepSpecials 113 = .ok (.iconst 2, 1) := by decide +kernel
theorem d_M_stepSpecials_114 : decode b_M_stepSpecials 114 = .ok (.if_icmp .ge 7, 3) := by decide +kernel
theorem d_M_stepSpecials_117 : decode b_M_stepSpecials 117 = .ok (.iconst 0, 1) := by decide +kernel
theorem d_M_stepSpecials_118 : decode b_M_stepSpecials 118 = .ok (.goto 4, 3) := by decide +kernel
theorem d_M_stepSpecials_121 : decode b_M_stepSpecials 121 = .ok (.iconst 2, 1) := by decide +kernel
theorem d_M_stepSpecials_122 : decode b_M_stepSpecials 122 = .ok (.istore 4, 2) := by decide +kernel
theorem d_M_stepSpecials_124 : decode b_M_stepSpecials 124 = .ok (.iload 4, 2) := by decide +kernel
theorem d_M_stepSpecials_126 : decode b_M_stepSpecials 126 = .ok (.iload_n 1, 1) := by decide +kernel
theorem d_M_stepSpecials_127 : decode b_M_stepSpecials 127 = .ok (.if_icmp .ge 38, 3) := by decide +kernel
theorem d_M_stepSpecials_130 : decode b_M_stepSpecials 130 = .ok (.iload_n 1, 1) := by decide +kernel
theorem d_M_stepSpecials_131 : decode b_M_stepSpecials 131 = .ok (.bipush 13, 2) := by decide +kernel
theorem d_M_stepSpecials_133 : decode b_M_stepSpecials 133 = .ok (.if_icmp .ge 32, 3) := by decide +kernel
theorem d_M_stepSpecials_136 : decode b_M_stepSpecials 136 = .ok (.iload_n 3, 1) := by decide +kernel
theorem d_M_stepSpecials_137 : decode b_M_stepSpecials 137 = .ok (.ifCond .eq 20, 3) := by decide +kernel
theorem d_M_stepSpecials_140 : decode b_M_stepSpecials 140 = .ok (.aload_n 0, 1) := by decide +kernel
theorem d_M_stepSpecials_141 : decode b_M_stepSpecials 141 = .ok (.getfield 8, 3) := by decide +kernel
theorem d_M_stepSpecials_144 : decode b_M_stepSpecials 144 = .ok (.iload 4, 2) := by decide +kernel
theorem d_M_stepSpecials_146 : decode b_M_stepSpecials 146 = .ok (.invokestatic 65, 3) := by decide +kernel
theorem d_M_stepSpecials_149 : decode b_M_stepSpecials 149 = .ok (.iload_n 2, 1) := by decide +kernel
theorem d_M_stepSpecials_150 : decode b_M_stepSpecials 150 = .ok (.if_icmp .eq 7, 3) := by decide +kernel
theorem d_M_stepSpecials_153 : decode b_M_stepSpecials 153 = .ok (.iconst 1, 1) := by decide +kernel
theorem d_M_stepSpecials_154 : decode b_M_stepSpecials 154 = .ok (.goto 4, 3) := by decide +kernel
theorem d_M_stepSpecials_157 : decode b_M_stepSpecials 157 = .ok (.iconst 0, 1) := by decide +kernel
theorem d_M_stepSpecials_158 : decode b_M_stepSpecials 158 = .ok (.istore_n 3, 1) := by decide +kernel
theorem d_M_stepSpecials_159 : decode b_M_stepSpecials 159 = .ok (.iinc 4 1, 3) := by decide +kernel
theorem d_M_stepSpecials_162 : decode b_M_stepSpecials 162 = .ok (.goto (-38), 3) := by decide +kernel
theorem d_M_stepSpecials_165 : decode b_M_stepSpecials 165 = .ok (.iload_n 3, 1) := by decide +kernel
theorem d_M_stepSpecials_166 : decode b_M_stepSpecials 166 = .ok (.ifCond .ne 10, 3) := by decide +kernel
theorem d_M_stepSpecials_169 : decode b_M_stepSpecials 169 = .ok (.bipush 8, 2) := by decide +kernel
theorem d_M_stepSpecials_171 : decode b_M_stepSpecials 171 = .ok (.iconst 4, 1) := by decide +kernel
theorem d_M_stepSpecials_172 : decode b_M_stepSpecials 172 = .ok (.iload_n 1, 1) := by decide +kernel
theorem d_M_stepSpecials_173 : decode b_M_stepSpecials 173 = .ok (.imul, 1) := by decide +kernel
theorem d_M_stepSpecials_174 : decode b_M_stepSpecials 174 = .ok (.iadd, 1) := by decide +kernel
theorem d_M_stepSpecials_175 : decode b_M_stepSpecials 175 = .ok (.ireturn, 1) := by decide +kernel
theorem d_M_stepSpecials_176 : decode b_M_stepSpecials 176 = .ok (.iinc 1 1, 3) := by decide +kernel
theorem d_M_stepSpecials_179 : decode b_M_stepSpecials 179 = .ok (.goto (-177), 3) := by decide +kernel
theorem d_M_stepSpecials_182 : decode b_M_stepSpecials 182 = .ok (.iconst (-1), 1) := by decide +kernel
theorem d_M_stepSpecials_183 : decode b_M_stepSpecials 183 = .ok (.ireturn, 1) := by decide +kernel
theorem d_M_stepValues_0 : decode b_M_stepValues 0 = .ok (.bipush 8, 2) := by decide +kernel
theorem d_M_stepValues_2 : decode b_M_stepValues 2 = .ok (.istore_n 1, 1) := by decide +kernel
theorem d_M_stepValues_3 : decode b_M_stepValues 3 = .ok (.iconst 0, 1) := by decide +kernel
theorem d_M_stepValues_4 : decode b_M_stepValues 4 = .ok (.istore_n 2, 1) := by decide +kernel
theorem d_M_stepValues_5 : decode b_M_stepValues 5 = .ok (.iload_n 2, 1) := by decide +kernel
theorem d_M_stepValues_6 : decode b_M_stepValues 6 = .ok (.bipush 50, 2) := by decide +kernel
theorem d_M_stepValues_8 : decode b_M_stepValues 8 = .ok (.if_icmp .ge 22, 3) := by decide +kernel
theorem d_M_stepValues_11 : decode b_M_stepValues 11 = .ok (.aload_n 0, 1) := by decide +kernel
theorem d_M_stepValues_12 : decode b_M_stepValues 12 = .ok (.iload_n 1, 1) := by decide +kernel
theorem d_M_stepValues_13 : decode b_M_stepValues 13 = .ok (.invokevirtual 105, 3) := by decide +kernel
theorem d_M_stepValues_16 : decode b_M_stepValues 16 = .ok (.ifCond .ne 5, 3) := by decide +kernel
theorem d_M_stepValues_19 : decode b_M_stepValues 19 = .ok (.iload_n 1, 1) := by decide +kernel
theorem d_M_stepValues_20 : decode b_M_stepValues 20 = .ok (.ireturn, 1) := by decide +kernel
theorem d_M_stepValues_21 : decode b_M_stepValues 21 = .ok (.iinc 1 4, 3) := by decide +kernel
theorem d_M_stepValues_24 : decode b_M_stepValues 24 = .ok (.iinc 2 1, 3) := by decide +kernel
theorem d_M_stepValues_27 : decode b_M_stepValues 27 = .ok (.goto (-22), 3) := by decide +kernel
theorem d_M_stepValues_30 : decode b_M_stepValues 30 = .ok (.iconst 1, 1) := by decide +kernel
theorem d_M_stepValues_31 : decode b_M_stepValues 31 = .ok (.istore_n 2, 1) := by decide +kernel
theorem d_M_stepValues_32 : decode b_M_stepValues 32 = .ok (.iload_n 2, 1) := by decide +kernel
theorem d_M_stepValues_33 : decode b_M_stepValues 33 = .ok (.aload_n 0, 1) := by decide +kernel
theorem d_M_stepValues_34 : decode b_M_stepValues 34 = .ok (.getfield 8, 3) := by decide +kernel
theorem d_M_stepValues_37 : decode b_M_stepValues 37 = .ok (.invokestatic 101, 3) := by decide +kernel
theorem d_M_stepValues_40 : decode b_M_stepValues 40 = .ok (.if_icmp .gt 172, 3) := by decide +kernel
theorem d_M_stepValues_43 : decode b_M_stepValues 43 = .ok (.aload_n 0, 1) := by decide +kernel
theorem d_M_stepValues_44 : decode b_M_stepValues 44 = .ok (.getfield 20, 3) := by decide +kernel
theorem d_M_stepValues_47 : decode b_M_stepValues 47 = .ok (.iload_n 2, 1) := by decide +kernel
theorem d_M_stepValues_48 : decode b_M_stepValues 48 = .ok (.iload_n 1, 1) := by decide +kernel
theorem d_M_stepValues_49 : decode b_M_stepValues 49 = .ok (.iastore, 1) := by decide +kernel
theorem d_M_stepValues_50 : decode b_M_stepValues 50 = .ok (.aload_n 0, 1) := by decide +kernel
theorem d_M_stepValues_51 : decode b_M_stepValues 51 = .ok (.iload_n 1, 1) := by decide +kernel
theorem d_M_stepValues_52 : decode b_M_stepValues 52 = .ok (.invokevirtual 105, 3) := by decide +kernel
theorem d_M_stepValues_55 : decode b_M_stepValues 55 = .ok (.ifCond .ne 5, 3) := by decide +kernel
theorem d_M_stepValues_58 : decode b_M_stepValues 58 = .ok (.iload_n 1, 1) := by decide +kernel
theorem d_M_stepValues_59 : decode b_M_stepValues 59 = .ok (.ireturn, 1) := by decide +kernel
theorem d_M_stepValues_60 : decode b_M_stepValues 60 = .ok (.iload_n 1, 1) := by decide +kernel
theorem d_M_stepValues_61 : decode b_M_stepValues 61 = .ok (.iconst 5, 1) := by decide +kernel
theorem d_M_stepValues_62 : decode b_M_stepValues 62 = .ok (.iadd, 1) := by decide +kernel
theorem d_M_stepValues_63 : decode b_M_stepValues 63 = .ok (.aload_n 0, 1) := by decide +kernel
theorem d_M_stepValues_64 : decode b_M_stepValues 64 = .ok (.getfield 40, 3) := by decide +kernel
theorem d_M_stepValues_67 : decode b_M_stepValues 67 = .ok (.if_icmp .gt 26, 3) := by decide +kernel
theorem d_M_stepValues_70 : decode b_M_stepValues 70 = .ok (.aload_n 0, 1) := by decide +kernel
theorem d_M_stepValues_71 : decode b_M_stepValues 71 = .ok (.getfield 8, 3) := by decide +kernel
theorem d_M_stepValues_74 : decode b_M_stepValues 74 = .ok (.iload_n 1, 1) := by decide +kernel
theorem d_M_stepValues_75 : decode b_M_stepValues 75 = .ok (.iconst 4, 1) := by decide +kernel
theorem d_M_stepValues_76 : decode b_M_stepValues 76 = .ok (.iadd, 1) := by decide +kernel
theorem d_M_stepValues_77 : decode b_M_stepValues 77 = .ok (.baload, 1) := by decide +kernel
theorem d_M_stepValues_78 : decode b_M_stepValues 78 = .ok (.ifCond .eq 19, 3) := by decide +kernel
theorem d_M_stepValues_81 : decode b_M_stepValues 81 = .ok (.aload_n 0, 1) := by decide +kernel
theorem d_M_stepValues_82 : decode b_M_stepValues 82 = .ok (.getfield 8, 3) := by decide +kernel
theorem d_M_stepValues_85 : decode b_M_stepValues 85 = .ok (.iload_n 1, 1) := by decide +kernel
theorem d_M_stepValues_86 : decode b_M_stepValues 86 = .ok (.iconst 4, 1) := by decide +kernel
theorem d_M_stepValues_87 : decode b_M_stepValues 87 = .ok (.iadd, 1) := by decide +kernel
theorem d_M_stepValues_88 : decode b_M_stepValues 88 = .ok (.baload, 1) := by decide +kernel
theorem d_M_stepValues_89 : decode b_M_stepValues 89 = .ok (.iconst 1, 1) := by decide +kernel
theorem d_M_stepValues_90 : decode b_M_stepValues 90 = .ok (.if_icmp .eq 7, 3) := by decide +kernel
theorem d_M_stepValues_93 : decode b_M_stepValues 93 = .ok (.iload_n 1, 1) := by decide +kernel
theorem d_M_stepValues_94 : decode b_M_stepValues 94 = .ok (.iconst 4, 1) := by decide +kernel
theorem d_M_stepValues_95 : decode b_M_stepValues 95 = .ok (.iadd, 1) := by decide +kernel
theorem d_M_stepValues_96 : decode b_M_stepValues 96 = .ok (.ireturn, 1) := by decide +kernel
theorem d_M_stepValues_97 : decode b_M_stepValues 97 = .ok (.iload_n 1, 1) := by decide +kernel
theorem d_M_stepValues_98 : decode b_M_stepValues 98 = .ok (.bipush 7, 2) := by decide +kernel
theorem d_M_stepValues_100 : decode b_M_stepValues 100 = .ok (.iadd, 1) := by decide +kernel
theorem d_M_stepValues_101 : decode b_M_stepValues 101 = .ok (.aload_n 0, 1) := by decide +kernel
theorem d_M_stepValues_102 : decode b_M_stepValues 102 = .ok (.getfield 40, 3) := by decide +kernel
theorem d_M_stepValues_105 : decode b_M_stepValues 105 = .ok (.if_icmp .le 7, 3) := by decide +kernel
theorem d_M_stepValues_108 : decode b_M_stepValues 108 = .ok (.iload_n 1, 1) := by decide +kernel
theorem d_M_stepValues_109 : decode b_M_stepValues 109 = .ok (.iconst 5, 1) := by decide +kernel
theorem d_M_stepValues_110 : decode b_M_stepValues 110 = .ok (.iadd, 1) := by decide +kernel
theorem d_M_stepValues_111 : decode b_M_stepValues 111 = .ok (.ireturn, 1) := by decide +kernel
theorem d_M_stepValues_112 : decode b_M_stepValues 112 = .ok (.aload_n 0, 1) := by decide +kernel
theorem d_M_stepValues_113 : decode b_M_stepValues 113 = .ok (.getfield 8, 3) := by decide +kernel
theorem d_M_stepValues_116 : decode b_M_stepValues 116 = .ok (.iload_n 1, 1) := by decide +kernel
theorem d_M_stepValues_117 : decode b_M_stepValues 117 = .ok (.invokestatic 54, 3) := by decide +kernel
theorem d_M_stepValues_120 : decode b_M_stepValues 120 = .ok (.istore_n 3, 1) := by decide +kernel
theorem d_M_stepValues_121 : decode b_M_stepValues 121 = .ok (.aload_n 0, 1) := by decide +kernel
theorem d_M_stepValues_122 : decode b_M_stepValues 122 = .ok (.getfield 8, 3) := by decide +kernel
theorem d_M_stepValues_125 : decode b_M_stepValues 125 = .ok (.iload_n 1, 1) := by decide +kernel
theorem d_M_stepValues_126 : decode b_M_stepValues 126 = .ok (.invokestatic 50, 3) := by decide +kernel
theorem d_M_stepValues_129 : decode b_M_stepValues 129 = .ok (.istore 4, 2) := by decide +kernel
theorem d_M_stepValues_131 : decode b_M_stepValues 131 = .ok (.iinc 1 7, 3) := by decide +kernel
theorem d_M_stepValues_134 : decode b_M_stepValues 134 = .ok (.iload 4, 2) := by decide +kernel
theorem d_M_stepValues_136 : decode b_M_stepValues 136 = .ok (.ifCond .eq 15, 3) := by decide +kernel
theorem d_M_stepValues_139 : decode b_M_stepValues 139 = .ok (.iload_n 1, 1) := by decide +kernel
theorem d_M_stepValues_140 : decode b_M_stepValues 140 = .ok (.iload_n 3, 1) := by decide +kernel
theorem d_M_stepValues_141 : decode b_M_stepValues 141 = .ok (.iadd, 1) := by decide +kernel
theorem d_M_stepValues_142 : decode b_M_stepValues 142 = .ok (.aload_n 0, 1) := by decide +kernel
theorem d_M_stepValues_143 : decode b_M_stepValues 143 = .ok (.getfield 40, 3) := by decide +kernel
theorem d_M_stepValues_146 : decode b_M_stepValues 146 = .ok (.if_icmp .le 5, 3) := by decide +kernel
theorem d_M_stepValues_149 : decode b_M_stepValues 149 = .ok (.iload_n 1, 1) := by decide +kernel
theorem d_M_stepValues_150 : decode b_M_stepValues 150 = .ok (.ireturn, 1) := by decide +kernel
theorem d_M_stepValues_151 : decode b_M_stepValues 151 = .ok (.iconst 0, 1) := by decide +kernel
theorem d_M_stepValues_152 : decode b_M_stepValues 152 = .ok (.istore 5, 2) := by decide +kernel
theorem d_M_stepValues_154 : decode b_M_stepValues 154 = .ok (.iload 5, 2) := by decide +kernel
theorem d_M_stepValues_156 : decode b_M_stepValues 156 = .ok (.iload_n 3, 1) := by decide +kernel
theorem d_M_stepValues_157 : decode b_M_stepValues 157 = .ok (.if_icmp .ge 34, 3) := by decide +kernel
theorem d_M_stepValues_160 : decode b_M_stepValues 160 = .ok (.iload 4, 2) := by decide +kernel
theorem d_M_stepValues_162 : decode b_M_stepValues 162 = .ok (.ifCond .ne 29, 3) := by decide +kernel
theorem d_M_stepValues_165 : decode b_M_stepValues 165 = .ok (.aload_n 0, 1) := by decide +kernel
theorem d_M_stepValues_166 : decode b_M_stepValues 166 = .ok (.iload_n 1, 1) := by decide +kernel
theorem d_M_stepValues_167 : decode b_M_stepValues 167 = .ok (.iconst 4, 1) := by decide +kernel
theorem d_M_stepValues_168 : decode b_M_stepValues 168 = .ok (.iload 5, 2) := by decide +kernel
theorem d_M_stepValues_170 : decode b_M_stepValues 170 = .ok (.imul, 1) := by decide +kernel
theorem d_M_stepValues_171 : decode b_M_stepValues 171 = .ok (.iadd, 1) := by decide +kernel
theorem d_M_stepValues_172 : decode b_M_stepValues 172 = .ok (.invokevirtual 105, 3) := by decide +kernel
theorem d_M_stepValues_175 : decode b_M_stepValues 175 = .ok (.ifCond .ne 10, 3) := by decide +kernel
theorem d_M_stepValues_178 : decode b_M_stepValues 178 = .ok (.iload_n 1, 1) := by decide +kernel
theorem d_M_stepValues_179 : decode b_M_stepValues 179 = .ok (.iconst 4, 1) := by decide +kernel
theorem d_M_stepValues_180 : decode b_M_stepValues 180 = .ok (.iload 5, 2) := by decide +kernel
theorem d_M_stepValues_182 : decode b_M_stepValues 182 = .ok (.imul, 1) := by decide +kernel
theorem d_M_stepValues_183 : decode b_M_stepValues 183 = .ok (.iadd, 1) := by decide +kernel
theorem d_M_stepValues_184 : decode b_M_stepValues 184 = .ok (.ireturn, 1) := by decide +kernel
theorem d_M_stepValues_185 : decode b_M_stepValues 185 = .ok (.iinc 5 1, 3) := by decide +kernel
theorem d_M_stepValues_188 : decode b_M_stepValues 188 = .ok (.goto (-34), 3) := by decide +kernel
theorem d_M_stepValues_191 : decode b_M_stepValues 191 = .ok (.iload_n 1, 1) := by decide +kernel
theorem d_M_stepValues_192 : decode b_M_stepValues 192 = .ok (.iload 4, 2) := by decide +kernel
theorem d_M_stepValues_194 : decode b_M_stepValues 194 = .ok (.ifCond .eq 7, 3) := by decide +kernel
theorem d_M_stepValues_197 : decode b_M_stepValues 197 = .ok (.iload_n 3, 1) := by decide +kernel
theorem d_M_stepValues_198 : decode b_M_stepValues 198 = .ok (.goto 6, 3) := by decide +kernel
theorem d_M_stepValues_201 : decode b_M_stepValues 201 = .ok (.iconst 4, 1) := by decide +kernel
theorem d_M_stepValues_202 : decode b_M_stepValues 202 = .ok (.iload_n 3, 1) := by decide +kernel
theorem d_M_stepValues_203 : decode b_M_stepValues 203 = .ok (.imul, 1) := by decide +kernel
theorem d_M_stepValues_204 : decode b_M_stepValues 204 = .ok (.iadd, 1) := by decide +kernel
theorem d_M_stepValues_205 : decode b_M_stepValues 205 = .ok (.istore_n 1, 1) := by decide +kernel
theorem d_M_stepValues_206 : decode b_M_stepValues 206 = .ok (.iinc 2 1, 3) := by decide +kernel
theorem d_M_stepValues_209 : decode b_M_stepValues 209 = .ok (.goto (-177), 3) := by decide +kernel
theorem d_M_stepValues_212 : decode b_M_stepValues 212 = .ok (.iload_n 1, 1) := by decide +kernel
theorem d_M_stepValues_213 : decode b_M_stepValues 213 = .ok (.aload_n 0, 1) := by decide +kernel
theorem d_M_stepValues_214 : decode b_M_stepValues 214 = .ok (.getfield 40, 3) := by decide +kernel
theorem d_M_stepValues_217 : decode b_M_stepValues 217 = .ok (.if_icmp .ge 7, 3) := by decide +kernel
theorem d_M_stepValues_220 : decode b_M_stepValues 220 = .ok (.iload_n 1, 1) := by decide +kernel
theorem d_M_stepValues_221 : decode b_M_stepValues 221 = .ok (.goto 4, 3) := by decide +kernel
theorem d_M_stepValues_224 : decode b_M_stepValues 224 = .ok (.iconst (-1), 1) := by decide +kernel
theorem d_M_stepValues_225 : decode b_M_stepValues 225 = .ok (.ireturn, 1) := by decide +kernel
theorem d_M_temporaries_0 : decode b_M_temporaries 0 = .ok (.aload_n 0, 1) := by decide +kernel
theorem d_M_temporaries_1 : decode b_M_temporaries 1 = .ok (.iload_n 1, 1) := by decide +kernel
theorem d_M_temporaries_2 : decode b_M_temporaries 2 = .ok (.iconst 0, 1) := by decide +kernel
theorem d_M_temporaries_3 : decode b_M_temporaries 3 = .ok (.invokevirtual 72, 3) := by decide +kernel
theorem d_M_temporaries_6 : decode b_M_temporaries 6 = .ok (.iconst 5, 1) := by decide +kernel
theorem d_M_temporaries_7 : decode b_M_temporaries 7 = .ok (.ishr, 1) := by decide +kernel
theorem d_M_temporaries_8 : decode b_M_temporaries 8 = .ok (.bipush 31, 2) := by decide +kernel
theorem d_M_temporaries_10 : decode b_M_temporaries 10 = .ok (.iand, 1) := by decide +kernel
theorem d_M_temporaries_11 : decode b_M_temporaries 11 = .ok (.ireturn, 1) := by decide +kernel
theorem d_M_thrown_0 : decode b_M_thrown 0 = .ok (.aload_n 0, 1) := by decide +kernel
theorem d_M_thrown_1 : decode b_M_thrown 1 = .ok (.getfield 36, 3) := by decide +kernel
theorem d_M_thrown_4 : decode b_M_thrown 4 = .ok (.ireturn, 1) := by decide +kernel
theorem d_M_word_0 : decode b_M_word 0 = .ok (.aload_n 0, 1) := by decide +kernel
theorem d_M_word_1 : decode b_M_word 1 = .ok (.iload_n 1, 1) := by decide +kernel
theorem d_M_word_2 : decode b_M_word 2 = .ok (.baload, 1) := by decide +kernel
theorem d_M_word_3 : decode b_M_word 3 = .ok (.bipush 24, 2) := by decide +kernel
theorem d_M_word_5 : decode b_M_word 5 = .ok (.ishl, 1) := by decide +kernel
theorem d_M_word_6 : decode b_M_word 6 = .ok (.aload_n 0, 1) := by decide +kernel
theorem d_M_word_7 : decode b_M_word 7 = .ok (.iload_n 1, 1) := by decide +kernel
theorem d_M_word_8 : decode b_M_word 8 = .ok (.iconst 1, 1) := by decide +kernel
theorem d_M_word_9 : decode b_M_word 9 = .ok (.iadd, 1) := by decide +kernel
theorem d_M_word_10 : decode b_M_word 10 = .ok (.baload, 1) := by decide +kernel
theorem d_M_word_11 : decode b_M_word 11 = .ok (.sipush 255, 3) := by decide +kernel
theorem d_M_word_14 : decode b_M_word 14 = .ok (.iand, 1) := by decide +kernel
theorem d_M_word_15 : decode b_M_word 15 = .ok (.bipush 16, 2) := by decide +kernel
theorem d_M_word_17 : decode b_M_word 17 = .ok (.ishl, 1) := by decide +kernel
theorem d_M_word_18 : decode b_M_word 18 = .ok (.ior, 1) := by decide +kernel
theorem d_M_word_19 : decode b_M_word 19 = .ok (.aload_n 0, 1) := by decide +kernel
theorem d_M_word_20 : decode b_M_word 20 = .ok (.iload_n 1, 1) := by decide +kernel
theorem d_M_word_21 : decode b_M_word 21 = .ok (.iconst 2, 1) := by decide +kernel
theorem d_M_word_22 : decode b_M_word 22 = .ok (.iadd, 1) := by decide +kernel
theorem d_M_word_23 : decode b_M_word 23 = .ok (.baload, 1) := by decide +kernel
theorem d_M_word_24 : decode b_M_word 24 = .ok (.sipush 255, 3) := by decide +kernel
theorem d_M_word_27 : decode b_M_word 27 = .ok (.iand, 1) := by decide +kernel
theorem d_M_word_28 : decode b_M_word 28 = .ok (.bipush 8, 2) := by decide +kernel
theorem d_M_word_30 : decode b_M_word 30 = .ok (.ishl, 1) := by decide +kernel
theorem d_M_word_31 : decode b_M_word 31 = .ok (.ior, 1) := by decide +kernel
theorem d_M_word_32 : decode b_M_word 32 = .ok (.aload_n 0, 1) := by decide +kernel
theorem d_M_word_33 : decode b_M_word 33 = .ok (.iload_n 1, 1) := by decide +kernel
theorem d_M_word_34 : decode b_M_word 34 = .ok (.iconst 3, 1) := by decide +kernel
theorem d_M_word_35 : decode b_M_word 35 = .ok (.iadd, 1) := by decide +kernel
theorem d_M_word_36 : decode b_M_word 36 = .ok (.baload, 1) := by decide +kernel
theorem d_M_word_37 : decode b_M_word 37 = .ok (.sipush 255, 3) := by decide +kernel
theorem d_M_word_40 : decode b_M_word 40 = .ok (.iand, 1) := by decide +kernel
theorem d_M_word_41 : decode b_M_word 41 = .ok (.ior, 1) := by decide +kernel
theorem d_M_word_42 : decode b_M_word 42 = .ok (.ireturn, 1) := by decide +kernel
theorem d_M_words_0 : decode b_M_words 0 = .ok (.aload_n 0, 1) := by decide +kernel
theorem d_M_words_1 : decode b_M_words 1 = .ok (.iconst 0, 1) := by decide +kernel
theorem d_M_words_2 : decode b_M_words 2 = .ok (.putfield 36, 3) := by decide +kernel
theorem d_M_words_5 : decode b_M_words 5 = .ok (.aload_n 0, 1) := by decide +kernel
theorem d_M_words_6 : decode b_M_words 6 = .ok (.getfield 149, 3) := by decide +kernel
theorem d_M_words_9 : decode b_M_words 9 = .ok (.ifCond .ne 7, 3) := by decide +kernel
theorem d_M_words_12 : decode b_M_words 12 = .ok (.iconst 0, 1) := by decide +kernel
theorem d_M_words_13 : decode b_M_words 13 = .ok (.goto 14, 3) := by decide +kernel
theorem d_M_words_16 : decode b_M_words 16 = .ok (.aload_n 0, 1) := by decide +kernel
theorem d_M_words_17 : decode b_M_words 17 = .ok (.getfield 14, 3) := by decide +kernel
theorem d_M_words_20 : decode b_M_words 20 = .ok (.aload_n 0, 1) := by decide +kernel
theorem d_M_words_21 : decode b_M_words 21 = .ok (.getfield 20, 3) := by decide +kernel
theorem d_M_words_24 : decode b_M_words 24 = .ok (.invokestatic 108, 3) := by decide +kernel
theorem d_M_words_27 : decode b_M_words 27 = .ok (.ireturn, 1) := by decide +kernel
theorem d_M_wordsOf_0 : decode b_M_wordsOf 0 = .ok (.iconst 0, 1) := by decide +kernel
theorem d_M_wordsOf_1 : decode b_M_wordsOf 1 = .ok (.istore_n 2, 1) := by decide +kernel
theorem d_M_wordsOf_2 : decode b_M_wordsOf 2 = .ok (.iconst 1, 1) := by decide +kernel
theorem d_M_wordsOf_3 : decode b_M_wordsOf 3 = .ok (.istore_n 3, 1) := by decide +kernel
theorem d_M_wordsOf_4 : decode b_M_wordsOf 4 = .ok (.iload_n 3, 1) := by decide +kernel
theorem d_M_wordsOf_5 : decode b_M_wordsOf 5 = .ok (.aload_n 0, 1) := by decide +kernel
theorem d_M_wordsOf_6 : decode b_M_wordsOf 6 = .ok (.invokestatic 101, 3) := by decide +kernel
theorem d_M_wordsOf_9 : decode b_M_wordsOf 9 = .ok (.if_icmp .gt 44, 3) := by decide +kernel
theorem d_M_wordsOf_12 : decode b_M_wordsOf 12 = .ok (.aload_n 0, 1) := by decide +kernel
theorem d_M_wordsOf_13 : decode b_M_wordsOf 13 = .ok (.aload_n 1, 1) := by decide +kernel
theorem d_M_wordsOf_14 : decode b_M_wordsOf 14 = .ok (.iload_n 3, 1) := by decide +kernel
theorem d_M_wordsOf_15 : decode b_M_wordsOf 15 = .ok (.iaload, 1) := by decide +kernel
theorem d_M_wordsOf_16 : decode b_M_wordsOf 16 = .ok (.invokestatic 54, 3) := by decide +kernel
theorem d_M_wordsOf_19 : decode b_M_wordsOf 19 = .ok (.istore 4, 2) := by decide +kernel
theorem d_M_wordsOf_21 : decode b_M_wordsOf 21 = .ok (.iload_n 2, 1) := by decide +kernel
theorem d_M_wordsOf_22 : decode b_M_wordsOf 22 = .ok (.iconst 4, 1) := by decide +kernel
theorem d_M_wordsOf_23 : decode b_M_wordsOf 23 = .ok (.aload_n 0, 1) := by decide +kernel
theorem d_M_wordsOf_24 : decode b_M_wordsOf 24 = .ok (.aload_n 1, 1) := by decide +kernel
theorem d_M_wordsOf_25 : decode b_M_wordsOf 25 = .ok (.iload_n 3, 1) := by decide +kernel
theorem d_M_wordsOf_26 : decode b_M_wordsOf 26 = .ok (.iaload, 1) := by decide +kernel
theorem d_M_wordsOf_27 : decode b_M_wordsOf 27 = .ok (.invokestatic 50, 3) := by decide +kernel
theorem d_M_wordsOf_30 : decode b_M_wordsOf 30 = .ok (.ifCond .eq 12, 3) := by decide +kernel
theorem d_M_wordsOf_33 : decode b_M_wordsOf 33 = .ok (.iload 4, 2) := by decide +kernel
theorem d_M_wordsOf_35 : decode b_M_wordsOf 35 = .ok (.iconst 3, 1) := by decide +kernel
theorem d_M_wordsOf_36 : decode b_M_wordsOf 36 = .ok (.iadd, 1) := by decide +kernel
theorem d_M_wordsOf_37 : decode b_M_wordsOf 37 = .ok (.iconst 4, 1) := by decide +kernel
theorem d_M_wordsOf_38 : decode b_M_wordsOf 38 = .ok (.idiv, 1) := by decide +kernel
theorem d_M_wordsOf_39 : decode b_M_wordsOf 39 = .ok (.goto 5, 3) := by decide +kernel
theorem d_M_wordsOf_42 : decode b_M_wordsOf 42 = .ok (.iload 4, 2) := by decide +kernel
theorem d_M_wordsOf_44 : decode b_M_wordsOf 44 = .ok (.iadd, 1) := by decide +kernel
theorem d_M_wordsOf_45 : decode b_M_wordsOf 45 = .ok (.iadd, 1) := by decide +kernel
theorem d_M_wordsOf_46 : decode b_M_wordsOf 46 = .ok (.istore_n 2, 1) := by decide +kernel
theorem d_M_wordsOf_47 : decode b_M_wordsOf 47 = .ok (.iinc 3 1, 3) := by decide +kernel
theorem d_M_wordsOf_50 : decode b_M_wordsOf 50 = .ok (.goto (-46), 3) := by decide +kernel
theorem d_M_wordsOf_53 : decode b_M_wordsOf 53 = .ok (.iload_n 2, 1) := by decide +kernel
theorem d_M_wordsOf_54 : decode b_M_wordsOf 54 = .ok (.ireturn, 1) := by decide +kernel
theorem d_M_write_0 : decode b_M_write 0 = .ok (.aload_n 0, 1) := by decide +kernel
theorem d_M_write_1 : decode b_M_write 1 = .ok (.iconst 0, 1) := by decide +kernel
theorem d_M_write_2 : decode b_M_write 2 = .ok (.putfield 36, 3) := by decide +kernel
theorem d_M_write_5 : decode b_M_write 5 = .ok (.aload_n 0, 1) := by decide +kernel
theorem d_M_write_6 : decode b_M_write 6 = .ok (.getfield 149, 3) := by decide +kernel
theorem d_M_write_9 : decode b_M_write 9 = .ok (.ifCond .ne 5, 3) := by decide +kernel
theorem d_M_write_12 : decode b_M_write 12 = .ok (.iconst (-1), 1) := by decide +kernel
theorem d_M_write_13 : decode b_M_write 13 = .ok (.ireturn, 1) := by decide +kernel
theorem d_M_write_14 : decode b_M_write 14 = .ok (.aload_n 0, 1) := by decide +kernel
theorem d_M_write_15 : decode b_M_write 15 = .ok (.invokevirtual 166, 3) := by decide +kernel
theorem d_M_write_18 : decode b_M_write 18 = .ok (.iconst 0, 1) := by decide +kernel
theorem d_M_write_19 : decode b_M_write 19 = .ok (.istore_n 1, 1) := by decide +kernel
theorem d_M_write_20 : decode b_M_write 20 = .ok (.iconst 1, 1) := by decide +kernel
theorem d_M_write_21 : decode b_M_write 21 = .ok (.istore_n 2, 1) := by decide +kernel
theorem d_M_write_22 : decode b_M_write 22 = .ok (.iload_n 2, 1) := by decide +kernel
theorem d_M_write_23 : decode b_M_write 23 = .ok (.aload_n 0, 1) := by decide +kernel
theorem d_M_write_24 : decode b_M_write 24 = .ok (.getfield 14, 3) := by decide +kernel
theorem d_M_write_27 : decode b_M_write 27 = .ok (.invokestatic 101, 3) := by decide +kernel
theorem d_M_write_30 : decode b_M_write 30 = .ok (.if_icmp .gt 46, 3) := by decide +kernel
theorem d_M_write_33 : decode b_M_write 33 = .ok (.aload_n 0, 1) := by decide +kernel
theorem d_M_write_34 : decode b_M_write 34 = .ok (.getfield 30, 3) := by decide +kernel
theorem d_M_write_37 : decode b_M_write 37 = .ok (.iload_n 2, 1) := by decide +kernel
theorem d_M_write_38 : decode b_M_write 38 = .ok (.iaload, 1) := by decide +kernel
theorem d_M_write_39 : decode b_M_write 39 = .ok (.ifCond .le 9, 3) := by decide +kernel
theorem d_M_write_42 : decode b_M_write 42 = .ok (.iload_n 1, 1) := by decide +kernel
theorem d_M_write_43 : decode b_M_write 43 = .ok (.iconst 1, 1) := by decide +kernel
theorem d_M_write_44 : decode b_M_write 44 = .ok (.iadd, 1) := by decide +kernel
theorem d_M_write_45 : decode b_M_write 45 = .ok (.goto 4, 3) := by decide +kernel
theorem d_M_write_48 : decode b_M_write 48 = .ok (.iload_n 1, 1) := by decide +kernel
theorem d_M_write_49 : decode b_M_write 49 = .ok (.istore_n 1, 1) := by decide +kernel
theorem d_M_write_50 : decode b_M_write 50 = .ok (.aload_n 0, 1) := by decide +kernel
theorem d_M_write_51 : decode b_M_write 51 = .ok (.getfield 30, 3) := by decide +kernel
theorem d_M_write_54 : decode b_M_write 54 = .ok (.iload_n 2, 1) := by decide +kernel
theorem d_M_write_55 : decode b_M_write 55 = .ok (.aload_n 0, 1) := by decide +kernel
theorem d_M_write_56 : decode b_M_write 56 = .ok (.getfield 30, 3) := by decide +kernel
theorem d_M_write_59 : decode b_M_write 59 = .ok (.iload_n 2, 1) := by decide +kernel
theorem d_M_write_60 : decode b_M_write 60 = .ok (.iaload, 1) := by decide +kernel
theorem d_M_write_61 : decode b_M_write 61 = .ok (.ifCond .le 7, 3) := by decide +kernel
theorem d_M_write_64 : decode b_M_write 64 = .ok (.iload_n 1, 1) := by decide +kernel
theorem d_M_write_65 : decode b_M_write 65 = .ok (.goto 4, 3) := by decide +kernel
theorem d_M_write_68 : decode b_M_write 68 = .ok (.iconst 0, 1) := by decide +kernel
theorem d_M_write_69 : decode b_M_write 69 = .ok (.iastore, 1) := by decide +kernel
theorem d_M_write_70 : decode b_M_write 70 = .ok (.iinc 2 1, 3) := by decide +kernel
theorem d_M_write_73 : decode b_M_write 73 = .ok (.goto (-51), 3) := by decide +kernel
theorem d_M_write_76 : decode b_M_write 76 = .ok (.aload_n 0, 1) := by decide +kernel
theorem d_M_write_77 : decode b_M_write 77 = .ok (.iconst 0, 1) := by decide +kernel
theorem d_M_write_78 : decode b_M_write 78 = .ok (.putfield 40, 3) := by decide +kernel
theorem d_M_write_81 : decode b_M_write 81 = .ok (.iconst 0, 1) := by decide +kernel
theorem d_M_write_82 : decode b_M_write 82 = .ok (.istore_n 2, 1) := by decide +kernel
theorem d_M_write_83 : decode b_M_write 83 = .ok (.iload_n 2, 1) := by decide +kernel
theorem d_M_write_84 : decode b_M_write 84 = .ok (.bipush 6, 2) := by decide +kernel
theorem d_M_write_86 : decode b_M_write 86 = .ok (.if_icmp .ge 20, 3) := by decide +kernel
theorem d_M_write_89 : decode b_M_write 89 = .ok (.aload_n 0, 1) := by decide +kernel
theorem d_M_write_90 : decode b_M_write 90 = .ok (.aload_n 0, 1) := by decide +kernel
theorem d_M_write_91 : decode b_M_write 91 = .ok (.getfield 14, 3) := by decide +kernel
theorem d_M_write_94 : decode b_M_write 94 = .ok (.iload_n 2, 1) := by decide +kernel
theorem d_M_write_95 : decode b_M_write 95 = .ok (.baload, 1) := by decide +kernel
theorem d_M_write_96 : decode b_M_write 96 = .ok (.iconst 1, 1) := by decide +kernel
theorem d_M_write_97 : decode b_M_write 97 = .ok (.invokevirtual 169, 3) := by decide +kernel
theorem d_M_write_100 : decode b_M_write 100 = .ok (.iinc 2 1, 3) := by decide +kernel
theorem d_M_write_103 : decode b_M_write 103 = .ok (.goto (-20), 3) := by decide +kernel
theorem d_M_write_106 : decode b_M_write 106 = .ok (.aload_n 0, 1) := by decide +kernel
theorem d_M_write_107 : decode b_M_write 107 = .ok (.iload_n 1, 1) := by decide +kernel
theorem d_M_write_108 : decode b_M_write 108 = .ok (.iconst 2, 1) := by decide +kernel
theorem d_M_write_109 : decode b_M_write 109 = .ok (.invokevirtual 169, 3) := by decide +kernel
theorem d_M_write_112 : decode b_M_write 112 = .ok (.iconst 0, 1) := by decide +kernel
theorem d_M_write_113 : decode b_M_write 113 = .ok (.istore_n 2, 1) := by decide +kernel
theorem d_M_write_114 : decode b_M_write 114 = .ok (.iload_n 2, 1) := by decide +kernel
theorem d_M_write_115 : decode b_M_write 115 = .ok (.bipush 50, 2) := by decide +kernel
theorem d_M_write_117 : decode b_M_write 117 = .ok (.if_icmp .ge 26, 3) := by decide +kernel
theorem d_M_write_120 : decode b_M_write 120 = .ok (.aload_n 0, 1) := by decide +kernel
theorem d_M_write_121 : decode b_M_write 121 = .ok (.aload_n 0, 1) := by decide +kernel
theorem d_M_write_122 : decode b_M_write 122 = .ok (.aload_n 0, 1) := by decide +kernel
theorem d_M_write_123 : decode b_M_write 123 = .ok (.getfield 14, 3) := by decide +kernel
theorem d_M_write_126 : decode b_M_write 126 = .ok (.iload_n 2, 1) := by decide +kernel
theorem d_M_write_127 : decode b_M_write 127 = .ok (.invokestatic 65, 3) := by decide +kernel
theorem d_M_write_130 : decode b_M_write 130 = .ok (.invokevirtual 173, 3) := by decide +kernel
theorem d_M_write_133 : decode b_M_write 133 = .ok (.iconst 4, 1) := by decide +kernel
theorem d_M_write_134 : decode b_M_write 134 = .ok (.invokevirtual 169, 3) := by decide +kernel
theorem d_M_write_137 : decode b_M_write 137 = .ok (.iinc 2 1, 3) := by decide +kernel
theorem d_M_write_140 : decode b_M_write 140 = .ok (.goto (-26), 3) := by decide +kernel
theorem d_M_write_143 : decode b_M_write 143 = .ok (.iconst 1, 1) := by decide +kernel
theorem d_M_write_144 : decode b_M_write 144 = .ok (.istore_n 2, 1) := by decide +kernel
theorem d_M_write_145 : decode b_M_write 145 = .ok (.iload_n 2, 1) := by decide +kernel
theorem d_M_write_146 : decode b_M_write 146 = .ok (.aload_n 0, 1) := by decide +kernel
theorem d_M_write_147 : decode b_M_write 147 = .ok (.getfield 14, 3) := by decide +kernel
theorem d_M_write_150 : decode b_M_write 150 = .ok (.invokestatic 101, 3) := by decide +kernel
theorem d_M_write_153 : decode b_M_write 153 = .ok (.if_icmp .gt 151, 3) := by decide +kernel
theorem d_M_write_156 : decode b_M_write 156 = .ok (.aload_n 0, 1) := by decide +kernel
theorem d_M_write_157 : decode b_M_write 157 = .ok (.getfield 30, 3) := by decide +kernel
theorem d_M_write_160 : decode b_M_write 160 = .ok (.iload_n 2, 1) := by decide +kernel
theorem d_M_write_161 : decode b_M_write 161 = .ok (.iaload, 1) := by decide +kernel
theorem d_M_write_162 : decode b_M_write 162 = .ok (.ifCond .ne 6, 3) := by decide +kernel
theorem d_M_write_165 : decode b_M_write 165 = .ok (.goto 133, 3) := by decide +kernel
theorem d_M_write_168 : decode b_M_write 168 = .ok (.aload_n 0, 1) := by decide +kernel
theorem d_M_write_169 : decode b_M_write 169 = .ok (.getfield 20, 3) := by decide +kernel
theorem d_M_write_172 : decode b_M_write 172 = .ok (.iload_n 2, 1) := by decide +kernel
theorem d_M_write_173 : decode b_M_write 173 = .ok (.iaload, 1) := by decide +kernel
theorem d_M_write_174 : decode b_M_write 174 = .ok (.istore_n 3, 1) := by decide +kernel
theorem d_M_write_175 : decode b_M_write 175 = .ok (.aload_n 0, 1) := by decide +kernel
theorem d_M_write_176 : decode b_M_write 176 = .ok (.getfield 14, 3) := by decide +kernel
theorem d_M_write_179 : decode b_M_write 179 = .ok (.iload_n 3, 1) := by decide +kernel
theorem d_M_write_180 : decode b_M_write 180 = .ok (.invokestatic 54, 3) := by decide +kernel
theorem d_M_write_183 : decode b_M_write 183 = .ok (.istore 4, 2) := by decide +kernel
theorem d_M_write_185 : decode b_M_write 185 = .ok (.aload_n 0, 1) := by decide +kernel
theorem d_M_write_186 : decode b_M_write 186 = .ok (.aload_n 0, 1) := by decide +kernel
theorem d_M_write_187 : decode b_M_write 187 = .ok (.aload_n 0, 1) := by decide +kernel
theorem d_M_write_188 : decode b_M_write 188 = .ok (.getfield 14, 3) := by decide +kernel
theorem d_M_write_191 : decode b_M_write 191 = .ok (.iload_n 3, 1) := by decide +kernel
theorem d_M_write_192 : decode b_M_write 192 = .ok (.invokestatic 47, 3) := by decide +kernel
theorem d_M_write_195 : decode b_M_write 195 = .ok (.invokevirtual 173, 3) := by decide +kernel
theorem d_M_write_198 : decode b_M_write 198 = .ok (.iconst 4, 1) := by decide +kernel
theorem d_M_write_199 : decode b_M_write 199 = .ok (.invokevirtual 169, 3) := by decide +kernel
theorem d_M_write_202 : decode b_M_write 202 = .ok (.aload_n 0, 1) := by decide +kernel
theorem d_M_write_203 : decode b_M_write 203 = .ok (.aload_n 0, 1) := by decide +kernel
theorem d_M_write_204 : decode b_M_write 204 = .ok (.getfield 14, 3) := by decide +kernel
theorem d_M_write_207 : decode b_M_write 207 = .ok (.iload_n 3, 1) := by decide +kernel
theorem d_M_write_208 : decode b_M_write 208 = .ok (.iconst 4, 1) := by decide +kernel
theorem d_M_write_209 : decode b_M_write 209 = .ok (.iadd, 1) := by decide +kernel
theorem d_M_write_210 : decode b_M_write 210 = .ok (.baload, 1) := by decide +kernel
theorem d_M_write_211 : decode b_M_write 211 = .ok (.iconst 1, 1) := by decide +kernel
theorem d_M_write_212 : decode b_M_write 212 = .ok (.invokevirtual 169, 3) := by decide +kernel
theorem d_M_write_215 : decode b_M_write 215 = .ok (.aload_n 0, 1) := by decide +kernel
theorem d_M_write_216 : decode b_M_write 216 = .ok (.iload 4, 2) := by decide +kernel
theorem d_M_write_218 : decode b_M_write 218 = .ok (.iconst 2, 1) := by decide +kernel
theorem d_M_write_219 : decode b_M_write 219 = .ok (.invokevirtual 169, 3) := by decide +kernel
theorem d_M_write_222 : decode b_M_write 222 = .ok (.iconst 0, 1) := by decide +kernel
theorem d_M_write_223 : decode b_M_write 223 = .ok (.istore 5, 2) := by decide +kernel
theorem d_M_write_225 : decode b_M_write 225 = .ok (.iload 5, 2) := by decide +kernel
theorem d_M_write_227 : decode b_M_write 227 = .ok (.iload 4, 2) := by decide +kernel
theorem d_M_write_229 : decode b_M_write 229 = .ok (.if_icmp .ge 69, 3) := by decide +kernel
theorem d_M_write_232 : decode b_M_write 232 = .ok (.aload_n 0, 1) := by decide +kernel
theorem d_M_write_233 : decode b_M_write 233 = .ok (.aload_n 0, 1) := by decide +kernel
theorem d_M_write_234 : decode b_M_write 234 = .ok (.getfield 14, 3) := by decide +kernel
theorem d_M_write_237 : decode b_M_write 237 = .ok (.iload_n 3, 1) := by decide +kernel
theorem d_M_write_238 : decode b_M_write 238 = .ok (.invokestatic 50, 3) := by decide +kernel
theorem d_M_write_241 : decode b_M_write 241 = .ok (.ifCond .eq 18, 3) := by decide +kernel
theorem d_M_write_244 : decode b_M_write 244 = .ok (.aload_n 0, 1) := by decide +kernel
theorem d_M_write_245 : decode b_M_write 245 = .ok (.getfield 14, 3) := by decide +kernel
theorem d_M_write_248 : decode b_M_write 248 = .ok (.iload_n 3, 1) := by decide +kernel
theorem d_M_write_249 : decode b_M_write 249 = .ok (.bipush 7, 2) := by decide +kernel
theorem d_M_write_251 : decode b_M_write 251 = .ok (.iadd, 1) := by decide +kernel
theorem d_M_write_252 : decode b_M_write 252 = .ok (.iload 5, 2) := by decide +kernel
theorem d_M_write_254 : decode b_M_write 254 = .ok (.iadd, 1) := by decide +kernel
theorem d_M_write_255 : decode b_M_write 255 = .ok (.baload, 1) := by decide +kernel
theorem d_M_write_256 : decode b_M_write 256 = .ok (.goto 17, 3) := by decide +kernel
theorem d_M_write_259 : decode b_M_write 259 = .ok (.aload_n 0, 1) := by decide +kernel
theorem d_M_write_260 : decode b_M_write 260 = .ok (.aload_n 0, 1) := by decide +kernel
theorem d_M_write_261 : decode b_M_write 261 = .ok (.getfield 14, 3) := by decide +kernel
theorem d_M_write_264 : decode b_M_write 264 = .ok (.iload_n 3, 1) := by decide +kernel
theorem d_M_write_265 : decode b_M_write 265 = .ok (.iload 5, 2) := by decide +kernel
theorem d_M_write_267 : decode b_M_write 267 = .ok (.invokestatic 61, 3) := by decide +kernel
theorem d_M_write_270 : decode b_M_write 270 = .ok (.invokevirtual 173, 3) := by decide +kernel
theorem d_M_write_273 : decode b_M_write 273 = .ok (.aload_n 0, 1) := by decide +kernel
theorem d_M_write_274 : decode b_M_write 274 = .ok (.getfield 14, 3) := by decide +kernel
theorem d_M_write_277 : decode b_M_write 277 = .ok (.iload_n 3, 1) := by decide +kernel
theorem d_M_write_278 : decode b_M_write 278 = .ok (.invokestatic 50, 3) := by decide +kernel
theorem d_M_write_281 : decode b_M_write 281 = .ok (.ifCond .eq 7, 3) := by decide +kernel
theorem d_M_write_284 : decode b_M_write 284 = .ok (.iconst 1, 1) := by decide +kernel
theorem d_M_write_285 : decode b_M_write 285 = .ok (.goto 4, 3) := by decide +kernel
theorem d_M_write_288 : decode b_M_write 288 = .ok (.iconst 4, 1) := by decide +kernel
theorem d_M_write_289 : decode b_M_write 289 = .ok (.invokevirtual 169, 3) := by decide +kernel
theorem d_M_write_292 : decode b_M_write 292 = .ok (.iinc 5 1, 3) := by decide +kernel
theorem d_M_write_295 : decode b_M_write 295 = .ok (.goto (-70), 3) := by decide +kernel
theorem d_M_write_298 : decode b_M_write 298 = .ok (.iinc 2 1, 3) := by decide +kernel
theorem d_M_write_301 : decode b_M_write 301 = .ok (.goto (-156), 3) := by decide +kernel
theorem d_M_write_304 : decode b_M_write 304 = .ok (.aload_n 0, 1) := by decide +kernel
theorem d_M_write_305 : decode b_M_write 305 = .ok (.getfield 40, 3) := by decide +kernel
theorem d_M_write_308 : decode b_M_write 308 = .ok (.ireturn, 1) := by decide +kernel
end
section
/-! ===== numbers, bytes, booleans, places ===== -/
theorem av_apart {h : AH} {a b : Nat} {x : Nat × vp_A} {y : Nat × List Value} (h1 : h a = some (.inl x)) (h2 : h b = some (.inr y)) : a ≠ b := fun z => by
  rw [z, h2] at h1
  cases h1
theorem av_apart' {h : AH} {a b : Nat} {x : Nat × vp_A} {y : Nat × List Value} (h2 : h b = some (.inr y)) (h1 : h a = some (.inl x)) : b ≠ a := fun z => av_apart h1 h2 z.symm
/-- a truth as javac spells it -/
noncomputable def bP (P : Prop) : Int32 := @ite Int32 P (Classical.propDecidable P) 1 0
theorem bP_t {P : Prop} (h : P) : bP P = nI 1 := by unfold bP; rw [if_pos h]; rfl
theorem bP_f {P : Prop} (h : ¬ P) : bP P = nI 0 := by unfold bP; rw [if_neg h]; rfl
theorem bP_eq0 {P : Prop} : bP P = 0 ↔ ¬ P := by
  by_cases h : P
  · rw [bP_t h]; exact ⟨fun q => absurd q (by decide), fun q => absurd h q⟩
  · rw [bP_f h]; exact ⟨fun _ => h, fun _ => rfl⟩
theorem bP_nar (P : Prop) : narrow .boolean (.int (bP P)) = .int (bP P) := by
  by_cases h : P
  · rw [bP_t h]; rfl
  · rw [bP_f h]; rfl
theorem bP_congr {P Q : Prop} (h : P ↔ Q) : bP P = bP Q := by rw [propext h]
theorem nar1 : narrow .boolean (.int (nI 1)) = .int (nI 1) := rfl
theorem nar0 : narrow .boolean (.int (nI 0)) = .int (nI 0) := rfl
theorem rt_t {P : Prop} {h : AH} (q : P) : av_Pi (bP P) h (some (.int (nI 1))) h := ⟨by rw [bP_t q], rfl⟩
theorem rt_f {P : Prop} {h : AH} (q : ¬ P) : av_Pi (bP P) h (some (.int (nI 0))) h := ⟨by rw [bP_f q], rfl⟩
theorem rt_b {P Q : Prop} {h : AH} (q : P ↔ Q) : av_Pi (bP Q) h (some (.int (bP P))) h := ⟨by rw [bP_congr q], rfl⟩
theorem rt_i {x y : Int32} {h : AH} (q : x = y) : av_Pi y h (some (.int x)) h := ⟨by rw [q], rfl⟩
/-- a place, or NONE -/
def pI (o : Option Nat) : Int32 := match o with
  | none => -1
  | some p => nI p
theorem nI_m1 {n : Nat} (h : n < 2 ^ 31) : ¬ nI n = -1 := fun q => by
  have a := nI_toInt h
  rw [q] at a
  have b : ((-1 : Int32)).toInt = -1 := by decide
  omega
theorem pI_m1 {o : Option Nat} (h : ∀ p, o = some p → p < 2 ^ 31) : pI o = (-1) ↔ o = none := by
  cases o with
  | none => exact ⟨fun _ => rfl, fun _ => rfl⟩
  | some p => exact ⟨fun q => absurd q (nI_m1 (h p rfl)), fun q => by cases q⟩
theorem z_eq {n : Nat} (h : n < 2 ^ 31) : nI n = 0 ↔ n = 0 := by
  show nI n = nI 0 ↔ _
  exact nI_eq h (by decide)
theorem z_lt {n : Nat} (h : n < 2 ^ 31) : nI n < 0 ↔ False := ⟨fun q => absurd q (nI_pos h), fun q => q.elim⟩
theorem z_ge {n : Nat} (h : n < 2 ^ 31) : 0 ≤ nI n ↔ True := ⟨fun _ => trivial, fun _ => nI_pos' h⟩
theorem z_gt {n : Nat} (h : n < 2 ^ 31) : 0 < nI n ↔ 0 < n := by
  show nI 0 < nI n ↔ _
  exact nI_ltI (by decide) h
theorem z_le {n : Nat} (h : n < 2 ^ 31) : nI n ≤ 0 ↔ n = 0 := by
  show nI n ≤ nI 0 ↔ _
  rw [nI_leI h (by decide)]
  omega
theorem nI_orr (a b : Nat) : nI a ||| nI b = nI (a ||| b) := by
  apply Int32.toBitVec_inj.1
  show BitVec.ofNat 32 a ||| BitVec.ofNat 32 b = BitVec.ofNat 32 (a ||| b)
  apply BitVec.eq_of_getLsbD_eq
  intro i hi
  simp [hi]
theorem nI_andd (a b : Nat) : nI a &&& nI b = nI (a &&& b) := by
  apply Int32.toBitVec_inj.1
  show BitVec.ofNat 32 a &&& BitVec.ofNat 32 b = BitVec.ofNat 32 (a &&& b)
  apply BitVec.eq_of_getLsbD_eq
  intro i hi
  simp [hi]
theorem or_add (k : Nat) {u v : Nat} (hu : u % 2 ^ k = 0) (hv : v < 2 ^ k) : u ||| v = u + v := by
  have e : u = 2 ^ k * (u / 2 ^ k) := by
    have := Nat.div_add_mod u (2 ^ k)
    omega
  rw [e, ← Nat.two_pow_add_eq_or_of_lt hv]
theorem or_8 {u v : Nat} (hu : u % 256 = 0) (hv : v < 256) : nI u ||| nI v = nI (u + v) := by rw [nI_orr, or_add 8 hu hv]
theorem or_16 {u v : Nat} (hu : u % 65536 = 0) (hv : v < 65536) : nI u ||| nI v = nI (u + v) := by rw [nI_orr, or_add 16 hu hv]
theorem or_24 {u v : Nat} (hu : u % 16777216 = 0) (hv : v < 16777216) : nI u ||| nI v = nI (u + v) := by rw [nI_orr, or_add 24 hu hv]
theorem shl_8 {n : Nat} (h : n < 16777216) : nI n <<< (nI 8 &&& 31) = nI (n * 256) := pk_shlN _ 8 (by decide) (by omega)
theorem shl_16 {n : Nat} (h : n < 65536) : nI n <<< (nI 16 &&& 31) = nI (n * 65536) := pk_shlN _ 16 (by decide) (by omega)
theorem shl_24 {n : Nat} (h : n < 256) : nI n <<< (nI 24 &&& 31) = nI (n * 16777216) := pk_shlN _ 24 (by decide) (by omega)
/-- an int's low bits; halves; parity: of an int that is u as an unsigned number -/
theorem nI_mod (u : Nat) : nI u = nI (u % 4294967296) := by
  apply Int32.toBitVec_inj.1
  show BitVec.ofNat 32 u = BitVec.ofNat 32 (u % 4294967296)
  apply BitVec.eq_of_toNat_eq
  simp
theorem and_1 (u : Nat) : nI u &&& nI 1 = nI (u % 2) := by rw [nI_andd, Nat.and_one_is_mod]
theorem and_255 (u : Nat) : nI u &&& nI 255 = nI (u % 256) := by rw [nI_andd, show (255 : Nat) = 2 ^ 8 - 1 from rfl, Nat.and_two_pow_sub_one_eq_mod]
theorem and_31 (u : Nat) : nI u &&& nI 31 = nI (u % 32) := by rw [nI_andd, show (31 : Nat) = 2 ^ 5 - 1 from rfl, Nat.and_two_pow_sub_one_eq_mod]
theorem and_63 (u : Nat) : nI u &&& nI 63 = nI (u % 64) := by rw [nI_andd, show (63 : Nat) = 2 ^ 6 - 1 from rfl, Nat.and_two_pow_sub_one_eq_mod]
theorem and_15 (u : Nat) : nI u &&& nI 15 = nI (u % 16) := by rw [nI_andd, show (15 : Nat) = 2 ^ 4 - 1 from rfl, Nat.and_two_pow_sub_one_eq_mod]
/-- a byte as an array keeps it -/
def bs (b : Nat) : Int32 := (nI b).toInt8.toInt32
def bsf (B : Nat → Nat) : Nat → Int32 := fun i => bs (B i)
theorem bs_and {b : Nat} (h : b < 256) : bs b &&& nI 255 = nI b := (by decide +kernel : ∀ b, b < 256 → bs b &&& nI 255 = nI b) b h
theorem bs_inj : ∀ b, b < 256 → ∀ c, c < 2 → (bs b = nI c ↔ b = c) := by decide +kernel
theorem bs_toInt8 (x : Int32) : x.toInt8.toInt32 = bs (x.toBitVec.toNat % 256) := by
  unfold bs
  congr 1
  apply Int8.toBitVec_inj.mp
  rw [Int32.toBitVec_toInt8, Int32.toBitVec_toInt8]
  rw [BitVec.signExtend_eq_setWidth_of_le _ (by decide), BitVec.signExtend_eq_setWidth_of_le _ (by decide)]
  apply BitVec.eq_of_toNat_eq
  show _ = (BitVec.setWidth 8 (BitVec.ofNat 32 _)).toNat
  simp
theorem bs_nI (u : Nat) : (nI u).toInt8.toInt32 = bs (u % 256) := by
  rw [bs_toInt8]
  congr 1
  show (BitVec.ofNat 32 u).toNat % 256 = _
  simp
theorem bs_nar (x : Int32) : vp_nar .byte x = x.toInt8.toInt32 := rfl
theorem bs_bs (b : Nat) : (bs b).toInt8.toInt32 = bs b := by unfold bs; simp
theorem bsf_upd (B : Nat → Nat) (j b : Nat) : upd (bsf B) j (bs b) = bsf (fun i => if i = j then b else B i) := by
  funext i
  unfold upd bsf
  by_cases h : i = j
  · simp [h]
  · simp [h]
def bh (B : Nat → Nat) (j : Nat) : Nat := B j * 256 + B (j + 1)
def bw (B : Nat → Nat) (j : Nat) : Nat := B j * 16777216 + B (j + 1) * 65536 + B (j + 2) * 256 + B (j + 3)
theorem bh_lt {B : Nat → Nat} (hB : ∀ i, B i < 256) (j : Nat) : bh B j < 65536 := by
  have h1 := hB j
  have h2 := hB (j + 1)
  unfold bh
  omega
theorem bw_lt {B : Nat → Nat} (hB : ∀ i, B i < 256) (j : Nat) : bw B j < 4294967296 := by
  have h1 := hB j
  have h2 := hB (j + 1)
  have h3 := hB (j + 2)
  have h4 := hB (j + 3)
  unfold bw
  omega
theorem bs_shl24 {b : Nat} (h : b < 256) : bs b <<< (nI 24 &&& 31) = nI (b * 16777216) := (by decide +kernel : ∀ b, b < 256 → bs b <<< (nI 24 &&& 31) = nI (b * 16777216)) b h
end
section
theorem nI_i32 {u : Nat} (h : u < 4294967296) : (nI u).toInt = if u < 2147483648 then (u : Int) else (u : Int) - 4294967296 := by
  show (Int32.ofNat u).toInt = _
  split
  · exact nI_toInt (by omega)
  · rw [Int32.toInt_ofNat']
    have : Int32.size = 4294967296 := rfl
    rw [Int.bmod_def, this]
    omega
theorem w_le {u : Nat} (h : u < 4294967296) : nI u ≤ 0 ↔ u = 0 ∨ 2147483648 ≤ u := by
  rw [Int32.le_iff_toInt_le, nI_i32 h, Int32.toInt_zero]
  split <;> omega
theorem w_eq {u v : Nat} (h : u < 4294967296) (h2 : v < 4294967296) : nI u = nI v ↔ u = v := by
  constructor
  · intro q
    have a := pk_tn h
    rw [q, pk_tn h2] at a
    exact a.symm
  · intro q; rw [q]
theorem w_eq0 {u : Nat} (h : u < 4294967296) : nI u = 0 ↔ u = 0 := w_eq (v := 0) h (by decide)
/-- numbers: shifted by one, and compared -/
theorem w_shr1 {u : Nat} (h : u < 4294967296) : (nI u >>> (nI 1 &&& 31)).toInt = if u < 2147483648 then (u : Int) / 2 else ((u : Int) - 4294967296) / 2 := by
  rw [pk_shr _ _ 1 (by decide), nI_i32 h, Int.shiftRight_eq_div_pow]
  split <;> rfl
theorem w_geL {u l : Nat} (h : u < 4294967296) (hl : l < 2147483648) : nI u >>> (nI 1 &&& 31) < nI l ↔ 2147483648 ≤ u ∨ u / 2 < l := by
  rw [Int32.lt_iff_toInt_lt, w_shr1 h, nI_toInt hl]
  split <;> omega
theorem w_leH {u l : Nat} (h : u < 4294967296) (hl : l < 2147483648) : nI l < nI u >>> (nI 1 &&& 31) ↔ u < 2147483648 ∧ l < u / 2 := by
  rw [Int32.lt_iff_toInt_lt, w_shr1 h, nI_toInt hl]
  split <;> omega
theorem w_shr1N {u : Nat} (h : u < 2147483648) : nI u >>> (nI 1 &&& 31) = nI (u / 2) := pk_shrN (by omega) _ 1 (by decide)
theorem w_lt0 {u : Nat} (h : u < 4294967296) : nI u >>> (nI 1 &&& 31) < 0 ↔ 2147483648 ≤ u := by
  rw [Int32.lt_iff_toInt_lt, w_shr1 h, Int32.toInt_zero]
  split <;> omega
theorem and_768 : ∀ s, s < 4096 → (nI s &&& nI 768 = 0 ↔ s / 256 % 4 = 0) := by
  intro s hs
  have q : ∀ a, a < 64 → ∀ b, b < 64 → (nI (64 * a + b) &&& nI 768 = 0 ↔ (64 * a + b) / 256 % 4 = 0) := by decide +kernel
  have r := q (s / 64) (by omega) (s % 64) (by omega)
  rw [show 64 * (s / 64) + s % 64 = s by omega] at r
  exact r
theorem and_1024 : ∀ s, s < 4096 → (nI s &&& nI 1024 ≤ 0 ↔ s / 1024 % 2 = 0) := by
  intro s hs
  have q : ∀ a, a < 64 → ∀ b, b < 64 → (nI (64 * a + b) &&& nI 1024 ≤ 0 ↔ (64 * a + b) / 1024 % 2 = 0) := by decide +kernel
  have r := q (s / 64) (by omega) (s % 64) (by omega)
  rw [show 64 * (s / 64) + s % 64 = s by omega] at r
  exact r
theorem and_1024g : ∀ s, s < 4096 → (0 < nI s &&& nI 1024 ↔ s / 1024 % 2 = 1) := by
  intro s hs
  have q : ∀ a, a < 64 → ∀ b, b < 64 → (0 < nI (64 * a + b) &&& nI 1024 ↔ (64 * a + b) / 1024 % 2 = 1) := by decide +kernel
  have r := q (s / 64) (by omega) (s % 64) (by omega)
  rw [show 64 * (s / 64) + s % 64 = s by omega] at r
  exact r
end
section
/-! ===== the document's words over a row of bytes B ===== -/
def bl (B : Nat → Nat) (a : Nat) : Nat := (if B (a + 4) = 1 then 1 else 4) * bh B (a + 5)
/-- the byte at which object k begins (k from 1 on) -/
def oa (B : Nat → Nat) : Nat → Nat
  | 0 => 0
  | 1 => 208
  | k + 2 => oa B (k + 1) + 7 + bl B (oa B (k + 1))
theorem oa_1 (B : Nat → Nat) : oa B 1 = 208 := rfl
theorem oa_s (B : Nat → Nat) {k : Nat} (h : 1 ≤ k) : oa B (k + 1) = oa B k + 7 + bl B (oa B k) := by
  cases k with
  | zero => omega
  | succ k => rfl
theorem bl_1 {B : Nat → Nat} {a : Nat} (h : B (a + 4) = 1) : bl B a = bh B (a + 5) := by unfold bl; rw [if_pos h]; omega
theorem bl_0 {B : Nat → Nat} {a : Nat} (h : ¬ B (a + 4) = 1) : bl B a = 4 * bh B (a + 5) := by unfold bl; rw [if_neg h]
def sp (B : Nat → Nat) (k : Nat) : Nat := bw B (8 + 4 * k)
def cl (B : Nat → Nat) (k : Nat) : Nat := bw B (oa B k)
def kd (B : Nat → Nat) (k : Nat) : Nat := B (oa B k + 4)
def sz (B : Nat → Nat) (k : Nat) : Nat := bh B (oa B k + 5)
def fd (B : Nat → Nat) (k i : Nat) : Nat := bw B (oa B k + 7 + 4 * i)
def bt (B : Nat → Nat) (k i : Nat) : Nat := B (oa B k + 7 + i)
def nn (B : Nat → Nat) : Nat := bh B 6
/-- a value of four bytes is nil, a number, or an object from 1 to n -/
def vl (n u : Nat) : Prop := u % 2 = 1 ∨ u ≤ 2 * n
def ob (u : Nat) : Nat := if u % 2 = 0 then u / 2 else 0
theorem ob_le {n u : Nat} (h : vl n u) : ob u ≤ n := by
  unfold ob
  rcases h with h | h
  · rw [if_neg (by omega)]; omega
  · split <;> omega
theorem ob_e {u : Nat} (h : u % 2 = 0) : ob u = u / 2 := by unfold ob; rw [if_pos h]
theorem ob_o {u : Nat} (h : ¬ u % 2 = 0) : ob u = 0 := by unfold ob; rw [if_neg h]
theorem ob_ne {u : Nat} : ob u ≠ 0 ↔ u % 2 = 0 ∧ 0 < u := by
  unfold ob
  split <;> omega
/-- the objects lie within the first c bytes, and all values are such -/
def laid (B : Nat → Nat) (c n : Nat) : Prop := 208 ≤ c ∧ c ≤ 65536 ∧ 1 ≤ n ∧ n ≤ 8191 ∧ (∀ k, k < 50 → vl n (sp B k)) ∧
  ∀ k, 1 ≤ k → k ≤ n → vl n (cl B k) ∧ kd B k ≤ 1 ∧ 208 ≤ oa B k ∧ oa B k + 7 + bl B (oa B k) ≤ c ∧ (kd B k = 0 → ∀ i, i < sz B k → vl n (fd B k i))
def HF (B : Nat → Nat) (u m : Nat) : Prop := ob u ≠ 0 ∧ kd B (ob u) ≠ 1 ∧ m ≤ sz B (ob u)
def CX (B : Nat → Nat) (u : Nat) : Prop := ob u ≠ 0 ∧ (cl B (ob u) = sp B 7 ∨ cl B (ob u) = sp B 8)
def NI (u lo hi : Nat) : Prop := u % 2 = 1 ∧ u < 2147483648 ∧ lo ≤ u / 2 ∧ u / 2 ≤ hi
def shp (w : Nat) : Prop := w % 2 = 1 ∧ w < 2147483648 ∧ w / 2 < 4096 ∧ w / 2 / 256 % 4 = 0 ∧ (w / 2 < 2048 ∨ (w / 2 % 256 = 0 ∧ w / 2 / 1024 % 2 = 1))
def CL (B : Nat → Nat) (u : Nat) : Prop := HF B u 3 ∧ shp (fd B (ob u) 2)
def mh (w : Nat) : Prop := w % 2 = 1 ∧ w < 2147483648 ∧ w / 2 < 8388608 ∧ w / 2 % 16 ≤ w / 2 / 16 % 32
def ME (B : Nat → Nat) (u : Nat) : Prop := HF B u 2 ∧ mh (fd B (ob u) 0) ∧ ob (fd B (ob u) 1) ≠ 0 ∧ kd B (ob (fd B (ob u) 1)) = 1
def tm (B : Nat → Nat) (u : Nat) : Nat := fd B (ob u) 0 / 2 / 16 % 32
def dp (B : Nat → Nat) (u : Nat) : Nat := fd B (ob u) 0 / 2 / 512 % 64
def CO (B : Nat → Nat) (k f : Nat) : Prop := (fd B k 0 = 0 ∨ CX B (fd B k 0)) ∧ (fd B k 1 = 0 ∨ NI (fd B k 1) 0 1073741823) ∧ ∀ i, f ≤ i → i < sz B k → fd B k i = 0
def MC (B : Nat → Nat) (k : Nat) : Prop := kd B k ≠ 1 ∧ 5 ≤ sz B k ∧ ME B (fd B k 3) ∧ sz B k = 5 + tm B (fd B k 3) + dp B (fd B k 3) ∧ NI (fd B k 2) (tm B (fd B k 3)) (tm B (fd B k 3) + dp B (fd B k 3)) ∧ CO B k (5 + fd B k 2 / 2)
def BC (B : Nat → Nat) (k : Nat) : Prop := kd B k ≠ 1 ∧ 6 ≤ sz B k ∧ HF B (fd B k 5) 5 ∧ cl B (ob (fd B k 5)) = sp B 7 ∧ ME B (fd B (ob (fd B k 5)) 3) ∧ sz B k = 6 + dp B (fd B (ob (fd B k 5)) 3) ∧ NI (fd B k 2) 0 (dp B (fd B (ob (fd B k 5)) 3)) ∧ NI (fd B k 3) 0 15 ∧ (fd B k 4 = 0 ∨ NI (fd B k 4) 0 1073741823) ∧ CO B k (6 + fd B k 2 / 2)
def shF (B : Nat → Nat) (k : Nat) : Nat := fd B (ob (cl B k)) 2 / 2
def RO (B : Nat → Nat) (k : Nat) : Prop := CL B (cl B k) ∧ (kd B k = 1 ↔ 2048 ≤ shF B k) ∧ (2048 ≤ shF B k ∨ (shF B k / 1024 % 2 = 1 ∧ shF B k % 256 ≤ sz B k) ∨ (shF B k / 1024 % 2 = 0 ∧ sz B k = shF B k % 256)) ∧ (cl B k = sp B 7 → MC B k) ∧ (cl B k = sp B 8 → BC B k)
def SS (B : Nat → Nat) (k : Nat) : Prop := (k < 2 → ob (sp B k) ≠ 0 ∧ ∀ j, j < k → sp B j ≠ sp B k) ∧ (2 ≤ k → k < 13 → CL B (sp B k) ∧ ∀ j, 2 ≤ j → j < k → sp B j ≠ sp B k) ∧ (k = 13 → HF B (sp B 13) 256 ∧ sz B (ob (sp B 13)) = 256) ∧ (k = 14 → HF B (sp B 14) 2 ∧ ¬ CX B (sp B 14))
def PL (B : Nat → Nat) (u m : Nat) : Prop := HF B u m ∧ ¬ CX B u
def PR (B : Nat → Nat) : Prop := PL B (fd B (ob (sp B 14)) 0) 8 ∧ (∀ i, i < 8 → PL B (fd B (ob (fd B (ob (sp B 14)) 0)) i) 2) ∧ PL B (fd B (ob (sp B 14)) 1) 4 ∧
  CX B (fd B (ob (fd B (ob (sp B 14)) 1)) 1) ∧ HF B (fd B (ob (fd B (ob (sp B 14)) 1)) 1) 2 ∧ fd B (ob (fd B (ob (fd B (ob (sp B 14)) 1)) 1)) 1 ≠ 0 ∧ NI (fd B (ob (fd B (ob (sp B 14)) 1)) 2) 1 8
/-- words: of object k, of the first k objects -/
def wd (B : Nat → Nat) (k : Nat) : Nat := 4 + (if kd B k = 1 then (sz B k + 3) / 4 else sz B k)
def wds (B : Nat → Nat) : Nat → Nat
  | 0 => 0
  | k + 1 => wds B k + wd B (k + 1)
/-- the first j from k on, within f steps, that isn't such: its place -/
noncomputable def ffst (P : Nat → Prop) (g : Nat → Nat) : Nat → Nat → Option Nat
  | 0, _ => none
  | f + 1, k => @ite (Option Nat) (P k) (Classical.propDecidable (P k)) (ffst P g f (k + 1)) (some (g k))
theorem ffst_s {P : Nat → Prop} {g : Nat → Nat} {f k : Nat} (h : P k) : ffst P g (f + 1) k = ffst P g f (k + 1) := by rw [ffst, if_pos h]
theorem ffst_n {P : Nat → Prop} {g : Nat → Nat} {f k : Nat} (h : ¬ P k) : ffst P g (f + 1) k = some (g k) := by rw [ffst, if_neg h]
theorem ffst_none {P : Nat → Prop} {g : Nat → Nat} : ∀ {f k : Nat}, ffst P g f k = none → ∀ j, k ≤ j → j < k + f → P j
  | 0, k, _, j, h1, h2 => by omega
  | f + 1, k, h, j, h1, h2 => by
    by_cases hk : P k
    · rw [ffst_s hk] at h
      by_cases hj : j = k
      · rw [hj]; exact hk
      · exact ffst_none h j (by omega) (by omega)
    · rw [ffst_n hk] at h; cases h
theorem ffst_some {P : Nat → Prop} {g : Nat → Nat} : ∀ {f k p : Nat}, ffst P g f k = some p → ∃ j, k ≤ j ∧ j < k + f ∧ p = g j
  | 0, k, p, h => by cases h
  | f + 1, k, p, h => by
    by_cases hk : P k
    · rw [ffst_s hk] at h
      obtain ⟨j, h1, h2, h3⟩ := ffst_some h
      exact ⟨j, by omega, by omega, h3⟩
    · rw [ffst_n hk] at h
      exact ⟨k, by omega, by omega, (Option.some.inj h).symm⟩
/-- (1) -/
def hdr (i b : Nat) : Prop := (i < 2 → b = 77) ∧ (i = 2 → b = 1) ∧ (i = 3 → b = 0) ∧ (i = 4 → 12 ≤ b ∧ b ≤ 18) ∧ (i = 5 → 10 ≤ b ∧ b ≤ 14)
noncomputable def plH (B : Nat → Nat) (c : Nat) : Option Nat := match ffst (fun i => i < c ∧ hdr i (B i)) (fun i => i) 8 0 with
  | some p => some p
  | none => if nn B < 1 ∨ 8191 < nn B then some 6 else none
/-- a value is there whole and such -/
def vok (B : Nat → Nat) (c a : Nat) : Prop := a + 4 ≤ c ∧ vl (nn B) (bw B a)
/-- (2), (3) -/
noncomputable def plS (B : Nat → Nat) (c : Nat) : Option Nat := ffst (fun k => vok B c (8 + 4 * k)) (fun k => 8 + 4 * k) 50 0
noncomputable def plF (B : Nat → Nat) (c a : Nat) (f i : Nat) : Option Nat := ffst (fun i => vok B c (a + 4 * i)) (fun i => a + 4 * i) f i
/-- the place within an object at a, its head and body -/
noncomputable def plO1 (B : Nat → Nat) (c a : Nat) : Option Nat :=
  @ite (Option Nat) (¬ vok B c a) (Classical.propDecidable _) (some a)
  (if ¬ (a + 5 ≤ c ∧ B (a + 4) ≤ 1) then some (a + 4) else if ¬ (a + 7 ≤ c) then some (a + 5) else if B (a + 4) = 1 then (if a + 7 + bh B (a + 5) ≤ c then none else some (a + 7)) else plF B c (a + 7) (bh B (a + 5)) 0)
noncomputable def plO (B : Nat → Nat) (c : Nat) : Nat → Nat → Option Nat
  | 0, a => if a < c then some a else none
  | f + 1, a => match plO1 B c a with
    | some p => some p
    | none => plO B c f (a + 7 + bl B a)
/-- (4) -/
def plR (B : Nat → Nat) : Option Nat := if 2 ^ B 4 < wds B (nn B) then some 4 else if 2 ^ B 5 < nn B then some 5 else none
/-- (5), (6), (7) -/
noncomputable def plP (B : Nat → Nat) : Option Nat := ffst (SS B) (fun k => 8 + 4 * k) 15 0
noncomputable def plB (B : Nat → Nat) : Option Nat := ffst (RO B) (oa B) (nn B) 1
noncomputable def plQ (B : Nat → Nat) : Option Nat := @ite (Option Nat) (PR B) (Classical.propDecidable _) none (some 64)
def orE (a b : Option Nat) : Option Nat := match a with
  | some p => some p
  | none => b
/-- the place at which the first c bytes are refused; none: well formed -/
noncomputable def plc (B : Nat → Nat) (c : Nat) : Option Nat := orE (plH B c) (orE (plS B c) (orE (plO B c (nn B) 208) (orE (plR B) (orE (plP B) (orE (plB B) (plQ B))))))
theorem fd_lt {B : Nat → Nat} (hB : ∀ i, B i < 256) (k i : Nat) : fd B k i < 4294967296 := bw_lt hB _
theorem cl_lt {B : Nat → Nat} (hB : ∀ i, B i < 256) (k : Nat) : cl B k < 4294967296 := bw_lt hB _
theorem sp_lt {B : Nat → Nat} (hB : ∀ i, B i < 256) (k : Nat) : sp B k < 4294967296 := bw_lt hB _
theorem sz_lt {B : Nat → Nat} (hB : ∀ i, B i < 256) (k : Nat) : sz B k < 65536 := bh_lt hB _
end
section
set_option maxHeartbeats 4000000 in
theorem c_M_word {tb : Nat → Nat} {h : AH} {a Nn : Nat} {B : Nat → Nat} (hB_ : ∀ i, B i < 256) (hb : h a = some (.inl (1, Nn, .inl (bsf B)))) (hN : Nn ≤ 65536) (j : Nat) (hj : j + 3 < Nn) : AM tb y_M_word b_M_word 2 (some .int) 0 0 [.ref a, .int (nI j)] h 0 0 (av_Pi (nI (bw B j)) h) := by
  refine am_of (ini := false) [some (.ref a), some (.int (nI j))] (by decide) (fun z => by cases z) (Nat.le_of_ble_eq_true rfl) rfl ?_
  refine aw_aload_n d_M_word_0 rfl ?_
  refine aw_iload_n d_M_word_1 rfl ?_
  refine aw_bald (x := bs (B j)) d_M_word_2 hb (vp_in_nI (by omega) (by omega)) (by rw [nI_clamp (by omega)]; rfl) ?_
  refine aw_bipush (v := nI 24) d_M_word_3 (by decide) ?_
  refine aw_ishl (v := nI (B j * 16777216)) d_M_word_5 (bs_shl24 (hB_ _)) ?_
  have b_5 := hB_ j
  refine aw_aload_n d_M_word_6 rfl ?_
  refine aw_iload_n d_M_word_7 rfl ?_
  refine aw_iconst (v := nI 1) d_M_word_8 (by decide) ?_
  refine aw_iadd (v := nI (j + 1)) d_M_word_9 (nI_add _ _) ?_
  refine aw_bald (x := bs (B (j + 1))) d_M_word_10 hb (vp_in_nI (by omega) (by omega)) (by rw [nI_clamp (by omega)]; rfl) ?_
  refine aw_sipush (v := nI 255) d_M_word_11 (by decide) ?_
  refine aw_iand (v := nI (B (j + 1))) d_M_word_14 (bs_and (hB_ _)) ?_
  have b_14 := hB_ (j + 1)
  refine aw_bipush (v := nI 16) d_M_word_15 (by decide) ?_
  refine aw_ishl (v := nI ((B (j + 1)) * 65536)) d_M_word_17 (shl_16 (by omega)) ?_
  refine aw_ior (v := nI (B j * 16777216 + (B (j + 1)) * 65536)) d_M_word_18 (or_24 (by omega) (by omega)) ?_
  refine aw_aload_n d_M_word_19 rfl ?_
  refine aw_iload_n d_M_word_20 rfl ?_
  refine aw_iconst (v := nI 2) d_M_word_21 (by decide) ?_
  refine aw_iadd (v := nI (j + 2)) d_M_word_22 (nI_add _ _) ?_
  refine aw_bald (x := bs (B (j + 2))) d_M_word_23 hb (vp_in_nI (by omega) (by omega)) (by rw [nI_clamp (by omega)]; rfl) ?_
  refine aw_sipush (v := nI 255) d_M_word_24 (by decide) ?_
  refine aw_iand (v := nI (B (j + 2))) d_M_word_27 (bs_and (hB_ _)) ?_
  have b_27 := hB_ (j + 2)
  refine aw_bipush (v := nI 8) d_M_word_28 (by decide) ?_
  refine aw_ishl (v := nI ((B (j + 2)) * 256)) d_M_word_30 (shl_8 (by omega)) ?_
  refine aw_ior (v := nI (B j * 16777216 + (B (j + 1)) * 65536 + (B (j + 2)) * 256)) d_M_word_31 (or_16 (by omega) (by omega)) ?_
  refine aw_aload_n d_M_word_32 rfl ?_
  refine aw_iload_n d_M_word_33 rfl ?_
  refine aw_iconst (v := nI 3) d_M_word_34 (by decide) ?_
  refine aw_iadd (v := nI (j + 3)) d_M_word_35 (nI_add _ _) ?_
  refine aw_bald (x := bs (B (j + 3))) d_M_word_36 hb (vp_in_nI (by omega) (by omega)) (by rw [nI_clamp (by omega)]; rfl) ?_
  refine aw_sipush (v := nI 255) d_M_word_37 (by decide) ?_
  refine aw_iand (v := nI (B (j + 3))) d_M_word_40 (bs_and (hB_ _)) ?_
  have b_40 := hB_ (j + 3)
  refine aw_ior (v := nI (B j * 16777216 + (B (j + 1)) * 65536 + (B (j + 2)) * 256 + B (j + 3))) d_M_word_41 (or_8 (by omega) (by omega)) ?_
  exact aw_iret d_M_word_42 rfl rfl ⟨rfl, rfl⟩

set_option maxHeartbeats 4000000 in
theorem c_M_half {tb : Nat → Nat} {h : AH} {a Nn : Nat} {B : Nat → Nat} (hB_ : ∀ i, B i < 256) (hb : h a = some (.inl (1, Nn, .inl (bsf B)))) (hN : Nn ≤ 65536) (j : Nat) (hj : j + 1 < Nn) : AM tb y_M_half b_M_half 2 (some .int) 0 0 [.ref a, .int (nI j)] h 0 0 (av_Pi (nI (bh B j)) h) := by
  refine am_of (ini := false) [some (.ref a), some (.int (nI j))] (by decide) (fun z => by cases z) (Nat.le_of_ble_eq_true rfl) rfl ?_
  refine aw_aload_n d_M_half_0 rfl ?_
  refine aw_iload_n d_M_half_1 rfl ?_
  refine aw_bald (x := bs (B j)) d_M_half_2 hb (vp_in_nI (by omega) (by omega)) (by rw [nI_clamp (by omega)]; rfl) ?_
  refine aw_sipush (v := nI 255) d_M_half_3 (by decide) ?_
  refine aw_iand (v := nI (B j)) d_M_half_6 (bs_and (hB_ _)) ?_
  have b_6 := hB_ j
  refine aw_bipush (v := nI 8) d_M_half_7 (by decide) ?_
  refine aw_ishl (v := nI (B j * 256)) d_M_half_9 (shl_8 (by omega)) ?_
  refine aw_aload_n d_M_half_10 rfl ?_
  refine aw_iload_n d_M_half_11 rfl ?_
  refine aw_iconst (v := nI 1) d_M_half_12 (by decide) ?_
  refine aw_iadd (v := nI (j + 1)) d_M_half_13 (nI_add _ _) ?_
  refine aw_bald (x := bs (B (j + 1))) d_M_half_14 hb (vp_in_nI (by omega) (by omega)) (by rw [nI_clamp (by omega)]; rfl) ?_
  refine aw_sipush (v := nI 255) d_M_half_15 (by decide) ?_
  refine aw_iand (v := nI (B (j + 1))) d_M_half_18 (bs_and (hB_ _)) ?_
  have b_18 := hB_ (j + 1)
  refine aw_ior (v := nI (B j * 256 + B (j + 1))) d_M_half_19 (or_8 (by omega) (by omega)) ?_
  exact aw_iret d_M_half_20 rfl rfl ⟨rfl, rfl⟩

set_option maxHeartbeats 4000000 in
theorem c_M_objects_aB {tb : Nat → Nat} {h : AH} {a Nn : Nat} {B : Nat → Nat} (hB_ : ∀ i, B i < 256) (hb : h a = some (.inl (1, Nn, .inl (bsf B)))) (hN : Nn ≤ 65536) (h8 : 8 ≤ Nn) : AM tb y_M_objects_aB b_M_objects_aB 1 (some .int) 1 21 [.ref a] h 0 0 (av_Pi (nI (nn B)) h) := by
  refine am_of (ini := false) [some (.ref a)] (by decide) (fun z => by cases z) (Nat.le_of_ble_eq_true rfl) rfl ?_
  refine aw_aload_n d_M_objects_aB_0 rfl ?_
  refine aw_bipush (v := nI 6) d_M_objects_aB_1 (by decide) ?_
  refine aw_callSi (mc2 := 0) (ms2 := 0) (r := nI (bh B 6)) (As := [.ref a, .int (nI 6)]) (rest := []) (c_M_half hB_ hb (by omega) 6 (by omega)) cs_M_43 d_M_objects_aB_3 rfl rfl (Nat.le_of_ble_eq_true rfl) (by decide) (by decide) (by omega) (by omega) ?_
  have b_3 := bh_lt hB_ 6
  exact aw_iret d_M_objects_aB_6 rfl rfl ⟨rfl, rfl⟩

set_option maxHeartbeats 4000000 in
theorem c_M_special_aBI {tb : Nat → Nat} {h : AH} {a Nn : Nat} {B : Nat → Nat} (hB_ : ∀ i, B i < 256) (hb : h a = some (.inl (1, Nn, .inl (bsf B)))) (hN : Nn ≤ 65536) (k : Nat) (hk : 8 + 4 * k + 3 < Nn) : AM tb y_M_special_aBI b_M_special_aBI 2 (some .int) 1 21 [.ref a, .int (nI k)] h 0 0 (av_Pi (nI (sp B k)) h) := by
  refine am_of (ini := false) [some (.ref a), some (.int (nI k))] (by decide) (fun z => by cases z) (Nat.le_of_ble_eq_true rfl) rfl ?_
  refine aw_aload_n d_M_special_aBI_0 rfl ?_
  refine aw_bipush (v := nI 8) d_M_special_aBI_1 (by decide) ?_
  refine aw_iconst (v := nI 4) d_M_special_aBI_3 (by decide) ?_
  refine aw_iload_n d_M_special_aBI_4 rfl ?_
  refine aw_imul (v := nI (4 * k)) d_M_special_aBI_5 (pk_mul _ _) ?_
  refine aw_iadd (v := nI (8 + 4 * k)) d_M_special_aBI_6 (nI_add _ _) ?_
  refine aw_callSi (mc2 := 0) (ms2 := 0) (r := nI (bw B (8 + 4 * k))) (As := [.ref a, .int (nI (8 + 4 * k))]) (rest := []) (c_M_word hB_ hb (by omega) (8 + 4 * k) (by omega)) cs_M_47 d_M_special_aBI_7 rfl rfl (Nat.le_of_ble_eq_true rfl) (by decide) (by decide) (by omega) (by omega) ?_
  have b_7 := bw_lt hB_ (8 + 4 * k)
  exact aw_iret d_M_special_aBI_10 rfl rfl ⟨rfl, rfl⟩
end
section
/-- what the reference's 'starts' say of the bytes at hand -/
def VX (B : Nat → Nat) (c : Nat) (fs : Nat → Int32) : Prop := laid B c (nn B) ∧ ∀ k, 1 ≤ k → k ≤ nn B → fs k = nI (oa B k)
theorem VX.n {B : Nat → Nat} {c : Nat} {fs : Nat → Int32} (X : VX B c fs) : 1 ≤ nn B ∧ nn B ≤ 8191 := ⟨X.1.2.2.1, X.1.2.2.2.1⟩
theorem VX.at {B : Nat → Nat} {c : Nat} {fs : Nat → Int32} (X : VX B c fs) (k : Nat) (h1 : 1 ≤ k) (h2 : k ≤ nn B) : 208 ≤ oa B k ∧ oa B k + 7 ≤ 65536 := by
  have a := X.1.2.2.2.2.2 k h1 h2
  have b := X.1.2.1
  exact ⟨a.2.2.1, by omega⟩
theorem VX.fp {B : Nat → Nat} {c : Nat} {fs : Nat → Int32} (X : VX B c fs) (k i : Nat) (h1 : 1 ≤ k) (h2 : k ≤ nn B) (hk : kd B k ≠ 1) (hi : i < sz B k) : oa B k + 7 + 4 * i + 4 ≤ 65536 := by
  have a := X.1.2.2.2.2.2 k h1 h2
  have b := X.1.2.1
  have e : bl B (oa B k) = 4 * sz B k := bl_0 hk
  omega
theorem VX.bp {B : Nat → Nat} {c : Nat} {fs : Nat → Int32} (X : VX B c fs) (k i : Nat) (h1 : 1 ≤ k) (h2 : k ≤ nn B) (hk : kd B k = 1) (hi : i < sz B k) : oa B k + 7 + i + 1 ≤ 65536 := by
  have a := X.1.2.2.2.2.2 k h1 h2
  have b := X.1.2.1
  have e : bl B (oa B k) = sz B k := bl_1 hk
  omega
theorem VX.k0 {B : Nat → Nat} {c : Nat} {fs : Nat → Int32} (X : VX B c fs) {k : Nat} (h1 : 1 ≤ k) (h2 : k ≤ nn B) (hk : kd B k ≠ 1) : kd B k = 0 := by
  have a := (X.1.2.2.2.2.2 k h1 h2).2.1
  omega
theorem VX.fv {B : Nat → Nat} {c : Nat} {fs : Nat → Int32} (X : VX B c fs) {k i : Nat} (h1 : 1 ≤ k) (h2 : k ≤ nn B) (hk : kd B k ≠ 1) (hi : i < sz B k) : vl (nn B) (fd B k i) := (X.1.2.2.2.2.2 k h1 h2).2.2.2.2 (X.k0 h1 h2 hk) i hi
theorem VX.cv {B : Nat → Nat} {c : Nat} {fs : Nat → Int32} (X : VX B c fs) {k : Nat} (h1 : 1 ≤ k) (h2 : k ≤ nn B) : vl (nn B) (cl B k) := (X.1.2.2.2.2.2 k h1 h2).1
theorem VX.sv {B : Nat → Nat} {c : Nat} {fs : Nat → Int32} (X : VX B c fs) {k : Nat} (h : k < 50) : vl (nn B) (sp B k) := X.1.2.2.2.2.1 k h
/-- of a value that is an object -/
theorem ob_of {n u : Nat} (hv : vl n u) (ho : ob u ≠ 0) : u % 2 = 0 ∧ 0 < u ∧ u ≤ 2 * n ∧ ob u = u / 2 ∧ 1 ≤ ob u ∧ ob u ≤ n := by
  obtain ⟨e1, e2⟩ := ob_ne.mp ho
  have e3 := ob_e e1
  rcases hv with h | h
  · omega
  · omega
theorem vl_e {n u : Nat} (hv : vl n u) (hn : n ≤ 8191) : u % 2 = 0 → u < 2147483648 := by
  intro h
  rcases hv with q | q <;> omega
end
section
set_option maxHeartbeats 4000000 in
theorem c_M_isObject {tb : Nat → Nat} {h : AH} (u : Nat) (hu : u < 4294967296) (he : u % 2 = 0 → u < 2147483648) : AM tb y_M_isObject b_M_isObject 1 (some .boolean) 0 0 [.int (nI u)] h 0 0 (av_Pi (bP (ob u ≠ 0)) h) := by
  refine am_of (ini := false) [some (.int (nI u))] (by decide) (fun z => by cases z) (Nat.le_of_ble_eq_true rfl) rfl ?_
  refine aw_iload_n d_M_isObject_0 rfl ?_
  refine aw_if_le (tgt := 14) d_M_isObject_1 (by decide) (fun c_1 => ?_) (fun c_1 => ?_)
  · rw [w_le hu] at c_1
    refine aw_iconst (v := nI 0) d_M_isObject_14 (by decide) ?_
    exact aw_iret d_M_isObject_15 rfl nar0 (rt_f (by rw [ob_ne]; omega))
  · rw [w_le hu] at c_1
    refine aw_iload_n d_M_isObject_4 rfl ?_
    refine aw_iconst (v := nI 1) d_M_isObject_5 (by decide) ?_
    refine aw_iand (v := nI (u % 2)) d_M_isObject_6 (and_1 _) ?_
    refine aw_if_ne (tgt := 14) d_M_isObject_7 (by decide) (fun c_7 => ?_) (fun c_7 => ?_)
    · rw [w_eq0 (by omega)] at c_7
      refine aw_iconst (v := nI 0) d_M_isObject_14 (by decide) ?_
      exact aw_iret d_M_isObject_15 rfl nar0 (rt_f (by rw [ob_ne]; omega))
    · rw [w_eq0 (by omega)] at c_7
      refine aw_iconst (v := nI 1) d_M_isObject_10 (by decide) ?_
      refine aw_goto (tgt := 15) d_M_isObject_11 (by decide) ?_
      exact aw_iret d_M_isObject_15 rfl nar1 (rt_t (by rw [ob_ne]; omega))

set_option maxHeartbeats 4000000 in
theorem c_M_isNumber {tb : Nat → Nat} {h : AH} (u : Nat) : AM tb y_M_isNumber b_M_isNumber 1 (some .boolean) 0 0 [.int (nI u)] h 0 0 (av_Pi (bP (u % 2 = 1)) h) := by
  refine am_of (ini := false) [some (.int (nI u))] (by decide) (fun z => by cases z) (Nat.le_of_ble_eq_true rfl) rfl ?_
  refine aw_iload_n d_M_isNumber_0 rfl ?_
  refine aw_iconst (v := nI 1) d_M_isNumber_1 (by decide) ?_
  refine aw_iand (v := nI (u % 2)) d_M_isNumber_2 (and_1 _) ?_
  refine aw_iconst (v := nI 1) d_M_isNumber_3 (by decide) ?_
  refine aw_icmp_ne (tgt := 11) d_M_isNumber_4 (by decide) (fun c_4 => ?_) (fun c_4 => ?_)
  · rw [w_eq (by omega) (by omega)] at c_4
    refine aw_iconst (v := nI 0) d_M_isNumber_11 (by decide) ?_
    exact aw_iret d_M_isNumber_12 rfl nar0 (rt_f (by omega))
  · rw [w_eq (by omega) (by omega)] at c_4
    refine aw_iconst (v := nI 1) d_M_isNumber_7 (by decide) ?_
    refine aw_goto (tgt := 12) d_M_isNumber_8 (by decide) ?_
    exact aw_iret d_M_isNumber_12 rfl nar1 (rt_t (by omega))

set_option maxHeartbeats 4000000 in
theorem c_M_isOfBytes {tb : Nat → Nat} {h : AH} {a Nn : Nat} {B : Nat → Nat} (hB_ : ∀ i, B i < 256) (hb : h a = some (.inl (1, Nn, .inl (bsf B)))) (hN : Nn ≤ 65536) (j : Nat) (hj : j + 4 < Nn) : AM tb y_M_isOfBytes b_M_isOfBytes 2 (some .boolean) 0 0 [.ref a, .int (nI j)] h 0 0 (av_Pi (bP (B (j + 4) = 1)) h) := by
  refine am_of (ini := false) [some (.ref a), some (.int (nI j))] (by decide) (fun z => by cases z) (Nat.le_of_ble_eq_true rfl) rfl ?_
  refine aw_aload_n d_M_isOfBytes_0 rfl ?_
  refine aw_iload_n d_M_isOfBytes_1 rfl ?_
  refine aw_iconst (v := nI 4) d_M_isOfBytes_2 (by decide) ?_
  refine aw_iadd (v := nI (j + 4)) d_M_isOfBytes_3 (nI_add _ _) ?_
  refine aw_bald (x := bs (B (j + 4))) d_M_isOfBytes_4 hb (vp_in_nI (by omega) (by omega)) (by rw [nI_clamp (by omega)]; rfl) ?_
  refine aw_iconst (v := nI 1) d_M_isOfBytes_5 (by decide) ?_
  refine aw_icmp_ne (tgt := 13) d_M_isOfBytes_6 (by decide) (fun c_6 => ?_) (fun c_6 => ?_)
  · rw [bs_inj _ (hB_ _) 1 (by decide)] at c_6
    refine aw_iconst (v := nI 0) d_M_isOfBytes_13 (by decide) ?_
    exact aw_iret d_M_isOfBytes_14 rfl nar0 (rt_f (by assumption))
  · rw [bs_inj _ (hB_ _) 1 (by decide)] at c_6
    refine aw_iconst (v := nI 1) d_M_isOfBytes_9 (by decide) ?_
    refine aw_goto (tgt := 14) d_M_isOfBytes_10 (by decide) ?_
    exact aw_iret d_M_isOfBytes_14 rfl nar1 (rt_t (by assumption))

set_option maxHeartbeats 4000000 in
theorem c_M_sizeAt {tb : Nat → Nat} {h : AH} {a Nn : Nat} {B : Nat → Nat} (hB_ : ∀ i, B i < 256) (hb : h a = some (.inl (1, Nn, .inl (bsf B)))) (hN : Nn ≤ 65536) (j : Nat) (hj : j + 6 < Nn) : AM tb y_M_sizeAt b_M_sizeAt 2 (some .int) 1 21 [.ref a, .int (nI j)] h 0 0 (av_Pi (nI (bh B (j + 5))) h) := by
  refine am_of (ini := false) [some (.ref a), some (.int (nI j))] (by decide) (fun z => by cases z) (Nat.le_of_ble_eq_true rfl) rfl ?_
  refine aw_aload_n d_M_sizeAt_0 rfl ?_
  refine aw_iload_n d_M_sizeAt_1 rfl ?_
  refine aw_iconst (v := nI 5) d_M_sizeAt_2 (by decide) ?_
  refine aw_iadd (v := nI (j + 5)) d_M_sizeAt_3 (nI_add _ _) ?_
  refine aw_callSi (mc2 := 0) (ms2 := 0) (r := nI (bh B (j + 5))) (As := [.ref a, .int (nI (j + 5))]) (rest := []) (c_M_half hB_ hb (by omega) (j + 5) (by omega)) cs_M_43 d_M_sizeAt_4 rfl rfl (Nat.le_of_ble_eq_true rfl) (by decide) (by decide) (by omega) (by omega) ?_
  have b_4 := bh_lt hB_ (j + 5)
  exact aw_iret d_M_sizeAt_7 rfl rfl ⟨rfl, rfl⟩

set_option maxHeartbeats 4000000 in
theorem c_M_fieldAt {tb : Nat → Nat} {h : AH} {a Nn : Nat} {B : Nat → Nat} (hB_ : ∀ i, B i < 256) (hb : h a = some (.inl (1, Nn, .inl (bsf B)))) (hN : Nn ≤ 65536) (j i : Nat) (hj : j + 7 + 4 * i + 3 < Nn) : AM tb y_M_fieldAt b_M_fieldAt 3 (some .int) 1 21 [.ref a, .int (nI j), .int (nI i)] h 0 0 (av_Pi (nI (bw B (j + 7 + 4 * i))) h) := by
  refine am_of (ini := false) [some (.ref a), some (.int (nI j)), some (.int (nI i))] (by decide) (fun z => by cases z) (Nat.le_of_ble_eq_true rfl) rfl ?_
  refine aw_aload_n d_M_fieldAt_0 rfl ?_
  refine aw_iload_n d_M_fieldAt_1 rfl ?_
  refine aw_bipush (v := nI 7) d_M_fieldAt_2 (by decide) ?_
  refine aw_iadd (v := nI (j + 7)) d_M_fieldAt_4 (nI_add _ _) ?_
  refine aw_iconst (v := nI 4) d_M_fieldAt_5 (by decide) ?_
  refine aw_iload_n d_M_fieldAt_6 rfl ?_
  refine aw_imul (v := nI (4 * i)) d_M_fieldAt_7 (pk_mul _ _) ?_
  refine aw_iadd (v := nI (j + 7 + 4 * i)) d_M_fieldAt_8 (nI_add _ _) ?_
  refine aw_callSi (mc2 := 0) (ms2 := 0) (r := nI (bw B (j + 7 + 4 * i))) (As := [.ref a, .int (nI (j + 7 + 4 * i))]) (rest := []) (c_M_word hB_ hb (by omega) (j + 7 + 4 * i) (by omega)) cs_M_47 d_M_fieldAt_9 rfl rfl (Nat.le_of_ble_eq_true rfl) (by decide) (by decide) (by omega) (by omega) ?_
  have b_9 := bw_lt hB_ (j + 7 + 4 * i)
  exact aw_iret d_M_fieldAt_12 rfl rfl ⟨rfl, rfl⟩

set_option maxHeartbeats 4000000 in
theorem c_M_endAt {tb : Nat → Nat} {h : AH} {a Nn : Nat} {B : Nat → Nat} (hB_ : ∀ i, B i < 256) (hb : h a = some (.inl (1, Nn, .inl (bsf B)))) (hN : Nn ≤ 65536) (j : Nat) (hj : j + 6 < Nn) : AM tb y_M_endAt b_M_endAt 2 (some .int) 2 42 [.ref a, .int (nI j)] h 0 0 (av_Pi (nI (j + 7 + bl B j)) h) := by
  refine am_of (ini := false) [some (.ref a), some (.int (nI j))] (by decide) (fun z => by cases z) (Nat.le_of_ble_eq_true rfl) rfl ?_
  refine aw_iload_n d_M_endAt_0 rfl ?_
  refine aw_bipush (v := nI 7) d_M_endAt_1 (by decide) ?_
  refine aw_iadd (v := nI (j + 7)) d_M_endAt_3 (nI_add _ _) ?_
  refine aw_aload_n d_M_endAt_4 rfl ?_
  refine aw_iload_n d_M_endAt_5 rfl ?_
  refine aw_callSi (mc2 := 0) (ms2 := 0) (r := bP (B (j + 4) = 1)) (As := [.ref a, .int (nI j)]) (rest := [.int (nI (j + 7))]) (c_M_isOfBytes hB_ hb (by omega) j (by omega)) cs_M_50 d_M_endAt_6 rfl rfl (Nat.le_of_ble_eq_true rfl) (by decide) (by decide) (by omega) (by omega) ?_
  refine aw_if_eq (tgt := 16) d_M_endAt_9 (by decide) (fun c_9 => ?_) (fun c_9 => ?_)
  · rw [bP_eq0] at c_9
    refine aw_iconst (v := nI 4) d_M_endAt_16 (by decide) ?_
    refine aw_aload_n d_M_endAt_17 rfl ?_
    refine aw_iload_n d_M_endAt_18 rfl ?_
    refine aw_callSi (mc2 := 0) (ms2 := 0) (r := nI (bh B (j + 5))) (As := [.ref a, .int (nI j)]) (rest := [.int (nI 4), .int (nI (j + 7))]) (c_M_sizeAt hB_ hb (by omega) j (by omega)) cs_M_54 d_M_endAt_19 rfl rfl (Nat.le_of_ble_eq_true rfl) (by decide) (by decide) (by omega) (by omega) ?_
    have b_19 := bh_lt hB_ (j + 5)
    refine aw_imul (v := nI (4 * (bh B (j + 5)))) d_M_endAt_22 (pk_mul _ _) ?_
    refine aw_iadd (v := nI (j + 7 + 4 * (bh B (j + 5)))) d_M_endAt_23 (nI_add _ _) ?_
    exact aw_iret d_M_endAt_24 rfl rfl (rt_i (by unfold bl; simp [c_9]))
  · rw [bP_eq0, Classical.not_not] at c_9
    refine aw_iconst (v := nI 1) d_M_endAt_12 (by decide) ?_
    refine aw_goto (tgt := 17) d_M_endAt_13 (by decide) ?_
    refine aw_aload_n d_M_endAt_17 rfl ?_
    refine aw_iload_n d_M_endAt_18 rfl ?_
    refine aw_callSi (mc2 := 0) (ms2 := 0) (r := nI (bh B (j + 5))) (As := [.ref a, .int (nI j)]) (rest := [.int (nI 1), .int (nI (j + 7))]) (c_M_sizeAt hB_ hb (by omega) j (by omega)) cs_M_54 d_M_endAt_19 rfl rfl (Nat.le_of_ble_eq_true rfl) (by decide) (by decide) (by omega) (by omega) ?_
    have b_19 := bh_lt hB_ (j + 5)
    refine aw_imul (v := nI (1 * (bh B (j + 5)))) d_M_endAt_22 (pk_mul _ _) ?_
    refine aw_iadd (v := nI (j + 7 + 1 * (bh B (j + 5)))) d_M_endAt_23 (nI_add _ _) ?_
    exact aw_iret d_M_endAt_24 rfl rfl (rt_i (by unfold bl; simp [c_9]))
end
section
abbrev mO (cd : Int32) (ai cn am ln ak kl as_ aks ar an ab mn : Nat) : AE := .inr (5, [.int cd, .ref ai, .int (nI cn), .ref am, .int (nI ln), .ref ak, .int (nI kl), .ref as_, .ref aks, .ref ar, .ref an, .ref ab, .int (nI mn)])
set_option maxHeartbeats 4000000 in
theorem c_M_hasFields {tb : Nat → Nat} {h : AH} {m ai am ak as_ aks ar an ab cn ln kl mn c : Nat} {cd : Int32} {B : Nat → Nat} {fs : Nat → Int32} (hB_ : ∀ i, B i < 256) (hm : h m = some (mO cd ai cn am ln ak kl as_ aks ar an ab mn)) (hin : h ai = some (.inl (1, 65536, .inl (bsf B)))) (hst : h as_ = some (.inl (0, 8192, .inl fs))) (X : VX B c fs) (u : Nat) (hu : u < 4294967296) (hv : vl (nn B) u) (k : Nat) (hk : k < 2147483648) : AM tb y_M_hasFields b_M_hasFields 3 (some .boolean) 2 42 [.ref m, .int (nI u), .int (nI k)] h 0 0 (av_Pi (bP (HF B u k)) h) := by
  have hn := X.n
  have hnd : nn B = bh B 6 := rfl
  refine am_of (ini := false) [some (.ref m), some (.int (nI u)), some (.int (nI k))] (by decide) (fun z => by cases z) (Nat.le_of_ble_eq_true rfl) rfl ?_
  refine aw_iload_n d_M_hasFields_0 rfl ?_
  refine aw_callSi (mc2 := 0) (ms2 := 0) (r := bP (ob u ≠ 0)) (As := [.int (nI u)]) (rest := []) (c_M_isObject u (by omega) (vl_e hv X.n.2)) cs_M_57 d_M_hasFields_1 rfl rfl (Nat.le_of_ble_eq_true rfl) (by decide) (by decide) (by omega) (by omega) ?_
  refine aw_if_eq (tgt := 48) d_M_hasFields_4 (by decide) (fun c_4 => ?_) (fun c_4 => ?_)
  · rw [bP_eq0] at c_4
    refine aw_iconst (v := nI 0) d_M_hasFields_48 (by decide) ?_
    exact aw_iret d_M_hasFields_49 rfl nar0 (rt_f (by unfold HF; grind))
  · rw [bP_eq0, Classical.not_not] at c_4
    obtain ⟨e_1, e_2, e_3, e_4, e_5, e_6⟩ := ob_of hv c_4
    refine aw_aload_n d_M_hasFields_7 rfl ?_
    refine aw_get fl_M_8 d_M_hasFields_8 hm rfl ?_
    refine aw_aload_n d_M_hasFields_11 rfl ?_
    refine aw_get fl_M_20 d_M_hasFields_12 hm rfl ?_
    refine aw_iload_n d_M_hasFields_15 rfl ?_
    refine aw_iconst (v := nI 2) d_M_hasFields_16 (by decide) ?_
    refine aw_idiv (v := nI (u / 2)) d_M_hasFields_17 (by decide) (pk_div (by omega) (by decide) (by decide)) ?_
    refine aw_iald (x := nI (oa B (ob u))) d_M_hasFields_18 hst (vp_in_nI (by omega) (by omega)) (by rw [nI_clamp (by omega)]; rw [show u / 2 = ob u by omega]; exact X.2 _ (by omega) (by omega)) ?_
    have o_18 := X.at (ob u) (by omega) (by omega)
    refine aw_callSi (mc2 := 0) (ms2 := 0) (r := bP (kd B (ob u) = 1)) (As := [.ref ai, .int (nI (oa B (ob u)))]) (rest := []) (c_M_isOfBytes hB_ hin (by omega) (oa B (ob u)) (by omega)) cs_M_50 d_M_hasFields_19 rfl rfl (Nat.le_of_ble_eq_true rfl) (by decide) (by decide) (by omega) (by omega) ?_
    refine aw_if_ne (tgt := 48) d_M_hasFields_22 (by decide) (fun c_22 => ?_) (fun c_22 => ?_)
    · rw [bP_eq0, Classical.not_not] at c_22
      refine aw_iconst (v := nI 0) d_M_hasFields_48 (by decide) ?_
      exact aw_iret d_M_hasFields_49 rfl nar0 (rt_f (by unfold HF; grind))
    · rw [bP_eq0] at c_22
      refine aw_aload_n d_M_hasFields_25 rfl ?_
      refine aw_get fl_M_8 d_M_hasFields_26 hm rfl ?_
      refine aw_aload_n d_M_hasFields_29 rfl ?_
      refine aw_get fl_M_20 d_M_hasFields_30 hm rfl ?_
      refine aw_iload_n d_M_hasFields_33 rfl ?_
      refine aw_iconst (v := nI 2) d_M_hasFields_34 (by decide) ?_
      refine aw_idiv (v := nI (u / 2)) d_M_hasFields_35 (by decide) (pk_div (by omega) (by decide) (by decide)) ?_
      refine aw_iald (x := nI (oa B (ob u))) d_M_hasFields_36 hst (vp_in_nI (by omega) (by omega)) (by rw [nI_clamp (by omega)]; rw [show u / 2 = ob u by omega]; exact X.2 _ (by omega) (by omega)) ?_
      have o_36 := X.at (ob u) (by omega) (by omega)
      refine aw_callSi (mc2 := 0) (ms2 := 0) (r := nI (sz B (ob u))) (As := [.ref ai, .int (nI (oa B (ob u)))]) (rest := []) (c_M_sizeAt hB_ hin (by omega) (oa B (ob u)) (by omega)) cs_M_54 d_M_hasFields_37 rfl rfl (Nat.le_of_ble_eq_true rfl) (by decide) (by decide) (by omega) (by omega) ?_
      have b_37 := sz_lt hB_ (ob u)
      refine aw_iload_n d_M_hasFields_40 rfl ?_
      refine aw_icmp_lt (tgt := 48) d_M_hasFields_41 (by decide) (fun c_41 => ?_) (fun c_41 => ?_)
      · rw [nI_ltI (by omega) (by omega)] at c_41
        refine aw_iconst (v := nI 0) d_M_hasFields_48 (by decide) ?_
        exact aw_iret d_M_hasFields_49 rfl nar0 (rt_f (by unfold HF; grind))
      · rw [nI_ltI (by omega) (by omega)] at c_41
        refine aw_iconst (v := nI 1) d_M_hasFields_44 (by decide) ?_
        refine aw_goto (tgt := 49) d_M_hasFields_45 (by decide) ?_
        exact aw_iret d_M_hasFields_49 rfl nar1 (rt_t (by unfold HF; grind))

set_option maxHeartbeats 4000000 in
theorem c_M_fieldOf {tb : Nat → Nat} {h : AH} {m ai am ak as_ aks ar an ab cn ln kl mn c : Nat} {cd : Int32} {B : Nat → Nat} {fs : Nat → Int32} (hB_ : ∀ i, B i < 256) (hm : h m = some (mO cd ai cn am ln ak kl as_ aks ar an ab mn)) (hin : h ai = some (.inl (1, 65536, .inl (bsf B)))) (hst : h as_ = some (.inl (0, 8192, .inl fs))) (X : VX B c fs) (u : Nat) (hu : u < 4294967296) (hv : vl (nn B) u) (i : Nat) (ho : ob u ≠ 0) (hk : kd B (ob u) ≠ 1) (hi : i < sz B (ob u)) : AM tb y_M_fieldOf b_M_fieldOf 3 (some .int) 2 43 [.ref m, .int (nI u), .int (nI i)] h 0 0 (av_Pi (nI (fd B (ob u) i)) h) := by
  have hn := X.n
  have hnd : nn B = bh B 6 := rfl
  obtain ⟨e_1, e_2, e_3, e_4, e_5, e_6⟩ := ob_of hv ho
  have hp := X.fp (ob u) i e_5 e_6 hk hi
  have hi2 := sz_lt hB_ (ob u)
  refine am_of (ini := false) [some (.ref m), some (.int (nI u)), some (.int (nI i))] (by decide) (fun z => by cases z) (Nat.le_of_ble_eq_true rfl) rfl ?_
  refine aw_aload_n d_M_fieldOf_0 rfl ?_
  refine aw_get fl_M_8 d_M_fieldOf_1 hm rfl ?_
  refine aw_aload_n d_M_fieldOf_4 rfl ?_
  refine aw_get fl_M_20 d_M_fieldOf_5 hm rfl ?_
  refine aw_iload_n d_M_fieldOf_8 rfl ?_
  refine aw_iconst (v := nI 2) d_M_fieldOf_9 (by decide) ?_
  refine aw_idiv (v := nI (u / 2)) d_M_fieldOf_10 (by decide) (pk_div (by omega) (by decide) (by decide)) ?_
  refine aw_iald (x := nI (oa B (ob u))) d_M_fieldOf_11 hst (vp_in_nI (by omega) (by omega)) (by rw [nI_clamp (by omega)]; rw [show u / 2 = ob u by omega]; exact X.2 _ (by omega) (by omega)) ?_
  have o_11 := X.at (ob u) (by omega) (by omega)
  refine aw_iload_n d_M_fieldOf_12 rfl ?_
  refine aw_callSi (mc2 := 0) (ms2 := 0) (r := nI (fd B (ob u) i)) (As := [.ref ai, .int (nI (oa B (ob u))), .int (nI i)]) (rest := []) (c_M_fieldAt hB_ hin (by omega) (oa B (ob u)) i (by omega)) cs_M_61 d_M_fieldOf_13 rfl rfl (Nat.le_of_ble_eq_true rfl) (by decide) (by decide) (by omega) (by omega) ?_
  have b_13 := fd_lt hB_ (ob u) i
  exact aw_iret d_M_fieldOf_16 rfl rfl ⟨rfl, rfl⟩

set_option maxHeartbeats 4000000 in
theorem c_M_isContext {tb : Nat → Nat} {h : AH} {m ai am ak as_ aks ar an ab cn ln kl mn c : Nat} {cd : Int32} {B : Nat → Nat} {fs : Nat → Int32} (hB_ : ∀ i, B i < 256) (hm : h m = some (mO cd ai cn am ln ak kl as_ aks ar an ab mn)) (hin : h ai = some (.inl (1, 65536, .inl (bsf B)))) (hst : h as_ = some (.inl (0, 8192, .inl fs))) (X : VX B c fs) (u : Nat) (hu : u < 4294967296) (hv : vl (nn B) u) : AM tb y_M_isContext b_M_isContext 3 (some .boolean) 2 42 [.ref m, .int (nI u)] h 0 0 (av_Pi (bP (CX B u)) h) := by
  have hn := X.n
  have hnd : nn B = bh B 6 := rfl
  refine am_of (ini := false) [some (.ref m), some (.int (nI u)), none] (by decide) (fun z => by cases z) (Nat.le_of_ble_eq_true rfl) rfl ?_
  refine aw_iload_n d_M_isContext_0 rfl ?_
  refine aw_callSi (mc2 := 0) (ms2 := 0) (r := bP (ob u ≠ 0)) (As := [.int (nI u)]) (rest := []) (c_M_isObject u (by omega) (vl_e hv X.n.2)) cs_M_57 d_M_isContext_1 rfl rfl (Nat.le_of_ble_eq_true rfl) (by decide) (by decide) (by omega) (by omega) ?_
  refine aw_if_ne (tgt := 9) d_M_isContext_4 (by decide) (fun c_4 => ?_) (fun c_4 => ?_)
  · rw [bP_eq0, Classical.not_not] at c_4
    obtain ⟨e_1, e_2, e_3, e_4, e_5, e_6⟩ := ob_of hv c_4
    refine aw_aload_n d_M_isContext_9 rfl ?_
    refine aw_get fl_M_8 d_M_isContext_10 hm rfl ?_
    refine aw_aload_n d_M_isContext_13 rfl ?_
    refine aw_get fl_M_20 d_M_isContext_14 hm rfl ?_
    refine aw_iload_n d_M_isContext_17 rfl ?_
    refine aw_iconst (v := nI 2) d_M_isContext_18 (by decide) ?_
    refine aw_idiv (v := nI (u / 2)) d_M_isContext_19 (by decide) (pk_div (by omega) (by decide) (by decide)) ?_
    refine aw_iald (x := nI (oa B (ob u))) d_M_isContext_20 hst (vp_in_nI (by omega) (by omega)) (by rw [nI_clamp (by omega)]; rw [show u / 2 = ob u by omega]; exact X.2 _ (by omega) (by omega)) ?_
    have o_20 := X.at (ob u) (by omega) (by omega)
    refine aw_callSi (mc2 := 0) (ms2 := 0) (r := nI (cl B (ob u))) (As := [.ref ai, .int (nI (oa B (ob u)))]) (rest := []) (c_M_word hB_ hin (by omega) (oa B (ob u)) (by omega)) cs_M_47 d_M_isContext_21 rfl rfl (Nat.le_of_ble_eq_true rfl) (by decide) (by decide) (by omega) (by omega) ?_
    have b_21 := cl_lt hB_ (ob u)
    refine aw_istore_n (L' := [some (.ref m), some (.int (nI u)), some (.int (nI (cl B (ob u))))]) d_M_isContext_24 (by decide) rfl rfl ?_
    refine aw_iload_n d_M_isContext_25 rfl ?_
    refine aw_aload_n d_M_isContext_26 rfl ?_
    refine aw_get fl_M_8 d_M_isContext_27 hm rfl ?_
    refine aw_bipush (v := nI 7) d_M_isContext_30 (by decide) ?_
    refine aw_callSi (mc2 := 0) (ms2 := 0) (r := nI (sp B 7)) (As := [.ref ai, .int (nI 7)]) (rest := [.int (nI (cl B (ob u)))]) (c_M_special_aBI hB_ hin (by omega) 7 (by omega)) cs_M_65 d_M_isContext_32 rfl rfl (Nat.le_of_ble_eq_true rfl) (by decide) (by decide) (by omega) (by omega) ?_
    have b_32 : sp B 7 < 4294967296 := bw_lt hB_ _
    refine aw_icmp_eq (tgt := 51) d_M_isContext_35 (by decide) (fun c_35 => ?_) (fun c_35 => ?_)
    · rw [w_eq (by omega) (by omega)] at c_35
      refine aw_iconst (v := nI 1) d_M_isContext_51 (by decide) ?_
      refine aw_goto (tgt := 56) d_M_isContext_52 (by decide) ?_
      exact aw_iret d_M_isContext_56 rfl nar1 (rt_t (by unfold CX; grind))
    · rw [w_eq (by omega) (by omega)] at c_35
      refine aw_iload_n d_M_isContext_38 rfl ?_
      refine aw_aload_n d_M_isContext_39 rfl ?_
      refine aw_get fl_M_8 d_M_isContext_40 hm rfl ?_
      refine aw_bipush (v := nI 8) d_M_isContext_43 (by decide) ?_
      refine aw_callSi (mc2 := 0) (ms2 := 0) (r := nI (sp B 8)) (As := [.ref ai, .int (nI 8)]) (rest := [.int (nI (cl B (ob u)))]) (c_M_special_aBI hB_ hin (by omega) 8 (by omega)) cs_M_65 d_M_isContext_45 rfl rfl (Nat.le_of_ble_eq_true rfl) (by decide) (by decide) (by omega) (by omega) ?_
      have b_45 : sp B 8 < 4294967296 := bw_lt hB_ _
      refine aw_icmp_ne (tgt := 55) d_M_isContext_48 (by decide) (fun c_48 => ?_) (fun c_48 => ?_)
      · rw [w_eq (by omega) (by omega)] at c_48
        refine aw_iconst (v := nI 0) d_M_isContext_55 (by decide) ?_
        exact aw_iret d_M_isContext_56 rfl nar0 (rt_f (by unfold CX; grind))
      · rw [w_eq (by omega) (by omega)] at c_48
        refine aw_iconst (v := nI 1) d_M_isContext_51 (by decide) ?_
        refine aw_goto (tgt := 56) d_M_isContext_52 (by decide) ?_
        exact aw_iret d_M_isContext_56 rfl nar1 (rt_t (by unfold CX; grind))
  · rw [bP_eq0] at c_4
    refine aw_iconst (v := nI 0) d_M_isContext_7 (by decide) ?_
    exact aw_iret d_M_isContext_8 rfl nar0 (rt_f (by unfold CX; grind))
end
section
set_option maxHeartbeats 4000000 in
theorem c_M_isClass {tb : Nat → Nat} {h : AH} {m ai am ak as_ aks ar an ab cn ln kl mn c : Nat} {cd : Int32} {B : Nat → Nat} {fs : Nat → Int32} (hB_ : ∀ i, B i < 256) (hm : h m = some (mO cd ai cn am ln ak kl as_ aks ar an ab mn)) (hin : h ai = some (.inl (1, 65536, .inl (bsf B)))) (hst : h as_ = some (.inl (0, 8192, .inl fs))) (X : VX B c fs) (u : Nat) (hu : u < 4294967296) (hv : vl (nn B) u) : AM tb y_M_isClass b_M_isClass 5 (some .boolean) 3 65 [.ref m, .int (nI u)] h 0 0 (av_Pi (bP (CL B u)) h) := by
  have hn := X.n
  have hnd : nn B = bh B 6 := rfl
  refine am_of (ini := false) [some (.ref m), some (.int (nI u)), none, none, none] (by decide) (fun z => by cases z) (Nat.le_of_ble_eq_true rfl) rfl ?_
  refine aw_aload_n d_M_isClass_0 rfl ?_
  refine aw_iload_n d_M_isClass_1 rfl ?_
  refine aw_iconst (v := nI 3) d_M_isClass_2 (by decide) ?_
  refine aw_callVi (mc2 := 0) (ms2 := 0) (r := bP (HF B u 3)) (As := [.int (nI u), .int (nI 3)]) (rest := []) (c_M_hasFields hB_ hm hin hst X u (by omega) hv 3 (by omega)) cv_M_68 d_M_isClass_3 hm rfl rfl rfl (Nat.le_of_ble_eq_true rfl) (by decide) (by decide) (by omega) (by omega) ?_
  refine aw_if_ne (tgt := 11) d_M_isClass_6 (by decide) (fun c_6 => ?_) (fun c_6 => ?_)
  · rw [bP_eq0, Classical.not_not] at c_6
    refine aw_aload_n d_M_isClass_11 rfl ?_
    refine aw_iload_n d_M_isClass_12 rfl ?_
    refine aw_iconst (v := nI 2) d_M_isClass_13 (by decide) ?_
    refine aw_callVi (mc2 := 0) (ms2 := 0) (r := nI (fd B (ob u) 2)) (As := [.int (nI u), .int (nI 2)]) (rest := []) (c_M_fieldOf hB_ hm hin hst X u (by omega) hv 2 (c_6.1) (c_6.2.1) (by have q_ := c_6.2.2; omega)) cv_M_72 d_M_isClass_14 hm rfl rfl rfl (Nat.le_of_ble_eq_true rfl) (by decide) (by decide) (by omega) (by omega) ?_
    have b_14 := fd_lt hB_ (ob u) 2
    refine aw_istore_n (L' := [some (.ref m), some (.int (nI u)), some (.int (nI (fd B (ob u) 2))), none, none]) d_M_isClass_17 (by decide) rfl rfl ?_
    refine aw_iload_n d_M_isClass_18 rfl ?_
    refine aw_iconst (v := nI 1) d_M_isClass_19 (by decide) ?_
    refine aw_ishr (v := (nI (fd B (ob u) 2)) >>> ((nI 1) &&& 31)) d_M_isClass_20 rfl ?_
    refine aw_istore_n (L' := [some (.ref m), some (.int (nI u)), some (.int (nI (fd B (ob u) 2))), some (.int ((nI (fd B (ob u) 2)) >>> ((nI 1) &&& 31))), none]) d_M_isClass_21 (by decide) rfl rfl ?_
    refine aw_iload_n d_M_isClass_22 rfl ?_
    refine aw_callSi (mc2 := 0) (ms2 := 0) (r := bP ((fd B (ob u) 2) % 2 = 1)) (As := [.int (nI (fd B (ob u) 2))]) (rest := []) (c_M_isNumber (fd B (ob u) 2)) cs_M_76 d_M_isClass_23 rfl rfl (Nat.le_of_ble_eq_true rfl) (by decide) (by decide) (by omega) (by omega) ?_
    refine aw_if_eq (tgt := 52) d_M_isClass_26 (by decide) (fun c_26 => ?_) (fun c_26 => ?_)
    · rw [bP_eq0] at c_26
      refine aw_iconst (v := nI 0) d_M_isClass_52 (by decide) ?_
      refine aw_istore (L' := [some (.ref m), some (.int (nI u)), some (.int (nI (fd B (ob u) 2))), some (.int ((nI (fd B (ob u) 2)) >>> ((nI 1) &&& 31))), some (.int (nI 0))]) d_M_isClass_53 (by decide) rfl rfl ?_
      refine aw_iload d_M_isClass_55 rfl ?_
      refine aw_if_eq (tgt := 87) d_M_isClass_57 (by decide) (fun _ => ?_) (fun z => absurd (by decide) z)
      refine aw_iconst (v := nI 0) d_M_isClass_87 (by decide) ?_
      exact aw_iret d_M_isClass_88 rfl nar0 (rt_f (by unfold CL shp; first | exact fun q => c_6 q.1 | (intro q; have q2 := q.2; omega)))
    · rw [bP_eq0, Classical.not_not] at c_26
      refine aw_iload_n d_M_isClass_29 rfl ?_
      refine aw_if_lt (tgt := 52) d_M_isClass_30 (by decide) (fun c_30 => ?_) (fun c_30 => ?_)
      · rw [w_lt0 (by omega)] at c_30
        refine aw_iconst (v := nI 0) d_M_isClass_52 (by decide) ?_
        refine aw_istore (L' := [some (.ref m), some (.int (nI u)), some (.int (nI (fd B (ob u) 2))), some (.int ((nI (fd B (ob u) 2)) >>> ((nI 1) &&& 31))), some (.int (nI 0))]) d_M_isClass_53 (by decide) rfl rfl ?_
        refine aw_iload d_M_isClass_55 rfl ?_
        refine aw_if_eq (tgt := 87) d_M_isClass_57 (by decide) (fun _ => ?_) (fun z => absurd (by decide) z)
        refine aw_iconst (v := nI 0) d_M_isClass_87 (by decide) ?_
        exact aw_iret d_M_isClass_88 rfl nar0 (rt_f (by unfold CL shp; first | exact fun q => c_6 q.1 | (intro q; have q2 := q.2; omega)))
      · rw [w_lt0 (by omega)] at c_30
        rw [w_shr1N (by omega)]
        refine aw_iload_n d_M_isClass_33 rfl ?_
        refine aw_sipush (v := nI 4096) d_M_isClass_34 (by decide) ?_
        refine aw_icmp_ge (tgt := 52) d_M_isClass_37 (by decide) (fun c_37 => ?_) (fun c_37 => ?_)
        · rw [nI_leI (by omega) (by omega)] at c_37
          refine aw_iconst (v := nI 0) d_M_isClass_52 (by decide) ?_
          refine aw_istore (L' := [some (.ref m), some (.int (nI u)), some (.int (nI (fd B (ob u) 2))), some (.int (nI (fd B (ob u) 2 / 2))), some (.int (nI 0))]) d_M_isClass_53 (by decide) rfl rfl ?_
          refine aw_iload d_M_isClass_55 rfl ?_
          refine aw_if_eq (tgt := 87) d_M_isClass_57 (by decide) (fun _ => ?_) (fun z => absurd (by decide) z)
          refine aw_iconst (v := nI 0) d_M_isClass_87 (by decide) ?_
          exact aw_iret d_M_isClass_88 rfl nar0 (rt_f (by unfold CL shp; first | exact fun q => c_6 q.1 | (intro q; have q2 := q.2; omega)))
        · rw [nI_leI (by omega) (by omega)] at c_37
          refine aw_iload_n d_M_isClass_40 rfl ?_
          refine aw_sipush (v := nI 768) d_M_isClass_41 (by decide) ?_
          refine aw_iand (v := nI (fd B (ob u) 2 / 2) &&& nI 768) d_M_isClass_44 rfl ?_
          refine aw_if_ne (tgt := 52) d_M_isClass_45 (by decide) (fun c_45 => ?_) (fun c_45 => ?_)
          · rw [and_768 _ (by omega)] at c_45
            refine aw_iconst (v := nI 0) d_M_isClass_52 (by decide) ?_
            refine aw_istore (L' := [some (.ref m), some (.int (nI u)), some (.int (nI (fd B (ob u) 2))), some (.int (nI (fd B (ob u) 2 / 2))), some (.int (nI 0))]) d_M_isClass_53 (by decide) rfl rfl ?_
            refine aw_iload d_M_isClass_55 rfl ?_
            refine aw_if_eq (tgt := 87) d_M_isClass_57 (by decide) (fun _ => ?_) (fun z => absurd (by decide) z)
            refine aw_iconst (v := nI 0) d_M_isClass_87 (by decide) ?_
            exact aw_iret d_M_isClass_88 rfl nar0 (rt_f (by unfold CL shp; first | exact fun q => c_6 q.1 | (intro q; have q2 := q.2; omega)))
          · rw [and_768 _ (by omega)] at c_45
            refine aw_iconst (v := nI 1) d_M_isClass_48 (by decide) ?_
            refine aw_goto (tgt := 53) d_M_isClass_49 (by decide) ?_
            refine aw_istore (L' := [some (.ref m), some (.int (nI u)), some (.int (nI (fd B (ob u) 2))), some (.int (nI (fd B (ob u) 2 / 2))), some (.int (nI 1))]) d_M_isClass_53 (by decide) rfl rfl ?_
            refine aw_iload d_M_isClass_55 rfl ?_
            refine aw_if_eq (tgt := 87) d_M_isClass_57 (by decide) (fun z => absurd z (by decide)) (fun _ => ?_)
            refine aw_iload_n d_M_isClass_60 rfl ?_
            refine aw_sipush (v := nI 2048) d_M_isClass_61 (by decide) ?_
            refine aw_icmp_lt (tgt := 83) d_M_isClass_64 (by decide) (fun c_64 => ?_) (fun c_64 => ?_)
            · rw [nI_ltI (by omega) (by omega)] at c_64
              refine aw_iconst (v := nI 1) d_M_isClass_83 (by decide) ?_
              refine aw_goto (tgt := 88) d_M_isClass_84 (by decide) ?_
              exact aw_iret d_M_isClass_88 rfl nar1 (rt_t (by exact ⟨c_6, by unfold shp; omega⟩))
            · rw [nI_ltI (by omega) (by omega)] at c_64
              refine aw_iload_n d_M_isClass_67 rfl ?_
              refine aw_sipush (v := nI 255) d_M_isClass_68 (by decide) ?_
              refine aw_iand (v := nI ((fd B (ob u) 2 / 2) % 256)) d_M_isClass_71 (and_255 _) ?_
              refine aw_if_ne (tgt := 87) d_M_isClass_72 (by decide) (fun c_72 => ?_) (fun c_72 => ?_)
              · rw [w_eq0 (by omega)] at c_72
                refine aw_iconst (v := nI 0) d_M_isClass_87 (by decide) ?_
                exact aw_iret d_M_isClass_88 rfl nar0 (rt_f (by unfold CL shp; first | exact fun q => c_6 q.1 | (intro q; have q2 := q.2; omega)))
              · rw [w_eq0 (by omega)] at c_72
                refine aw_iload_n d_M_isClass_75 rfl ?_
                refine aw_sipush (v := nI 1024) d_M_isClass_76 (by decide) ?_
                refine aw_iand (v := nI (fd B (ob u) 2 / 2) &&& nI 1024) d_M_isClass_79 rfl ?_
                refine aw_if_le (tgt := 87) d_M_isClass_80 (by decide) (fun c_80 => ?_) (fun c_80 => ?_)
                · rw [and_1024 _ (by omega)] at c_80
                  refine aw_iconst (v := nI 0) d_M_isClass_87 (by decide) ?_
                  exact aw_iret d_M_isClass_88 rfl nar0 (rt_f (by unfold CL shp; first | exact fun q => c_6 q.1 | (intro q; have q2 := q.2; omega)))
                · rw [and_1024 _ (by omega)] at c_80
                  refine aw_iconst (v := nI 1) d_M_isClass_83 (by decide) ?_
                  refine aw_goto (tgt := 88) d_M_isClass_84 (by decide) ?_
                  exact aw_iret d_M_isClass_88 rfl nar1 (rt_t (by exact ⟨c_6, by unfold shp; omega⟩))
  · rw [bP_eq0] at c_6
    refine aw_iconst (v := nI 0) d_M_isClass_9 (by decide) ?_
    exact aw_iret d_M_isClass_10 rfl nar0 (rt_f (by unfold CL shp; first | exact fun q => c_6 q.1 | (intro q; have q2 := q.2; omega)))

set_option maxHeartbeats 4000000 in
theorem c_M_isMethod {tb : Nat → Nat} {h : AH} {m ai am ak as_ aks ar an ab cn ln kl mn c : Nat} {cd : Int32} {B : Nat → Nat} {fs : Nat → Int32} (hB_ : ∀ i, B i < 256) (hm : h m = some (mO cd ai cn am ln ak kl as_ aks ar an ab mn)) (hin : h ai = some (.inl (1, 65536, .inl (bsf B)))) (hst : h as_ = some (.inl (0, 8192, .inl fs))) (X : VX B c fs) (u : Nat) (hu : u < 4294967296) (hv : vl (nn B) u) : AM tb y_M_isMethod b_M_isMethod 5 (some .boolean) 3 65 [.ref m, .int (nI u)] h 0 0 (av_Pi (bP (ME B u)) h) := by
  have hn := X.n
  have hnd : nn B = bh B 6 := rfl
  refine am_of (ini := false) [some (.ref m), some (.int (nI u)), none, none, none] (by decide) (fun z => by cases z) (Nat.le_of_ble_eq_true rfl) rfl ?_
  refine aw_aload_n d_M_isMethod_0 rfl ?_
  refine aw_iload_n d_M_isMethod_1 rfl ?_
  refine aw_iconst (v := nI 2) d_M_isMethod_2 (by decide) ?_
  refine aw_callVi (mc2 := 0) (ms2 := 0) (r := bP (HF B u 2)) (As := [.int (nI u), .int (nI 2)]) (rest := []) (c_M_hasFields hB_ hm hin hst X u (by omega) hv 2 (by omega)) cv_M_68 d_M_isMethod_3 hm rfl rfl rfl (Nat.le_of_ble_eq_true rfl) (by decide) (by decide) (by omega) (by omega) ?_
  refine aw_if_ne (tgt := 11) d_M_isMethod_6 (by decide) (fun c_6 => ?_) (fun c_6 => ?_)
  · rw [bP_eq0, Classical.not_not] at c_6
    have hv1 : vl (nn B) (fd B (ob u) 1) := X.fv (ob_of hv c_6.1).2.2.2.2.1 (ob_of hv c_6.1).2.2.2.2.2 c_6.2.1 (by have q_ := c_6.2.2; omega)
    refine aw_aload_n d_M_isMethod_11 rfl ?_
    refine aw_iload_n d_M_isMethod_12 rfl ?_
    refine aw_iconst (v := nI 0) d_M_isMethod_13 (by decide) ?_
    refine aw_callVi (mc2 := 0) (ms2 := 0) (r := nI (fd B (ob u) 0)) (As := [.int (nI u), .int (nI 0)]) (rest := []) (c_M_fieldOf hB_ hm hin hst X u (by omega) hv 0 (c_6.1) (c_6.2.1) (by have q_ := c_6.2.2; omega)) cv_M_72 d_M_isMethod_14 hm rfl rfl rfl (Nat.le_of_ble_eq_true rfl) (by decide) (by decide) (by omega) (by omega) ?_
    have b_14 := fd_lt hB_ (ob u) 0
    refine aw_iconst (v := nI 1) d_M_isMethod_17 (by decide) ?_
    refine aw_ishr (v := (nI (fd B (ob u) 0)) >>> ((nI 1) &&& 31)) d_M_isMethod_18 rfl ?_
    refine aw_istore_n (L' := [some (.ref m), some (.int (nI u)), some (.int ((nI (fd B (ob u) 0)) >>> ((nI 1) &&& 31))), none, none]) d_M_isMethod_19 (by decide) rfl rfl ?_
    refine aw_aload_n d_M_isMethod_20 rfl ?_
    refine aw_iload_n d_M_isMethod_21 rfl ?_
    refine aw_iconst (v := nI 1) d_M_isMethod_22 (by decide) ?_
    refine aw_callVi (mc2 := 0) (ms2 := 0) (r := nI (fd B (ob u) 1)) (As := [.int (nI u), .int (nI 1)]) (rest := []) (c_M_fieldOf hB_ hm hin hst X u (by omega) hv 1 (c_6.1) (c_6.2.1) (by have q_ := c_6.2.2; omega)) cv_M_72 d_M_isMethod_23 hm rfl rfl rfl (Nat.le_of_ble_eq_true rfl) (by decide) (by decide) (by omega) (by omega) ?_
    have b_23 := fd_lt hB_ (ob u) 1
    refine aw_istore_n (L' := [some (.ref m), some (.int (nI u)), some (.int ((nI (fd B (ob u) 0)) >>> ((nI 1) &&& 31))), some (.int (nI (fd B (ob u) 1))), none]) d_M_isMethod_26 (by decide) rfl rfl ?_
    refine aw_aload_n d_M_isMethod_27 rfl ?_
    refine aw_iload_n d_M_isMethod_28 rfl ?_
    refine aw_iconst (v := nI 0) d_M_isMethod_29 (by decide) ?_
    refine aw_callVi (mc2 := 0) (ms2 := 0) (r := nI (fd B (ob u) 0)) (As := [.int (nI u), .int (nI 0)]) (rest := []) (c_M_fieldOf hB_ hm hin hst X u (by omega) hv 0 (c_6.1) (c_6.2.1) (by have q_ := c_6.2.2; omega)) cv_M_72 d_M_isMethod_30 hm rfl rfl rfl (Nat.le_of_ble_eq_true rfl) (by decide) (by decide) (by omega) (by omega) ?_
    have b_30 := fd_lt hB_ (ob u) 0
    refine aw_callSi (mc2 := 0) (ms2 := 0) (r := bP ((fd B (ob u) 0) % 2 = 1)) (As := [.int (nI (fd B (ob u) 0))]) (rest := []) (c_M_isNumber (fd B (ob u) 0)) cs_M_76 d_M_isMethod_33 rfl rfl (Nat.le_of_ble_eq_true rfl) (by decide) (by decide) (by omega) (by omega) ?_
    refine aw_if_eq (tgt := 66) d_M_isMethod_36 (by decide) (fun c_36 => ?_) (fun c_36 => ?_)
    · rw [bP_eq0] at c_36
      refine aw_iconst (v := nI 0) d_M_isMethod_66 (by decide) ?_
      refine aw_istore (L' := [some (.ref m), some (.int (nI u)), some (.int ((nI (fd B (ob u) 0)) >>> ((nI 1) &&& 31))), some (.int (nI (fd B (ob u) 1))), some (.int (nI 0))]) d_M_isMethod_67 (by decide) rfl rfl ?_
      refine aw_iload d_M_isMethod_69 rfl ?_
      refine aw_if_eq (tgt := 103) d_M_isMethod_71 (by decide) (fun _ => ?_) (fun z => absurd (by decide) z)
      refine aw_iconst (v := nI 0) d_M_isMethod_103 (by decide) ?_
      exact aw_iret d_M_isMethod_104 rfl nar0 (rt_f (by unfold ME mh; first | exact fun q => c_6 q.1 | exact fun q => c_78 q.2.2.1 | exact fun q => c_96 q.2.2.2 | (intro q; have q2 := q.2.1; omega)))
    · rw [bP_eq0, Classical.not_not] at c_36
      refine aw_iload_n d_M_isMethod_39 rfl ?_
      refine aw_if_lt (tgt := 66) d_M_isMethod_40 (by decide) (fun c_40 => ?_) (fun c_40 => ?_)
      · rw [w_lt0 (by omega)] at c_40
        refine aw_iconst (v := nI 0) d_M_isMethod_66 (by decide) ?_
        refine aw_istore (L' := [some (.ref m), some (.int (nI u)), some (.int ((nI (fd B (ob u) 0)) >>> ((nI 1) &&& 31))), some (.int (nI (fd B (ob u) 1))), some (.int (nI 0))]) d_M_isMethod_67 (by decide) rfl rfl ?_
        refine aw_iload d_M_isMethod_69 rfl ?_
        refine aw_if_eq (tgt := 103) d_M_isMethod_71 (by decide) (fun _ => ?_) (fun z => absurd (by decide) z)
        refine aw_iconst (v := nI 0) d_M_isMethod_103 (by decide) ?_
        exact aw_iret d_M_isMethod_104 rfl nar0 (rt_f (by unfold ME mh; first | exact fun q => c_6 q.1 | exact fun q => c_78 q.2.2.1 | exact fun q => c_96 q.2.2.2 | (intro q; have q2 := q.2.1; omega)))
      · rw [w_lt0 (by omega)] at c_40
        rw [w_shr1N (by omega)]
        refine aw_iload_n d_M_isMethod_43 rfl ?_
        refine aw_ldc (v := nI 8388608) d_M_isMethod_44 tw_775 ?_
        refine aw_icmp_ge (tgt := 66) d_M_isMethod_46 (by decide) (fun c_46 => ?_) (fun c_46 => ?_)
        · rw [nI_leI (by omega) (by omega)] at c_46
          refine aw_iconst (v := nI 0) d_M_isMethod_66 (by decide) ?_
          refine aw_istore (L' := [some (.ref m), some (.int (nI u)), some (.int (nI (fd B (ob u) 0 / 2))), some (.int (nI (fd B (ob u) 1))), some (.int (nI 0))]) d_M_isMethod_67 (by decide) rfl rfl ?_
          refine aw_iload d_M_isMethod_69 rfl ?_
          refine aw_if_eq (tgt := 103) d_M_isMethod_71 (by decide) (fun _ => ?_) (fun z => absurd (by decide) z)
          refine aw_iconst (v := nI 0) d_M_isMethod_103 (by decide) ?_
          exact aw_iret d_M_isMethod_104 rfl nar0 (rt_f (by unfold ME mh; first | exact fun q => c_6 q.1 | exact fun q => c_78 q.2.2.1 | exact fun q => c_96 q.2.2.2 | (intro q; have q2 := q.2.1; omega)))
        · rw [nI_leI (by omega) (by omega)] at c_46
          refine aw_iload_n d_M_isMethod_49 rfl ?_
          refine aw_iconst (v := nI 4) d_M_isMethod_50 (by decide) ?_
          refine aw_ishr (v := nI ((fd B (ob u) 0 / 2) / 16)) d_M_isMethod_51 (pk_shrN (by omega) _ 4 (by decide)) ?_
          refine aw_bipush (v := nI 31) d_M_isMethod_52 (by decide) ?_
          refine aw_iand (v := nI (((fd B (ob u) 0 / 2) / 16) % 32)) d_M_isMethod_54 (and_31 _) ?_
          refine aw_iload_n d_M_isMethod_55 rfl ?_
          refine aw_bipush (v := nI 15) d_M_isMethod_56 (by decide) ?_
          refine aw_iand (v := nI ((fd B (ob u) 0 / 2) % 16)) d_M_isMethod_58 (and_15 _) ?_
          refine aw_icmp_lt (tgt := 66) d_M_isMethod_59 (by decide) (fun c_59 => ?_) (fun c_59 => ?_)
          · rw [nI_ltI (by omega) (by omega)] at c_59
            refine aw_iconst (v := nI 0) d_M_isMethod_66 (by decide) ?_
            refine aw_istore (L' := [some (.ref m), some (.int (nI u)), some (.int (nI (fd B (ob u) 0 / 2))), some (.int (nI (fd B (ob u) 1))), some (.int (nI 0))]) d_M_isMethod_67 (by decide) rfl rfl ?_
            refine aw_iload d_M_isMethod_69 rfl ?_
            refine aw_if_eq (tgt := 103) d_M_isMethod_71 (by decide) (fun _ => ?_) (fun z => absurd (by decide) z)
            refine aw_iconst (v := nI 0) d_M_isMethod_103 (by decide) ?_
            exact aw_iret d_M_isMethod_104 rfl nar0 (rt_f (by unfold ME mh; first | exact fun q => c_6 q.1 | exact fun q => c_78 q.2.2.1 | exact fun q => c_96 q.2.2.2 | (intro q; have q2 := q.2.1; omega)))
          · rw [nI_ltI (by omega) (by omega)] at c_59
            refine aw_iconst (v := nI 1) d_M_isMethod_62 (by decide) ?_
            refine aw_goto (tgt := 67) d_M_isMethod_63 (by decide) ?_
            refine aw_istore (L' := [some (.ref m), some (.int (nI u)), some (.int (nI (fd B (ob u) 0 / 2))), some (.int (nI (fd B (ob u) 1))), some (.int (nI 1))]) d_M_isMethod_67 (by decide) rfl rfl ?_
            refine aw_iload d_M_isMethod_69 rfl ?_
            refine aw_if_eq (tgt := 103) d_M_isMethod_71 (by decide) (fun z => absurd z (by decide)) (fun _ => ?_)
            refine aw_iload_n d_M_isMethod_74 rfl ?_
            refine aw_callSi (mc2 := 0) (ms2 := 0) (r := bP (ob (fd B (ob u) 1) ≠ 0)) (As := [.int (nI (fd B (ob u) 1))]) (rest := []) (c_M_isObject (fd B (ob u) 1) (by omega) (vl_e (X.fv (ob_of hv (c_6.1)).2.2.2.2.1 (ob_of hv (c_6.1)).2.2.2.2.2 (c_6.2.1) (by have q_ := c_6.2.2; omega)) X.n.2)) cs_M_57 d_M_isMethod_75 rfl rfl (Nat.le_of_ble_eq_true rfl) (by decide) (by decide) (by omega) (by omega) ?_
            refine aw_if_eq (tgt := 103) d_M_isMethod_78 (by decide) (fun c_78 => ?_) (fun c_78 => ?_)
            · rw [bP_eq0] at c_78
              refine aw_iconst (v := nI 0) d_M_isMethod_103 (by decide) ?_
              exact aw_iret d_M_isMethod_104 rfl nar0 (rt_f (by unfold ME mh; first | exact fun q => c_6 q.1 | exact fun q => c_78 q.2.2.1 | exact fun q => c_96 q.2.2.2 | (intro q; have q2 := q.2.1; omega)))
            · rw [bP_eq0, Classical.not_not] at c_78
              obtain ⟨e_1, e_2, e_3, e_4, e_5, e_6⟩ := ob_of hv1 c_78
              refine aw_aload_n d_M_isMethod_81 rfl ?_
              refine aw_get fl_M_8 d_M_isMethod_82 hm rfl ?_
              refine aw_aload_n d_M_isMethod_85 rfl ?_
              refine aw_get fl_M_20 d_M_isMethod_86 hm rfl ?_
              refine aw_iload_n d_M_isMethod_89 rfl ?_
              refine aw_iconst (v := nI 2) d_M_isMethod_90 (by decide) ?_
              refine aw_idiv (v := nI ((fd B (ob u) 1) / 2)) d_M_isMethod_91 (by decide) (pk_div (by omega) (by decide) (by decide)) ?_
              refine aw_iald (x := nI (oa B (ob (fd B (ob u) 1)))) d_M_isMethod_92 hst (vp_in_nI (by omega) (by omega)) (by rw [nI_clamp (by omega)]; rw [show (fd B (ob u) 1) / 2 = ob (fd B (ob u) 1) by omega]; exact X.2 _ (by omega) (by omega)) ?_
              have o_92 := X.at (ob (fd B (ob u) 1)) (by omega) (by omega)
              refine aw_callSi (mc2 := 0) (ms2 := 0) (r := bP (kd B (ob (fd B (ob u) 1)) = 1)) (As := [.ref ai, .int (nI (oa B (ob (fd B (ob u) 1))))]) (rest := []) (c_M_isOfBytes hB_ hin (by omega) (oa B (ob (fd B (ob u) 1))) (by omega)) cs_M_50 d_M_isMethod_93 rfl rfl (Nat.le_of_ble_eq_true rfl) (by decide) (by decide) (by omega) (by omega) ?_
              refine aw_if_eq (tgt := 103) d_M_isMethod_96 (by decide) (fun c_96 => ?_) (fun c_96 => ?_)
              · rw [bP_eq0] at c_96
                refine aw_iconst (v := nI 0) d_M_isMethod_103 (by decide) ?_
                exact aw_iret d_M_isMethod_104 rfl nar0 (rt_f (by unfold ME mh; first | exact fun q => c_6 q.1 | exact fun q => c_78 q.2.2.1 | exact fun q => c_96 q.2.2.2 | (intro q; have q2 := q.2.1; omega)))
              · rw [bP_eq0, Classical.not_not] at c_96
                refine aw_iconst (v := nI 1) d_M_isMethod_99 (by decide) ?_
                refine aw_goto (tgt := 104) d_M_isMethod_100 (by decide) ?_
                exact aw_iret d_M_isMethod_104 rfl nar1 (rt_t (by exact ⟨c_6, by unfold mh; omega, c_78, c_96⟩))
  · rw [bP_eq0] at c_6
    refine aw_iconst (v := nI 0) d_M_isMethod_9 (by decide) ?_
    exact aw_iret d_M_isMethod_10 rfl nar0 (rt_f (by unfold ME mh; first | exact fun q => c_6 q.1 | exact fun q => c_78 q.2.2.1 | exact fun q => c_96 q.2.2.2 | (intro q; have q2 := q.2.1; omega)))

set_option maxHeartbeats 4000000 in
theorem c_M_temporaries {tb : Nat → Nat} {h : AH} {m ai am ak as_ aks ar an ab cn ln kl mn c : Nat} {cd : Int32} {B : Nat → Nat} {fs : Nat → Int32} (hB_ : ∀ i, B i < 256) (hm : h m = some (mO cd ai cn am ln ak kl as_ aks ar an ab mn)) (hin : h ai = some (.inl (1, 65536, .inl (bsf B)))) (hst : h as_ = some (.inl (0, 8192, .inl fs))) (X : VX B c fs) (u : Nat) (hu : u < 4294967296) (hv : vl (nn B) u) (hq : ME B u) : AM tb y_M_temporaries b_M_temporaries 2 (some .int) 3 65 [.ref m, .int (nI u)] h 0 0 (av_Pi (nI (tm B u)) h) := by
  have hn := X.n
  have hnd : nn B = bh B 6 := rfl
  have hq2 := hq.2.1.2.1
  refine am_of (ini := false) [some (.ref m), some (.int (nI u))] (by decide) (fun z => by cases z) (Nat.le_of_ble_eq_true rfl) rfl ?_
  refine aw_aload_n d_M_temporaries_0 rfl ?_
  refine aw_iload_n d_M_temporaries_1 rfl ?_
  refine aw_iconst (v := nI 0) d_M_temporaries_2 (by decide) ?_
  refine aw_callVi (mc2 := 0) (ms2 := 0) (r := nI (fd B (ob u) 0)) (As := [.int (nI u), .int (nI 0)]) (rest := []) (c_M_fieldOf hB_ hm hin hst X u (by omega) hv 0 (hq.1.1) (hq.1.2.1) (by have q_ := hq.1.2.2; omega)) cv_M_72 d_M_temporaries_3 hm rfl rfl rfl (Nat.le_of_ble_eq_true rfl) (by decide) (by decide) (by omega) (by omega) ?_
  have b_3 := fd_lt hB_ (ob u) 0
  refine aw_iconst (v := nI 5) d_M_temporaries_6 (by decide) ?_
  refine aw_ishr (v := nI ((fd B (ob u) 0) / 32)) d_M_temporaries_7 (pk_shrN (by omega) _ 5 (by decide)) ?_
  refine aw_bipush (v := nI 31) d_M_temporaries_8 (by decide) ?_
  refine aw_iand (v := nI (((fd B (ob u) 0) / 32) % 32)) d_M_temporaries_10 (and_31 _) ?_
  exact aw_iret d_M_temporaries_11 rfl rfl (rt_i (by unfold tm; congr 1; omega))

set_option maxHeartbeats 4000000 in
theorem c_M_depth {tb : Nat → Nat} {h : AH} {m ai am ak as_ aks ar an ab cn ln kl mn c : Nat} {cd : Int32} {B : Nat → Nat} {fs : Nat → Int32} (hB_ : ∀ i, B i < 256) (hm : h m = some (mO cd ai cn am ln ak kl as_ aks ar an ab mn)) (hin : h ai = some (.inl (1, 65536, .inl (bsf B)))) (hst : h as_ = some (.inl (0, 8192, .inl fs))) (X : VX B c fs) (u : Nat) (hu : u < 4294967296) (hv : vl (nn B) u) (hq : ME B u) : AM tb y_M_depth b_M_depth 2 (some .int) 3 65 [.ref m, .int (nI u)] h 0 0 (av_Pi (nI (dp B u)) h) := by
  have hn := X.n
  have hnd : nn B = bh B 6 := rfl
  have hq2 := hq.2.1.2.1
  refine am_of (ini := false) [some (.ref m), some (.int (nI u))] (by decide) (fun z => by cases z) (Nat.le_of_ble_eq_true rfl) rfl ?_
  refine aw_aload_n d_M_depth_0 rfl ?_
  refine aw_iload_n d_M_depth_1 rfl ?_
  refine aw_iconst (v := nI 0) d_M_depth_2 (by decide) ?_
  refine aw_callVi (mc2 := 0) (ms2 := 0) (r := nI (fd B (ob u) 0)) (As := [.int (nI u), .int (nI 0)]) (rest := []) (c_M_fieldOf hB_ hm hin hst X u (by omega) hv 0 (hq.1.1) (hq.1.2.1) (by have q_ := hq.1.2.2; omega)) cv_M_72 d_M_depth_3 hm rfl rfl rfl (Nat.le_of_ble_eq_true rfl) (by decide) (by decide) (by omega) (by omega) ?_
  have b_3 := fd_lt hB_ (ob u) 0
  refine aw_bipush (v := nI 10) d_M_depth_6 (by decide) ?_
  refine aw_ishr (v := nI ((fd B (ob u) 0) / 1024)) d_M_depth_8 (pk_shrN (by omega) _ 10 (by decide)) ?_
  refine aw_bipush (v := nI 63) d_M_depth_9 (by decide) ?_
  refine aw_iand (v := nI (((fd B (ob u) 0) / 1024) % 64)) d_M_depth_11 (and_63 _) ?_
  exact aw_iret d_M_depth_12 rfl rfl (rt_i (by unfold dp; congr 1; omega))

set_option maxHeartbeats 4000000 in
theorem c_M_isNumberFrom {tb : Nat → Nat} {h : AH} {m : Nat} {e : AE} (hm : h m = some e) (u x y : Nat) (hu : u < 4294967296) (hx : x < 2147483648) (hy : y < 2147483648) : AM tb y_M_isNumberFrom b_M_isNumberFrom 4 (some .boolean) 1 20 [.ref m, .int (nI u), .int (nI x), .int (nI y)] h 0 0 (av_Pi (bP (NI u x y)) h) := by
  refine am_of (ini := false) [some (.ref m), some (.int (nI u)), some (.int (nI x)), some (.int (nI y))] (by decide) (fun z => by cases z) (Nat.le_of_ble_eq_true rfl) rfl ?_
  refine aw_iload_n d_M_isNumberFrom_0 rfl ?_
  refine aw_callSi (mc2 := 0) (ms2 := 0) (r := bP (u % 2 = 1)) (As := [.int (nI u)]) (rest := []) (c_M_isNumber u) cs_M_76 d_M_isNumberFrom_1 rfl rfl (Nat.le_of_ble_eq_true rfl) (by decide) (by decide) (by omega) (by omega) ?_
  refine aw_if_eq (tgt := 25) d_M_isNumberFrom_4 (by decide) (fun c_4 => ?_) (fun c_4 => ?_)
  · rw [bP_eq0] at c_4
    refine aw_iconst (v := nI 0) d_M_isNumberFrom_25 (by decide) ?_
    exact aw_iret d_M_isNumberFrom_26 rfl nar0 (rt_f (by unfold NI; omega))
  · rw [bP_eq0, Classical.not_not] at c_4
    refine aw_iload_n d_M_isNumberFrom_7 rfl ?_
    refine aw_iconst (v := nI 1) d_M_isNumberFrom_8 (by decide) ?_
    refine aw_ishr (v := (nI u) >>> ((nI 1) &&& 31)) d_M_isNumberFrom_9 rfl ?_
    refine aw_iload_n d_M_isNumberFrom_10 rfl ?_
    refine aw_icmp_lt (tgt := 25) d_M_isNumberFrom_11 (by decide) (fun c_11 => ?_) (fun c_11 => ?_)
    · rw [w_geL hu hx] at c_11
      refine aw_iconst (v := nI 0) d_M_isNumberFrom_25 (by decide) ?_
      exact aw_iret d_M_isNumberFrom_26 rfl nar0 (rt_f (by unfold NI; omega))
    · rw [w_geL hu hx] at c_11
      refine aw_iload_n d_M_isNumberFrom_14 rfl ?_
      refine aw_iconst (v := nI 1) d_M_isNumberFrom_15 (by decide) ?_
      refine aw_ishr (v := (nI u) >>> ((nI 1) &&& 31)) d_M_isNumberFrom_16 rfl ?_
      refine aw_iload_n d_M_isNumberFrom_17 rfl ?_
      refine aw_icmp_gt (tgt := 25) d_M_isNumberFrom_18 (by decide) (fun c_18 => ?_) (fun c_18 => ?_)
      · rw [w_leH hu hy] at c_18
        refine aw_iconst (v := nI 0) d_M_isNumberFrom_25 (by decide) ?_
        exact aw_iret d_M_isNumberFrom_26 rfl nar0 (rt_f (by unfold NI; omega))
      · rw [w_leH hu hy] at c_18
        refine aw_iconst (v := nI 1) d_M_isNumberFrom_21 (by decide) ?_
        refine aw_goto (tgt := 26) d_M_isNumberFrom_22 (by decide) ?_
        exact aw_iret d_M_isNumberFrom_26 rfl nar1 (rt_t (by unfold NI; omega))
end
section
theorem HF.mono {B : Nat → Nat} {u a b : Nat} (h : HF B u a) (hb : b ≤ a) : HF B u b := ⟨h.1, h.2.1, Nat.le_trans hb h.2.2⟩

set_option maxHeartbeats 4000000 in
theorem lp_M_isCommon {tb : Nat → Nat} {h : AH} {fr lo : Nat} {mc ms : Nat} (hfr : 3 ≤ fr) (hlo : 65 ≤ lo) {m ai am ak as_ aks ar an ab cn ln kl mn c : Nat} {cd : Int32} {B : Nat → Nat} {fs : Nat → Int32} (hB_ : ∀ i, B i < 256) (hm : h m = some (mO cd ai cn am ln ak kl as_ aks ar an ab mn)) (hin : h ai = some (.inl (1, 65536, .inl (bsf B)))) (hst : h as_ = some (.inl (0, 8192, .inl fs))) (X : VX B c fs) (u : Nat) (hu : u < 4294967296) (hv : vl (nn B) u) (f : Nat) (hq : HF B u 2) (hf : f ≤ sz B (ob u)) (hC : ((fd B (ob u) 0 = 0 ∨ CX B (fd B (ob u) 0)) ∧ (fd B (ob u) 1 = 0 ∨ NI (fd B (ob u) 1) 0 1073741823))) : ∀ (d : Nat) (i : Nat), f ≤ i → i ≤ sz B (ob u) → (∀ j, f ≤ j → j < i → fd B (ob u) j = 0) → sz B (ob u) < i + d → AW tb "ImageReaderModel" b_M_isCommon 7 (some .boolean) false none fr lo (av_Pi (bP (CO B (ob u) f)) h) 54 [some (.ref m), some (.int (nI u)), some (.int (nI f)), some (.int (nI (fd B (ob u) 0))), some (.int (nI (fd B (ob u) 1))), some (.int (nI 1)), some (.int (nI i))] [] h mc ms := by
  intro d
  induction d with
  | zero => intro i hfi his hz hd; omega
  | succ d ih =>
    intro i hfi his hz hd
    have hn := X.n
    have hnd : nn B = bh B 6 := rfl
    obtain ⟨e_1, e_2, e_3, e_4, e_5, e_6⟩ := ob_of hv hq.1
    have hs := sz_lt hB_ (ob u)
    refine aw_iload d_M_isCommon_54 rfl ?_
    refine aw_aload_n d_M_isCommon_56 rfl ?_
    refine aw_get fl_M_8 d_M_isCommon_57 hm rfl ?_
    refine aw_aload_n d_M_isCommon_60 rfl ?_
    refine aw_get fl_M_20 d_M_isCommon_61 hm rfl ?_
    refine aw_iload_n d_M_isCommon_64 rfl ?_
    refine aw_iconst (v := nI 2) d_M_isCommon_65 (by decide) ?_
    refine aw_idiv (v := nI (u / 2)) d_M_isCommon_66 (by decide) (pk_div (by omega) (by decide) (by decide)) ?_
    refine aw_iald (x := nI (oa B (ob u))) d_M_isCommon_67 hst (vp_in_nI (by omega) (by omega)) (by rw [nI_clamp (by omega)]; rw [show u / 2 = ob u by omega]; exact X.2 _ (by omega) (by omega)) ?_
    have o_67 := X.at (ob u) (by omega) (by omega)
    refine aw_callSi (mc2 := mc) (ms2 := ms) (r := nI (sz B (ob u))) (As := [.ref ai, .int (nI (oa B (ob u)))]) (rest := [.int (nI i)]) (c_M_sizeAt hB_ hin (by omega) (oa B (ob u)) (by omega)) cs_M_54 d_M_isCommon_68 rfl rfl (Nat.le_of_ble_eq_true rfl) (by omega) (by omega) (by omega) (by omega) ?_
    have b_68 := sz_lt hB_ (ob u)
    refine aw_icmp_ge (tgt := 102) d_M_isCommon_71 (by decide) (fun c_71 => ?_) (fun c_71 => ?_)
    · rw [nI_leI (by omega) (by omega)] at c_71
      have hx_ : sz B (ob u) ≤ i := c_71
      refine aw_iload d_M_isCommon_102 rfl ?_
      exact aw_iret d_M_isCommon_104 rfl nar1 (rt_t (by exact ⟨hC.1, hC.2, fun j h1 h2 => hz j h1 (by omega)⟩))
    · rw [nI_leI (by omega) (by omega)] at c_71
      have hi_ : i < sz B (ob u) := Nat.not_le.mp c_71
      refine aw_iload d_M_isCommon_74 rfl ?_
      refine aw_if_eq (tgt := 102) d_M_isCommon_76 (by decide) (fun z => absurd z (by decide)) (fun _ => ?_)
      refine aw_aload_n d_M_isCommon_79 rfl ?_
      refine aw_iload_n d_M_isCommon_80 rfl ?_
      refine aw_iload d_M_isCommon_81 rfl ?_
      refine aw_callVi (mc2 := mc) (ms2 := ms) (r := nI (fd B (ob u) i)) (As := [.int (nI u), .int (nI i)]) (rest := []) (c_M_fieldOf hB_ hm hin hst X u (by omega) hv i (hq.1) (hq.2.1) (hi_)) cv_M_72 d_M_isCommon_83 hm rfl rfl rfl (Nat.le_of_ble_eq_true rfl) (by omega) (by omega) (by omega) (by omega) ?_
      have b_83 := fd_lt hB_ (ob u) i
      refine aw_if_ne (tgt := 93) d_M_isCommon_86 (by decide) (fun c_86 => ?_) (fun c_86 => ?_)
      · rw [w_eq0 (by omega)] at c_86
        refine aw_iconst (v := nI 0) d_M_isCommon_93 (by decide) ?_
        refine aw_istore (L' := [some (.ref m), some (.int (nI u)), some (.int (nI f)), some (.int (nI (fd B (ob u) 0))), some (.int (nI (fd B (ob u) 1))), some (.int (nI 0)), some (.int (nI i))]) d_M_isCommon_94 (by decide) rfl rfl ?_
        refine aw_iinc (v := nI (i + 1)) (L' := [some (.ref m), some (.int (nI u)), some (.int (nI f)), some (.int (nI (fd B (ob u) 0))), some (.int (nI (fd B (ob u) 1))), some (.int (nI 0)), some (.int (nI (i + 1)))]) d_M_isCommon_96 rfl (nI_add i 1) (by decide) rfl rfl ?_
        refine aw_goto (tgt := 54) d_M_isCommon_99 (by decide) ?_
        refine aw_iload d_M_isCommon_54 rfl ?_
        refine aw_aload_n d_M_isCommon_56 rfl ?_
        refine aw_get fl_M_8 d_M_isCommon_57 hm rfl ?_
        refine aw_aload_n d_M_isCommon_60 rfl ?_
        refine aw_get fl_M_20 d_M_isCommon_61 hm rfl ?_
        refine aw_iload_n d_M_isCommon_64 rfl ?_
        refine aw_iconst (v := nI 2) d_M_isCommon_65 (by decide) ?_
        refine aw_idiv (v := nI (u / 2)) d_M_isCommon_66 (by decide) (pk_div (by omega) (by decide) (by decide)) ?_
        refine aw_iald (x := nI (oa B (ob u))) d_M_isCommon_67 hst (vp_in_nI (by omega) (by omega)) (by rw [nI_clamp (by omega)]; rw [show u / 2 = ob u by omega]; exact X.2 _ (by omega) (by omega)) ?_
        have o_67 := X.at (ob u) (by omega) (by omega)
        refine aw_callSi (mc2 := mc) (ms2 := ms) (r := nI (sz B (ob u))) (As := [.ref ai, .int (nI (oa B (ob u)))]) (rest := [.int (nI (i + 1))]) (c_M_sizeAt hB_ hin (by omega) (oa B (ob u)) (by omega)) cs_M_54 d_M_isCommon_68 rfl rfl (Nat.le_of_ble_eq_true rfl) (by omega) (by omega) (by omega) (by omega) ?_
        have b_68 := sz_lt hB_ (ob u)
        refine aw_icmp_ge (tgt := 102) d_M_isCommon_71 (by decide) (fun c_71 => ?_) (fun c_71 => ?_)
        · rw [nI_leI (by omega) (by omega)] at c_71
          refine aw_iload d_M_isCommon_102 rfl ?_
          exact aw_iret d_M_isCommon_104 rfl nar0 (rt_f (by exact fun q => c_86 (q.2.2 i hfi hi_)))
        · rw [nI_leI (by omega) (by omega)] at c_71
          refine aw_iload d_M_isCommon_74 rfl ?_
          refine aw_if_eq (tgt := 102) d_M_isCommon_76 (by decide) (fun _ => ?_) (fun z => absurd (by decide) z)
          refine aw_iload d_M_isCommon_102 rfl ?_
          exact aw_iret d_M_isCommon_104 rfl nar0 (rt_f (by exact fun q => c_86 (q.2.2 i hfi hi_)))
      · rw [w_eq0 (by omega)] at c_86
        refine aw_iconst (v := nI 1) d_M_isCommon_89 (by decide) ?_
        refine aw_goto (tgt := 94) d_M_isCommon_90 (by decide) ?_
        refine aw_istore (L' := [some (.ref m), some (.int (nI u)), some (.int (nI f)), some (.int (nI (fd B (ob u) 0))), some (.int (nI (fd B (ob u) 1))), some (.int (nI 1)), some (.int (nI i))]) d_M_isCommon_94 (by decide) rfl rfl ?_
        refine aw_iinc (v := nI (i + 1)) (L' := [some (.ref m), some (.int (nI u)), some (.int (nI f)), some (.int (nI (fd B (ob u) 0))), some (.int (nI (fd B (ob u) 1))), some (.int (nI 1)), some (.int (nI (i + 1)))]) d_M_isCommon_96 rfl (nI_add i 1) (by decide) rfl rfl ?_
        refine aw_goto (tgt := 54) d_M_isCommon_99 (by decide) ?_
        exact ih (i + 1) (by omega) (by omega) (fun j h1 h2 => by rcases Nat.lt_or_ge j i with z | z; exact hz j h1 z; exact (show j = i by omega) ▸ c_86) (by omega)

set_option maxHeartbeats 4000000 in
theorem c_M_isCommon {tb : Nat → Nat} {h : AH} {m ai am ak as_ aks ar an ab cn ln kl mn c : Nat} {cd : Int32} {B : Nat → Nat} {fs : Nat → Int32} (hB_ : ∀ i, B i < 256) (hm : h m = some (mO cd ai cn am ln ak kl as_ aks ar an ab mn)) (hin : h ai = some (.inl (1, 65536, .inl (bsf B)))) (hst : h as_ = some (.inl (0, 8192, .inl fs))) (X : VX B c fs) (u : Nat) (hu : u < 4294967296) (hv : vl (nn B) u) (f : Nat) (hq : HF B u 2) (hf : f ≤ sz B (ob u)) : AM tb y_M_isCommon b_M_isCommon 7 (some .boolean) 3 65 [.ref m, .int (nI u), .int (nI f)] h 0 0 (av_Pi (bP (CO B (ob u) f)) h) := by
  have hn := X.n
  have hnd : nn B = bh B 6 := rfl
  obtain ⟨e_1, e_2, e_3, e_4, e_5, e_6⟩ := ob_of hv hq.1
  have hs := sz_lt hB_ (ob u)
  refine am_of (ini := false) [some (.ref m), some (.int (nI u)), some (.int (nI f)), none, none, none, none] (by decide) (fun z => by cases z) (Nat.le_of_ble_eq_true rfl) rfl ?_
  refine aw_aload_n d_M_isCommon_0 rfl ?_
  refine aw_iload_n d_M_isCommon_1 rfl ?_
  refine aw_iconst (v := nI 0) d_M_isCommon_2 (by decide) ?_
  refine aw_callVi (mc2 := 0) (ms2 := 0) (r := nI (fd B (ob u) 0)) (As := [.int (nI u), .int (nI 0)]) (rest := []) (c_M_fieldOf hB_ hm hin hst X u (by omega) hv 0 (hq.1) (hq.2.1) (by have q_ := hq.2.2; omega)) cv_M_72 d_M_isCommon_3 hm rfl rfl rfl (Nat.le_of_ble_eq_true rfl) (by decide) (by decide) (by omega) (by omega) ?_
  have b_3 := fd_lt hB_ (ob u) 0
  refine aw_istore_n (L' := [some (.ref m), some (.int (nI u)), some (.int (nI f)), some (.int (nI (fd B (ob u) 0))), none, none, none]) d_M_isCommon_6 (by decide) rfl rfl ?_
  refine aw_aload_n d_M_isCommon_7 rfl ?_
  refine aw_iload_n d_M_isCommon_8 rfl ?_
  refine aw_iconst (v := nI 1) d_M_isCommon_9 (by decide) ?_
  refine aw_callVi (mc2 := 0) (ms2 := 0) (r := nI (fd B (ob u) 1)) (As := [.int (nI u), .int (nI 1)]) (rest := []) (c_M_fieldOf hB_ hm hin hst X u (by omega) hv 1 (hq.1) (hq.2.1) (by have q_ := hq.2.2; omega)) cv_M_72 d_M_isCommon_10 hm rfl rfl rfl (Nat.le_of_ble_eq_true rfl) (by decide) (by decide) (by omega) (by omega) ?_
  have b_10 := fd_lt hB_ (ob u) 1
  refine aw_istore (L' := [some (.ref m), some (.int (nI u)), some (.int (nI f)), some (.int (nI (fd B (ob u) 0))), some (.int (nI (fd B (ob u) 1))), none, none]) d_M_isCommon_13 (by decide) rfl rfl ?_
  refine aw_iload_n d_M_isCommon_15 rfl ?_
  refine aw_if_eq (tgt := 27) d_M_isCommon_16 (by decide) (fun c_16 => ?_) (fun c_16 => ?_)
  · rw [w_eq0 (by omega)] at c_16
    refine aw_iload d_M_isCommon_27 rfl ?_
    refine aw_if_eq (tgt := 44) d_M_isCommon_29 (by decide) (fun c_29 => ?_) (fun c_29 => ?_)
    · rw [w_eq0 (by omega)] at c_29
      refine aw_iconst (v := nI 1) d_M_isCommon_44 (by decide) ?_
      refine aw_goto (tgt := 49) d_M_isCommon_45 (by decide) ?_
      refine aw_istore (L' := [some (.ref m), some (.int (nI u)), some (.int (nI f)), some (.int (nI (fd B (ob u) 0))), some (.int (nI (fd B (ob u) 1))), some (.int (nI 1)), none]) d_M_isCommon_49 (by decide) rfl rfl ?_
      refine aw_iload_n d_M_isCommon_51 rfl ?_
      refine aw_istore (L' := [some (.ref m), some (.int (nI u)), some (.int (nI f)), some (.int (nI (fd B (ob u) 0))), some (.int (nI (fd B (ob u) 1))), some (.int (nI 1)), some (.int (nI f))]) d_M_isCommon_52 (by decide) rfl rfl ?_
      exact lp_M_isCommon (by decide) (by decide) hB_ hm hin hst X u hu hv f hq hf (by grind) (sz B (ob u) + 1) f (Nat.le_refl _) hf (fun j h1 h2 => by omega) (by omega)
    · rw [w_eq0 (by omega)] at c_29
      refine aw_aload_n d_M_isCommon_32 rfl ?_
      refine aw_iload d_M_isCommon_33 rfl ?_
      refine aw_iconst (v := nI 0) d_M_isCommon_35 (by decide) ?_
      refine aw_ldc (v := nI 1073741823) d_M_isCommon_36 tw_792 ?_
      refine aw_callVi (mc2 := 0) (ms2 := 0) (r := bP (NI (fd B (ob u) 1) 0 1073741823)) (As := [.int (nI (fd B (ob u) 1)), .int (nI 0), .int (nI 1073741823)]) (rest := []) (c_M_isNumberFrom hm (fd B (ob u) 1) 0 1073741823 (by omega) (by omega) (by omega)) cv_M_84 d_M_isCommon_38 hm rfl rfl rfl (Nat.le_of_ble_eq_true rfl) (by decide) (by decide) (by omega) (by omega) ?_
      refine aw_if_eq (tgt := 48) d_M_isCommon_41 (by decide) (fun c_41 => ?_) (fun c_41 => ?_)
      · rw [bP_eq0] at c_41
        refine aw_iconst (v := nI 0) d_M_isCommon_48 (by decide) ?_
        refine aw_istore (L' := [some (.ref m), some (.int (nI u)), some (.int (nI f)), some (.int (nI (fd B (ob u) 0))), some (.int (nI (fd B (ob u) 1))), some (.int (nI 0)), none]) d_M_isCommon_49 (by decide) rfl rfl ?_
        refine aw_iload_n d_M_isCommon_51 rfl ?_
        refine aw_istore (L' := [some (.ref m), some (.int (nI u)), some (.int (nI f)), some (.int (nI (fd B (ob u) 0))), some (.int (nI (fd B (ob u) 1))), some (.int (nI 0)), some (.int (nI f))]) d_M_isCommon_52 (by decide) rfl rfl ?_
        refine aw_iload d_M_isCommon_54 rfl ?_
        refine aw_aload_n d_M_isCommon_56 rfl ?_
        refine aw_get fl_M_8 d_M_isCommon_57 hm rfl ?_
        refine aw_aload_n d_M_isCommon_60 rfl ?_
        refine aw_get fl_M_20 d_M_isCommon_61 hm rfl ?_
        refine aw_iload_n d_M_isCommon_64 rfl ?_
        refine aw_iconst (v := nI 2) d_M_isCommon_65 (by decide) ?_
        refine aw_idiv (v := nI (u / 2)) d_M_isCommon_66 (by decide) (pk_div (by omega) (by decide) (by decide)) ?_
        refine aw_iald (x := nI (oa B (ob u))) d_M_isCommon_67 hst (vp_in_nI (by omega) (by omega)) (by rw [nI_clamp (by omega)]; rw [show u / 2 = ob u by omega]; exact X.2 _ (by omega) (by omega)) ?_
        have o_67 := X.at (ob u) (by omega) (by omega)
        refine aw_callSi (mc2 := 0) (ms2 := 0) (r := nI (sz B (ob u))) (As := [.ref ai, .int (nI (oa B (ob u)))]) (rest := [.int (nI f)]) (c_M_sizeAt hB_ hin (by omega) (oa B (ob u)) (by omega)) cs_M_54 d_M_isCommon_68 rfl rfl (Nat.le_of_ble_eq_true rfl) (by decide) (by decide) (by omega) (by omega) ?_
        have b_68 := sz_lt hB_ (ob u)
        refine aw_icmp_ge (tgt := 102) d_M_isCommon_71 (by decide) (fun c_71 => ?_) (fun c_71 => ?_)
        · rw [nI_leI (by omega) (by omega)] at c_71
          refine aw_iload d_M_isCommon_102 rfl ?_
          exact aw_iret d_M_isCommon_104 rfl nar0 (rt_f (by unfold CO; grind))
        · rw [nI_leI (by omega) (by omega)] at c_71
          refine aw_iload d_M_isCommon_74 rfl ?_
          refine aw_if_eq (tgt := 102) d_M_isCommon_76 (by decide) (fun _ => ?_) (fun z => absurd (by decide) z)
          refine aw_iload d_M_isCommon_102 rfl ?_
          exact aw_iret d_M_isCommon_104 rfl nar0 (rt_f (by unfold CO; grind))
      · rw [bP_eq0, Classical.not_not] at c_41
        refine aw_iconst (v := nI 1) d_M_isCommon_44 (by decide) ?_
        refine aw_goto (tgt := 49) d_M_isCommon_45 (by decide) ?_
        refine aw_istore (L' := [some (.ref m), some (.int (nI u)), some (.int (nI f)), some (.int (nI (fd B (ob u) 0))), some (.int (nI (fd B (ob u) 1))), some (.int (nI 1)), none]) d_M_isCommon_49 (by decide) rfl rfl ?_
        refine aw_iload_n d_M_isCommon_51 rfl ?_
        refine aw_istore (L' := [some (.ref m), some (.int (nI u)), some (.int (nI f)), some (.int (nI (fd B (ob u) 0))), some (.int (nI (fd B (ob u) 1))), some (.int (nI 1)), some (.int (nI f))]) d_M_isCommon_52 (by decide) rfl rfl ?_
        exact lp_M_isCommon (by decide) (by decide) hB_ hm hin hst X u hu hv f hq hf (by grind) (sz B (ob u) + 1) f (Nat.le_refl _) hf (fun j h1 h2 => by omega) (by omega)
  · rw [w_eq0 (by omega)] at c_16
    refine aw_aload_n d_M_isCommon_19 rfl ?_
    refine aw_iload_n d_M_isCommon_20 rfl ?_
    refine aw_callVi (mc2 := 0) (ms2 := 0) (r := bP (CX B (fd B (ob u) 0))) (As := [.int (nI (fd B (ob u) 0))]) (rest := []) (c_M_isContext hB_ hm hin hst X (fd B (ob u) 0) (by omega) (X.fv (ob_of hv (hq.1)).2.2.2.2.1 (ob_of hv (hq.1)).2.2.2.2.2 (hq.2.1) (by have q_ := hq.2.2; omega))) cv_M_80 d_M_isCommon_21 hm rfl rfl rfl (Nat.le_of_ble_eq_true rfl) (by decide) (by decide) (by omega) (by omega) ?_
    refine aw_if_eq (tgt := 48) d_M_isCommon_24 (by decide) (fun c_24 => ?_) (fun c_24 => ?_)
    · rw [bP_eq0] at c_24
      refine aw_iconst (v := nI 0) d_M_isCommon_48 (by decide) ?_
      refine aw_istore (L' := [some (.ref m), some (.int (nI u)), some (.int (nI f)), some (.int (nI (fd B (ob u) 0))), some (.int (nI (fd B (ob u) 1))), some (.int (nI 0)), none]) d_M_isCommon_49 (by decide) rfl rfl ?_
      refine aw_iload_n d_M_isCommon_51 rfl ?_
      refine aw_istore (L' := [some (.ref m), some (.int (nI u)), some (.int (nI f)), some (.int (nI (fd B (ob u) 0))), some (.int (nI (fd B (ob u) 1))), some (.int (nI 0)), some (.int (nI f))]) d_M_isCommon_52 (by decide) rfl rfl ?_
      refine aw_iload d_M_isCommon_54 rfl ?_
      refine aw_aload_n d_M_isCommon_56 rfl ?_
      refine aw_get fl_M_8 d_M_isCommon_57 hm rfl ?_
      refine aw_aload_n d_M_isCommon_60 rfl ?_
      refine aw_get fl_M_20 d_M_isCommon_61 hm rfl ?_
      refine aw_iload_n d_M_isCommon_64 rfl ?_
      refine aw_iconst (v := nI 2) d_M_isCommon_65 (by decide) ?_
      refine aw_idiv (v := nI (u / 2)) d_M_isCommon_66 (by decide) (pk_div (by omega) (by decide) (by decide)) ?_
      refine aw_iald (x := nI (oa B (ob u))) d_M_isCommon_67 hst (vp_in_nI (by omega) (by omega)) (by rw [nI_clamp (by omega)]; rw [show u / 2 = ob u by omega]; exact X.2 _ (by omega) (by omega)) ?_
      have o_67 := X.at (ob u) (by omega) (by omega)
      refine aw_callSi (mc2 := 0) (ms2 := 0) (r := nI (sz B (ob u))) (As := [.ref ai, .int (nI (oa B (ob u)))]) (rest := [.int (nI f)]) (c_M_sizeAt hB_ hin (by omega) (oa B (ob u)) (by omega)) cs_M_54 d_M_isCommon_68 rfl rfl (Nat.le_of_ble_eq_true rfl) (by decide) (by decide) (by omega) (by omega) ?_
      have b_68 := sz_lt hB_ (ob u)
      refine aw_icmp_ge (tgt := 102) d_M_isCommon_71 (by decide) (fun c_71 => ?_) (fun c_71 => ?_)
      · rw [nI_leI (by omega) (by omega)] at c_71
        refine aw_iload d_M_isCommon_102 rfl ?_
        exact aw_iret d_M_isCommon_104 rfl nar0 (rt_f (by unfold CO; grind))
      · rw [nI_leI (by omega) (by omega)] at c_71
        refine aw_iload d_M_isCommon_74 rfl ?_
        refine aw_if_eq (tgt := 102) d_M_isCommon_76 (by decide) (fun _ => ?_) (fun z => absurd (by decide) z)
        refine aw_iload d_M_isCommon_102 rfl ?_
        exact aw_iret d_M_isCommon_104 rfl nar0 (rt_f (by unfold CO; grind))
    · rw [bP_eq0, Classical.not_not] at c_24
      refine aw_iload d_M_isCommon_27 rfl ?_
      refine aw_if_eq (tgt := 44) d_M_isCommon_29 (by decide) (fun c_29 => ?_) (fun c_29 => ?_)
      · rw [w_eq0 (by omega)] at c_29
        refine aw_iconst (v := nI 1) d_M_isCommon_44 (by decide) ?_
        refine aw_goto (tgt := 49) d_M_isCommon_45 (by decide) ?_
        refine aw_istore (L' := [some (.ref m), some (.int (nI u)), some (.int (nI f)), some (.int (nI (fd B (ob u) 0))), some (.int (nI (fd B (ob u) 1))), some (.int (nI 1)), none]) d_M_isCommon_49 (by decide) rfl rfl ?_
        refine aw_iload_n d_M_isCommon_51 rfl ?_
        refine aw_istore (L' := [some (.ref m), some (.int (nI u)), some (.int (nI f)), some (.int (nI (fd B (ob u) 0))), some (.int (nI (fd B (ob u) 1))), some (.int (nI 1)), some (.int (nI f))]) d_M_isCommon_52 (by decide) rfl rfl ?_
        exact lp_M_isCommon (by decide) (by decide) hB_ hm hin hst X u hu hv f hq hf (by grind) (sz B (ob u) + 1) f (Nat.le_refl _) hf (fun j h1 h2 => by omega) (by omega)
      · rw [w_eq0 (by omega)] at c_29
        refine aw_aload_n d_M_isCommon_32 rfl ?_
        refine aw_iload d_M_isCommon_33 rfl ?_
        refine aw_iconst (v := nI 0) d_M_isCommon_35 (by decide) ?_
        refine aw_ldc (v := nI 1073741823) d_M_isCommon_36 tw_792 ?_
        refine aw_callVi (mc2 := 0) (ms2 := 0) (r := bP (NI (fd B (ob u) 1) 0 1073741823)) (As := [.int (nI (fd B (ob u) 1)), .int (nI 0), .int (nI 1073741823)]) (rest := []) (c_M_isNumberFrom hm (fd B (ob u) 1) 0 1073741823 (by omega) (by omega) (by omega)) cv_M_84 d_M_isCommon_38 hm rfl rfl rfl (Nat.le_of_ble_eq_true rfl) (by decide) (by decide) (by omega) (by omega) ?_
        refine aw_if_eq (tgt := 48) d_M_isCommon_41 (by decide) (fun c_41 => ?_) (fun c_41 => ?_)
        · rw [bP_eq0] at c_41
          refine aw_iconst (v := nI 0) d_M_isCommon_48 (by decide) ?_
          refine aw_istore (L' := [some (.ref m), some (.int (nI u)), some (.int (nI f)), some (.int (nI (fd B (ob u) 0))), some (.int (nI (fd B (ob u) 1))), some (.int (nI 0)), none]) d_M_isCommon_49 (by decide) rfl rfl ?_
          refine aw_iload_n d_M_isCommon_51 rfl ?_
          refine aw_istore (L' := [some (.ref m), some (.int (nI u)), some (.int (nI f)), some (.int (nI (fd B (ob u) 0))), some (.int (nI (fd B (ob u) 1))), some (.int (nI 0)), some (.int (nI f))]) d_M_isCommon_52 (by decide) rfl rfl ?_
          refine aw_iload d_M_isCommon_54 rfl ?_
          refine aw_aload_n d_M_isCommon_56 rfl ?_
          refine aw_get fl_M_8 d_M_isCommon_57 hm rfl ?_
          refine aw_aload_n d_M_isCommon_60 rfl ?_
          refine aw_get fl_M_20 d_M_isCommon_61 hm rfl ?_
          refine aw_iload_n d_M_isCommon_64 rfl ?_
          refine aw_iconst (v := nI 2) d_M_isCommon_65 (by decide) ?_
          refine aw_idiv (v := nI (u / 2)) d_M_isCommon_66 (by decide) (pk_div (by omega) (by decide) (by decide)) ?_
          refine aw_iald (x := nI (oa B (ob u))) d_M_isCommon_67 hst (vp_in_nI (by omega) (by omega)) (by rw [nI_clamp (by omega)]; rw [show u / 2 = ob u by omega]; exact X.2 _ (by omega) (by omega)) ?_
          have o_67 := X.at (ob u) (by omega) (by omega)
          refine aw_callSi (mc2 := 0) (ms2 := 0) (r := nI (sz B (ob u))) (As := [.ref ai, .int (nI (oa B (ob u)))]) (rest := [.int (nI f)]) (c_M_sizeAt hB_ hin (by omega) (oa B (ob u)) (by omega)) cs_M_54 d_M_isCommon_68 rfl rfl (Nat.le_of_ble_eq_true rfl) (by decide) (by decide) (by omega) (by omega) ?_
          have b_68 := sz_lt hB_ (ob u)
          refine aw_icmp_ge (tgt := 102) d_M_isCommon_71 (by decide) (fun c_71 => ?_) (fun c_71 => ?_)
          · rw [nI_leI (by omega) (by omega)] at c_71
            refine aw_iload d_M_isCommon_102 rfl ?_
            exact aw_iret d_M_isCommon_104 rfl nar0 (rt_f (by unfold CO; grind))
          · rw [nI_leI (by omega) (by omega)] at c_71
            refine aw_iload d_M_isCommon_74 rfl ?_
            refine aw_if_eq (tgt := 102) d_M_isCommon_76 (by decide) (fun _ => ?_) (fun z => absurd (by decide) z)
            refine aw_iload d_M_isCommon_102 rfl ?_
            exact aw_iret d_M_isCommon_104 rfl nar0 (rt_f (by unfold CO; grind))
        · rw [bP_eq0, Classical.not_not] at c_41
          refine aw_iconst (v := nI 1) d_M_isCommon_44 (by decide) ?_
          refine aw_goto (tgt := 49) d_M_isCommon_45 (by decide) ?_
          refine aw_istore (L' := [some (.ref m), some (.int (nI u)), some (.int (nI f)), some (.int (nI (fd B (ob u) 0))), some (.int (nI (fd B (ob u) 1))), some (.int (nI 1)), none]) d_M_isCommon_49 (by decide) rfl rfl ?_
          refine aw_iload_n d_M_isCommon_51 rfl ?_
          refine aw_istore (L' := [some (.ref m), some (.int (nI u)), some (.int (nI f)), some (.int (nI (fd B (ob u) 0))), some (.int (nI (fd B (ob u) 1))), some (.int (nI 1)), some (.int (nI f))]) d_M_isCommon_52 (by decide) rfl rfl ?_
          exact lp_M_isCommon (by decide) (by decide) hB_ hm hin hst X u hu hv f hq hf (by grind) (sz B (ob u) + 1) f (Nat.le_refl _) hf (fun j h1 h2 => by omega) (by omega)

set_option maxHeartbeats 4000000 in
theorem c_M_isMethodContext {tb : Nat → Nat} {h : AH} {m ai am ak as_ aks ar an ab cn ln kl mn c : Nat} {cd : Int32} {B : Nat → Nat} {fs : Nat → Int32} (hB_ : ∀ i, B i < 256) (hm : h m = some (mO cd ai cn am ln ak kl as_ aks ar an ab mn)) (hin : h ai = some (.inl (1, 65536, .inl (bsf B)))) (hst : h as_ = some (.inl (0, 8192, .inl fs))) (X : VX B c fs) (u : Nat) (hu : u < 4294967296) (hv : vl (nn B) u) (ho : ob u ≠ 0) : AM tb y_M_isMethodContext b_M_isMethodContext 5 (some .boolean) 4 91 [.ref m, .int (nI u)] h 0 0 (av_Pi (bP (MC B (ob u))) h) := by
  have hn := X.n
  have hnd : nn B = bh B 6 := rfl
  obtain ⟨e_1, e_2, e_3, e_4, e_5, e_6⟩ := ob_of hv ho
  have hs := sz_lt hB_ (ob u)
  refine am_of (ini := false) [some (.ref m), some (.int (nI u)), none, none, none] (by decide) (fun z => by cases z) (Nat.le_of_ble_eq_true rfl) rfl ?_
  refine aw_aload_n d_M_isMethodContext_0 rfl ?_
  refine aw_iload_n d_M_isMethodContext_1 rfl ?_
  refine aw_iconst (v := nI 5) d_M_isMethodContext_2 (by decide) ?_
  refine aw_callVi (mc2 := 0) (ms2 := 0) (r := bP (HF B u 5)) (As := [.int (nI u), .int (nI 5)]) (rest := []) (c_M_hasFields hB_ hm hin hst X u (by omega) hv 5 (by omega)) cv_M_68 d_M_isMethodContext_3 hm rfl rfl rfl (Nat.le_of_ble_eq_true rfl) (by decide) (by decide) (by omega) (by omega) ?_
  refine aw_if_eq (tgt := 22) d_M_isMethodContext_6 (by decide) (fun c_6 => ?_) (fun c_6 => ?_)
  · rw [bP_eq0] at c_6
    refine aw_iconst (v := nI 0) d_M_isMethodContext_22 (by decide) ?_
    exact aw_iret d_M_isMethodContext_23 rfl nar0 (rt_f (by first | exact fun q => c_6 ⟨ho, q.1, q.2.1⟩ | exact fun q => c_19 q.2.2.1 | exact fun q => c_74 q.2.2.2.1 | exact fun q => c_87 q.2.2.2.2.1 | exact fun q => c_101 q.2.2.2.2.2))
  · rw [bP_eq0, Classical.not_not] at c_6
    refine aw_aload_n d_M_isMethodContext_9 rfl ?_
    refine aw_aload_n d_M_isMethodContext_10 rfl ?_
    refine aw_iload_n d_M_isMethodContext_11 rfl ?_
    refine aw_iconst (v := nI 3) d_M_isMethodContext_12 (by decide) ?_
    refine aw_callVi (mc2 := 0) (ms2 := 0) (r := nI (fd B (ob u) 3)) (As := [.int (nI u), .int (nI 3)]) (rest := [.ref m]) (c_M_fieldOf hB_ hm hin hst X u (by omega) hv 3 (c_6.1) (c_6.2.1) (by have q_ := c_6.2.2; omega)) cv_M_72 d_M_isMethodContext_13 hm rfl rfl rfl (Nat.le_of_ble_eq_true rfl) (by decide) (by decide) (by omega) (by omega) ?_
    have b_13 := fd_lt hB_ (ob u) 3
    refine aw_callVi (mc2 := 0) (ms2 := 0) (r := bP (ME B (fd B (ob u) 3))) (As := [.int (nI (fd B (ob u) 3))]) (rest := []) (c_M_isMethod hB_ hm hin hst X (fd B (ob u) 3) (by omega) (X.fv (ob_of hv (c_6.1)).2.2.2.2.1 (ob_of hv (c_6.1)).2.2.2.2.2 (c_6.2.1) (by have q_ := c_6.2.2; omega))) cv_M_88 d_M_isMethodContext_16 hm rfl rfl rfl (Nat.le_of_ble_eq_true rfl) (by decide) (by decide) (by omega) (by omega) ?_
    refine aw_if_ne (tgt := 24) d_M_isMethodContext_19 (by decide) (fun c_19 => ?_) (fun c_19 => ?_)
    · rw [bP_eq0, Classical.not_not] at c_19
      refine aw_aload_n d_M_isMethodContext_24 rfl ?_
      refine aw_aload_n d_M_isMethodContext_25 rfl ?_
      refine aw_iload_n d_M_isMethodContext_26 rfl ?_
      refine aw_iconst (v := nI 3) d_M_isMethodContext_27 (by decide) ?_
      refine aw_callVi (mc2 := 0) (ms2 := 0) (r := nI (fd B (ob u) 3)) (As := [.int (nI u), .int (nI 3)]) (rest := [.ref m]) (c_M_fieldOf hB_ hm hin hst X u (by omega) hv 3 (c_6.1) (c_6.2.1) (by have q_ := c_6.2.2; omega)) cv_M_72 d_M_isMethodContext_28 hm rfl rfl rfl (Nat.le_of_ble_eq_true rfl) (by decide) (by decide) (by omega) (by omega) ?_
      have b_28 := fd_lt hB_ (ob u) 3
      refine aw_callVi (mc2 := 0) (ms2 := 0) (r := nI (tm B (fd B (ob u) 3))) (As := [.int (nI (fd B (ob u) 3))]) (rest := []) (c_M_temporaries hB_ hm hin hst X (fd B (ob u) 3) (by omega) (X.fv (ob_of hv (c_6.1)).2.2.2.2.1 (ob_of hv (c_6.1)).2.2.2.2.2 (c_6.2.1) (by have q_ := c_6.2.2; omega)) c_19) cv_M_91 d_M_isMethodContext_31 hm rfl rfl rfl (Nat.le_of_ble_eq_true rfl) (by decide) (by decide) (by omega) (by omega) ?_
      have b_31 : tm B (fd B (ob u) 3) < 32 := Nat.mod_lt _ (by decide)
      refine aw_istore_n (L' := [some (.ref m), some (.int (nI u)), some (.int (nI (tm B (fd B (ob u) 3)))), none, none]) d_M_isMethodContext_34 (by decide) rfl rfl ?_
      refine aw_aload_n d_M_isMethodContext_35 rfl ?_
      refine aw_aload_n d_M_isMethodContext_36 rfl ?_
      refine aw_iload_n d_M_isMethodContext_37 rfl ?_
      refine aw_iconst (v := nI 3) d_M_isMethodContext_38 (by decide) ?_
      refine aw_callVi (mc2 := 0) (ms2 := 0) (r := nI (fd B (ob u) 3)) (As := [.int (nI u), .int (nI 3)]) (rest := [.ref m]) (c_M_fieldOf hB_ hm hin hst X u (by omega) hv 3 (c_6.1) (c_6.2.1) (by have q_ := c_6.2.2; omega)) cv_M_72 d_M_isMethodContext_39 hm rfl rfl rfl (Nat.le_of_ble_eq_true rfl) (by decide) (by decide) (by omega) (by omega) ?_
      have b_39 := fd_lt hB_ (ob u) 3
      refine aw_callVi (mc2 := 0) (ms2 := 0) (r := nI (dp B (fd B (ob u) 3))) (As := [.int (nI (fd B (ob u) 3))]) (rest := []) (c_M_depth hB_ hm hin hst X (fd B (ob u) 3) (by omega) (X.fv (ob_of hv (c_6.1)).2.2.2.2.1 (ob_of hv (c_6.1)).2.2.2.2.2 (c_6.2.1) (by have q_ := c_6.2.2; omega)) c_19) cv_M_95 d_M_isMethodContext_42 hm rfl rfl rfl (Nat.le_of_ble_eq_true rfl) (by decide) (by decide) (by omega) (by omega) ?_
      have b_42 : dp B (fd B (ob u) 3) < 64 := Nat.mod_lt _ (by decide)
      refine aw_istore_n (L' := [some (.ref m), some (.int (nI u)), some (.int (nI (tm B (fd B (ob u) 3)))), some (.int (nI (dp B (fd B (ob u) 3)))), none]) d_M_isMethodContext_45 (by decide) rfl rfl ?_
      refine aw_aload_n d_M_isMethodContext_46 rfl ?_
      refine aw_iload_n d_M_isMethodContext_47 rfl ?_
      refine aw_iconst (v := nI 2) d_M_isMethodContext_48 (by decide) ?_
      refine aw_callVi (mc2 := 0) (ms2 := 0) (r := nI (fd B (ob u) 2)) (As := [.int (nI u), .int (nI 2)]) (rest := []) (c_M_fieldOf hB_ hm hin hst X u (by omega) hv 2 (c_6.1) (c_6.2.1) (by have q_ := c_6.2.2; omega)) cv_M_72 d_M_isMethodContext_49 hm rfl rfl rfl (Nat.le_of_ble_eq_true rfl) (by decide) (by decide) (by omega) (by omega) ?_
      have b_49 := fd_lt hB_ (ob u) 2
      refine aw_istore (L' := [some (.ref m), some (.int (nI u)), some (.int (nI (tm B (fd B (ob u) 3)))), some (.int (nI (dp B (fd B (ob u) 3)))), some (.int (nI (fd B (ob u) 2)))]) d_M_isMethodContext_52 (by decide) rfl rfl ?_
      refine aw_aload_n d_M_isMethodContext_54 rfl ?_
      refine aw_get fl_M_8 d_M_isMethodContext_55 hm rfl ?_
      refine aw_aload_n d_M_isMethodContext_58 rfl ?_
      refine aw_get fl_M_20 d_M_isMethodContext_59 hm rfl ?_
      refine aw_iload_n d_M_isMethodContext_62 rfl ?_
      refine aw_iconst (v := nI 2) d_M_isMethodContext_63 (by decide) ?_
      refine aw_idiv (v := nI (u / 2)) d_M_isMethodContext_64 (by decide) (pk_div (by omega) (by decide) (by decide)) ?_
      refine aw_iald (x := nI (oa B (ob u))) d_M_isMethodContext_65 hst (vp_in_nI (by omega) (by omega)) (by rw [nI_clamp (by omega)]; rw [show u / 2 = ob u by omega]; exact X.2 _ (by omega) (by omega)) ?_
      have o_65 := X.at (ob u) (by omega) (by omega)
      refine aw_callSi (mc2 := 0) (ms2 := 0) (r := nI (sz B (ob u))) (As := [.ref ai, .int (nI (oa B (ob u)))]) (rest := []) (c_M_sizeAt hB_ hin (by omega) (oa B (ob u)) (by omega)) cs_M_54 d_M_isMethodContext_66 rfl rfl (Nat.le_of_ble_eq_true rfl) (by decide) (by decide) (by omega) (by omega) ?_
      have b_66 := sz_lt hB_ (ob u)
      refine aw_iconst (v := nI 5) d_M_isMethodContext_69 (by decide) ?_
      refine aw_iload_n d_M_isMethodContext_70 rfl ?_
      refine aw_iadd (v := nI (5 + tm B (fd B (ob u) 3))) d_M_isMethodContext_71 (nI_add _ _) ?_
      refine aw_iload_n d_M_isMethodContext_72 rfl ?_
      refine aw_iadd (v := nI (5 + tm B (fd B (ob u) 3) + dp B (fd B (ob u) 3))) d_M_isMethodContext_73 (nI_add _ _) ?_
      refine aw_icmp_ne (tgt := 108) d_M_isMethodContext_74 (by decide) (fun c_74 => ?_) (fun c_74 => ?_)
      · rw [w_eq (by omega) (by omega)] at c_74
        refine aw_iconst (v := nI 0) d_M_isMethodContext_108 (by decide) ?_
        exact aw_iret d_M_isMethodContext_109 rfl nar0 (rt_f (by first | exact fun q => c_6 ⟨ho, q.1, q.2.1⟩ | exact fun q => c_19 q.2.2.1 | exact fun q => c_74 q.2.2.2.1 | exact fun q => c_87 q.2.2.2.2.1 | exact fun q => c_101 q.2.2.2.2.2))
      · rw [w_eq (by omega) (by omega)] at c_74
        have c74 : sz B (ob u) = _ := c_74
        refine aw_aload_n d_M_isMethodContext_77 rfl ?_
        refine aw_iload d_M_isMethodContext_78 rfl ?_
        refine aw_iload_n d_M_isMethodContext_80 rfl ?_
        refine aw_iload_n d_M_isMethodContext_81 rfl ?_
        refine aw_iload_n d_M_isMethodContext_82 rfl ?_
        refine aw_iadd (v := nI (tm B (fd B (ob u) 3) + dp B (fd B (ob u) 3))) d_M_isMethodContext_83 (nI_add _ _) ?_
        refine aw_callVi (mc2 := 0) (ms2 := 0) (r := bP (NI (fd B (ob u) 2) (tm B (fd B (ob u) 3)) (tm B (fd B (ob u) 3) + dp B (fd B (ob u) 3)))) (As := [.int (nI (fd B (ob u) 2)), .int (nI (tm B (fd B (ob u) 3))), .int (nI (tm B (fd B (ob u) 3) + dp B (fd B (ob u) 3)))]) (rest := []) (c_M_isNumberFrom hm (fd B (ob u) 2) (tm B (fd B (ob u) 3)) (tm B (fd B (ob u) 3) + dp B (fd B (ob u) 3)) (by omega) (by omega) (by omega)) cv_M_84 d_M_isMethodContext_84 hm rfl rfl rfl (Nat.le_of_ble_eq_true rfl) (by decide) (by decide) (by omega) (by omega) ?_
        refine aw_if_eq (tgt := 108) d_M_isMethodContext_87 (by decide) (fun c_87 => ?_) (fun c_87 => ?_)
        · rw [bP_eq0] at c_87
          refine aw_iconst (v := nI 0) d_M_isMethodContext_108 (by decide) ?_
          exact aw_iret d_M_isMethodContext_109 rfl nar0 (rt_f (by first | exact fun q => c_6 ⟨ho, q.1, q.2.1⟩ | exact fun q => c_19 q.2.2.1 | exact fun q => c_74 q.2.2.2.1 | exact fun q => c_87 q.2.2.2.2.1 | exact fun q => c_101 q.2.2.2.2.2))
        · rw [bP_eq0, Classical.not_not] at c_87
          have b_87 := c_87.2.1
          have d_87 := c_87.2.2.2
          refine aw_aload_n d_M_isMethodContext_90 rfl ?_
          refine aw_iload_n d_M_isMethodContext_91 rfl ?_
          refine aw_iconst (v := nI 5) d_M_isMethodContext_92 (by decide) ?_
          refine aw_iload d_M_isMethodContext_93 rfl ?_
          refine aw_iconst (v := nI 1) d_M_isMethodContext_95 (by decide) ?_
          refine aw_ishr (v := nI ((fd B (ob u) 2) / 2)) d_M_isMethodContext_96 (pk_shrN (by omega) _ 1 (by decide)) ?_
          refine aw_iadd (v := nI (5 + (fd B (ob u) 2) / 2)) d_M_isMethodContext_97 (nI_add _ _) ?_
          refine aw_callVi (mc2 := 0) (ms2 := 0) (r := bP (CO B (ob u) (5 + (fd B (ob u) 2) / 2))) (As := [.int (nI u), .int (nI (5 + (fd B (ob u) 2) / 2))]) (rest := []) (c_M_isCommon hB_ hm hin hst X u (by omega) hv (5 + (fd B (ob u) 2) / 2) (HF.mono c_6 (by decide)) (by omega)) cv_M_98 d_M_isMethodContext_98 hm rfl rfl rfl (Nat.le_of_ble_eq_true rfl) (by decide) (by decide) (by omega) (by omega) ?_
          refine aw_if_eq (tgt := 108) d_M_isMethodContext_101 (by decide) (fun c_101 => ?_) (fun c_101 => ?_)
          · rw [bP_eq0] at c_101
            refine aw_iconst (v := nI 0) d_M_isMethodContext_108 (by decide) ?_
            exact aw_iret d_M_isMethodContext_109 rfl nar0 (rt_f (by first | exact fun q => c_6 ⟨ho, q.1, q.2.1⟩ | exact fun q => c_19 q.2.2.1 | exact fun q => c_74 q.2.2.2.1 | exact fun q => c_87 q.2.2.2.2.1 | exact fun q => c_101 q.2.2.2.2.2))
          · rw [bP_eq0, Classical.not_not] at c_101
            refine aw_iconst (v := nI 1) d_M_isMethodContext_104 (by decide) ?_
            refine aw_goto (tgt := 109) d_M_isMethodContext_105 (by decide) ?_
            exact aw_iret d_M_isMethodContext_109 rfl nar1 (rt_t (by exact ⟨c_6.2.1, c_6.2.2, c_19, c_74, c_87, c_101⟩))
    · rw [bP_eq0] at c_19
      refine aw_iconst (v := nI 0) d_M_isMethodContext_22 (by decide) ?_
      exact aw_iret d_M_isMethodContext_23 rfl nar0 (rt_f (by first | exact fun q => c_6 ⟨ho, q.1, q.2.1⟩ | exact fun q => c_19 q.2.2.1 | exact fun q => c_74 q.2.2.2.1 | exact fun q => c_87 q.2.2.2.2.1 | exact fun q => c_101 q.2.2.2.2.2))

set_option maxHeartbeats 4000000 in
theorem c_M_isBlockContext {tb : Nat → Nat} {h : AH} {m ai am ak as_ aks ar an ab cn ln kl mn c : Nat} {cd : Int32} {B : Nat → Nat} {fs : Nat → Int32} (hB_ : ∀ i, B i < 256) (hm : h m = some (mO cd ai cn am ln ak kl as_ aks ar an ab mn)) (hin : h ai = some (.inl (1, 65536, .inl (bsf B)))) (hst : h as_ = some (.inl (0, 8192, .inl fs))) (X : VX B c fs) (u : Nat) (hu : u < 4294967296) (hv : vl (nn B) u) (ho : ob u ≠ 0) : AM tb y_M_isBlockContext b_M_isBlockContext 7 (some .boolean) 4 91 [.ref m, .int (nI u)] h 0 0 (av_Pi (bP (BC B (ob u))) h) := by
  have hn := X.n
  have hnd : nn B = bh B 6 := rfl
  obtain ⟨e_1, e_2, e_3, e_4, e_5, e_6⟩ := ob_of hv ho
  have hs := sz_lt hB_ (ob u)
  refine am_of (ini := false) [some (.ref m), some (.int (nI u)), none, none, none, none, none] (by decide) (fun z => by cases z) (Nat.le_of_ble_eq_true rfl) rfl ?_
  refine aw_aload_n d_M_isBlockContext_0 rfl ?_
  refine aw_iload_n d_M_isBlockContext_1 rfl ?_
  refine aw_bipush (v := nI 6) d_M_isBlockContext_2 (by decide) ?_
  refine aw_callVi (mc2 := 0) (ms2 := 0) (r := bP (HF B u 6)) (As := [.int (nI u), .int (nI 6)]) (rest := []) (c_M_hasFields hB_ hm hin hst X u (by omega) hv 6 (by omega)) cv_M_68 d_M_isBlockContext_4 hm rfl rfl rfl (Nat.le_of_ble_eq_true rfl) (by decide) (by decide) (by omega) (by omega) ?_
  refine aw_if_ne (tgt := 12) d_M_isBlockContext_7 (by decide) (fun c_7 => ?_) (fun c_7 => ?_)
  · rw [bP_eq0, Classical.not_not] at c_7
    have hv5 : vl (nn B) (fd B (ob u) 5) := X.fv e_5 e_6 c_7.2.1 (by have q_ := c_7.2.2; omega)
    refine aw_aload_n d_M_isBlockContext_12 rfl ?_
    refine aw_iload_n d_M_isBlockContext_13 rfl ?_
    refine aw_iconst (v := nI 5) d_M_isBlockContext_14 (by decide) ?_
    refine aw_callVi (mc2 := 0) (ms2 := 0) (r := nI (fd B (ob u) 5)) (As := [.int (nI u), .int (nI 5)]) (rest := []) (c_M_fieldOf hB_ hm hin hst X u (by omega) hv 5 (c_7.1) (c_7.2.1) (by have q_ := c_7.2.2; omega)) cv_M_72 d_M_isBlockContext_15 hm rfl rfl rfl (Nat.le_of_ble_eq_true rfl) (by decide) (by decide) (by omega) (by omega) ?_
    have b_15 := fd_lt hB_ (ob u) 5
    refine aw_istore_n (L' := [some (.ref m), some (.int (nI u)), some (.int (nI (fd B (ob u) 5))), none, none, none, none]) d_M_isBlockContext_18 (by decide) rfl rfl ?_
    refine aw_aload_n d_M_isBlockContext_19 rfl ?_
    refine aw_iload_n d_M_isBlockContext_20 rfl ?_
    refine aw_iconst (v := nI 5) d_M_isBlockContext_21 (by decide) ?_
    refine aw_callVi (mc2 := 0) (ms2 := 0) (r := bP (HF B (fd B (ob u) 5) 5)) (As := [.int (nI (fd B (ob u) 5)), .int (nI 5)]) (rest := []) (c_M_hasFields hB_ hm hin hst X (fd B (ob u) 5) (by omega) (X.fv (ob_of hv (c_7.1)).2.2.2.2.1 (ob_of hv (c_7.1)).2.2.2.2.2 (c_7.2.1) (by have q_ := c_7.2.2; omega)) 5 (by omega)) cv_M_68 d_M_isBlockContext_22 hm rfl rfl rfl (Nat.le_of_ble_eq_true rfl) (by decide) (by decide) (by omega) (by omega) ?_
    refine aw_if_eq (tgt := 68) d_M_isBlockContext_25 (by decide) (fun c_25 => ?_) (fun c_25 => ?_)
    · rw [bP_eq0] at c_25
      refine aw_iconst (v := nI 0) d_M_isBlockContext_68 (by decide) ?_
      exact aw_iret d_M_isBlockContext_69 rfl nar0 (rt_f (by first | exact fun q => c_7 ⟨ho, q.1, q.2.1⟩ | exact fun q => c_25 q.2.2.1 | exact fun q => c_52 q.2.2.2.1 | exact fun q => c_65 q.2.2.2.2.1 | exact fun q => c_116 q.2.2.2.2.2.1 | exact fun q => c_127 q.2.2.2.2.2.2.1 | exact fun q => c_143 q.2.2.2.2.2.2.2.1 | exact fun q => c_187 q.2.2.2.2.2.2.2.2.2 | exact fun q => q.2.2.2.2.2.2.2.2.1.elim c_148 c_160))
    · rw [bP_eq0, Classical.not_not] at c_25
      obtain ⟨i_1, i_2, i_3, i_4, i_5, i_6⟩ := ob_of hv5 c_25.1
      refine aw_aload_n d_M_isBlockContext_28 rfl ?_
      refine aw_get fl_M_8 d_M_isBlockContext_29 hm rfl ?_
      refine aw_aload_n d_M_isBlockContext_32 rfl ?_
      refine aw_get fl_M_20 d_M_isBlockContext_33 hm rfl ?_
      refine aw_iload_n d_M_isBlockContext_36 rfl ?_
      refine aw_iconst (v := nI 2) d_M_isBlockContext_37 (by decide) ?_
      refine aw_idiv (v := nI ((fd B (ob u) 5) / 2)) d_M_isBlockContext_38 (by decide) (pk_div (by omega) (by decide) (by decide)) ?_
      refine aw_iald (x := nI (oa B (ob (fd B (ob u) 5)))) d_M_isBlockContext_39 hst (vp_in_nI (by omega) (by omega)) (by rw [nI_clamp (by omega)]; rw [show (fd B (ob u) 5) / 2 = ob (fd B (ob u) 5) by omega]; exact X.2 _ (by omega) (by omega)) ?_
      have o_39 := X.at (ob (fd B (ob u) 5)) (by omega) (by omega)
      refine aw_callSi (mc2 := 0) (ms2 := 0) (r := nI (cl B (ob (fd B (ob u) 5)))) (As := [.ref ai, .int (nI (oa B (ob (fd B (ob u) 5))))]) (rest := []) (c_M_word hB_ hin (by omega) (oa B (ob (fd B (ob u) 5))) (by omega)) cs_M_47 d_M_isBlockContext_40 rfl rfl (Nat.le_of_ble_eq_true rfl) (by decide) (by decide) (by omega) (by omega) ?_
      have b_40 := cl_lt hB_ (ob (fd B (ob u) 5))
      refine aw_aload_n d_M_isBlockContext_43 rfl ?_
      refine aw_get fl_M_8 d_M_isBlockContext_44 hm rfl ?_
      refine aw_bipush (v := nI 7) d_M_isBlockContext_47 (by decide) ?_
      refine aw_callSi (mc2 := 0) (ms2 := 0) (r := nI (sp B 7)) (As := [.ref ai, .int (nI 7)]) (rest := [.int (nI (cl B (ob (fd B (ob u) 5))))]) (c_M_special_aBI hB_ hin (by omega) 7 (by omega)) cs_M_65 d_M_isBlockContext_49 rfl rfl (Nat.le_of_ble_eq_true rfl) (by decide) (by decide) (by omega) (by omega) ?_
      have b_49 : sp B 7 < 4294967296 := bw_lt hB_ _
      refine aw_icmp_ne (tgt := 68) d_M_isBlockContext_52 (by decide) (fun c_52 => ?_) (fun c_52 => ?_)
      · rw [w_eq (by omega) (by omega)] at c_52
        refine aw_iconst (v := nI 0) d_M_isBlockContext_68 (by decide) ?_
        exact aw_iret d_M_isBlockContext_69 rfl nar0 (rt_f (by first | exact fun q => c_7 ⟨ho, q.1, q.2.1⟩ | exact fun q => c_25 q.2.2.1 | exact fun q => c_52 q.2.2.2.1 | exact fun q => c_65 q.2.2.2.2.1 | exact fun q => c_116 q.2.2.2.2.2.1 | exact fun q => c_127 q.2.2.2.2.2.2.1 | exact fun q => c_143 q.2.2.2.2.2.2.2.1 | exact fun q => c_187 q.2.2.2.2.2.2.2.2.2 | exact fun q => q.2.2.2.2.2.2.2.2.1.elim c_148 c_160))
      · rw [w_eq (by omega) (by omega)] at c_52
        refine aw_aload_n d_M_isBlockContext_55 rfl ?_
        refine aw_aload_n d_M_isBlockContext_56 rfl ?_
        refine aw_iload_n d_M_isBlockContext_57 rfl ?_
        refine aw_iconst (v := nI 3) d_M_isBlockContext_58 (by decide) ?_
        refine aw_callVi (mc2 := 0) (ms2 := 0) (r := nI (fd B (ob (fd B (ob u) 5)) 3)) (As := [.int (nI (fd B (ob u) 5)), .int (nI 3)]) (rest := [.ref m]) (c_M_fieldOf hB_ hm hin hst X (fd B (ob u) 5) (by omega) (X.fv (ob_of hv (c_7.1)).2.2.2.2.1 (ob_of hv (c_7.1)).2.2.2.2.2 (c_7.2.1) (by have q_ := c_7.2.2; omega)) 3 (c_25.1) (c_25.2.1) (by have q_ := c_25.2.2; omega)) cv_M_72 d_M_isBlockContext_59 hm rfl rfl rfl (Nat.le_of_ble_eq_true rfl) (by decide) (by decide) (by omega) (by omega) ?_
        have b_59 := fd_lt hB_ (ob (fd B (ob u) 5)) 3
        refine aw_callVi (mc2 := 0) (ms2 := 0) (r := bP (ME B (fd B (ob (fd B (ob u) 5)) 3))) (As := [.int (nI (fd B (ob (fd B (ob u) 5)) 3))]) (rest := []) (c_M_isMethod hB_ hm hin hst X (fd B (ob (fd B (ob u) 5)) 3) (by omega) (X.fv (ob_of (X.fv (ob_of hv (c_7.1)).2.2.2.2.1 (ob_of hv (c_7.1)).2.2.2.2.2 (c_7.2.1) (by have q_ := c_7.2.2; omega)) (c_25.1)).2.2.2.2.1 (ob_of (X.fv (ob_of hv (c_7.1)).2.2.2.2.1 (ob_of hv (c_7.1)).2.2.2.2.2 (c_7.2.1) (by have q_ := c_7.2.2; omega)) (c_25.1)).2.2.2.2.2 (c_25.2.1) (by have q_ := c_25.2.2; omega))) cv_M_88 d_M_isBlockContext_62 hm rfl rfl rfl (Nat.le_of_ble_eq_true rfl) (by decide) (by decide) (by omega) (by omega) ?_
        refine aw_if_ne (tgt := 70) d_M_isBlockContext_65 (by decide) (fun c_65 => ?_) (fun c_65 => ?_)
        · rw [bP_eq0, Classical.not_not] at c_65
          refine aw_aload_n d_M_isBlockContext_70 rfl ?_
          refine aw_aload_n d_M_isBlockContext_71 rfl ?_
          refine aw_iload_n d_M_isBlockContext_72 rfl ?_
          refine aw_iconst (v := nI 3) d_M_isBlockContext_73 (by decide) ?_
          refine aw_callVi (mc2 := 0) (ms2 := 0) (r := nI (fd B (ob (fd B (ob u) 5)) 3)) (As := [.int (nI (fd B (ob u) 5)), .int (nI 3)]) (rest := [.ref m]) (c_M_fieldOf hB_ hm hin hst X (fd B (ob u) 5) (by omega) (X.fv (ob_of hv (c_7.1)).2.2.2.2.1 (ob_of hv (c_7.1)).2.2.2.2.2 (c_7.2.1) (by have q_ := c_7.2.2; omega)) 3 (c_25.1) (c_25.2.1) (by have q_ := c_25.2.2; omega)) cv_M_72 d_M_isBlockContext_74 hm rfl rfl rfl (Nat.le_of_ble_eq_true rfl) (by decide) (by decide) (by omega) (by omega) ?_
          have b_74 := fd_lt hB_ (ob (fd B (ob u) 5)) 3
          refine aw_callVi (mc2 := 0) (ms2 := 0) (r := nI (dp B (fd B (ob (fd B (ob u) 5)) 3))) (As := [.int (nI (fd B (ob (fd B (ob u) 5)) 3))]) (rest := []) (c_M_depth hB_ hm hin hst X (fd B (ob (fd B (ob u) 5)) 3) (by omega) (X.fv (ob_of (X.fv (ob_of hv (c_7.1)).2.2.2.2.1 (ob_of hv (c_7.1)).2.2.2.2.2 (c_7.2.1) (by have q_ := c_7.2.2; omega)) (c_25.1)).2.2.2.2.1 (ob_of (X.fv (ob_of hv (c_7.1)).2.2.2.2.1 (ob_of hv (c_7.1)).2.2.2.2.2 (c_7.2.1) (by have q_ := c_7.2.2; omega)) (c_25.1)).2.2.2.2.2 (c_25.2.1) (by have q_ := c_25.2.2; omega)) c_65) cv_M_95 d_M_isBlockContext_77 hm rfl rfl rfl (Nat.le_of_ble_eq_true rfl) (by decide) (by decide) (by omega) (by omega) ?_
          have b_77 : dp B (fd B (ob (fd B (ob u) 5)) 3) < 64 := Nat.mod_lt _ (by decide)
          refine aw_istore_n (L' := [some (.ref m), some (.int (nI u)), some (.int (nI (fd B (ob u) 5))), some (.int (nI (dp B (fd B (ob (fd B (ob u) 5)) 3)))), none, none, none]) d_M_isBlockContext_80 (by decide) rfl rfl ?_
          refine aw_aload_n d_M_isBlockContext_81 rfl ?_
          refine aw_iload_n d_M_isBlockContext_82 rfl ?_
          refine aw_iconst (v := nI 2) d_M_isBlockContext_83 (by decide) ?_
          refine aw_callVi (mc2 := 0) (ms2 := 0) (r := nI (fd B (ob u) 2)) (As := [.int (nI u), .int (nI 2)]) (rest := []) (c_M_fieldOf hB_ hm hin hst X u (by omega) hv 2 (c_7.1) (c_7.2.1) (by have q_ := c_7.2.2; omega)) cv_M_72 d_M_isBlockContext_84 hm rfl rfl rfl (Nat.le_of_ble_eq_true rfl) (by decide) (by decide) (by omega) (by omega) ?_
          have b_84 := fd_lt hB_ (ob u) 2
          refine aw_istore (L' := [some (.ref m), some (.int (nI u)), some (.int (nI (fd B (ob u) 5))), some (.int (nI (dp B (fd B (ob (fd B (ob u) 5)) 3)))), some (.int (nI (fd B (ob u) 2))), none, none]) d_M_isBlockContext_87 (by decide) rfl rfl ?_
          refine aw_aload_n d_M_isBlockContext_89 rfl ?_
          refine aw_iload_n d_M_isBlockContext_90 rfl ?_
          refine aw_iconst (v := nI 4) d_M_isBlockContext_91 (by decide) ?_
          refine aw_callVi (mc2 := 0) (ms2 := 0) (r := nI (fd B (ob u) 4)) (As := [.int (nI u), .int (nI 4)]) (rest := []) (c_M_fieldOf hB_ hm hin hst X u (by omega) hv 4 (c_7.1) (c_7.2.1) (by have q_ := c_7.2.2; omega)) cv_M_72 d_M_isBlockContext_92 hm rfl rfl rfl (Nat.le_of_ble_eq_true rfl) (by decide) (by decide) (by omega) (by omega) ?_
          have b_92 := fd_lt hB_ (ob u) 4
          refine aw_istore (L' := [some (.ref m), some (.int (nI u)), some (.int (nI (fd B (ob u) 5))), some (.int (nI (dp B (fd B (ob (fd B (ob u) 5)) 3)))), some (.int (nI (fd B (ob u) 2))), some (.int (nI (fd B (ob u) 4))), none]) d_M_isBlockContext_95 (by decide) rfl rfl ?_
          refine aw_aload_n d_M_isBlockContext_97 rfl ?_
          refine aw_get fl_M_8 d_M_isBlockContext_98 hm rfl ?_
          refine aw_aload_n d_M_isBlockContext_101 rfl ?_
          refine aw_get fl_M_20 d_M_isBlockContext_102 hm rfl ?_
          refine aw_iload_n d_M_isBlockContext_105 rfl ?_
          refine aw_iconst (v := nI 2) d_M_isBlockContext_106 (by decide) ?_
          refine aw_idiv (v := nI (u / 2)) d_M_isBlockContext_107 (by decide) (pk_div (by omega) (by decide) (by decide)) ?_
          refine aw_iald (x := nI (oa B (ob u))) d_M_isBlockContext_108 hst (vp_in_nI (by omega) (by omega)) (by rw [nI_clamp (by omega)]; rw [show u / 2 = ob u by omega]; exact X.2 _ (by omega) (by omega)) ?_
          have o_108 := X.at (ob u) (by omega) (by omega)
          refine aw_callSi (mc2 := 0) (ms2 := 0) (r := nI (sz B (ob u))) (As := [.ref ai, .int (nI (oa B (ob u)))]) (rest := []) (c_M_sizeAt hB_ hin (by omega) (oa B (ob u)) (by omega)) cs_M_54 d_M_isBlockContext_109 rfl rfl (Nat.le_of_ble_eq_true rfl) (by decide) (by decide) (by omega) (by omega) ?_
          have b_109 := sz_lt hB_ (ob u)
          refine aw_bipush (v := nI 6) d_M_isBlockContext_112 (by decide) ?_
          refine aw_iload_n d_M_isBlockContext_114 rfl ?_
          refine aw_iadd (v := nI (6 + dp B (fd B (ob (fd B (ob u) 5)) 3))) d_M_isBlockContext_115 (nI_add _ _) ?_
          refine aw_icmp_ne (tgt := 167) d_M_isBlockContext_116 (by decide) (fun c_116 => ?_) (fun c_116 => ?_)
          · rw [w_eq (by omega) (by omega)] at c_116
            refine aw_iconst (v := nI 0) d_M_isBlockContext_167 (by decide) ?_
            refine aw_istore (L' := [some (.ref m), some (.int (nI u)), some (.int (nI (fd B (ob u) 5))), some (.int (nI (dp B (fd B (ob (fd B (ob u) 5)) 3)))), some (.int (nI (fd B (ob u) 2))), some (.int (nI (fd B (ob u) 4))), some (.int (nI 0))]) d_M_isBlockContext_168 (by decide) rfl rfl ?_
            refine aw_iload d_M_isBlockContext_170 rfl ?_
            refine aw_if_eq (tgt := 194) d_M_isBlockContext_172 (by decide) (fun _ => ?_) (fun z => absurd (by decide) z)
            refine aw_iconst (v := nI 0) d_M_isBlockContext_194 (by decide) ?_
            exact aw_iret d_M_isBlockContext_195 rfl nar0 (rt_f (by first | exact fun q => c_7 ⟨ho, q.1, q.2.1⟩ | exact fun q => c_25 q.2.2.1 | exact fun q => c_52 q.2.2.2.1 | exact fun q => c_65 q.2.2.2.2.1 | exact fun q => c_116 q.2.2.2.2.2.1 | exact fun q => c_127 q.2.2.2.2.2.2.1 | exact fun q => c_143 q.2.2.2.2.2.2.2.1 | exact fun q => c_187 q.2.2.2.2.2.2.2.2.2 | exact fun q => q.2.2.2.2.2.2.2.2.1.elim c_148 c_160))
          · rw [w_eq (by omega) (by omega)] at c_116
            have c116 : sz B (ob u) = _ := c_116
            refine aw_aload_n d_M_isBlockContext_119 rfl ?_
            refine aw_iload d_M_isBlockContext_120 rfl ?_
            refine aw_iconst (v := nI 0) d_M_isBlockContext_122 (by decide) ?_
            refine aw_iload_n d_M_isBlockContext_123 rfl ?_
            refine aw_callVi (mc2 := 0) (ms2 := 0) (r := bP (NI (fd B (ob u) 2) 0 (dp B (fd B (ob (fd B (ob u) 5)) 3)))) (As := [.int (nI (fd B (ob u) 2)), .int (nI 0), .int (nI (dp B (fd B (ob (fd B (ob u) 5)) 3)))]) (rest := []) (c_M_isNumberFrom hm (fd B (ob u) 2) 0 (dp B (fd B (ob (fd B (ob u) 5)) 3)) (by omega) (by omega) (by omega)) cv_M_84 d_M_isBlockContext_124 hm rfl rfl rfl (Nat.le_of_ble_eq_true rfl) (by decide) (by decide) (by omega) (by omega) ?_
            refine aw_if_eq (tgt := 167) d_M_isBlockContext_127 (by decide) (fun c_127 => ?_) (fun c_127 => ?_)
            · rw [bP_eq0] at c_127
              refine aw_iconst (v := nI 0) d_M_isBlockContext_167 (by decide) ?_
              refine aw_istore (L' := [some (.ref m), some (.int (nI u)), some (.int (nI (fd B (ob u) 5))), some (.int (nI (dp B (fd B (ob (fd B (ob u) 5)) 3)))), some (.int (nI (fd B (ob u) 2))), some (.int (nI (fd B (ob u) 4))), some (.int (nI 0))]) d_M_isBlockContext_168 (by decide) rfl rfl ?_
              refine aw_iload d_M_isBlockContext_170 rfl ?_
              refine aw_if_eq (tgt := 194) d_M_isBlockContext_172 (by decide) (fun _ => ?_) (fun z => absurd (by decide) z)
              refine aw_iconst (v := nI 0) d_M_isBlockContext_194 (by decide) ?_
              exact aw_iret d_M_isBlockContext_195 rfl nar0 (rt_f (by first | exact fun q => c_7 ⟨ho, q.1, q.2.1⟩ | exact fun q => c_25 q.2.2.1 | exact fun q => c_52 q.2.2.2.1 | exact fun q => c_65 q.2.2.2.2.1 | exact fun q => c_116 q.2.2.2.2.2.1 | exact fun q => c_127 q.2.2.2.2.2.2.1 | exact fun q => c_143 q.2.2.2.2.2.2.2.1 | exact fun q => c_187 q.2.2.2.2.2.2.2.2.2 | exact fun q => q.2.2.2.2.2.2.2.2.1.elim c_148 c_160))
            · rw [bP_eq0, Classical.not_not] at c_127
              have b_127 := c_127.2.1
              have d_127 := c_127.2.2.2
              refine aw_aload_n d_M_isBlockContext_130 rfl ?_
              refine aw_aload_n d_M_isBlockContext_131 rfl ?_
              refine aw_iload_n d_M_isBlockContext_132 rfl ?_
              refine aw_iconst (v := nI 3) d_M_isBlockContext_133 (by decide) ?_
              refine aw_callVi (mc2 := 0) (ms2 := 0) (r := nI (fd B (ob u) 3)) (As := [.int (nI u), .int (nI 3)]) (rest := [.ref m]) (c_M_fieldOf hB_ hm hin hst X u (by omega) hv 3 (c_7.1) (c_7.2.1) (by have q_ := c_7.2.2; omega)) cv_M_72 d_M_isBlockContext_134 hm rfl rfl rfl (Nat.le_of_ble_eq_true rfl) (by decide) (by decide) (by omega) (by omega) ?_
              have b_134 := fd_lt hB_ (ob u) 3
              refine aw_iconst (v := nI 0) d_M_isBlockContext_137 (by decide) ?_
              refine aw_bipush (v := nI 15) d_M_isBlockContext_138 (by decide) ?_
              refine aw_callVi (mc2 := 0) (ms2 := 0) (r := bP (NI (fd B (ob u) 3) 0 15)) (As := [.int (nI (fd B (ob u) 3)), .int (nI 0), .int (nI 15)]) (rest := []) (c_M_isNumberFrom hm (fd B (ob u) 3) 0 15 (by omega) (by omega) (by omega)) cv_M_84 d_M_isBlockContext_140 hm rfl rfl rfl (Nat.le_of_ble_eq_true rfl) (by decide) (by decide) (by omega) (by omega) ?_
              refine aw_if_eq (tgt := 167) d_M_isBlockContext_143 (by decide) (fun c_143 => ?_) (fun c_143 => ?_)
              · rw [bP_eq0] at c_143
                refine aw_iconst (v := nI 0) d_M_isBlockContext_167 (by decide) ?_
                refine aw_istore (L' := [some (.ref m), some (.int (nI u)), some (.int (nI (fd B (ob u) 5))), some (.int (nI (dp B (fd B (ob (fd B (ob u) 5)) 3)))), some (.int (nI (fd B (ob u) 2))), some (.int (nI (fd B (ob u) 4))), some (.int (nI 0))]) d_M_isBlockContext_168 (by decide) rfl rfl ?_
                refine aw_iload d_M_isBlockContext_170 rfl ?_
                refine aw_if_eq (tgt := 194) d_M_isBlockContext_172 (by decide) (fun _ => ?_) (fun z => absurd (by decide) z)
                refine aw_iconst (v := nI 0) d_M_isBlockContext_194 (by decide) ?_
                exact aw_iret d_M_isBlockContext_195 rfl nar0 (rt_f (by first | exact fun q => c_7 ⟨ho, q.1, q.2.1⟩ | exact fun q => c_25 q.2.2.1 | exact fun q => c_52 q.2.2.2.1 | exact fun q => c_65 q.2.2.2.2.1 | exact fun q => c_116 q.2.2.2.2.2.1 | exact fun q => c_127 q.2.2.2.2.2.2.1 | exact fun q => c_143 q.2.2.2.2.2.2.2.1 | exact fun q => c_187 q.2.2.2.2.2.2.2.2.2 | exact fun q => q.2.2.2.2.2.2.2.2.1.elim c_148 c_160))
              · rw [bP_eq0, Classical.not_not] at c_143
                refine aw_iload d_M_isBlockContext_146 rfl ?_
                refine aw_if_eq (tgt := 163) d_M_isBlockContext_148 (by decide) (fun c_148 => ?_) (fun c_148 => ?_)
                · rw [w_eq0 (by omega)] at c_148
                  refine aw_iconst (v := nI 1) d_M_isBlockContext_163 (by decide) ?_
                  refine aw_goto (tgt := 168) d_M_isBlockContext_164 (by decide) ?_
                  refine aw_istore (L' := [some (.ref m), some (.int (nI u)), some (.int (nI (fd B (ob u) 5))), some (.int (nI (dp B (fd B (ob (fd B (ob u) 5)) 3)))), some (.int (nI (fd B (ob u) 2))), some (.int (nI (fd B (ob u) 4))), some (.int (nI 1))]) d_M_isBlockContext_168 (by decide) rfl rfl ?_
                  refine aw_iload d_M_isBlockContext_170 rfl ?_
                  refine aw_if_eq (tgt := 194) d_M_isBlockContext_172 (by decide) (fun z => absurd z (by decide)) (fun _ => ?_)
                  refine aw_aload_n d_M_isBlockContext_175 rfl ?_
                  refine aw_iload_n d_M_isBlockContext_176 rfl ?_
                  refine aw_bipush (v := nI 6) d_M_isBlockContext_177 (by decide) ?_
                  refine aw_iload d_M_isBlockContext_179 rfl ?_
                  refine aw_iconst (v := nI 1) d_M_isBlockContext_181 (by decide) ?_
                  refine aw_ishr (v := nI ((fd B (ob u) 2) / 2)) d_M_isBlockContext_182 (pk_shrN (by omega) _ 1 (by decide)) ?_
                  refine aw_iadd (v := nI (6 + (fd B (ob u) 2) / 2)) d_M_isBlockContext_183 (nI_add _ _) ?_
                  refine aw_callVi (mc2 := 0) (ms2 := 0) (r := bP (CO B (ob u) (6 + (fd B (ob u) 2) / 2))) (As := [.int (nI u), .int (nI (6 + (fd B (ob u) 2) / 2))]) (rest := []) (c_M_isCommon hB_ hm hin hst X u (by omega) hv (6 + (fd B (ob u) 2) / 2) (HF.mono c_7 (by decide)) (by omega)) cv_M_98 d_M_isBlockContext_184 hm rfl rfl rfl (Nat.le_of_ble_eq_true rfl) (by decide) (by decide) (by omega) (by omega) ?_
                  refine aw_if_eq (tgt := 194) d_M_isBlockContext_187 (by decide) (fun c_187 => ?_) (fun c_187 => ?_)
                  · rw [bP_eq0] at c_187
                    refine aw_iconst (v := nI 0) d_M_isBlockContext_194 (by decide) ?_
                    exact aw_iret d_M_isBlockContext_195 rfl nar0 (rt_f (by first | exact fun q => c_7 ⟨ho, q.1, q.2.1⟩ | exact fun q => c_25 q.2.2.1 | exact fun q => c_52 q.2.2.2.1 | exact fun q => c_65 q.2.2.2.2.1 | exact fun q => c_116 q.2.2.2.2.2.1 | exact fun q => c_127 q.2.2.2.2.2.2.1 | exact fun q => c_143 q.2.2.2.2.2.2.2.1 | exact fun q => c_187 q.2.2.2.2.2.2.2.2.2 | exact fun q => q.2.2.2.2.2.2.2.2.1.elim c_148 c_160))
                  · rw [bP_eq0, Classical.not_not] at c_187
                    refine aw_iconst (v := nI 1) d_M_isBlockContext_190 (by decide) ?_
                    refine aw_goto (tgt := 195) d_M_isBlockContext_191 (by decide) ?_
                    exact aw_iret d_M_isBlockContext_195 rfl nar1 (rt_t (by exact ⟨c_7.2.1, c_7.2.2, c_25, c_52, c_65, c_116, c_127, c_143, by first | exact Or.inl c_148 | exact Or.inr c_160, c_187⟩))
                · rw [w_eq0 (by omega)] at c_148
                  refine aw_aload_n d_M_isBlockContext_151 rfl ?_
                  refine aw_iload d_M_isBlockContext_152 rfl ?_
                  refine aw_iconst (v := nI 0) d_M_isBlockContext_154 (by decide) ?_
                  refine aw_ldc (v := nI 1073741823) d_M_isBlockContext_155 tw_792 ?_
                  refine aw_callVi (mc2 := 0) (ms2 := 0) (r := bP (NI (fd B (ob u) 4) 0 1073741823)) (As := [.int (nI (fd B (ob u) 4)), .int (nI 0), .int (nI 1073741823)]) (rest := []) (c_M_isNumberFrom hm (fd B (ob u) 4) 0 1073741823 (by omega) (by omega) (by omega)) cv_M_84 d_M_isBlockContext_157 hm rfl rfl rfl (Nat.le_of_ble_eq_true rfl) (by decide) (by decide) (by omega) (by omega) ?_
                  refine aw_if_eq (tgt := 167) d_M_isBlockContext_160 (by decide) (fun c_160 => ?_) (fun c_160 => ?_)
                  · rw [bP_eq0] at c_160
                    refine aw_iconst (v := nI 0) d_M_isBlockContext_167 (by decide) ?_
                    refine aw_istore (L' := [some (.ref m), some (.int (nI u)), some (.int (nI (fd B (ob u) 5))), some (.int (nI (dp B (fd B (ob (fd B (ob u) 5)) 3)))), some (.int (nI (fd B (ob u) 2))), some (.int (nI (fd B (ob u) 4))), some (.int (nI 0))]) d_M_isBlockContext_168 (by decide) rfl rfl ?_
                    refine aw_iload d_M_isBlockContext_170 rfl ?_
                    refine aw_if_eq (tgt := 194) d_M_isBlockContext_172 (by decide) (fun _ => ?_) (fun z => absurd (by decide) z)
                    refine aw_iconst (v := nI 0) d_M_isBlockContext_194 (by decide) ?_
                    exact aw_iret d_M_isBlockContext_195 rfl nar0 (rt_f (by first | exact fun q => c_7 ⟨ho, q.1, q.2.1⟩ | exact fun q => c_25 q.2.2.1 | exact fun q => c_52 q.2.2.2.1 | exact fun q => c_65 q.2.2.2.2.1 | exact fun q => c_116 q.2.2.2.2.2.1 | exact fun q => c_127 q.2.2.2.2.2.2.1 | exact fun q => c_143 q.2.2.2.2.2.2.2.1 | exact fun q => c_187 q.2.2.2.2.2.2.2.2.2 | exact fun q => q.2.2.2.2.2.2.2.2.1.elim c_148 c_160))
                  · rw [bP_eq0, Classical.not_not] at c_160
                    refine aw_iconst (v := nI 1) d_M_isBlockContext_163 (by decide) ?_
                    refine aw_goto (tgt := 168) d_M_isBlockContext_164 (by decide) ?_
                    refine aw_istore (L' := [some (.ref m), some (.int (nI u)), some (.int (nI (fd B (ob u) 5))), some (.int (nI (dp B (fd B (ob (fd B (ob u) 5)) 3)))), some (.int (nI (fd B (ob u) 2))), some (.int (nI (fd B (ob u) 4))), some (.int (nI 1))]) d_M_isBlockContext_168 (by decide) rfl rfl ?_
                    refine aw_iload d_M_isBlockContext_170 rfl ?_
                    refine aw_if_eq (tgt := 194) d_M_isBlockContext_172 (by decide) (fun z => absurd z (by decide)) (fun _ => ?_)
                    refine aw_aload_n d_M_isBlockContext_175 rfl ?_
                    refine aw_iload_n d_M_isBlockContext_176 rfl ?_
                    refine aw_bipush (v := nI 6) d_M_isBlockContext_177 (by decide) ?_
                    refine aw_iload d_M_isBlockContext_179 rfl ?_
                    refine aw_iconst (v := nI 1) d_M_isBlockContext_181 (by decide) ?_
                    refine aw_ishr (v := nI ((fd B (ob u) 2) / 2)) d_M_isBlockContext_182 (pk_shrN (by omega) _ 1 (by decide)) ?_
                    refine aw_iadd (v := nI (6 + (fd B (ob u) 2) / 2)) d_M_isBlockContext_183 (nI_add _ _) ?_
                    refine aw_callVi (mc2 := 0) (ms2 := 0) (r := bP (CO B (ob u) (6 + (fd B (ob u) 2) / 2))) (As := [.int (nI u), .int (nI (6 + (fd B (ob u) 2) / 2))]) (rest := []) (c_M_isCommon hB_ hm hin hst X u (by omega) hv (6 + (fd B (ob u) 2) / 2) (HF.mono c_7 (by decide)) (by omega)) cv_M_98 d_M_isBlockContext_184 hm rfl rfl rfl (Nat.le_of_ble_eq_true rfl) (by decide) (by decide) (by omega) (by omega) ?_
                    refine aw_if_eq (tgt := 194) d_M_isBlockContext_187 (by decide) (fun c_187 => ?_) (fun c_187 => ?_)
                    · rw [bP_eq0] at c_187
                      refine aw_iconst (v := nI 0) d_M_isBlockContext_194 (by decide) ?_
                      exact aw_iret d_M_isBlockContext_195 rfl nar0 (rt_f (by first | exact fun q => c_7 ⟨ho, q.1, q.2.1⟩ | exact fun q => c_25 q.2.2.1 | exact fun q => c_52 q.2.2.2.1 | exact fun q => c_65 q.2.2.2.2.1 | exact fun q => c_116 q.2.2.2.2.2.1 | exact fun q => c_127 q.2.2.2.2.2.2.1 | exact fun q => c_143 q.2.2.2.2.2.2.2.1 | exact fun q => c_187 q.2.2.2.2.2.2.2.2.2 | exact fun q => q.2.2.2.2.2.2.2.2.1.elim c_148 c_160))
                    · rw [bP_eq0, Classical.not_not] at c_187
                      refine aw_iconst (v := nI 1) d_M_isBlockContext_190 (by decide) ?_
                      refine aw_goto (tgt := 195) d_M_isBlockContext_191 (by decide) ?_
                      exact aw_iret d_M_isBlockContext_195 rfl nar1 (rt_t (by exact ⟨c_7.2.1, c_7.2.2, c_25, c_52, c_65, c_116, c_127, c_143, by first | exact Or.inl c_148 | exact Or.inr c_160, c_187⟩))
        · rw [bP_eq0] at c_65
          refine aw_iconst (v := nI 0) d_M_isBlockContext_68 (by decide) ?_
          exact aw_iret d_M_isBlockContext_69 rfl nar0 (rt_f (by first | exact fun q => c_7 ⟨ho, q.1, q.2.1⟩ | exact fun q => c_25 q.2.2.1 | exact fun q => c_52 q.2.2.2.1 | exact fun q => c_65 q.2.2.2.2.1 | exact fun q => c_116 q.2.2.2.2.2.1 | exact fun q => c_127 q.2.2.2.2.2.2.1 | exact fun q => c_143 q.2.2.2.2.2.2.2.1 | exact fun q => c_187 q.2.2.2.2.2.2.2.2.2 | exact fun q => q.2.2.2.2.2.2.2.2.1.elim c_148 c_160))
  · rw [bP_eq0] at c_7
    refine aw_iconst (v := nI 0) d_M_isBlockContext_10 (by decide) ?_
    exact aw_iret d_M_isBlockContext_11 rfl nar0 (rt_f (by first | exact fun q => c_7 ⟨ho, q.1, q.2.1⟩ | exact fun q => c_25 q.2.2.1 | exact fun q => c_52 q.2.2.2.1 | exact fun q => c_65 q.2.2.2.2.1 | exact fun q => c_116 q.2.2.2.2.2.1 | exact fun q => c_127 q.2.2.2.2.2.2.1 | exact fun q => c_143 q.2.2.2.2.2.2.2.1 | exact fun q => c_187 q.2.2.2.2.2.2.2.2.2 | exact fun q => q.2.2.2.2.2.2.2.2.1.elim c_148 c_160))
end
