set_option maxHeartbeats 4000000 in
theorem c_M_isClass {tb : Nat → Nat} {h : AH} {m ai am ak as_ aks ar an ab cn ln kl mn c : Nat} {cd : Int32} {B : Nat → Nat} {fs : Nat → Int32} (hB_ : ∀ i, B i < 256) (hm : h m = some (mO cd ai cn am ln ak kl as_ aks ar an ab mn)) (hin : h ai = some (.inl (1, 65536, .inl (bsf B)))) (hst : h as_ = some (.inl (0, 8192, .inl fs))) (X : VX B c fs) (u : Nat) (hu : u < 4294967296) (hv : vl (nn B) u) : AM tb y_M_isClass b_M_isClass 5 (some .boolean) 3 65 [.ref m, .int (nI u)] h 0 0 (av_Pi (bP (CL B u)) h) := by
  have hn := X.n
  have hnd : nn B = bh B 6 := rfl
  refine am_of (ini := false) [some (.ref m), some (.int (nI u)), none, none, none] (by decide) (fun z => by cases z) (Nat.le_of_ble_eq_true rfl) rfl ?_
  refine aw_aload_n d_M_isClass_0 rfl ?_
  refine aw_iload_n d_M_isClass_1 rfl ?_
  refine aw_iconst (v := nI 3) d_M_isClass_2 (by decide) ?_
  refine aw_callVi (mc2 := 0) (ms2 := 0) (r := bP (HF B u 3)) (As := [.int (nI u), .int (nI 3)]) (rest := []) (c_M_hasFields hB_ hm hin hst X u (by omega) hv 3 (by omega)) cv_M_68 d_M_isClass_3 hm rfl rfl rfl (Nat.le_of_ble_eq_true rfl) (by decide) (by decide) (by omega) (by omega) ?_
  refine aw_if_ne (tgt := 11) d_M_isClass_6 (by decide) (fun c_6 => ?_) (fun c_6 => ?_)
  · rw [bP_eq0, Classical.not_not] at c_6
    refine aw_aload_n d_M_isClass_11 rfl ?_
    refine aw_iload_n d_M_isClass_12 rfl ?_
    refine aw_iconst (v := nI 2) d_M_isClass_13 (by decide) ?_
    refine aw_callVi (mc2 := 0) (ms2 := 0) (r := nI (fd B (ob u) 2)) (As := [.int (nI u), .int (nI 2)]) (rest := []) (c_M_fieldOf hB_ hm hin hst X u (by omega) hv 2 (c_6.1) (c_6.2.1) (by have q_ := c_6.2.2; omega)) cv_M_72 d_M_isClass_14 hm rfl rfl rfl (Nat.le_of_ble_eq_true rfl) (by decide) (by decide) (by omega) (by omega) ?_
    have b_14 := fd_lt hB_ (ob u) 2
    refine aw_istore_n (L' := [some (.ref m), some (.int (nI u)), some (.int (nI (fd B (ob u) 2))), none, none]) d_M_isClass_17 (by decide) rfl rfl ?_
    refine aw_iload_n d_M_isClass_18 rfl ?_
    refine aw_iconst (v := nI 1) d_M_isClass_19 (by decide) ?_
    refine aw_ishr (v := (nI (fd B (ob u) 2)) >>> ((nI 1) &&& 31)) d_M_isClass_20 rfl ?_
    refine aw_istore_n (L' := [some (.ref m), some (.int (nI u)), some (.int (nI (fd B (ob u) 2))), some (.int ((nI (fd B (ob u) 2)) >>> ((nI 1) &&& 31))), none]) d_M_isClass_21 (by decide) rfl rfl ?_
    refine aw_iload_n d_M_isClass_22 rfl ?_
    refine aw_callSi (mc2 := 0) (ms2 := 0) (r := bP ((fd B (ob u) 2) % 2 = 1)) (As := [.int (nI (fd B (ob u) 2))]) (rest := []) (c_M_isNumber (fd B (ob u) 2)) cs_M_76 d_M_isClass_23 rfl rfl (Nat.le_of_ble_eq_true rfl) (by decide) (by decide) (by omega) (by omega) ?_
    refine aw_if_eq (tgt := 52) d_M_isClass_26 (by decide) (fun c_26 => ?_) (fun c_26 => ?_)
    · rw [bP_eq0] at c_26
      refine aw_iconst (v := nI 0) d_M_isClass_52 (by decide) ?_
      refine aw_istore (L' := [some (.ref m), some (.int (nI u)), some (.int (nI (fd B (ob u) 2))), some (.int ((nI (fd B (ob u) 2)) >>> ((nI 1) &&& 31))), some (.int (nI 0))]) d_M_isClass_53 (by decide) rfl rfl ?_
      refine aw_iload d_M_isClass_55 rfl ?_
      refine aw_if_eq (tgt := 87) d_M_isClass_57 (by decide) (fun _ => ?_) (fun z => absurd (by decide) z)
      refine aw_iconst (v := nI 0) d_M_isClass_87 (by decide) ?_
      exact aw_iret d_M_isClass_88 rfl nar0 (rt_f (by unfold CL shp; first | exact fun q => c_6 q.1 | (intro q; have q2 := q.2; omega)))
    · rw [bP_eq0, Classical.not_not] at c_26
      refine aw_iload_n d_M_isClass_29 rfl ?_
      refine aw_if_lt (tgt := 52) d_M_isClass_30 (by decide) (fun c_30 => ?_) (fun c_30 => ?_)
      · rw [w_lt0 (by omega)] at c_30
        refine aw_iconst (v := nI 0) d_M_isClass_52 (by decide) ?_
        refine aw_istore (L' := [some (.ref m), some (.int (nI u)), some (.int (nI (fd B (ob u) 2))), some (.int ((nI (fd B (ob u) 2)) >>> ((nI 1) &&& 31))), some (.int (nI 0))]) d_M_isClass_53 (by decide) rfl rfl ?_
        refine aw_iload d_M_isClass_55 rfl ?_
        refine aw_if_eq (tgt := 87) d_M_isClass_57 (by decide) (fun _ => ?_) (fun z => absurd (by decide) z)
        refine aw_iconst (v := nI 0) d_M_isClass_87 (by decide) ?_
        exact aw_iret d_M_isClass_88 rfl nar0 (rt_f (by unfold CL shp; first | exact fun q => c_6 q.1 | (intro q; have q2 := q.2; omega)))
      · rw [w_lt0 (by omega)] at c_30
        rw [w_shr1N (by omega)]
        refine aw_iload_n d_M_isClass_33 rfl ?_
        refine aw_sipush (v := nI 4096) d_M_isClass_34 (by decide) ?_
        refine aw_icmp_ge (tgt := 52) d_M_isClass_37 (by decide) (fun c_37 => ?_) (fun c_37 => ?_)
        · rw [nI_leI (by omega) (by omega)] at c_37
          refine aw_iconst (v := nI 0) d_M_isClass_52 (by decide) ?_
          refine aw_istore (L' := [some (.ref m), some (.int (nI u)), some (.int (nI (fd B (ob u) 2))), some (.int (nI (fd B (ob u) 2 / 2))), some (.int (nI 0))]) d_M_isClass_53 (by decide) rfl rfl ?_
          refine aw_iload d_M_isClass_55 rfl ?_
          refine aw_if_eq (tgt := 87) d_M_isClass_57 (by decide) (fun _ => ?_) (fun z => absurd (by decide) z)
          refine aw_iconst (v := nI 0) d_M_isClass_87 (by decide) ?_
          exact aw_iret d_M_isClass_88 rfl nar0 (rt_f (by unfold CL shp; first | exact fun q => c_6 q.1 | (intro q; have q2 := q.2; omega)))
        · rw [nI_leI (by omega) (by omega)] at c_37
          refine aw_iload_n d_M_isClass_40 rfl ?_
          refine aw_sipush (v := nI 768) d_M_isClass_41 (by decide) ?_
          refine aw_iand (v := nI (fd B (ob u) 2 / 2) &&& nI 768) d_M_isClass_44 rfl ?_
          refine aw_if_ne (tgt := 52) d_M_isClass_45 (by decide) (fun c_45 => ?_) (fun c_45 => ?_)
          · rw [and_768 _ (by omega)] at c_45
            refine aw_iconst (v := nI 0) d_M_isClass_52 (by decide) ?_
            refine aw_istore (L' := [some (.ref m), some (.int (nI u)), some (.int (nI (fd B (ob u) 2))), some (.int (nI (fd B (ob u) 2 / 2))), some (.int (nI 0))]) d_M_isClass_53 (by decide) rfl rfl ?_
            refine aw_iload d_M_isClass_55 rfl ?_
            refine aw_if_eq (tgt := 87) d_M_isClass_57 (by decide) (fun _ => ?_) (fun z => absurd (by decide) z)
            refine aw_iconst (v := nI 0) d_M_isClass_87 (by decide) ?_
            exact aw_iret d_M_isClass_88 rfl nar0 (rt_f (by unfold CL shp; first | exact fun q => c_6 q.1 | (intro q; have q2 := q.2; omega)))
          · rw [and_768 _ (by omega)] at c_45
            refine aw_iconst (v := nI 1) d_M_isClass_48 (by decide) ?_
            refine aw_goto (tgt := 53) d_M_isClass_49 (by decide) ?_
            refine aw_istore (L' := [some (.ref m), some (.int (nI u)), some (.int (nI (fd B (ob u) 2))), some (.int (nI (fd B (ob u) 2 / 2))), some (.int (nI 1))]) d_M_isClass_53 (by decide) rfl rfl ?_
            refine aw_iload d_M_isClass_55 rfl ?_
            refine aw_if_eq (tgt := 87) d_M_isClass_57 (by decide) (fun z => absurd z (by decide)) (fun _ => ?_)
            refine aw_iload_n d_M_isClass_60 rfl ?_
            refine aw_sipush (v := nI 2048) d_M_isClass_61 (by decide) ?_
            refine aw_icmp_lt (tgt := 83) d_M_isClass_64 (by decide) (fun c_64 => ?_) (fun c_64 => ?_)
            · rw [nI_ltI (by omega) (by omega)] at c_64
              refine aw_iconst (v := nI 1) d_M_isClass_83 (by decide) ?_
              refine aw_goto (tgt := 88) d_M_isClass_84 (by decide) ?_
              exact aw_iret d_M_isClass_88 rfl nar1 (rt_t (by exact ⟨c_6, by unfold shp; omega⟩))
            · rw [nI_ltI (by omega) (by omega)] at c_64
              refine aw_iload_n d_M_isClass_67 rfl ?_
              refine aw_sipush (v := nI 255) d_M_isClass_68 (by decide) ?_
              refine aw_iand (v := nI ((fd B (ob u) 2 / 2) % 256)) d_M_isClass_71 (and_255 _) ?_
              refine aw_if_ne (tgt := 87) d_M_isClass_72 (by decide) (fun c_72 => ?_) (fun c_72 => ?_)
              · rw [w_eq0 (by omega)] at c_72
                refine aw_iconst (v := nI 0) d_M_isClass_87 (by decide) ?_
                exact aw_iret d_M_isClass_88 rfl nar0 (rt_f (by unfold CL shp; first | exact fun q => c_6 q.1 | (intro q; have q2 := q.2; omega)))
              · rw [w_eq0 (by omega)] at c_72
                refine aw_iload_n d_M_isClass_75 rfl ?_
                refine aw_sipush (v := nI 1024) d_M_isClass_76 (by decide) ?_
                refine aw_iand (v := nI (fd B (ob u) 2 / 2) &&& nI 1024) d_M_isClass_79 rfl ?_
                refine aw_if_le (tgt := 87) d_M_isClass_80 (by decide) (fun c_80 => ?_) (fun c_80 => ?_)
                · rw [and_1024 _ (by omega)] at c_80
                  refine aw_iconst (v := nI 0) d_M_isClass_87 (by decide) ?_
                  exact aw_iret d_M_isClass_88 rfl nar0 (rt_f (by unfold CL shp; first | exact fun q => c_6 q.1 | (intro q; have q2 := q.2; omega)))
                · rw [and_1024 _ (by omega)] at c_80
                  refine aw_iconst (v := nI 1) d_M_isClass_83 (by decide) ?_
                  refine aw_goto (tgt := 88) d_M_isClass_84 (by decide) ?_
                  exact aw_iret d_M_isClass_88 rfl nar1 (rt_t (by exact ⟨c_6, by unfold shp; omega⟩))
  · rw [bP_eq0] at c_6
    refine aw_iconst (v := nI 0) d_M_isClass_9 (by decide) ?_
    exact aw_iret d_M_isClass_10 rfl nar0 (rt_f (by unfold CL shp; first | exact fun q => c_6 q.1 | (intro q; have q2 := q.2; omega)))

set_option maxHeartbeats 4000000 in
theorem c_M_isMethod {tb : Nat → Nat} {h : AH} {m ai am ak as_ aks ar an ab cn ln kl mn c : Nat} {cd : Int32} {B : Nat → Nat} {fs : Nat → Int32} (hB_ : ∀ i, B i < 256) (hm : h m = some (mO cd ai cn am ln ak kl as_ aks ar an ab mn)) (hin : h ai = some (.inl (1, 65536, .inl (bsf B)))) (hst : h as_ = some (.inl (0, 8192, .inl fs))) (X : VX B c fs) (u : Nat) (hu : u < 4294967296) (hv : vl (nn B) u) : AM tb y_M_isMethod b_M_isMethod 5 (some .boolean) 3 65 [.ref m, .int (nI u)] h 0 0 (av_Pi (bP (ME B u)) h) := by
  have hn := X.n
  have hnd : nn B = bh B 6 := rfl
  refine am_of (ini := false) [some (.ref m), some (.int (nI u)), none, none, none] (by decide) (fun z => by cases z) (Nat.le_of_ble_eq_true rfl) rfl ?_
  refine aw_aload_n d_M_isMethod_0 rfl ?_
  refine aw_iload_n d_M_isMethod_1 rfl ?_
  refine aw_iconst (v := nI 2) d_M_isMethod_2 (by decide) ?_
  refine aw_callVi (mc2 := 0) (ms2 := 0) (r := bP (HF B u 2)) (As := [.int (nI u), .int (nI 2)]) (rest := []) (c_M_hasFields hB_ hm hin hst X u (by omega) hv 2 (by omega)) cv_M_68 d_M_isMethod_3 hm rfl rfl rfl (Nat.le_of_ble_eq_true rfl) (by decide) (by decide) (by omega) (by omega) ?_
  refine aw_if_ne (tgt := 11) d_M_isMethod_6 (by decide) (fun c_6 => ?_) (fun c_6 => ?_)
  · rw [bP_eq0, Classical.not_not] at c_6
    have hv1 : vl (nn B) (fd B (ob u) 1) := X.fv (ob_of hv c_6.1).2.2.2.2.1 (ob_of hv c_6.1).2.2.2.2.2 c_6.2.1 (by have q_ := c_6.2.2; omega)
    refine aw_aload_n d_M_isMethod_11 rfl ?_
    refine aw_iload_n d_M_isMethod_12 rfl ?_
    refine aw_iconst (v := nI 0) d_M_isMethod_13 (by decide) ?_
    refine aw_callVi (mc2 := 0) (ms2 := 0) (r := nI (fd B (ob u) 0)) (As := [.int (nI u), .int (nI 0)]) (rest := []) (c_M_fieldOf hB_ hm hin hst X u (by omega) hv 0 (c_6.1) (c_6.2.1) (by have q_ := c_6.2.2; omega)) cv_M_72 d_M_isMethod_14 hm rfl rfl rfl (Nat.le_of_ble_eq_true rfl) (by decide) (by decide) (by omega) (by omega) ?_
    have b_14 := fd_lt hB_ (ob u) 0
    refine aw_iconst (v := nI 1) d_M_isMethod_17 (by decide) ?_
    refine aw_ishr (v := (nI (fd B (ob u) 0)) >>> ((nI 1) &&& 31)) d_M_isMethod_18 rfl ?_
    refine aw_istore_n (L' := [some (.ref m), some (.int (nI u)), some (.int ((nI (fd B (ob u) 0)) >>> ((nI 1) &&& 31))), none, none]) d_M_isMethod_19 (by decide) rfl rfl ?_
    refine aw_aload_n d_M_isMethod_20 rfl ?_
    refine aw_iload_n d_M_isMethod_21 rfl ?_
    refine aw_iconst (v := nI 1) d_M_isMethod_22 (by decide) ?_
    refine aw_callVi (mc2 := 0) (ms2 := 0) (r := nI (fd B (ob u) 1)) (As := [.int (nI u), .int (nI 1)]) (rest := []) (c_M_fieldOf hB_ hm hin hst X u (by omega) hv 1 (c_6.1) (c_6.2.1) (by have q_ := c_6.2.2; omega)) cv_M_72 d_M_isMethod_23 hm rfl rfl rfl (Nat.le_of_ble_eq_true rfl) (by decide) (by decide) (by omega) (by omega) ?_
    have b_23 := fd_lt hB_ (ob u) 1
    refine aw_istore_n (L' := [some (.ref m), some (.int (nI u)), some (.int ((nI (fd B (ob u) 0)) >>> ((nI 1) &&& 31))), some (.int (nI (fd B (ob u) 1))), none]) d_M_isMethod_26 (by decide) rfl rfl ?_
    refine aw_aload_n d_M_isMethod_27 rfl ?_
    refine aw_iload_n d_M_isMethod_28 rfl ?_
    refine aw_iconst (v := nI 0) d_M_isMethod_29 (by decide) ?_
    refine aw_callVi (mc2 := 0) (ms2 := 0) (r := nI (fd B (ob u) 0)) (As := [.int (nI u), .int (nI 0)]) (rest := []) (c_M_fieldOf hB_ hm hin hst X u (by omega) hv 0 (c_6.1) (c_6.2.1) (by have q_ := c_6.2.2; omega)) cv_M_72 d_M_isMethod_30 hm rfl rfl rfl (Nat.le_of_ble_eq_true rfl) (by decide) (by decide) (by omega) (by omega) ?_
    have b_30 := fd_lt hB_ (ob u) 0
    refine aw_callSi (mc2 := 0) (ms2 := 0) (r := bP ((fd B (ob u) 0) % 2 = 1)) (As := [.int (nI (fd B (ob u) 0))]) (rest := []) (c_M_isNumber (fd B (ob u) 0)) cs_M_76 d_M_isMethod_33 rfl rfl (Nat.le_of_ble_eq_true rfl) (by decide) (by decide) (by omega) (by omega) ?_
    refine aw_if_eq (tgt := 66) d_M_isMethod_36 (by decide) (fun c_36 => ?_) (fun c_36 => ?_)
    · rw [bP_eq0] at c_36
      refine aw_iconst (v := nI 0) d_M_isMethod_66 (by decide) ?_
      refine aw_istore (L' := [some (.ref m), some (.int (nI u)), some (.int ((nI (fd B (ob u) 0)) >>> ((nI 1) &&& 31))), some (.int (nI (fd B (ob u) 1))), some (.int (nI 0))]) d_M_isMethod_67 (by decide) rfl rfl ?_
      refine aw_iload d_M_isMethod_69 rfl ?_
      refine aw_if_eq (tgt := 103) d_M_isMethod_71 (by decide) (fun _ => ?_) (fun z => absurd (by decide) z)
      refine aw_iconst (v := nI 0) d_M_isMethod_103 (by decide) ?_
      exact aw_iret d_M_isMethod_104 rfl nar0 (rt_f (by unfold ME mh; first | exact fun q => c_6 q.1 | exact fun q => c_78 q.2.2.1 | exact fun q => c_96 q.2.2.2 | (intro q; have q2 := q.2.1; omega)))
    · rw [bP_eq0, Classical.not_not] at c_36
      refine aw_iload_n d_M_isMethod_39 rfl ?_
      refine aw_if_lt (tgt := 66) d_M_isMethod_40 (by decide) (fun c_40 => ?_) (fun c_40 => ?_)
      · rw [w_lt0 (by omega)] at c_40
        refine aw_iconst (v := nI 0) d_M_isMethod_66 (by decide) ?_
        refine aw_istore (L' := [some (.ref m), some (.int (nI u)), some (.int ((nI (fd B (ob u) 0)) >>> ((nI 1) &&& 31))), some (.int (nI (fd B (ob u) 1))), some (.int (nI 0))]) d_M_isMethod_67 (by decide) rfl rfl ?_
        refine aw_iload d_M_isMethod_69 rfl ?_
        refine aw_if_eq (tgt := 103) d_M_isMethod_71 (by decide) (fun _ => ?_) (fun z => absurd (by decide) z)
        refine aw_iconst (v := nI 0) d_M_isMethod_103 (by decide) ?_
        exact aw_iret d_M_isMethod_104 rfl nar0 (rt_f (by unfold ME mh; first | exact fun q => c_6 q.1 | exact fun q => c_78 q.2.2.1 | exact fun q => c_96 q.2.2.2 | (intro q; have q2 := q.2.1; omega)))
      · rw [w_lt0 (by omega)] at c_40
        rw [w_shr1N (by omega)]
        refine aw_iload_n d_M_isMethod_43 rfl ?_
        refine aw_ldc (v := nI 8388608) d_M_isMethod_44 tw_775 ?_
        refine aw_icmp_ge (tgt := 66) d_M_isMethod_46 (by decide) (fun c_46 => ?_) (fun c_46 => ?_)
        · rw [nI_leI (by omega) (by omega)] at c_46
          refine aw_iconst (v := nI 0) d_M_isMethod_66 (by decide) ?_
          refine aw_istore (L' := [some (.ref m), some (.int (nI u)), some (.int (nI (fd B (ob u) 0 / 2))), some (.int (nI (fd B (ob u) 1))), some (.int (nI 0))]) d_M_isMethod_67 (by decide) rfl rfl ?_
          refine aw_iload d_M_isMethod_69 rfl ?_
          refine aw_if_eq (tgt := 103) d_M_isMethod_71 (by decide) (fun _ => ?_) (fun z => absurd (by decide) z)
          refine aw_iconst (v := nI 0) d_M_isMethod_103 (by decide) ?_
          exact aw_iret d_M_isMethod_104 rfl nar0 (rt_f (by unfold ME mh; first | exact fun q => c_6 q.1 | exact fun q => c_78 q.2.2.1 | exact fun q => c_96 q.2.2.2 | (intro q; have q2 := q.2.1; omega)))
        · rw [nI_leI (by omega) (by omega)] at c_46
          refine aw_iload_n d_M_isMethod_49 rfl ?_
          refine aw_iconst (v := nI 4) d_M_isMethod_50 (by decide) ?_
          refine aw_ishr (v := nI ((fd B (ob u) 0 / 2) / 16)) d_M_isMethod_51 (pk_shrN (by omega) _ 4 (by decide)) ?_
          refine aw_bipush (v := nI 31) d_M_isMethod_52 (by decide) ?_
          refine aw_iand (v := nI (((fd B (ob u) 0 / 2) / 16) % 32)) d_M_isMethod_54 (and_31 _) ?_
          refine aw_iload_n d_M_isMethod_55 rfl ?_
          refine aw_bipush (v := nI 15) d_M_isMethod_56 (by decide) ?_
          refine aw_iand (v := nI ((fd B (ob u) 0 / 2) % 16)) d_M_isMethod_58 (and_15 _) ?_
          refine aw_icmp_lt (tgt := 66) d_M_isMethod_59 (by decide) (fun c_59 => ?_) (fun c_59 => ?_)
          · rw [nI_ltI (by omega) (by omega)] at c_59
            refine aw_iconst (v := nI 0) d_M_isMethod_66 (by decide) ?_
            refine aw_istore (L' := [some (.ref m), some (.int (nI u)), some (.int (nI (fd B (ob u) 0 / 2))), some (.int (nI (fd B (ob u) 1))), some (.int (nI 0))]) d_M_isMethod_67 (by decide) rfl rfl ?_
            refine aw_iload d_M_isMethod_69 rfl ?_
            refine aw_if_eq (tgt := 103) d_M_isMethod_71 (by decide) (fun _ => ?_) (fun z => absurd (by decide) z)
            refine aw_iconst (v := nI 0) d_M_isMethod_103 (by decide) ?_
            exact aw_iret d_M_isMethod_104 rfl nar0 (rt_f (by unfold ME mh; first | exact fun q => c_6 q.1 | exact fun q => c_78 q.2.2.1 | exact fun q => c_96 q.2.2.2 | (intro q; have q2 := q.2.1; omega)))
          · rw [nI_ltI (by omega) (by omega)] at c_59
            refine aw_iconst (v := nI 1) d_M_isMethod_62 (by decide) ?_
            refine aw_goto (tgt := 67) d_M_isMethod_63 (by decide) ?_
            refine aw_istore (L' := [some (.ref m), some (.int (nI u)), some (.int (nI (fd B (ob u) 0 / 2))), some (.int (nI (fd B (ob u) 1))), some (.int (nI 1))]) d_M_isMethod_67 (by decide) rfl rfl ?_
            refine aw_iload d_M_isMethod_69 rfl ?_
            refine aw_if_eq (tgt := 103) d_M_isMethod_71 (by decide) (fun z => absurd z (by decide)) (fun _ => ?_)
            refine aw_iload_n d_M_isMethod_74 rfl ?_
            refine aw_callSi (mc2 := 0) (ms2 := 0) (r := bP (ob (fd B (ob u) 1) ≠ 0)) (As := [.int (nI (fd B (ob u) 1))]) (rest := []) (c_M_isObject (fd B (ob u) 1) (by omega) (vl_e (X.fv (ob_of hv (c_6.1)).2.2.2.2.1 (ob_of hv (c_6.1)).2.2.2.2.2 (c_6.2.1) (by have q_ := c_6.2.2; omega)) X.n.2)) cs_M_57 d_M_isMethod_75 rfl rfl (Nat.le_of_ble_eq_true rfl) (by decide) (by decide) (by omega) (by omega) ?_
            refine aw_if_eq (tgt := 103) d_M_isMethod_78 (by decide) (fun c_78 => ?_) (fun c_78 => ?_)
            · rw [bP_eq0] at c_78
              refine aw_iconst (v := nI 0) d_M_isMethod_103 (by decide) ?_
              exact aw_iret d_M_isMethod_104 rfl nar0 (rt_f (by unfold ME mh; first | exact fun q => c_6 q.1 | exact fun q => c_78 q.2.2.1 | exact fun q => c_96 q.2.2.2 | (intro q; have q2 := q.2.1; omega)))
            · rw [bP_eq0, Classical.not_not] at c_78
              obtain ⟨e_1, e_2, e_3, e_4, e_5, e_6⟩ := ob_of hv1 c_78
              refine aw_aload_n d_M_isMethod_81 rfl ?_
              refine aw_get fl_M_8 d_M_isMethod_82 hm rfl ?_
              refine aw_aload_n d_M_isMethod_85 rfl ?_
              refine aw_get fl_M_20 d_M_isMethod_86 hm rfl ?_
              refine aw_iload_n d_M_isMethod_89 rfl ?_
              refine aw_iconst (v := nI 2) d_M_isMethod_90 (by decide) ?_
              refine aw_idiv (v := nI ((fd B (ob u) 1) / 2)) d_M_isMethod_91 (by decide) (pk_div (by omega) (by decide) (by decide)) ?_
              refine aw_iald (x := nI (oa B (ob (fd B (ob u) 1)))) d_M_isMethod_92 hst (vp_in_nI (by omega) (by omega)) (by rw [nI_clamp (by omega)]; rw [show (fd B (ob u) 1) / 2 = ob (fd B (ob u) 1) by omega]; exact X.2 _ (by omega) (by omega)) ?_
              have o_92 := X.at (ob (fd B (ob u) 1)) (by omega) (by omega)
              refine aw_callSi (mc2 := 0) (ms2 := 0) (r := bP (kd B (ob (fd B (ob u) 1)) = 1)) (As := [.ref ai, .int (nI (oa B (ob (fd B (ob u) 1))))]) (rest := []) (c_M_isOfBytes hB_ hin (by omega) (oa B (ob (fd B (ob u) 1))) (by omega)) cs_M_50 d_M_isMethod_93 rfl rfl (Nat.le_of_ble_eq_true rfl) (by decide) (by decide) (by omega) (by omega) ?_
              refine aw_if_eq (tgt := 103) d_M_isMethod_96 (by decide) (fun c_96 => ?_) (fun c_96 => ?_)
              · rw [bP_eq0] at c_96
                refine aw_iconst (v := nI 0) d_M_isMethod_103 (by decide) ?_
                exact aw_iret d_M_isMethod_104 rfl nar0 (rt_f (by unfold ME mh; first | exact fun q => c_6 q.1 | exact fun q => c_78 q.2.2.1 | exact fun q => c_96 q.2.2.2 | (intro q; have q2 := q.2.1; omega)))
              · rw [bP_eq0, Classical.not_not] at c_96
                refine aw_iconst (v := nI 1) d_M_isMethod_99 (by decide) ?_
                refine aw_goto (tgt := 104) d_M_isMethod_100 (by decide) ?_
                exact aw_iret d_M_isMethod_104 rfl nar1 (rt_t (by exact ⟨c_6, by unfold mh; omega, c_78, c_96⟩))
  · rw [bP_eq0] at c_6
    refine aw_iconst (v := nI 0) d_M_isMethod_9 (by decide) ?_
    exact aw_iret d_M_isMethod_10 rfl nar0 (rt_f (by unfold ME mh; first | exact fun q => c_6 q.1 | exact fun q => c_78 q.2.2.1 | exact fun q => c_96 q.2.2.2 | (intro q; have q2 := q.2.1; omega)))

set_option maxHeartbeats 4000000 in
theorem c_M_temporaries {tb : Nat → Nat} {h : AH} {m ai am ak as_ aks ar an ab cn ln kl mn c : Nat} {cd : Int32} {B : Nat → Nat} {fs : Nat → Int32} (hB_ : ∀ i, B i < 256) (hm : h m = some (mO cd ai cn am ln ak kl as_ aks ar an ab mn)) (hin : h ai = some (.inl (1, 65536, .inl (bsf B)))) (hst : h as_ = some (.inl (0, 8192, .inl fs))) (X : VX B c fs) (u : Nat) (hu : u < 4294967296) (hv : vl (nn B) u) (hq : ME B u) : AM tb y_M_temporaries b_M_temporaries 2 (some .int) 3 65 [.ref m, .int (nI u)] h 0 0 (av_Pi (nI (tm B u)) h) := by
  have hn := X.n
  have hnd : nn B = bh B 6 := rfl
  have hq2 := hq.2.1.2.1
  refine am_of (ini := false) [some (.ref m), some (.int (nI u))] (by decide) (fun z => by cases z) (Nat.le_of_ble_eq_true rfl) rfl ?_
  refine aw_aload_n d_M_temporaries_0 rfl ?_
  refine aw_iload_n d_M_temporaries_1 rfl ?_
  refine aw_iconst (v := nI 0) d_M_temporaries_2 (by decide) ?_
  refine aw_callVi (mc2 := 0) (ms2 := 0) (r := nI (fd B (ob u) 0)) (As := [.int (nI u), .int (nI 0)]) (rest := []) (c_M_fieldOf hB_ hm hin hst X u (by omega) hv 0 (hq.1.1) (hq.1.2.1) (by have q_ := hq.1.2.2; omega)) cv_M_72 d_M_temporaries_3 hm rfl rfl rfl (Nat.le_of_ble_eq_true rfl) (by decide) (by decide) (by omega) (by omega) ?_
  have b_3 := fd_lt hB_ (ob u) 0
  refine aw_iconst (v := nI 5) d_M_temporaries_6 (by decide) ?_
  refine aw_ishr (v := nI ((fd B (ob u) 0) / 32)) d_M_temporaries_7 (pk_shrN (by omega) _ 5 (by decide)) ?_
  refine aw_bipush (v := nI 31) d_M_temporaries_8 (by decide) ?_
  refine aw_iand (v := nI (((fd B (ob u) 0) / 32) % 32)) d_M_temporaries_10 (and_31 _) ?_
  exact aw_iret d_M_temporaries_11 rfl rfl (rt_i (by unfold tm; congr 1; omega))

set_option maxHeartbeats 4000000 in
theorem c_M_depth {tb : Nat → Nat} {h : AH} {m ai am ak as_ aks ar an ab cn ln kl mn c : Nat} {cd : Int32} {B : Nat → Nat} {fs : Nat → Int32} (hB_ : ∀ i, B i < 256) (hm : h m = some (mO cd ai cn am ln ak kl as_ aks ar an ab mn)) (hin : h ai = some (.inl (1, 65536, .inl (bsf B)))) (hst : h as_ = some (.inl (0, 8192, .inl fs))) (X : VX B c fs) (u : Nat) (hu : u < 4294967296) (hv : vl (nn B) u) (hq : ME B u) : AM tb y_M_depth b_M_depth 2 (some .int) 3 65 [.ref m, .int (nI u)] h 0 0 (av_Pi (nI (dp B u)) h) := by
  have hn := X.n
  have hnd : nn B = bh B 6 := rfl
  have hq2 := hq.2.1.2.1
  refine am_of (ini := false) [some (.ref m), some (.int (nI u))] (by decide) (fun z => by cases z) (Nat.le_of_ble_eq_true rfl) rfl ?_
  refine aw_aload_n d_M_depth_0 rfl ?_
  refine aw_iload_n d_M_depth_1 rfl ?_
  refine aw_iconst (v := nI 0) d_M_depth_2 (by decide) ?_
  refine aw_callVi (mc2 := 0) (ms2 := 0) (r := nI (fd B (ob u) 0)) (As := [.int (nI u), .int (nI 0)]) (rest := []) (c_M_fieldOf hB_ hm hin hst X u (by omega) hv 0 (hq.1.1) (hq.1.2.1) (by have q_ := hq.1.2.2; omega)) cv_M_72 d_M_depth_3 hm rfl rfl rfl (Nat.le_of_ble_eq_true rfl) (by decide) (by decide) (by omega) (by omega) ?_
  have b_3 := fd_lt hB_ (ob u) 0
  refine aw_bipush (v := nI 10) d_M_depth_6 (by decide) ?_
  refine aw_ishr (v := nI ((fd B (ob u) 0) / 1024)) d_M_depth_8 (pk_shrN (by omega) _ 10 (by decide)) ?_
  refine aw_bipush (v := nI 63) d_M_depth_9 (by decide) ?_
  refine aw_iand (v := nI (((fd B (ob u) 0) / 1024) % 64)) d_M_depth_11 (and_63 _) ?_
  exact aw_iret d_M_depth_12 rfl rfl (rt_i (by unfold dp; congr 1; omega))

set_option maxHeartbeats 4000000 in
theorem c_M_isNumberFrom {tb : Nat → Nat} {h : AH} {m : Nat} {e : AE} (hm : h m = some e) (u x y : Nat) (hu : u < 4294967296) (hx : x < 2147483648) (hy : y < 2147483648) : AM tb y_M_isNumberFrom b_M_isNumberFrom 4 (some .boolean) 1 20 [.ref m, .int (nI u), .int (nI x), .int (nI y)] h 0 0 (av_Pi (bP (NI u x y)) h) := by
  refine am_of (ini := false) [some (.ref m), some (.int (nI u)), some (.int (nI x)), some (.int (nI y))] (by decide) (fun z => by cases z) (Nat.le_of_ble_eq_true rfl) rfl ?_
  refine aw_iload_n d_M_isNumberFrom_0 rfl ?_
  refine aw_callSi (mc2 := 0) (ms2 := 0) (r := bP (u % 2 = 1)) (As := [.int (nI u)]) (rest := []) (c_M_isNumber u) cs_M_76 d_M_isNumberFrom_1 rfl rfl (Nat.le_of_ble_eq_true rfl) (by decide) (by decide) (by omega) (by omega) ?_
  refine aw_if_eq (tgt := 25) d_M_isNumberFrom_4 (by decide) (fun c_4 => ?_) (fun c_4 => ?_)
  · rw [bP_eq0] at c_4
    refine aw_iconst (v := nI 0) d_M_isNumberFrom_25 (by decide) ?_
    exact aw_iret d_M_isNumberFrom_26 rfl nar0 (rt_f (by unfold NI; omega))
  · rw [bP_eq0, Classical.not_not] at c_4
    refine aw_iload_n d_M_isNumberFrom_7 rfl ?_
    refine aw_iconst (v := nI 1) d_M_isNumberFrom_8 (by decide) ?_
    refine aw_ishr (v := (nI u) >>> ((nI 1) &&& 31)) d_M_isNumberFrom_9 rfl ?_
    refine aw_iload_n d_M_isNumberFrom_10 rfl ?_
    refine aw_icmp_lt (tgt := 25) d_M_isNumberFrom_11 (by decide) (fun c_11 => ?_) (fun c_11 => ?_)
    · rw [w_geL hu hx] at c_11
      refine aw_iconst (v := nI 0) d_M_isNumberFrom_25 (by decide) ?_
      exact aw_iret d_M_isNumberFrom_26 rfl nar0 (rt_f (by unfold NI; omega))
    · rw [w_geL hu hx] at c_11
      refine aw_iload_n d_M_isNumberFrom_14 rfl ?_
      refine aw_iconst (v := nI 1) d_M_isNumberFrom_15 (by decide) ?_
      refine aw_ishr (v := (nI u) >>> ((nI 1) &&& 31)) d_M_isNumberFrom_16 rfl ?_
      refine aw_iload_n d_M_isNumberFrom_17 rfl ?_
      refine aw_icmp_gt (tgt := 25) d_M_isNumberFrom_18 (by decide) (fun c_18 => ?_) (fun c_18 => ?_)
      · rw [w_leH hu hy] at c_18
        refine aw_iconst (v := nI 0) d_M_isNumberFrom_25 (by decide) ?_
        exact aw_iret d_M_isNumberFrom_26 rfl nar0 (rt_f (by unfold NI; omega))
      · rw [w_leH hu hy] at c_18
        refine aw_iconst (v := nI 1) d_M_isNumberFrom_21 (by decide) ?_
        refine aw_goto (tgt := 26) d_M_isNumberFrom_22 (by decide) ?_
        exact aw_iret d_M_isNumberFrom_26 rfl nar1 (rt_t (by unfold NI; omega))
