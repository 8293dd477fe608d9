abbrev mO (cd : Int32) (ai cn am ln ak kl as_ aks ar an ab mn : Nat) : AE := .inr (5, [.int cd, .ref ai, .int (nI cn), .ref am, .int (nI ln), .ref ak, .int (nI kl), .ref as_, .ref aks, .ref ar, .ref an, .ref ab, .int (nI mn)])
set_option maxHeartbeats 4000000 in
theorem c_M_hasFields {tb : Nat → Nat} {h : AH} {m ai am ak as_ aks ar an ab cn ln kl mn c : Nat} {cd : Int32} {B : Nat → Nat} {fs : Nat → Int32} (hB_ : ∀ i, B i < 256) (hm : h m = some (mO cd ai cn am ln ak kl as_ aks ar an ab mn)) (hin : h ai = some (.inl (1, 65536, .inl (bsf B)))) (hst : h as_ = some (.inl (0, 8192, .inl fs))) (X : VX B c fs) (u : Nat) (hu : u < 4294967296) (hv : vl (nn B) u) (k : Nat) (hk : k < 2147483648) : AM tb y_M_hasFields b_M_hasFields 3 (some .boolean) 2 42 [.ref m, .int (nI u), .int (nI k)] h 0 0 (av_Pi (bP (HF B u k)) h) := by
  have hn := X.n
  have hnd : nn B = bh B 6 := rfl
  refine am_of (ini := false) [some (.ref m), some (.int (nI u)), some (.int (nI k))] (by decide) (fun z => by cases z) (Nat.le_of_ble_eq_true rfl) rfl ?_
  refine aw_iload_n d_M_hasFields_0 rfl ?_
  refine aw_callSi (mc2 := 0) (ms2 := 0) (r := bP (ob u ≠ 0)) (As := [.int (nI u)]) (rest := []) (c_M_isObject u (by omega) (vl_e hv X.n.2)) cs_M_57 d_M_hasFields_1 rfl rfl (Nat.le_of_ble_eq_true rfl) (by decide) (by decide) (by omega) (by omega) ?_
  refine aw_if_eq (tgt := 48) d_M_hasFields_4 (by decide) (fun c_4 => ?_) (fun c_4 => ?_)
  · rw [bP_eq0] at c_4
    refine aw_iconst (v := nI 0) d_M_hasFields_48 (by decide) ?_
    exact aw_iret d_M_hasFields_49 rfl nar0 (rt_f (by unfold HF; grind))
  · rw [bP_eq0, Classical.not_not] at c_4
    obtain ⟨e_1, e_2, e_3, e_4, e_5, e_6⟩ := ob_of hv c_4
    refine aw_aload_n d_M_hasFields_7 rfl ?_
    refine aw_get fl_M_8 d_M_hasFields_8 hm rfl ?_
    refine aw_aload_n d_M_hasFields_11 rfl ?_
    refine aw_get fl_M_20 d_M_hasFields_12 hm rfl ?_
    refine aw_iload_n d_M_hasFields_15 rfl ?_
    refine aw_iconst (v := nI 2) d_M_hasFields_16 (by decide) ?_
    refine aw_idiv (v := nI (u / 2)) d_M_hasFields_17 (by decide) (pk_div (by omega) (by decide) (by decide)) ?_
    refine aw_iald (x := nI (oa B (ob u))) d_M_hasFields_18 hst (vp_in_nI (by omega) (by omega)) (by rw [nI_clamp (by omega)]; rw [show u / 2 = ob u by omega]; exact X.2 _ (by omega) (by omega)) ?_
    have o_18 := X.at (ob u) (by omega) (by omega)
    refine aw_callSi (mc2 := 0) (ms2 := 0) (r := bP (kd B (ob u) = 1)) (As := [.ref ai, .int (nI (oa B (ob u)))]) (rest := []) (c_M_isOfBytes hB_ hin (by omega) (oa B (ob u)) (by omega)) cs_M_50 d_M_hasFields_19 rfl rfl (Nat.le_of_ble_eq_true rfl) (by decide) (by decide) (by omega) (by omega) ?_
    refine aw_if_ne (tgt := 48) d_M_hasFields_22 (by decide) (fun c_22 => ?_) (fun c_22 => ?_)
    · rw [bP_eq0, Classical.not_not] at c_22
      refine aw_iconst (v := nI 0) d_M_hasFields_48 (by decide) ?_
      exact aw_iret d_M_hasFields_49 rfl nar0 (rt_f (by unfold HF; grind))
    · rw [bP_eq0] at c_22
      refine aw_aload_n d_M_hasFields_25 rfl ?_
      refine aw_get fl_M_8 d_M_hasFields_26 hm rfl ?_
      refine aw_aload_n d_M_hasFields_29 rfl ?_
      refine aw_get fl_M_20 d_M_hasFields_30 hm rfl ?_
      refine aw_iload_n d_M_hasFields_33 rfl ?_
      refine aw_iconst (v := nI 2) d_M_hasFields_34 (by decide) ?_
      refine aw_idiv (v := nI (u / 2)) d_M_hasFields_35 (by decide) (pk_div (by omega) (by decide) (by decide)) ?_
      refine aw_iald (x := nI (oa B (ob u))) d_M_hasFields_36 hst (vp_in_nI (by omega) (by omega)) (by rw [nI_clamp (by omega)]; rw [show u / 2 = ob u by omega]; exact X.2 _ (by omega) (by omega)) ?_
      have o_36 := X.at (ob u) (by omega) (by omega)
      refine aw_callSi (mc2 := 0) (ms2 := 0) (r := nI (sz B (ob u))) (As := [.ref ai, .int (nI (oa B (ob u)))]) (rest := []) (c_M_sizeAt hB_ hin (by omega) (oa B (ob u)) (by omega)) cs_M_54 d_M_hasFields_37 rfl rfl (Nat.le_of_ble_eq_true rfl) (by decide) (by decide) (by omega) (by omega) ?_
      have b_37 := sz_lt hB_ (ob u)
      refine aw_iload_n d_M_hasFields_40 rfl ?_
      refine aw_icmp_lt (tgt := 48) d_M_hasFields_41 (by decide) (fun c_41 => ?_) (fun c_41 => ?_)
      · rw [nI_ltI (by omega) (by omega)] at c_41
        refine aw_iconst (v := nI 0) d_M_hasFields_48 (by decide) ?_
        exact aw_iret d_M_hasFields_49 rfl nar0 (rt_f (by unfold HF; grind))
      · rw [nI_ltI (by omega) (by omega)] at c_41
        refine aw_iconst (v := nI 1) d_M_hasFields_44 (by decide) ?_
        refine aw_goto (tgt := 49) d_M_hasFields_45 (by decide) ?_
        exact aw_iret d_M_hasFields_49 rfl nar1 (rt_t (by unfold HF; grind))

set_option maxHeartbeats 4000000 in
theorem c_M_fieldOf {tb : Nat → Nat} {h : AH} {m ai am ak as_ aks ar an ab cn ln kl mn c : Nat} {cd : Int32} {B : Nat → Nat} {fs : Nat → Int32} (hB_ : ∀ i, B i < 256) (hm : h m = some (mO cd ai cn am ln ak kl as_ aks ar an ab mn)) (hin : h ai = some (.inl (1, 65536, .inl (bsf B)))) (hst : h as_ = some (.inl (0, 8192, .inl fs))) (X : VX B c fs) (u : Nat) (hu : u < 4294967296) (hv : vl (nn B) u) (i : Nat) (ho : ob u ≠ 0) (hk : kd B (ob u) ≠ 1) (hi : i < sz B (ob u)) : AM tb y_M_fieldOf b_M_fieldOf 3 (some .int) 2 43 [.ref m, .int (nI u), .int (nI i)] h 0 0 (av_Pi (nI (fd B (ob u) i)) h) := by
  have hn := X.n
  have hnd : nn B = bh B 6 := rfl
  obtain ⟨e_1, e_2, e_3, e_4, e_5, e_6⟩ := ob_of hv ho
  have hp := X.fp (ob u) i e_5 e_6 hk hi
  have hi2 := sz_lt hB_ (ob u)
  refine am_of (ini := false) [some (.ref m), some (.int (nI u)), some (.int (nI i))] (by decide) (fun z => by cases z) (Nat.le_of_ble_eq_true rfl) rfl ?_
  refine aw_aload_n d_M_fieldOf_0 rfl ?_
  refine aw_get fl_M_8 d_M_fieldOf_1 hm rfl ?_
  refine aw_aload_n d_M_fieldOf_4 rfl ?_
  refine aw_get fl_M_20 d_M_fieldOf_5 hm rfl ?_
  refine aw_iload_n d_M_fieldOf_8 rfl ?_
  refine aw_iconst (v := nI 2) d_M_fieldOf_9 (by decide) ?_
  refine aw_idiv (v := nI (u / 2)) d_M_fieldOf_10 (by decide) (pk_div (by omega) (by decide) (by decide)) ?_
  refine aw_iald (x := nI (oa B (ob u))) d_M_fieldOf_11 hst (vp_in_nI (by omega) (by omega)) (by rw [nI_clamp (by omega)]; rw [show u / 2 = ob u by omega]; exact X.2 _ (by omega) (by omega)) ?_
  have o_11 := X.at (ob u) (by omega) (by omega)
  refine aw_iload_n d_M_fieldOf_12 rfl ?_
  refine aw_callSi (mc2 := 0) (ms2 := 0) (r := nI (fd B (ob u) i)) (As := [.ref ai, .int (nI (oa B (ob u))), .int (nI i)]) (rest := []) (c_M_fieldAt hB_ hin (by omega) (oa B (ob u)) i (by omega)) cs_M_61 d_M_fieldOf_13 rfl rfl (Nat.le_of_ble_eq_true rfl) (by decide) (by decide) (by omega) (by omega) ?_
  have b_13 := fd_lt hB_ (ob u) i
  exact aw_iret d_M_fieldOf_16 rfl rfl ⟨rfl, rfl⟩

set_option maxHeartbeats 4000000 in
theorem c_M_isContext {tb : Nat → Nat} {h : AH} {m ai am ak as_ aks ar an ab cn ln kl mn c : Nat} {cd : Int32} {B : Nat → Nat} {fs : Nat → Int32} (hB_ : ∀ i, B i < 256) (hm : h m = some (mO cd ai cn am ln ak kl as_ aks ar an ab mn)) (hin : h ai = some (.inl (1, 65536, .inl (bsf B)))) (hst : h as_ = some (.inl (0, 8192, .inl fs))) (X : VX B c fs) (u : Nat) (hu : u < 4294967296) (hv : vl (nn B) u) : AM tb y_M_isContext b_M_isContext 3 (some .boolean) 2 42 [.ref m, .int (nI u)] h 0 0 (av_Pi (bP (CX B u)) h) := by
  have hn := X.n
  have hnd : nn B = bh B 6 := rfl
  refine am_of (ini := false) [some (.ref m), some (.int (nI u)), none] (by decide) (fun z => by cases z) (Nat.le_of_ble_eq_true rfl) rfl ?_
  refine aw_iload_n d_M_isContext_0 rfl ?_
  refine aw_callSi (mc2 := 0) (ms2 := 0) (r := bP (ob u ≠ 0)) (As := [.int (nI u)]) (rest := []) (c_M_isObject u (by omega) (vl_e hv X.n.2)) cs_M_57 d_M_isContext_1 rfl rfl (Nat.le_of_ble_eq_true rfl) (by decide) (by decide) (by omega) (by omega) ?_
  refine aw_if_ne (tgt := 9) d_M_isContext_4 (by decide) (fun c_4 => ?_) (fun c_4 => ?_)
  · rw [bP_eq0, Classical.not_not] at c_4
    obtain ⟨e_1, e_2, e_3, e_4, e_5, e_6⟩ := ob_of hv c_4
    refine aw_aload_n d_M_isContext_9 rfl ?_
    refine aw_get fl_M_8 d_M_isContext_10 hm rfl ?_
    refine aw_aload_n d_M_isContext_13 rfl ?_
    refine aw_get fl_M_20 d_M_isContext_14 hm rfl ?_
    refine aw_iload_n d_M_isContext_17 rfl ?_
    refine aw_iconst (v := nI 2) d_M_isContext_18 (by decide) ?_
    refine aw_idiv (v := nI (u / 2)) d_M_isContext_19 (by decide) (pk_div (by omega) (by decide) (by decide)) ?_
    refine aw_iald (x := nI (oa B (ob u))) d_M_isContext_20 hst (vp_in_nI (by omega) (by omega)) (by rw [nI_clamp (by omega)]; rw [show u / 2 = ob u by omega]; exact X.2 _ (by omega) (by omega)) ?_
    have o_20 := X.at (ob u) (by omega) (by omega)
    refine aw_callSi (mc2 := 0) (ms2 := 0) (r := nI (cl B (ob u))) (As := [.ref ai, .int (nI (oa B (ob u)))]) (rest := []) (c_M_word hB_ hin (by omega) (oa B (ob u)) (by omega)) cs_M_47 d_M_isContext_21 rfl rfl (Nat.le_of_ble_eq_true rfl) (by decide) (by decide) (by omega) (by omega) ?_
    have b_21 := cl_lt hB_ (ob u)
    refine aw_istore_n (L' := [some (.ref m), some (.int (nI u)), some (.int (nI (cl B (ob u))))]) d_M_isContext_24 (by decide) rfl rfl ?_
    refine aw_iload_n d_M_isContext_25 rfl ?_
    refine aw_aload_n d_M_isContext_26 rfl ?_
    refine aw_get fl_M_8 d_M_isContext_27 hm rfl ?_
    refine aw_bipush (v := nI 7) d_M_isContext_30 (by decide) ?_
    refine aw_callSi (mc2 := 0) (ms2 := 0) (r := nI (sp B 7)) (As := [.ref ai, .int (nI 7)]) (rest := [.int (nI (cl B (ob u)))]) (c_M_special_aBI hB_ hin (by omega) 7 (by omega)) cs_M_65 d_M_isContext_32 rfl rfl (Nat.le_of_ble_eq_true rfl) (by decide) (by decide) (by omega) (by omega) ?_
    have b_32 : sp B 7 < 4294967296 := bw_lt hB_ _
    refine aw_icmp_eq (tgt := 51) d_M_isContext_35 (by decide) (fun c_35 => ?_) (fun c_35 => ?_)
    · rw [w_eq (by omega) (by omega)] at c_35
      refine aw_iconst (v := nI 1) d_M_isContext_51 (by decide) ?_
      refine aw_goto (tgt := 56) d_M_isContext_52 (by decide) ?_
      exact aw_iret d_M_isContext_56 rfl nar1 (rt_t (by unfold CX; grind))
    · rw [w_eq (by omega) (by omega)] at c_35
      refine aw_iload_n d_M_isContext_38 rfl ?_
      refine aw_aload_n d_M_isContext_39 rfl ?_
      refine aw_get fl_M_8 d_M_isContext_40 hm rfl ?_
      refine aw_bipush (v := nI 8) d_M_isContext_43 (by decide) ?_
      refine aw_callSi (mc2 := 0) (ms2 := 0) (r := nI (sp B 8)) (As := [.ref ai, .int (nI 8)]) (rest := [.int (nI (cl B (ob u)))]) (c_M_special_aBI hB_ hin (by omega) 8 (by omega)) cs_M_65 d_M_isContext_45 rfl rfl (Nat.le_of_ble_eq_true rfl) (by decide) (by decide) (by omega) (by omega) ?_
      have b_45 : sp B 8 < 4294967296 := bw_lt hB_ _
      refine aw_icmp_ne (tgt := 55) d_M_isContext_48 (by decide) (fun c_48 => ?_) (fun c_48 => ?_)
      · rw [w_eq (by omega) (by omega)] at c_48
        refine aw_iconst (v := nI 0) d_M_isContext_55 (by decide) ?_
        exact aw_iret d_M_isContext_56 rfl nar0 (rt_f (by unfold CX; grind))
      · rw [w_eq (by omega) (by omega)] at c_48
        refine aw_iconst (v := nI 1) d_M_isContext_51 (by decide) ?_
        refine aw_goto (tgt := 56) d_M_isContext_52 (by decide) ?_
        exact aw_iret d_M_isContext_56 rfl nar1 (rt_t (by unfold CX; grind))
  · rw [bP_eq0] at c_4
    refine aw_iconst (v := nI 0) d_M_isContext_7 (by decide) ?_
    exact aw_iret d_M_isContext_8 rfl nar0 (rt_f (by unfold CX; grind))
