theorem HF.mono {B : Nat → Nat} {u a b : Nat} (h : HF B u a) (hb : b ≤ a) : HF B u b := ⟨h.1, h.2.1, Nat.le_trans hb h.2.2⟩

set_option maxHeartbeats 4000000 in
theorem lp_M_isCommon {tb : Nat → Nat} {h : AH} {fr lo : Nat} {mc ms : Nat} (hfr : 3 ≤ fr) (hlo : 65 ≤ lo) {m ai am ak as_ aks ar an ab cn ln kl mn c : Nat} {cd : Int32} {B : Nat → Nat} {fs : Nat → Int32} (hB_ : ∀ i, B i < 256) (hm : h m = some (mO cd ai cn am ln ak kl as_ aks ar an ab mn)) (hin : h ai = some (.inl (1, 65536, .inl (bsf B)))) (hst : h as_ = some (.inl (0, 8192, .inl fs))) (X : VX B c fs) (u : Nat) (hu : u < 4294967296) (hv : vl (nn B) u) (f : Nat) (hq : HF B u 2) (hf : f ≤ sz B (ob u)) (hC : ((fd B (ob u) 0 = 0 ∨ CX B (fd B (ob u) 0)) ∧ (fd B (ob u) 1 = 0 ∨ NI (fd B (ob u) 1) 0 1073741823))) : ∀ (d : Nat) (i : Nat), f ≤ i → i ≤ sz B (ob u) → (∀ j, f ≤ j → j < i → fd B (ob u) j = 0) → sz B (ob u) < i + d → AW tb "ImageReaderModel" b_M_isCommon 7 (some .boolean) false none fr lo (av_Pi (bP (CO B (ob u) f)) h) 54 [some (.ref m), some (.int (nI u)), some (.int (nI f)), some (.int (nI (fd B (ob u) 0))), some (.int (nI (fd B (ob u) 1))), some (.int (nI 1)), some (.int (nI i))] [] h mc ms := by
  intro d
  induction d with
  | zero => intro i hfi his hz hd; omega
  | succ d ih =>
    intro i hfi his hz hd
    have hn := X.n
    have hnd : nn B = bh B 6 := rfl
    obtain ⟨e_1, e_2, e_3, e_4, e_5, e_6⟩ := ob_of hv hq.1
    have hs := sz_lt hB_ (ob u)
    refine aw_iload d_M_isCommon_54 rfl ?_
    refine aw_aload_n d_M_isCommon_56 rfl ?_
    refine aw_get fl_M_8 d_M_isCommon_57 hm rfl ?_
    refine aw_aload_n d_M_isCommon_60 rfl ?_
    refine aw_get fl_M_20 d_M_isCommon_61 hm rfl ?_
    refine aw_iload_n d_M_isCommon_64 rfl ?_
    refine aw_iconst (v := nI 2) d_M_isCommon_65 (by decide) ?_
    refine aw_idiv (v := nI (u / 2)) d_M_isCommon_66 (by decide) (pk_div (by omega) (by decide) (by decide)) ?_
    refine aw_iald (x := nI (oa B (ob u))) d_M_isCommon_67 hst (vp_in_nI (by omega) (by omega)) (by rw [nI_clamp (by omega)]; rw [show u / 2 = ob u by omega]; exact X.2 _ (by omega) (by omega)) ?_
    have o_67 := X.at (ob u) (by omega) (by omega)
    refine aw_callSi (mc2 := mc) (ms2 := ms) (r := nI (sz B (ob u))) (As := [.ref ai, .int (nI (oa B (ob u)))]) (rest := [.int (nI i)]) (c_M_sizeAt hB_ hin (by omega) (oa B (ob u)) (by omega)) cs_M_54 d_M_isCommon_68 rfl rfl (Nat.le_of_ble_eq_true rfl) (by omega) (by omega) (by omega) (by omega) ?_
    have b_68 := sz_lt hB_ (ob u)
    refine aw_icmp_ge (tgt := 102) d_M_isCommon_71 (by decide) (fun c_71 => ?_) (fun c_71 => ?_)
    · rw [nI_leI (by omega) (by omega)] at c_71
      have hx_ : sz B (ob u) ≤ i := c_71
      refine aw_iload d_M_isCommon_102 rfl ?_
      exact aw_iret d_M_isCommon_104 rfl nar1 (rt_t (by exact ⟨hC.1, hC.2, fun j h1 h2 => hz j h1 (by omega)⟩))
    · rw [nI_leI (by omega) (by omega)] at c_71
      have hi_ : i < sz B (ob u) := Nat.not_le.mp c_71
      refine aw_iload d_M_isCommon_74 rfl ?_
      refine aw_if_eq (tgt := 102) d_M_isCommon_76 (by decide) (fun z => absurd z (by decide)) (fun _ => ?_)
      refine aw_aload_n d_M_isCommon_79 rfl ?_
      refine aw_iload_n d_M_isCommon_80 rfl ?_
      refine aw_iload d_M_isCommon_81 rfl ?_
      refine aw_callVi (mc2 := mc) (ms2 := ms) (r := nI (fd B (ob u) i)) (As := [.int (nI u), .int (nI i)]) (rest := []) (c_M_fieldOf hB_ hm hin hst X u (by omega) hv i (hq.1) (hq.2.1) (hi_)) cv_M_72 d_M_isCommon_83 hm rfl rfl rfl (Nat.le_of_ble_eq_true rfl) (by omega) (by omega) (by omega) (by omega) ?_
      have b_83 := fd_lt hB_ (ob u) i
      refine aw_if_ne (tgt := 93) d_M_isCommon_86 (by decide) (fun c_86 => ?_) (fun c_86 => ?_)
      · rw [w_eq0 (by omega)] at c_86
        refine aw_iconst (v := nI 0) d_M_isCommon_93 (by decide) ?_
        refine aw_istore (L' := [some (.ref m), some (.int (nI u)), some (.int (nI f)), some (.int (nI (fd B (ob u) 0))), some (.int (nI (fd B (ob u) 1))), some (.int (nI 0)), some (.int (nI i))]) d_M_isCommon_94 (by decide) rfl rfl ?_
        refine aw_iinc (v := nI (i + 1)) (L' := [some (.ref m), some (.int (nI u)), some (.int (nI f)), some (.int (nI (fd B (ob u) 0))), some (.int (nI (fd B (ob u) 1))), some (.int (nI 0)), some (.int (nI (i + 1)))]) d_M_isCommon_96 rfl (nI_add i 1) (by decide) rfl rfl ?_
        refine aw_goto (tgt := 54) d_M_isCommon_99 (by decide) ?_
        refine aw_iload d_M_isCommon_54 rfl ?_
        refine aw_aload_n d_M_isCommon_56 rfl ?_
        refine aw_get fl_M_8 d_M_isCommon_57 hm rfl ?_
        refine aw_aload_n d_M_isCommon_60 rfl ?_
        refine aw_get fl_M_20 d_M_isCommon_61 hm rfl ?_
        refine aw_iload_n d_M_isCommon_64 rfl ?_
        refine aw_iconst (v := nI 2) d_M_isCommon_65 (by decide) ?_
        refine aw_idiv (v := nI (u / 2)) d_M_isCommon_66 (by decide) (pk_div (by omega) (by decide) (by decide)) ?_
        refine aw_iald (x := nI (oa B (ob u))) d_M_isCommon_67 hst (vp_in_nI (by omega) (by omega)) (by rw [nI_clamp (by omega)]; rw [show u / 2 = ob u by omega]; exact X.2 _ (by omega) (by omega)) ?_
        have o_67 := X.at (ob u) (by omega) (by omega)
        refine aw_callSi (mc2 := mc) (ms2 := ms) (r := nI (sz B (ob u))) (As := [.ref ai, .int (nI (oa B (ob u)))]) (rest := [.int (nI (i + 1))]) (c_M_sizeAt hB_ hin (by omega) (oa B (ob u)) (by omega)) cs_M_54 d_M_isCommon_68 rfl rfl (Nat.le_of_ble_eq_true rfl) (by omega) (by omega) (by omega) (by omega) ?_
        have b_68 := sz_lt hB_ (ob u)
        refine aw_icmp_ge (tgt := 102) d_M_isCommon_71 (by decide) (fun c_71 => ?_) (fun c_71 => ?_)
        · rw [nI_leI (by omega) (by omega)] at c_71
          refine aw_iload d_M_isCommon_102 rfl ?_
          exact aw_iret d_M_isCommon_104 rfl nar0 (rt_f (by exact fun q => c_86 (q.2.2 i hfi hi_)))
        · rw [nI_leI (by omega) (by omega)] at c_71
          refine aw_iload d_M_isCommon_74 rfl ?_
          refine aw_if_eq (tgt := 102) d_M_isCommon_76 (by decide) (fun _ => ?_) (fun z => absurd (by decide) z)
          refine aw_iload d_M_isCommon_102 rfl ?_
          exact aw_iret d_M_isCommon_104 rfl nar0 (rt_f (by exact fun q => c_86 (q.2.2 i hfi hi_)))
      · rw [w_eq0 (by omega)] at c_86
        refine aw_iconst (v := nI 1) d_M_isCommon_89 (by decide) ?_
        refine aw_goto (tgt := 94) d_M_isCommon_90 (by decide) ?_
        refine aw_istore (L' := [some (.ref m), some (.int (nI u)), some (.int (nI f)), some (.int (nI (fd B (ob u) 0))), some (.int (nI (fd B (ob u) 1))), some (.int (nI 1)), some (.int (nI i))]) d_M_isCommon_94 (by decide) rfl rfl ?_
        refine aw_iinc (v := nI (i + 1)) (L' := [some (.ref m), some (.int (nI u)), some (.int (nI f)), some (.int (nI (fd B (ob u) 0))), some (.int (nI (fd B (ob u) 1))), some (.int (nI 1)), some (.int (nI (i + 1)))]) d_M_isCommon_96 rfl (nI_add i 1) (by decide) rfl rfl ?_
        refine aw_goto (tgt := 54) d_M_isCommon_99 (by decide) ?_
        exact ih (i + 1) (by omega) (by omega) (fun j h1 h2 => by rcases Nat.lt_or_ge j i with z | z; exact hz j h1 z; exact (show j = i by omega) ▸ c_86) (by omega)

set_option maxHeartbeats 4000000 in
theorem c_M_isCommon {tb : Nat → Nat} {h : AH} {m ai am ak as_ aks ar an ab cn ln kl mn c : Nat} {cd : Int32} {B : Nat → Nat} {fs : Nat → Int32} (hB_ : ∀ i, B i < 256) (hm : h m = some (mO cd ai cn am ln ak kl as_ aks ar an ab mn)) (hin : h ai = some (.inl (1, 65536, .inl (bsf B)))) (hst : h as_ = some (.inl (0, 8192, .inl fs))) (X : VX B c fs) (u : Nat) (hu : u < 4294967296) (hv : vl (nn B) u) (f : Nat) (hq : HF B u 2) (hf : f ≤ sz B (ob u)) : AM tb y_M_isCommon b_M_isCommon 7 (some .boolean) 3 65 [.ref m, .int (nI u), .int (nI f)] h 0 0 (av_Pi (bP (CO B (ob u) f)) h) := by
  have hn := X.n
  have hnd : nn B = bh B 6 := rfl
  obtain ⟨e_1, e_2, e_3, e_4, e_5, e_6⟩ := ob_of hv hq.1
  have hs := sz_lt hB_ (ob u)
  refine am_of (ini := false) [some (.ref m), some (.int (nI u)), some (.int (nI f)), none, none, none, none] (by decide) (fun z => by cases z) (Nat.le_of_ble_eq_true rfl) rfl ?_
  refine aw_aload_n d_M_isCommon_0 rfl ?_
  refine aw_iload_n d_M_isCommon_1 rfl ?_
  refine aw_iconst (v := nI 0) d_M_isCommon_2 (by decide) ?_
  refine aw_callVi (mc2 := 0) (ms2 := 0) (r := nI (fd B (ob u) 0)) (As := [.int (nI u), .int (nI 0)]) (rest := []) (c_M_fieldOf hB_ hm hin hst X u (by omega) hv 0 (hq.1) (hq.2.1) (by have q_ := hq.2.2; omega)) cv_M_72 d_M_isCommon_3 hm rfl rfl rfl (Nat.le_of_ble_eq_true rfl) (by decide) (by decide) (by omega) (by omega) ?_
  have b_3 := fd_lt hB_ (ob u) 0
  refine aw_istore_n (L' := [some (.ref m), some (.int (nI u)), some (.int (nI f)), some (.int (nI (fd B (ob u) 0))), none, none, none]) d_M_isCommon_6 (by decide) rfl rfl ?_
  refine aw_aload_n d_M_isCommon_7 rfl ?_
  refine aw_iload_n d_M_isCommon_8 rfl ?_
  refine aw_iconst (v := nI 1) d_M_isCommon_9 (by decide) ?_
  refine aw_callVi (mc2 := 0) (ms2 := 0) (r := nI (fd B (ob u) 1)) (As := [.int (nI u), .int (nI 1)]) (rest := []) (c_M_fieldOf hB_ hm hin hst X u (by omega) hv 1 (hq.1) (hq.2.1) (by have q_ := hq.2.2; omega)) cv_M_72 d_M_isCommon_10 hm rfl rfl rfl (Nat.le_of_ble_eq_true rfl) (by decide) (by decide) (by omega) (by omega) ?_
  have b_10 := fd_lt hB_ (ob u) 1
  refine aw_istore (L' := [some (.ref m), some (.int (nI u)), some (.int (nI f)), some (.int (nI (fd B (ob u) 0))), some (.int (nI (fd B (ob u) 1))), none, none]) d_M_isCommon_13 (by decide) rfl rfl ?_
  refine aw_iload_n d_M_isCommon_15 rfl ?_
  refine aw_if_eq (tgt := 27) d_M_isCommon_16 (by decide) (fun c_16 => ?_) (fun c_16 => ?_)
  · rw [w_eq0 (by omega)] at c_16
    refine aw_iload d_M_isCommon_27 rfl ?_
    refine aw_if_eq (tgt := 44) d_M_isCommon_29 (by decide) (fun c_29 => ?_) (fun c_29 => ?_)
    · rw [w_eq0 (by omega)] at c_29
      refine aw_iconst (v := nI 1) d_M_isCommon_44 (by decide) ?_
      refine aw_goto (tgt := 49) d_M_isCommon_45 (by decide) ?_
      refine aw_istore (L' := [some (.ref m), some (.int (nI u)), some (.int (nI f)), some (.int (nI (fd B (ob u) 0))), some (.int (nI (fd B (ob u) 1))), some (.int (nI 1)), none]) d_M_isCommon_49 (by decide) rfl rfl ?_
      refine aw_iload_n d_M_isCommon_51 rfl ?_
      refine aw_istore (L' := [some (.ref m), some (.int (nI u)), some (.int (nI f)), some (.int (nI (fd B (ob u) 0))), some (.int (nI (fd B (ob u) 1))), some (.int (nI 1)), some (.int (nI f))]) d_M_isCommon_52 (by decide) rfl rfl ?_
      exact lp_M_isCommon (by decide) (by decide) hB_ hm hin hst X u hu hv f hq hf (by grind) (sz B (ob u) + 1) f (Nat.le_refl _) hf (fun j h1 h2 => by omega) (by omega)
    · rw [w_eq0 (by omega)] at c_29
      refine aw_aload_n d_M_isCommon_32 rfl ?_
      refine aw_iload d_M_isCommon_33 rfl ?_
      refine aw_iconst (v := nI 0) d_M_isCommon_35 (by decide) ?_
      refine aw_ldc (v := nI 1073741823) d_M_isCommon_36 tw_792 ?_
      refine aw_callVi (mc2 := 0) (ms2 := 0) (r := bP (NI (fd B (ob u) 1) 0 1073741823)) (As := [.int (nI (fd B (ob u) 1)), .int (nI 0), .int (nI 1073741823)]) (rest := []) (c_M_isNumberFrom hm (fd B (ob u) 1) 0 1073741823 (by omega) (by omega) (by omega)) cv_M_84 d_M_isCommon_38 hm rfl rfl rfl (Nat.le_of_ble_eq_true rfl) (by decide) (by decide) (by omega) (by omega) ?_
      refine aw_if_eq (tgt := 48) d_M_isCommon_41 (by decide) (fun c_41 => ?_) (fun c_41 => ?_)
      · rw [bP_eq0] at c_41
        refine aw_iconst (v := nI 0) d_M_isCommon_48 (by decide) ?_
        refine aw_istore (L' := [some (.ref m), some (.int (nI u)), some (.int (nI f)), some (.int (nI (fd B (ob u) 0))), some (.int (nI (fd B (ob u) 1))), some (.int (nI 0)), none]) d_M_isCommon_49 (by decide) rfl rfl ?_
        refine aw_iload_n d_M_isCommon_51 rfl ?_
        refine aw_istore (L' := [some (.ref m), some (.int (nI u)), some (.int (nI f)), some (.int (nI (fd B (ob u) 0))), some (.int (nI (fd B (ob u) 1))), some (.int (nI 0)), some (.int (nI f))]) d_M_isCommon_52 (by decide) rfl rfl ?_
        refine aw_iload d_M_isCommon_54 rfl ?_
        refine aw_aload_n d_M_isCommon_56 rfl ?_
        refine aw_get fl_M_8 d_M_isCommon_57 hm rfl ?_
        refine aw_aload_n d_M_isCommon_60 rfl ?_
        refine aw_get fl_M_20 d_M_isCommon_61 hm rfl ?_
        refine aw_iload_n d_M_isCommon_64 rfl ?_
        refine aw_iconst (v := nI 2) d_M_isCommon_65 (by decide) ?_
        refine aw_idiv (v := nI (u / 2)) d_M_isCommon_66 (by decide) (pk_div (by omega) (by decide) (by decide)) ?_
        refine aw_iald (x := nI (oa B (ob u))) d_M_isCommon_67 hst (vp_in_nI (by omega) (by omega)) (by rw [nI_clamp (by omega)]; rw [show u / 2 = ob u by omega]; exact X.2 _ (by omega) (by omega)) ?_
        have o_67 := X.at (ob u) (by omega) (by omega)
        refine aw_callSi (mc2 := 0) (ms2 := 0) (r := nI (sz B (ob u))) (As := [.ref ai, .int (nI (oa B (ob u)))]) (rest := [.int (nI f)]) (c_M_sizeAt hB_ hin (by omega) (oa B (ob u)) (by omega)) cs_M_54 d_M_isCommon_68 rfl rfl (Nat.le_of_ble_eq_true rfl) (by decide) (by decide) (by omega) (by omega) ?_
        have b_68 := sz_lt hB_ (ob u)
        refine aw_icmp_ge (tgt := 102) d_M_isCommon_71 (by decide) (fun c_71 => ?_) (fun c_71 => ?_)
        · rw [nI_leI (by omega) (by omega)] at c_71
          refine aw_iload d_M_isCommon_102 rfl ?_
          exact aw_iret d_M_isCommon_104 rfl nar0 (rt_f (by unfold CO; grind))
        · rw [nI_leI (by omega) (by omega)] at c_71
          refine aw_iload d_M_isCommon_74 rfl ?_
          refine aw_if_eq (tgt := 102) d_M_isCommon_76 (by decide) (fun _ => ?_) (fun z => absurd (by decide) z)
          refine aw_iload d_M_isCommon_102 rfl ?_
          exact aw_iret d_M_isCommon_104 rfl nar0 (rt_f (by unfold CO; grind))
      · rw [bP_eq0, Classical.not_not] at c_41
        refine aw_iconst (v := nI 1) d_M_isCommon_44 (by decide) ?_
        refine aw_goto (tgt := 49) d_M_isCommon_45 (by decide) ?_
        refine aw_istore (L' := [some (.ref m), some (.int (nI u)), some (.int (nI f)), some (.int (nI (fd B (ob u) 0))), some (.int (nI (fd B (ob u) 1))), some (.int (nI 1)), none]) d_M_isCommon_49 (by decide) rfl rfl ?_
        refine aw_iload_n d_M_isCommon_51 rfl ?_
        refine aw_istore (L' := [some (.ref m), some (.int (nI u)), some (.int (nI f)), some (.int (nI (fd B (ob u) 0))), some (.int (nI (fd B (ob u) 1))), some (.int (nI 1)), some (.int (nI f))]) d_M_isCommon_52 (by decide) rfl rfl ?_
        exact lp_M_isCommon (by decide) (by decide) hB_ hm hin hst X u hu hv f hq hf (by grind) (sz B (ob u) + 1) f (Nat.le_refl _) hf (fun j h1 h2 => by omega) (by omega)
  · rw [w_eq0 (by omega)] at c_16
    refine aw_aload_n d_M_isCommon_19 rfl ?_
    refine aw_iload_n d_M_isCommon_20 rfl ?_
    refine aw_callVi (mc2 := 0) (ms2 := 0) (r := bP (CX B (fd B (ob u) 0))) (As := [.int (nI (fd B (ob u) 0))]) (rest := []) (c_M_isContext hB_ hm hin hst X (fd B (ob u) 0) (by omega) (X.fv (ob_of hv (hq.1)).2.2.2.2.1 (ob_of hv (hq.1)).2.2.2.2.2 (hq.2.1) (by have q_ := hq.2.2; omega))) cv_M_80 d_M_isCommon_21 hm rfl rfl rfl (Nat.le_of_ble_eq_true rfl) (by decide) (by decide) (by omega) (by omega) ?_
    refine aw_if_eq (tgt := 48) d_M_isCommon_24 (by decide) (fun c_24 => ?_) (fun c_24 => ?_)
    · rw [bP_eq0] at c_24
      refine aw_iconst (v := nI 0) d_M_isCommon_48 (by decide) ?_
      refine aw_istore (L' := [some (.ref m), some (.int (nI u)), some (.int (nI f)), some (.int (nI (fd B (ob u) 0))), some (.int (nI (fd B (ob u) 1))), some (.int (nI 0)), none]) d_M_isCommon_49 (by decide) rfl rfl ?_
      refine aw_iload_n d_M_isCommon_51 rfl ?_
      refine aw_istore (L' := [some (.ref m), some (.int (nI u)), some (.int (nI f)), some (.int (nI (fd B (ob u) 0))), some (.int (nI (fd B (ob u) 1))), some (.int (nI 0)), some (.int (nI f))]) d_M_isCommon_52 (by decide) rfl rfl ?_
      refine aw_iload d_M_isCommon_54 rfl ?_
      refine aw_aload_n d_M_isCommon_56 rfl ?_
      refine aw_get fl_M_8 d_M_isCommon_57 hm rfl ?_
      refine aw_aload_n d_M_isCommon_60 rfl ?_
      refine aw_get fl_M_20 d_M_isCommon_61 hm rfl ?_
      refine aw_iload_n d_M_isCommon_64 rfl ?_
      refine aw_iconst (v := nI 2) d_M_isCommon_65 (by decide) ?_
      refine aw_idiv (v := nI (u / 2)) d_M_isCommon_66 (by decide) (pk_div (by omega) (by decide) (by decide)) ?_
      refine aw_iald (x := nI (oa B (ob u))) d_M_isCommon_67 hst (vp_in_nI (by omega) (by omega)) (by rw [nI_clamp (by omega)]; rw [show u / 2 = ob u by omega]; exact X.2 _ (by omega) (by omega)) ?_
      have o_67 := X.at (ob u) (by omega) (by omega)
      refine aw_callSi (mc2 := 0) (ms2 := 0) (r := nI (sz B (ob u))) (As := [.ref ai, .int (nI (oa B (ob u)))]) (rest := [.int (nI f)]) (c_M_sizeAt hB_ hin (by omega) (oa B (ob u)) (by omega)) cs_M_54 d_M_isCommon_68 rfl rfl (Nat.le_of_ble_eq_true rfl) (by decide) (by decide) (by omega) (by omega) ?_
      have b_68 := sz_lt hB_ (ob u)
      refine aw_icmp_ge (tgt := 102) d_M_isCommon_71 (by decide) (fun c_71 => ?_) (fun c_71 => ?_)
      · rw [nI_leI (by omega) (by omega)] at c_71
        refine aw_iload d_M_isCommon_102 rfl ?_
        exact aw_iret d_M_isCommon_104 rfl nar0 (rt_f (by unfold CO; grind))
      · rw [nI_leI (by omega) (by omega)] at c_71
        refine aw_iload d_M_isCommon_74 rfl ?_
        refine aw_if_eq (tgt := 102) d_M_isCommon_76 (by decide) (fun _ => ?_) (fun z => absurd (by decide) z)
        refine aw_iload d_M_isCommon_102 rfl ?_
        exact aw_iret d_M_isCommon_104 rfl nar0 (rt_f (by unfold CO; grind))
    · rw [bP_eq0, Classical.not_not] at c_24
      refine aw_iload d_M_isCommon_27 rfl ?_
      refine aw_if_eq (tgt := 44) d_M_isCommon_29 (by decide) (fun c_29 => ?_) (fun c_29 => ?_)
      · rw [w_eq0 (by omega)] at c_29
        refine aw_iconst (v := nI 1) d_M_isCommon_44 (by decide) ?_
        refine aw_goto (tgt := 49) d_M_isCommon_45 (by decide) ?_
        refine aw_istore (L' := [some (.ref m), some (.int (nI u)), some (.int (nI f)), some (.int (nI (fd B (ob u) 0))), some (.int (nI (fd B (ob u) 1))), some (.int (nI 1)), none]) d_M_isCommon_49 (by decide) rfl rfl ?_
        refine aw_iload_n d_M_isCommon_51 rfl ?_
        refine aw_istore (L' := [some (.ref m), some (.int (nI u)), some (.int (nI f)), some (.int (nI (fd B (ob u) 0))), some (.int (nI (fd B (ob u) 1))), some (.int (nI 1)), some (.int (nI f))]) d_M_isCommon_52 (by decide) rfl rfl ?_
        exact lp_M_isCommon (by decide) (by decide) hB_ hm hin hst X u hu hv f hq hf (by grind) (sz B (ob u) + 1) f (Nat.le_refl _) hf (fun j h1 h2 => by omega) (by omega)
      · rw [w_eq0 (by omega)] at c_29
        refine aw_aload_n d_M_isCommon_32 rfl ?_
        refine aw_iload d_M_isCommon_33 rfl ?_
        refine aw_iconst (v := nI 0) d_M_isCommon_35 (by decide) ?_
        refine aw_ldc (v := nI 1073741823) d_M_isCommon_36 tw_792 ?_
        refine aw_callVi (mc2 := 0) (ms2 := 0) (r := bP (NI (fd B (ob u) 1) 0 1073741823)) (As := [.int (nI (fd B (ob u) 1)), .int (nI 0), .int (nI 1073741823)]) (rest := []) (c_M_isNumberFrom hm (fd B (ob u) 1) 0 1073741823 (by omega) (by omega) (by omega)) cv_M_84 d_M_isCommon_38 hm rfl rfl rfl (Nat.le_of_ble_eq_true rfl) (by decide) (by decide) (by omega) (by omega) ?_
        refine aw_if_eq (tgt := 48) d_M_isCommon_41 (by decide) (fun c_41 => ?_) (fun c_41 => ?_)
        · rw [bP_eq0] at c_41
          refine aw_iconst (v := nI 0) d_M_isCommon_48 (by decide) ?_
          refine aw_istore (L' := [some (.ref m), some (.int (nI u)), some (.int (nI f)), some (.int (nI (fd B (ob u) 0))), some (.int (nI (fd B (ob u) 1))), some (.int (nI 0)), none]) d_M_isCommon_49 (by decide) rfl rfl ?_
          refine aw_iload_n d_M_isCommon_51 rfl ?_
          refine aw_istore (L' := [some (.ref m), some (.int (nI u)), some (.int (nI f)), some (.int (nI (fd B (ob u) 0))), some (.int (nI (fd B (ob u) 1))), some (.int (nI 0)), some (.int (nI f))]) d_M_isCommon_52 (by decide) rfl rfl ?_
          refine aw_iload d_M_isCommon_54 rfl ?_
          refine aw_aload_n d_M_isCommon_56 rfl ?_
          refine aw_get fl_M_8 d_M_isCommon_57 hm rfl ?_
          refine aw_aload_n d_M_isCommon_60 rfl ?_
          refine aw_get fl_M_20 d_M_isCommon_61 hm rfl ?_
          refine aw_iload_n d_M_isCommon_64 rfl ?_
          refine aw_iconst (v := nI 2) d_M_isCommon_65 (by decide) ?_
          refine aw_idiv (v := nI (u / 2)) d_M_isCommon_66 (by decide) (pk_div (by omega) (by decide) (by decide)) ?_
          refine aw_iald (x := nI (oa B (ob u))) d_M_isCommon_67 hst (vp_in_nI (by omega) (by omega)) (by rw [nI_clamp (by omega)]; rw [show u / 2 = ob u by omega]; exact X.2 _ (by omega) (by omega)) ?_
          have o_67 := X.at (ob u) (by omega) (by omega)
          refine aw_callSi (mc2 := 0) (ms2 := 0) (r := nI (sz B (ob u))) (As := [.ref ai, .int (nI (oa B (ob u)))]) (rest := [.int (nI f)]) (c_M_sizeAt hB_ hin (by omega) (oa B (ob u)) (by omega)) cs_M_54 d_M_isCommon_68 rfl rfl (Nat.le_of_ble_eq_true rfl) (by decide) (by decide) (by omega) (by omega) ?_
          have b_68 := sz_lt hB_ (ob u)
          refine aw_icmp_ge (tgt := 102) d_M_isCommon_71 (by decide) (fun c_71 => ?_) (fun c_71 => ?_)
          · rw [nI_leI (by omega) (by omega)] at c_71
            refine aw_iload d_M_isCommon_102 rfl ?_
            exact aw_iret d_M_isCommon_104 rfl nar0 (rt_f (by unfold CO; grind))
          · rw [nI_leI (by omega) (by omega)] at c_71
            refine aw_iload d_M_isCommon_74 rfl ?_
            refine aw_if_eq (tgt := 102) d_M_isCommon_76 (by decide) (fun _ => ?_) (fun z => absurd (by decide) z)
            refine aw_iload d_M_isCommon_102 rfl ?_
            exact aw_iret d_M_isCommon_104 rfl nar0 (rt_f (by unfold CO; grind))
        · rw [bP_eq0, Classical.not_not] at c_41
          refine aw_iconst (v := nI 1) d_M_isCommon_44 (by decide) ?_
          refine aw_goto (tgt := 49) d_M_isCommon_45 (by decide) ?_
          refine aw_istore (L' := [some (.ref m), some (.int (nI u)), some (.int (nI f)), some (.int (nI (fd B (ob u) 0))), some (.int (nI (fd B (ob u) 1))), some (.int (nI 1)), none]) d_M_isCommon_49 (by decide) rfl rfl ?_
          refine aw_iload_n d_M_isCommon_51 rfl ?_
          refine aw_istore (L' := [some (.ref m), some (.int (nI u)), some (.int (nI f)), some (.int (nI (fd B (ob u) 0))), some (.int (nI (fd B (ob u) 1))), some (.int (nI 1)), some (.int (nI f))]) d_M_isCommon_52 (by decide) rfl rfl ?_
          exact lp_M_isCommon (by decide) (by decide) hB_ hm hin hst X u hu hv f hq hf (by grind) (sz B (ob u) + 1) f (Nat.le_refl _) hf (fun j h1 h2 => by omega) (by omega)

set_option maxHeartbeats 4000000 in
theorem c_M_isMethodContext {tb : Nat → Nat} {h : AH} {m ai am ak as_ aks ar an ab cn ln kl mn c : Nat} {cd : Int32} {B : Nat → Nat} {fs : Nat → Int32} (hB_ : ∀ i, B i < 256) (hm : h m = some (mO cd ai cn am ln ak kl as_ aks ar an ab mn)) (hin : h ai = some (.inl (1, 65536, .inl (bsf B)))) (hst : h as_ = some (.inl (0, 8192, .inl fs))) (X : VX B c fs) (u : Nat) (hu : u < 4294967296) (hv : vl (nn B) u) (ho : ob u ≠ 0) : AM tb y_M_isMethodContext b_M_isMethodContext 5 (some .boolean) 4 91 [.ref m, .int (nI u)] h 0 0 (av_Pi (bP (MC B (ob u))) h) := by
  have hn := X.n
  have hnd : nn B = bh B 6 := rfl
  obtain ⟨e_1, e_2, e_3, e_4, e_5, e_6⟩ := ob_of hv ho
  have hs := sz_lt hB_ (ob u)
  refine am_of (ini := false) [some (.ref m), some (.int (nI u)), none, none, none] (by decide) (fun z => by cases z) (Nat.le_of_ble_eq_true rfl) rfl ?_
  refine aw_aload_n d_M_isMethodContext_0 rfl ?_
  refine aw_iload_n d_M_isMethodContext_1 rfl ?_
  refine aw_iconst (v := nI 5) d_M_isMethodContext_2 (by decide) ?_
  refine aw_callVi (mc2 := 0) (ms2 := 0) (r := bP (HF B u 5)) (As := [.int (nI u), .int (nI 5)]) (rest := []) (c_M_hasFields hB_ hm hin hst X u (by omega) hv 5 (by omega)) cv_M_68 d_M_isMethodContext_3 hm rfl rfl rfl (Nat.le_of_ble_eq_true rfl) (by decide) (by decide) (by omega) (by omega) ?_
  refine aw_if_eq (tgt := 22) d_M_isMethodContext_6 (by decide) (fun c_6 => ?_) (fun c_6 => ?_)
  · rw [bP_eq0] at c_6
    refine aw_iconst (v := nI 0) d_M_isMethodContext_22 (by decide) ?_
    exact aw_iret d_M_isMethodContext_23 rfl nar0 (rt_f (by first | exact fun q => c_6 ⟨ho, q.1, q.2.1⟩ | exact fun q => c_19 q.2.2.1 | exact fun q => c_74 q.2.2.2.1 | exact fun q => c_87 q.2.2.2.2.1 | exact fun q => c_101 q.2.2.2.2.2))
  · rw [bP_eq0, Classical.not_not] at c_6
    refine aw_aload_n d_M_isMethodContext_9 rfl ?_
    refine aw_aload_n d_M_isMethodContext_10 rfl ?_
    refine aw_iload_n d_M_isMethodContext_11 rfl ?_
    refine aw_iconst (v := nI 3) d_M_isMethodContext_12 (by decide) ?_
    refine aw_callVi (mc2 := 0) (ms2 := 0) (r := nI (fd B (ob u) 3)) (As := [.int (nI u), .int (nI 3)]) (rest := [.ref m]) (c_M_fieldOf hB_ hm hin hst X u (by omega) hv 3 (c_6.1) (c_6.2.1) (by have q_ := c_6.2.2; omega)) cv_M_72 d_M_isMethodContext_13 hm rfl rfl rfl (Nat.le_of_ble_eq_true rfl) (by decide) (by decide) (by omega) (by omega) ?_
    have b_13 := fd_lt hB_ (ob u) 3
    refine aw_callVi (mc2 := 0) (ms2 := 0) (r := bP (ME B (fd B (ob u) 3))) (As := [.int (nI (fd B (ob u) 3))]) (rest := []) (c_M_isMethod hB_ hm hin hst X (fd B (ob u) 3) (by omega) (X.fv (ob_of hv (c_6.1)).2.2.2.2.1 (ob_of hv (c_6.1)).2.2.2.2.2 (c_6.2.1) (by have q_ := c_6.2.2; omega))) cv_M_88 d_M_isMethodContext_16 hm rfl rfl rfl (Nat.le_of_ble_eq_true rfl) (by decide) (by decide) (by omega) (by omega) ?_
    refine aw_if_ne (tgt := 24) d_M_isMethodContext_19 (by decide) (fun c_19 => ?_) (fun c_19 => ?_)
    · rw [bP_eq0, Classical.not_not] at c_19
      refine aw_aload_n d_M_isMethodContext_24 rfl ?_
      refine aw_aload_n d_M_isMethodContext_25 rfl ?_
      refine aw_iload_n d_M_isMethodContext_26 rfl ?_
      refine aw_iconst (v := nI 3) d_M_isMethodContext_27 (by decide) ?_
      refine aw_callVi (mc2 := 0) (ms2 := 0) (r := nI (fd B (ob u) 3)) (As := [.int (nI u), .int (nI 3)]) (rest := [.ref m]) (c_M_fieldOf hB_ hm hin hst X u (by omega) hv 3 (c_6.1) (c_6.2.1) (by have q_ := c_6.2.2; omega)) cv_M_72 d_M_isMethodContext_28 hm rfl rfl rfl (Nat.le_of_ble_eq_true rfl) (by decide) (by decide) (by omega) (by omega) ?_
      have b_28 := fd_lt hB_ (ob u) 3
      refine aw_callVi (mc2 := 0) (ms2 := 0) (r := nI (tm B (fd B (ob u) 3))) (As := [.int (nI (fd B (ob u) 3))]) (rest := []) (c_M_temporaries hB_ hm hin hst X (fd B (ob u) 3) (by omega) (X.fv (ob_of hv (c_6.1)).2.2.2.2.1 (ob_of hv (c_6.1)).2.2.2.2.2 (c_6.2.1) (by have q_ := c_6.2.2; omega)) c_19) cv_M_91 d_M_isMethodContext_31 hm rfl rfl rfl (Nat.le_of_ble_eq_true rfl) (by decide) (by decide) (by omega) (by omega) ?_
      have b_31 : tm B (fd B (ob u) 3) < 32 := Nat.mod_lt _ (by decide)
      refine aw_istore_n (L' := [some (.ref m), some (.int (nI u)), some (.int (nI (tm B (fd B (ob u) 3)))), none, none]) d_M_isMethodContext_34 (by decide) rfl rfl ?_
      refine aw_aload_n d_M_isMethodContext_35 rfl ?_
      refine aw_aload_n d_M_isMethodContext_36 rfl ?_
      refine aw_iload_n d_M_isMethodContext_37 rfl ?_
      refine aw_iconst (v := nI 3) d_M_isMethodContext_38 (by decide) ?_
      refine aw_callVi (mc2 := 0) (ms2 := 0) (r := nI (fd B (ob u) 3)) (As := [.int (nI u), .int (nI 3)]) (rest := [.ref m]) (c_M_fieldOf hB_ hm hin hst X u (by omega) hv 3 (c_6.1) (c_6.2.1) (by have q_ := c_6.2.2; omega)) cv_M_72 d_M_isMethodContext_39 hm rfl rfl rfl (Nat.le_of_ble_eq_true rfl) (by decide) (by decide) (by omega) (by omega) ?_
      have b_39 := fd_lt hB_ (ob u) 3
      refine aw_callVi (mc2 := 0) (ms2 := 0) (r := nI (dp B (fd B (ob u) 3))) (As := [.int (nI (fd B (ob u) 3))]) (rest := []) (c_M_depth hB_ hm hin hst X (fd B (ob u) 3) (by omega) (X.fv (ob_of hv (c_6.1)).2.2.2.2.1 (ob_of hv (c_6.1)).2.2.2.2.2 (c_6.2.1) (by have q_ := c_6.2.2; omega)) c_19) cv_M_95 d_M_isMethodContext_42 hm rfl rfl rfl (Nat.le_of_ble_eq_true rfl) (by decide) (by decide) (by omega) (by omega) ?_
      have b_42 : dp B (fd B (ob u) 3) < 64 := Nat.mod_lt _ (by decide)
      refine aw_istore_n (L' := [some (.ref m), some (.int (nI u)), some (.int (nI (tm B (fd B (ob u) 3)))), some (.int (nI (dp B (fd B (ob u) 3)))), none]) d_M_isMethodContext_45 (by decide) rfl rfl ?_
      refine aw_aload_n d_M_isMethodContext_46 rfl ?_
      refine aw_iload_n d_M_isMethodContext_47 rfl ?_
      refine aw_iconst (v := nI 2) d_M_isMethodContext_48 (by decide) ?_
      refine aw_callVi (mc2 := 0) (ms2 := 0) (r := nI (fd B (ob u) 2)) (As := [.int (nI u), .int (nI 2)]) (rest := []) (c_M_fieldOf hB_ hm hin hst X u (by omega) hv 2 (c_6.1) (c_6.2.1) (by have q_ := c_6.2.2; omega)) cv_M_72 d_M_isMethodContext_49 hm rfl rfl rfl (Nat.le_of_ble_eq_true rfl) (by decide) (by decide) (by omega) (by omega) ?_
      have b_49 := fd_lt hB_ (ob u) 2
      refine aw_istore (L' := [some (.ref m), some (.int (nI u)), some (.int (nI (tm B (fd B (ob u) 3)))), some (.int (nI (dp B (fd B (ob u) 3)))), some (.int (nI (fd B (ob u) 2)))]) d_M_isMethodContext_52 (by decide) rfl rfl ?_
      refine aw_aload_n d_M_isMethodContext_54 rfl ?_
      refine aw_get fl_M_8 d_M_isMethodContext_55 hm rfl ?_
      refine aw_aload_n d_M_isMethodContext_58 rfl ?_
      refine aw_get fl_M_20 d_M_isMethodContext_59 hm rfl ?_
      refine aw_iload_n d_M_isMethodContext_62 rfl ?_
      refine aw_iconst (v := nI 2) d_M_isMethodContext_63 (by decide) ?_
      refine aw_idiv (v := nI (u / 2)) d_M_isMethodContext_64 (by decide) (pk_div (by omega) (by decide) (by decide)) ?_
      refine aw_iald (x := nI (oa B (ob u))) d_M_isMethodContext_65 hst (vp_in_nI (by omega) (by omega)) (by rw [nI_clamp (by omega)]; rw [show u / 2 = ob u by omega]; exact X.2 _ (by omega) (by omega)) ?_
      have o_65 := X.at (ob u) (by omega) (by omega)
      refine aw_callSi (mc2 := 0) (ms2 := 0) (r := nI (sz B (ob u))) (As := [.ref ai, .int (nI (oa B (ob u)))]) (rest := []) (c_M_sizeAt hB_ hin (by omega) (oa B (ob u)) (by omega)) cs_M_54 d_M_isMethodContext_66 rfl rfl (Nat.le_of_ble_eq_true rfl) (by decide) (by decide) (by omega) (by omega) ?_
      have b_66 := sz_lt hB_ (ob u)
      refine aw_iconst (v := nI 5) d_M_isMethodContext_69 (by decide) ?_
      refine aw_iload_n d_M_isMethodContext_70 rfl ?_
      refine aw_iadd (v := nI (5 + tm B (fd B (ob u) 3))) d_M_isMethodContext_71 (nI_add _ _) ?_
      refine aw_iload_n d_M_isMethodContext_72 rfl ?_
      refine aw_iadd (v := nI (5 + tm B (fd B (ob u) 3) + dp B (fd B (ob u) 3))) d_M_isMethodContext_73 (nI_add _ _) ?_
      refine aw_icmp_ne (tgt := 108) d_M_isMethodContext_74 (by decide) (fun c_74 => ?_) (fun c_74 => ?_)
      · rw [w_eq (by omega) (by omega)] at c_74
        refine aw_iconst (v := nI 0) d_M_isMethodContext_108 (by decide) ?_
        exact aw_iret d_M_isMethodContext_109 rfl nar0 (rt_f (by first | exact fun q => c_6 ⟨ho, q.1, q.2.1⟩ | exact fun q => c_19 q.2.2.1 | exact fun q => c_74 q.2.2.2.1 | exact fun q => c_87 q.2.2.2.2.1 | exact fun q => c_101 q.2.2.2.2.2))
      · rw [w_eq (by omega) (by omega)] at c_74
        have c74 : sz B (ob u) = _ := c_74
        refine aw_aload_n d_M_isMethodContext_77 rfl ?_
        refine aw_iload d_M_isMethodContext_78 rfl ?_
        refine aw_iload_n d_M_isMethodContext_80 rfl ?_
        refine aw_iload_n d_M_isMethodContext_81 rfl ?_
        refine aw_iload_n d_M_isMethodContext_82 rfl ?_
        refine aw_iadd (v := nI (tm B (fd B (ob u) 3) + dp B (fd B (ob u) 3))) d_M_isMethodContext_83 (nI_add _ _) ?_
        refine aw_callVi (mc2 := 0) (ms2 := 0) (r := bP (NI (fd B (ob u) 2) (tm B (fd B (ob u) 3)) (tm B (fd B (ob u) 3) + dp B (fd B (ob u) 3)))) (As := [.int (nI (fd B (ob u) 2)), .int (nI (tm B (fd B (ob u) 3))), .int (nI (tm B (fd B (ob u) 3) + dp B (fd B (ob u) 3)))]) (rest := []) (c_M_isNumberFrom hm (fd B (ob u) 2) (tm B (fd B (ob u) 3)) (tm B (fd B (ob u) 3) + dp B (fd B (ob u) 3)) (by omega) (by omega) (by omega)) cv_M_84 d_M_isMethodContext_84 hm rfl rfl rfl (Nat.le_of_ble_eq_true rfl) (by decide) (by decide) (by omega) (by omega) ?_
        refine aw_if_eq (tgt := 108) d_M_isMethodContext_87 (by decide) (fun c_87 => ?_) (fun c_87 => ?_)
        · rw [bP_eq0] at c_87
          refine aw_iconst (v := nI 0) d_M_isMethodContext_108 (by decide) ?_
          exact aw_iret d_M_isMethodContext_109 rfl nar0 (rt_f (by first | exact fun q => c_6 ⟨ho, q.1, q.2.1⟩ | exact fun q => c_19 q.2.2.1 | exact fun q => c_74 q.2.2.2.1 | exact fun q => c_87 q.2.2.2.2.1 | exact fun q => c_101 q.2.2.2.2.2))
        · rw [bP_eq0, Classical.not_not] at c_87
          have b_87 := c_87.2.1
          have d_87 := c_87.2.2.2
          refine aw_aload_n d_M_isMethodContext_90 rfl ?_
          refine aw_iload_n d_M_isMethodContext_91 rfl ?_
          refine aw_iconst (v := nI 5) d_M_isMethodContext_92 (by decide) ?_
          refine aw_iload d_M_isMethodContext_93 rfl ?_
          refine aw_iconst (v := nI 1) d_M_isMethodContext_95 (by decide) ?_
          refine aw_ishr (v := nI ((fd B (ob u) 2) / 2)) d_M_isMethodContext_96 (pk_shrN (by omega) _ 1 (by decide)) ?_
          refine aw_iadd (v := nI (5 + (fd B (ob u) 2) / 2)) d_M_isMethodContext_97 (nI_add _ _) ?_
          refine aw_callVi (mc2 := 0) (ms2 := 0) (r := bP (CO B (ob u) (5 + (fd B (ob u) 2) / 2))) (As := [.int (nI u), .int (nI (5 + (fd B (ob u) 2) / 2))]) (rest := []) (c_M_isCommon hB_ hm hin hst X u (by omega) hv (5 + (fd B (ob u) 2) / 2) (HF.mono c_6 (by decide)) (by omega)) cv_M_98 d_M_isMethodContext_98 hm rfl rfl rfl (Nat.le_of_ble_eq_true rfl) (by decide) (by decide) (by omega) (by omega) ?_
          refine aw_if_eq (tgt := 108) d_M_isMethodContext_101 (by decide) (fun c_101 => ?_) (fun c_101 => ?_)
          · rw [bP_eq0] at c_101
            refine aw_iconst (v := nI 0) d_M_isMethodContext_108 (by decide) ?_
            exact aw_iret d_M_isMethodContext_109 rfl nar0 (rt_f (by first | exact fun q => c_6 ⟨ho, q.1, q.2.1⟩ | exact fun q => c_19 q.2.2.1 | exact fun q => c_74 q.2.2.2.1 | exact fun q => c_87 q.2.2.2.2.1 | exact fun q => c_101 q.2.2.2.2.2))
          · rw [bP_eq0, Classical.not_not] at c_101
            refine aw_iconst (v := nI 1) d_M_isMethodContext_104 (by decide) ?_
            refine aw_goto (tgt := 109) d_M_isMethodContext_105 (by decide) ?_
            exact aw_iret d_M_isMethodContext_109 rfl nar1 (rt_t (by exact ⟨c_6.2.1, c_6.2.2, c_19, c_74, c_87, c_101⟩))
    · rw [bP_eq0] at c_19
      refine aw_iconst (v := nI 0) d_M_isMethodContext_22 (by decide) ?_
      exact aw_iret d_M_isMethodContext_23 rfl nar0 (rt_f (by first | exact fun q => c_6 ⟨ho, q.1, q.2.1⟩ | exact fun q => c_19 q.2.2.1 | exact fun q => c_74 q.2.2.2.1 | exact fun q => c_87 q.2.2.2.2.1 | exact fun q => c_101 q.2.2.2.2.2))

set_option maxHeartbeats 4000000 in
theorem c_M_isBlockContext {tb : Nat → Nat} {h : AH} {m ai am ak as_ aks ar an ab cn ln kl mn c : Nat} {cd : Int32} {B : Nat → Nat} {fs : Nat → Int32} (hB_ : ∀ i, B i < 256) (hm : h m = some (mO cd ai cn am ln ak kl as_ aks ar an ab mn)) (hin : h ai = some (.inl (1, 65536, .inl (bsf B)))) (hst : h as_ = some (.inl (0, 8192, .inl fs))) (X : VX B c fs) (u : Nat) (hu : u < 4294967296) (hv : vl (nn B) u) (ho : ob u ≠ 0) : AM tb y_M_isBlockContext b_M_isBlockContext 7 (some .boolean) 4 91 [.ref m, .int (nI u)] h 0 0 (av_Pi (bP (BC B (ob u))) h) := by
  have hn := X.n
  have hnd : nn B = bh B 6 := rfl
  obtain ⟨e_1, e_2, e_3, e_4, e_5, e_6⟩ := ob_of hv ho
  have hs := sz_lt hB_ (ob u)
  refine am_of (ini := false) [some (.ref m), some (.int (nI u)), none, none, none, none, none] (by decide) (fun z => by cases z) (Nat.le_of_ble_eq_true rfl) rfl ?_
  refine aw_aload_n d_M_isBlockContext_0 rfl ?_
  refine aw_iload_n d_M_isBlockContext_1 rfl ?_
  refine aw_bipush (v := nI 6) d_M_isBlockContext_2 (by decide) ?_
  refine aw_callVi (mc2 := 0) (ms2 := 0) (r := bP (HF B u 6)) (As := [.int (nI u), .int (nI 6)]) (rest := []) (c_M_hasFields hB_ hm hin hst X u (by omega) hv 6 (by omega)) cv_M_68 d_M_isBlockContext_4 hm rfl rfl rfl (Nat.le_of_ble_eq_true rfl) (by decide) (by decide) (by omega) (by omega) ?_
  refine aw_if_ne (tgt := 12) d_M_isBlockContext_7 (by decide) (fun c_7 => ?_) (fun c_7 => ?_)
  · rw [bP_eq0, Classical.not_not] at c_7
    have hv5 : vl (nn B) (fd B (ob u) 5) := X.fv e_5 e_6 c_7.2.1 (by have q_ := c_7.2.2; omega)
    refine aw_aload_n d_M_isBlockContext_12 rfl ?_
    refine aw_iload_n d_M_isBlockContext_13 rfl ?_
    refine aw_iconst (v := nI 5) d_M_isBlockContext_14 (by decide) ?_
    refine aw_callVi (mc2 := 0) (ms2 := 0) (r := nI (fd B (ob u) 5)) (As := [.int (nI u), .int (nI 5)]) (rest := []) (c_M_fieldOf hB_ hm hin hst X u (by omega) hv 5 (c_7.1) (c_7.2.1) (by have q_ := c_7.2.2; omega)) cv_M_72 d_M_isBlockContext_15 hm rfl rfl rfl (Nat.le_of_ble_eq_true rfl) (by decide) (by decide) (by omega) (by omega) ?_
    have b_15 := fd_lt hB_ (ob u) 5
    refine aw_istore_n (L' := [some (.ref m), some (.int (nI u)), some (.int (nI (fd B (ob u) 5))), none, none, none, none]) d_M_isBlockContext_18 (by decide) rfl rfl ?_
    refine aw_aload_n d_M_isBlockContext_19 rfl ?_
    refine aw_iload_n d_M_isBlockContext_20 rfl ?_
    refine aw_iconst (v := nI 5) d_M_isBlockContext_21 (by decide) ?_
    refine aw_callVi (mc2 := 0) (ms2 := 0) (r := bP (HF B (fd B (ob u) 5) 5)) (As := [.int (nI (fd B (ob u) 5)), .int (nI 5)]) (rest := []) (c_M_hasFields hB_ hm hin hst X (fd B (ob u) 5) (by omega) (X.fv (ob_of hv (c_7.1)).2.2.2.2.1 (ob_of hv (c_7.1)).2.2.2.2.2 (c_7.2.1) (by have q_ := c_7.2.2; omega)) 5 (by omega)) cv_M_68 d_M_isBlockContext_22 hm rfl rfl rfl (Nat.le_of_ble_eq_true rfl) (by decide) (by decide) (by omega) (by omega) ?_
    refine aw_if_eq (tgt := 68) d_M_isBlockContext_25 (by decide) (fun c_25 => ?_) (fun c_25 => ?_)
    · rw [bP_eq0] at c_25
      refine aw_iconst (v := nI 0) d_M_isBlockContext_68 (by decide) ?_
      exact aw_iret d_M_isBlockContext_69 rfl nar0 (rt_f (by first | exact fun q => c_7 ⟨ho, q.1, q.2.1⟩ | exact fun q => c_25 q.2.2.1 | exact fun q => c_52 q.2.2.2.1 | exact fun q => c_65 q.2.2.2.2.1 | exact fun q => c_116 q.2.2.2.2.2.1 | exact fun q => c_127 q.2.2.2.2.2.2.1 | exact fun q => c_143 q.2.2.2.2.2.2.2.1 | exact fun q => c_187 q.2.2.2.2.2.2.2.2.2 | exact fun q => q.2.2.2.2.2.2.2.2.1.elim c_148 c_160))
    · rw [bP_eq0, Classical.not_not] at c_25
      obtain ⟨i_1, i_2, i_3, i_4, i_5, i_6⟩ := ob_of hv5 c_25.1
      refine aw_aload_n d_M_isBlockContext_28 rfl ?_
      refine aw_get fl_M_8 d_M_isBlockContext_29 hm rfl ?_
      refine aw_aload_n d_M_isBlockContext_32 rfl ?_
      refine aw_get fl_M_20 d_M_isBlockContext_33 hm rfl ?_
      refine aw_iload_n d_M_isBlockContext_36 rfl ?_
      refine aw_iconst (v := nI 2) d_M_isBlockContext_37 (by decide) ?_
      refine aw_idiv (v := nI ((fd B (ob u) 5) / 2)) d_M_isBlockContext_38 (by decide) (pk_div (by omega) (by decide) (by decide)) ?_
      refine aw_iald (x := nI (oa B (ob (fd B (ob u) 5)))) d_M_isBlockContext_39 hst (vp_in_nI (by omega) (by omega)) (by rw [nI_clamp (by omega)]; rw [show (fd B (ob u) 5) / 2 = ob (fd B (ob u) 5) by omega]; exact X.2 _ (by omega) (by omega)) ?_
      have o_39 := X.at (ob (fd B (ob u) 5)) (by omega) (by omega)
      refine aw_callSi (mc2 := 0) (ms2 := 0) (r := nI (cl B (ob (fd B (ob u) 5)))) (As := [.ref ai, .int (nI (oa B (ob (fd B (ob u) 5))))]) (rest := []) (c_M_word hB_ hin (by omega) (oa B (ob (fd B (ob u) 5))) (by omega)) cs_M_47 d_M_isBlockContext_40 rfl rfl (Nat.le_of_ble_eq_true rfl) (by decide) (by decide) (by omega) (by omega) ?_
      have b_40 := cl_lt hB_ (ob (fd B (ob u) 5))
      refine aw_aload_n d_M_isBlockContext_43 rfl ?_
      refine aw_get fl_M_8 d_M_isBlockContext_44 hm rfl ?_
      refine aw_bipush (v := nI 7) d_M_isBlockContext_47 (by decide) ?_
      refine aw_callSi (mc2 := 0) (ms2 := 0) (r := nI (sp B 7)) (As := [.ref ai, .int (nI 7)]) (rest := [.int (nI (cl B (ob (fd B (ob u) 5))))]) (c_M_special_aBI hB_ hin (by omega) 7 (by omega)) cs_M_65 d_M_isBlockContext_49 rfl rfl (Nat.le_of_ble_eq_true rfl) (by decide) (by decide) (by omega) (by omega) ?_
      have b_49 : sp B 7 < 4294967296 := bw_lt hB_ _
      refine aw_icmp_ne (tgt := 68) d_M_isBlockContext_52 (by decide) (fun c_52 => ?_) (fun c_52 => ?_)
      · rw [w_eq (by omega) (by omega)] at c_52
        refine aw_iconst (v := nI 0) d_M_isBlockContext_68 (by decide) ?_
        exact aw_iret d_M_isBlockContext_69 rfl nar0 (rt_f (by first | exact fun q => c_7 ⟨ho, q.1, q.2.1⟩ | exact fun q => c_25 q.2.2.1 | exact fun q => c_52 q.2.2.2.1 | exact fun q => c_65 q.2.2.2.2.1 | exact fun q => c_116 q.2.2.2.2.2.1 | exact fun q => c_127 q.2.2.2.2.2.2.1 | exact fun q => c_143 q.2.2.2.2.2.2.2.1 | exact fun q => c_187 q.2.2.2.2.2.2.2.2.2 | exact fun q => q.2.2.2.2.2.2.2.2.1.elim c_148 c_160))
      · rw [w_eq (by omega) (by omega)] at c_52
        refine aw_aload_n d_M_isBlockContext_55 rfl ?_
        refine aw_aload_n d_M_isBlockContext_56 rfl ?_
        refine aw_iload_n d_M_isBlockContext_57 rfl ?_
        refine aw_iconst (v := nI 3) d_M_isBlockContext_58 (by decide) ?_
        refine aw_callVi (mc2 := 0) (ms2 := 0) (r := nI (fd B (ob (fd B (ob u) 5)) 3)) (As := [.int (nI (fd B (ob u) 5)), .int (nI 3)]) (rest := [.ref m]) (c_M_fieldOf hB_ hm hin hst X (fd B (ob u) 5) (by omega) (X.fv (ob_of hv (c_7.1)).2.2.2.2.1 (ob_of hv (c_7.1)).2.2.2.2.2 (c_7.2.1) (by have q_ := c_7.2.2; omega)) 3 (c_25.1) (c_25.2.1) (by have q_ := c_25.2.2; omega)) cv_M_72 d_M_isBlockContext_59 hm rfl rfl rfl (Nat.le_of_ble_eq_true rfl) (by decide) (by decide) (by omega) (by omega) ?_
        have b_59 := fd_lt hB_ (ob (fd B (ob u) 5)) 3
        refine aw_callVi (mc2 := 0) (ms2 := 0) (r := bP (ME B (fd B (ob (fd B (ob u) 5)) 3))) (As := [.int (nI (fd B (ob (fd B (ob u) 5)) 3))]) (rest := []) (c_M_isMethod hB_ hm hin hst X (fd B (ob (fd B (ob u) 5)) 3) (by omega) (X.fv (ob_of (X.fv (ob_of hv (c_7.1)).2.2.2.2.1 (ob_of hv (c_7.1)).2.2.2.2.2 (c_7.2.1) (by have q_ := c_7.2.2; omega)) (c_25.1)).2.2.2.2.1 (ob_of (X.fv (ob_of hv (c_7.1)).2.2.2.2.1 (ob_of hv (c_7.1)).2.2.2.2.2 (c_7.2.1) (by have q_ := c_7.2.2; omega)) (c_25.1)).2.2.2.2.2 (c_25.2.1) (by have q_ := c_25.2.2; omega))) cv_M_88 d_M_isBlockContext_62 hm rfl rfl rfl (Nat.le_of_ble_eq_true rfl) (by decide) (by decide) (by omega) (by omega) ?_
        refine aw_if_ne (tgt := 70) d_M_isBlockContext_65 (by decide) (fun c_65 => ?_) (fun c_65 => ?_)
        · rw [bP_eq0, Classical.not_not] at c_65
          refine aw_aload_n d_M_isBlockContext_70 rfl ?_
          refine aw_aload_n d_M_isBlockContext_71 rfl ?_
          refine aw_iload_n d_M_isBlockContext_72 rfl ?_
          refine aw_iconst (v := nI 3) d_M_isBlockContext_73 (by decide) ?_
          refine aw_callVi (mc2 := 0) (ms2 := 0) (r := nI (fd B (ob (fd B (ob u) 5)) 3)) (As := [.int (nI (fd B (ob u) 5)), .int (nI 3)]) (rest := [.ref m]) (c_M_fieldOf hB_ hm hin hst X (fd B (ob u) 5) (by omega) (X.fv (ob_of hv (c_7.1)).2.2.2.2.1 (ob_of hv (c_7.1)).2.2.2.2.2 (c_7.2.1) (by have q_ := c_7.2.2; omega)) 3 (c_25.1) (c_25.2.1) (by have q_ := c_25.2.2; omega)) cv_M_72 d_M_isBlockContext_74 hm rfl rfl rfl (Nat.le_of_ble_eq_true rfl) (by decide) (by decide) (by omega) (by omega) ?_
          have b_74 := fd_lt hB_ (ob (fd B (ob u) 5)) 3
          refine aw_callVi (mc2 := 0) (ms2 := 0) (r := nI (dp B (fd B (ob (fd B (ob u) 5)) 3))) (As := [.int (nI (fd B (ob (fd B (ob u) 5)) 3))]) (rest := []) (c_M_depth hB_ hm hin hst X (fd B (ob (fd B (ob u) 5)) 3) (by omega) (X.fv (ob_of (X.fv (ob_of hv (c_7.1)).2.2.2.2.1 (ob_of hv (c_7.1)).2.2.2.2.2 (c_7.2.1) (by have q_ := c_7.2.2; omega)) (c_25.1)).2.2.2.2.1 (ob_of (X.fv (ob_of hv (c_7.1)).2.2.2.2.1 (ob_of hv (c_7.1)).2.2.2.2.2 (c_7.2.1) (by have q_ := c_7.2.2; omega)) (c_25.1)).2.2.2.2.2 (c_25.2.1) (by have q_ := c_25.2.2; omega)) c_65) cv_M_95 d_M_isBlockContext_77 hm rfl rfl rfl (Nat.le_of_ble_eq_true rfl) (by decide) (by decide) (by omega) (by omega) ?_
          have b_77 : dp B (fd B (ob (fd B (ob u) 5)) 3) < 64 := Nat.mod_lt _ (by decide)
          refine aw_istore_n (L' := [some (.ref m), some (.int (nI u)), some (.int (nI (fd B (ob u) 5))), some (.int (nI (dp B (fd B (ob (fd B (ob u) 5)) 3)))), none, none, none]) d_M_isBlockContext_80 (by decide) rfl rfl ?_
          refine aw_aload_n d_M_isBlockContext_81 rfl ?_
          refine aw_iload_n d_M_isBlockContext_82 rfl ?_
          refine aw_iconst (v := nI 2) d_M_isBlockContext_83 (by decide) ?_
          refine aw_callVi (mc2 := 0) (ms2 := 0) (r := nI (fd B (ob u) 2)) (As := [.int (nI u), .int (nI 2)]) (rest := []) (c_M_fieldOf hB_ hm hin hst X u (by omega) hv 2 (c_7.1) (c_7.2.1) (by have q_ := c_7.2.2; omega)) cv_M_72 d_M_isBlockContext_84 hm rfl rfl rfl (Nat.le_of_ble_eq_true rfl) (by decide) (by decide) (by omega) (by omega) ?_
          have b_84 := fd_lt hB_ (ob u) 2
          refine aw_istore (L' := [some (.ref m), some (.int (nI u)), some (.int (nI (fd B (ob u) 5))), some (.int (nI (dp B (fd B (ob (fd B (ob u) 5)) 3)))), some (.int (nI (fd B (ob u) 2))), none, none]) d_M_isBlockContext_87 (by decide) rfl rfl ?_
          refine aw_aload_n d_M_isBlockContext_89 rfl ?_
          refine aw_iload_n d_M_isBlockContext_90 rfl ?_
          refine aw_iconst (v := nI 4) d_M_isBlockContext_91 (by decide) ?_
          refine aw_callVi (mc2 := 0) (ms2 := 0) (r := nI (fd B (ob u) 4)) (As := [.int (nI u), .int (nI 4)]) (rest := []) (c_M_fieldOf hB_ hm hin hst X u (by omega) hv 4 (c_7.1) (c_7.2.1) (by have q_ := c_7.2.2; omega)) cv_M_72 d_M_isBlockContext_92 hm rfl rfl rfl (Nat.le_of_ble_eq_true rfl) (by decide) (by decide) (by omega) (by omega) ?_
          have b_92 := fd_lt hB_ (ob u) 4
          refine aw_istore (L' := [some (.ref m), some (.int (nI u)), some (.int (nI (fd B (ob u) 5))), some (.int (nI (dp B (fd B (ob (fd B (ob u) 5)) 3)))), some (.int (nI (fd B (ob u) 2))), some (.int (nI (fd B (ob u) 4))), none]) d_M_isBlockContext_95 (by decide) rfl rfl ?_
          refine aw_aload_n d_M_isBlockContext_97 rfl ?_
          refine aw_get fl_M_8 d_M_isBlockContext_98 hm rfl ?_
          refine aw_aload_n d_M_isBlockContext_101 rfl ?_
          refine aw_get fl_M_20 d_M_isBlockContext_102 hm rfl ?_
          refine aw_iload_n d_M_isBlockContext_105 rfl ?_
          refine aw_iconst (v := nI 2) d_M_isBlockContext_106 (by decide) ?_
          refine aw_idiv (v := nI (u / 2)) d_M_isBlockContext_107 (by decide) (pk_div (by omega) (by decide) (by decide)) ?_
          refine aw_iald (x := nI (oa B (ob u))) d_M_isBlockContext_108 hst (vp_in_nI (by omega) (by omega)) (by rw [nI_clamp (by omega)]; rw [show u / 2 = ob u by omega]; exact X.2 _ (by omega) (by omega)) ?_
          have o_108 := X.at (ob u) (by omega) (by omega)
          refine aw_callSi (mc2 := 0) (ms2 := 0) (r := nI (sz B (ob u))) (As := [.ref ai, .int (nI (oa B (ob u)))]) (rest := []) (c_M_sizeAt hB_ hin (by omega) (oa B (ob u)) (by omega)) cs_M_54 d_M_isBlockContext_109 rfl rfl (Nat.le_of_ble_eq_true rfl) (by decide) (by decide) (by omega) (by omega) ?_
          have b_109 := sz_lt hB_ (ob u)
          refine aw_bipush (v := nI 6) d_M_isBlockContext_112 (by decide) ?_
          refine aw_iload_n d_M_isBlockContext_114 rfl ?_
          refine aw_iadd (v := nI (6 + dp B (fd B (ob (fd B (ob u) 5)) 3))) d_M_isBlockContext_115 (nI_add _ _) ?_
          refine aw_icmp_ne (tgt := 167) d_M_isBlockContext_116 (by decide) (fun c_116 => ?_) (fun c_116 => ?_)
          · rw [w_eq (by omega) (by omega)] at c_116
            refine aw_iconst (v := nI 0) d_M_isBlockContext_167 (by decide) ?_
            refine aw_istore (L' := [some (.ref m), some (.int (nI u)), some (.int (nI (fd B (ob u) 5))), some (.int (nI (dp B (fd B (ob (fd B (ob u) 5)) 3)))), some (.int (nI (fd B (ob u) 2))), some (.int (nI (fd B (ob u) 4))), some (.int (nI 0))]) d_M_isBlockContext_168 (by decide) rfl rfl ?_
            refine aw_iload d_M_isBlockContext_170 rfl ?_
            refine aw_if_eq (tgt := 194) d_M_isBlockContext_172 (by decide) (fun _ => ?_) (fun z => absurd (by decide) z)
            refine aw_iconst (v := nI 0) d_M_isBlockContext_194 (by decide) ?_
            exact aw_iret d_M_isBlockContext_195 rfl nar0 (rt_f (by first | exact fun q => c_7 ⟨ho, q.1, q.2.1⟩ | exact fun q => c_25 q.2.2.1 | exact fun q => c_52 q.2.2.2.1 | exact fun q => c_65 q.2.2.2.2.1 | exact fun q => c_116 q.2.2.2.2.2.1 | exact fun q => c_127 q.2.2.2.2.2.2.1 | exact fun q => c_143 q.2.2.2.2.2.2.2.1 | exact fun q => c_187 q.2.2.2.2.2.2.2.2.2 | exact fun q => q.2.2.2.2.2.2.2.2.1.elim c_148 c_160))
          · rw [w_eq (by omega) (by omega)] at c_116
            have c116 : sz B (ob u) = _ := c_116
            refine aw_aload_n d_M_isBlockContext_119 rfl ?_
            refine aw_iload d_M_isBlockContext_120 rfl ?_
            refine aw_iconst (v := nI 0) d_M_isBlockContext_122 (by decide) ?_
            refine aw_iload_n d_M_isBlockContext_123 rfl ?_
            refine aw_callVi (mc2 := 0) (ms2 := 0) (r := bP (NI (fd B (ob u) 2) 0 (dp B (fd B (ob (fd B (ob u) 5)) 3)))) (As := [.int (nI (fd B (ob u) 2)), .int (nI 0), .int (nI (dp B (fd B (ob (fd B (ob u) 5)) 3)))]) (rest := []) (c_M_isNumberFrom hm (fd B (ob u) 2) 0 (dp B (fd B (ob (fd B (ob u) 5)) 3)) (by omega) (by omega) (by omega)) cv_M_84 d_M_isBlockContext_124 hm rfl rfl rfl (Nat.le_of_ble_eq_true rfl) (by decide) (by decide) (by omega) (by omega) ?_
            refine aw_if_eq (tgt := 167) d_M_isBlockContext_127 (by decide) (fun c_127 => ?_) (fun c_127 => ?_)
            · rw [bP_eq0] at c_127
              refine aw_iconst (v := nI 0) d_M_isBlockContext_167 (by decide) ?_
              refine aw_istore (L' := [some (.ref m), some (.int (nI u)), some (.int (nI (fd B (ob u) 5))), some (.int (nI (dp B (fd B (ob (fd B (ob u) 5)) 3)))), some (.int (nI (fd B (ob u) 2))), some (.int (nI (fd B (ob u) 4))), some (.int (nI 0))]) d_M_isBlockContext_168 (by decide) rfl rfl ?_
              refine aw_iload d_M_isBlockContext_170 rfl ?_
              refine aw_if_eq (tgt := 194) d_M_isBlockContext_172 (by decide) (fun _ => ?_) (fun z => absurd (by decide) z)
              refine aw_iconst (v := nI 0) d_M_isBlockContext_194 (by decide) ?_
              exact aw_iret d_M_isBlockContext_195 rfl nar0 (rt_f (by first | exact fun q => c_7 ⟨ho, q.1, q.2.1⟩ | exact fun q => c_25 q.2.2.1 | exact fun q => c_52 q.2.2.2.1 | exact fun q => c_65 q.2.2.2.2.1 | exact fun q => c_116 q.2.2.2.2.2.1 | exact fun q => c_127 q.2.2.2.2.2.2.1 | exact fun q => c_143 q.2.2.2.2.2.2.2.1 | exact fun q => c_187 q.2.2.2.2.2.2.2.2.2 | exact fun q => q.2.2.2.2.2.2.2.2.1.elim c_148 c_160))
            · rw [bP_eq0, Classical.not_not] at c_127
              have b_127 := c_127.2.1
              have d_127 := c_127.2.2.2
              refine aw_aload_n d_M_isBlockContext_130 rfl ?_
              refine aw_aload_n d_M_isBlockContext_131 rfl ?_
              refine aw_iload_n d_M_isBlockContext_132 rfl ?_
              refine aw_iconst (v := nI 3) d_M_isBlockContext_133 (by decide) ?_
              refine aw_callVi (mc2 := 0) (ms2 := 0) (r := nI (fd B (ob u) 3)) (As := [.int (nI u), .int (nI 3)]) (rest := [.ref m]) (c_M_fieldOf hB_ hm hin hst X u (by omega) hv 3 (c_7.1) (c_7.2.1) (by have q_ := c_7.2.2; omega)) cv_M_72 d_M_isBlockContext_134 hm rfl rfl rfl (Nat.le_of_ble_eq_true rfl) (by decide) (by decide) (by omega) (by omega) ?_
              have b_134 := fd_lt hB_ (ob u) 3
              refine aw_iconst (v := nI 0) d_M_isBlockContext_137 (by decide) ?_
              refine aw_bipush (v := nI 15) d_M_isBlockContext_138 (by decide) ?_
              refine aw_callVi (mc2 := 0) (ms2 := 0) (r := bP (NI (fd B (ob u) 3) 0 15)) (As := [.int (nI (fd B (ob u) 3)), .int (nI 0), .int (nI 15)]) (rest := []) (c_M_isNumberFrom hm (fd B (ob u) 3) 0 15 (by omega) (by omega) (by omega)) cv_M_84 d_M_isBlockContext_140 hm rfl rfl rfl (Nat.le_of_ble_eq_true rfl) (by decide) (by decide) (by omega) (by omega) ?_
              refine aw_if_eq (tgt := 167) d_M_isBlockContext_143 (by decide) (fun c_143 => ?_) (fun c_143 => ?_)
              · rw [bP_eq0] at c_143
                refine aw_iconst (v := nI 0) d_M_isBlockContext_167 (by decide) ?_
                refine aw_istore (L' := [some (.ref m), some (.int (nI u)), some (.int (nI (fd B (ob u) 5))), some (.int (nI (dp B (fd B (ob (fd B (ob u) 5)) 3)))), some (.int (nI (fd B (ob u) 2))), some (.int (nI (fd B (ob u) 4))), some (.int (nI 0))]) d_M_isBlockContext_168 (by decide) rfl rfl ?_
                refine aw_iload d_M_isBlockContext_170 rfl ?_
                refine aw_if_eq (tgt := 194) d_M_isBlockContext_172 (by decide) (fun _ => ?_) (fun z => absurd (by decide) z)
                refine aw_iconst (v := nI 0) d_M_isBlockContext_194 (by decide) ?_
                exact aw_iret d_M_isBlockContext_195 rfl nar0 (rt_f (by first | exact fun q => c_7 ⟨ho, q.1, q.2.1⟩ | exact fun q => c_25 q.2.2.1 | exact fun q => c_52 q.2.2.2.1 | exact fun q => c_65 q.2.2.2.2.1 | exact fun q => c_116 q.2.2.2.2.2.1 | exact fun q => c_127 q.2.2.2.2.2.2.1 | exact fun q => c_143 q.2.2.2.2.2.2.2.1 | exact fun q => c_187 q.2.2.2.2.2.2.2.2.2 | exact fun q => q.2.2.2.2.2.2.2.2.1.elim c_148 c_160))
              · rw [bP_eq0, Classical.not_not] at c_143
                refine aw_iload d_M_isBlockContext_146 rfl ?_
                refine aw_if_eq (tgt := 163) d_M_isBlockContext_148 (by decide) (fun c_148 => ?_) (fun c_148 => ?_)
                · rw [w_eq0 (by omega)] at c_148
                  refine aw_iconst (v := nI 1) d_M_isBlockContext_163 (by decide) ?_
                  refine aw_goto (tgt := 168) d_M_isBlockContext_164 (by decide) ?_
                  refine aw_istore (L' := [some (.ref m), some (.int (nI u)), some (.int (nI (fd B (ob u) 5))), some (.int (nI (dp B (fd B (ob (fd B (ob u) 5)) 3)))), some (.int (nI (fd B (ob u) 2))), some (.int (nI (fd B (ob u) 4))), some (.int (nI 1))]) d_M_isBlockContext_168 (by decide) rfl rfl ?_
                  refine aw_iload d_M_isBlockContext_170 rfl ?_
                  refine aw_if_eq (tgt := 194) d_M_isBlockContext_172 (by decide) (fun z => absurd z (by decide)) (fun _ => ?_)
                  refine aw_aload_n d_M_isBlockContext_175 rfl ?_
                  refine aw_iload_n d_M_isBlockContext_176 rfl ?_
                  refine aw_bipush (v := nI 6) d_M_isBlockContext_177 (by decide) ?_
                  refine aw_iload d_M_isBlockContext_179 rfl ?_
                  refine aw_iconst (v := nI 1) d_M_isBlockContext_181 (by decide) ?_
                  refine aw_ishr (v := nI ((fd B (ob u) 2) / 2)) d_M_isBlockContext_182 (pk_shrN (by omega) _ 1 (by decide)) ?_
                  refine aw_iadd (v := nI (6 + (fd B (ob u) 2) / 2)) d_M_isBlockContext_183 (nI_add _ _) ?_
                  refine aw_callVi (mc2 := 0) (ms2 := 0) (r := bP (CO B (ob u) (6 + (fd B (ob u) 2) / 2))) (As := [.int (nI u), .int (nI (6 + (fd B (ob u) 2) / 2))]) (rest := []) (c_M_isCommon hB_ hm hin hst X u (by omega) hv (6 + (fd B (ob u) 2) / 2) (HF.mono c_7 (by decide)) (by omega)) cv_M_98 d_M_isBlockContext_184 hm rfl rfl rfl (Nat.le_of_ble_eq_true rfl) (by decide) (by decide) (by omega) (by omega) ?_
                  refine aw_if_eq (tgt := 194) d_M_isBlockContext_187 (by decide) (fun c_187 => ?_) (fun c_187 => ?_)
                  · rw [bP_eq0] at c_187
                    refine aw_iconst (v := nI 0) d_M_isBlockContext_194 (by decide) ?_
                    exact aw_iret d_M_isBlockContext_195 rfl nar0 (rt_f (by first | exact fun q => c_7 ⟨ho, q.1, q.2.1⟩ | exact fun q => c_25 q.2.2.1 | exact fun q => c_52 q.2.2.2.1 | exact fun q => c_65 q.2.2.2.2.1 | exact fun q => c_116 q.2.2.2.2.2.1 | exact fun q => c_127 q.2.2.2.2.2.2.1 | exact fun q => c_143 q.2.2.2.2.2.2.2.1 | exact fun q => c_187 q.2.2.2.2.2.2.2.2.2 | exact fun q => q.2.2.2.2.2.2.2.2.1.elim c_148 c_160))
                  · rw [bP_eq0, Classical.not_not] at c_187
                    refine aw_iconst (v := nI 1) d_M_isBlockContext_190 (by decide) ?_
                    refine aw_goto (tgt := 195) d_M_isBlockContext_191 (by decide) ?_
                    exact aw_iret d_M_isBlockContext_195 rfl nar1 (rt_t (by exact ⟨c_7.2.1, c_7.2.2, c_25, c_52, c_65, c_116, c_127, c_143, by first | exact Or.inl c_148 | exact Or.inr c_160, c_187⟩))
                · rw [w_eq0 (by omega)] at c_148
                  refine aw_aload_n d_M_isBlockContext_151 rfl ?_
                  refine aw_iload d_M_isBlockContext_152 rfl ?_
                  refine aw_iconst (v := nI 0) d_M_isBlockContext_154 (by decide) ?_
                  refine aw_ldc (v := nI 1073741823) d_M_isBlockContext_155 tw_792 ?_
                  refine aw_callVi (mc2 := 0) (ms2 := 0) (r := bP (NI (fd B (ob u) 4) 0 1073741823)) (As := [.int (nI (fd B (ob u) 4)), .int (nI 0), .int (nI 1073741823)]) (rest := []) (c_M_isNumberFrom hm (fd B (ob u) 4) 0 1073741823 (by omega) (by omega) (by omega)) cv_M_84 d_M_isBlockContext_157 hm rfl rfl rfl (Nat.le_of_ble_eq_true rfl) (by decide) (by decide) (by omega) (by omega) ?_
                  refine aw_if_eq (tgt := 167) d_M_isBlockContext_160 (by decide) (fun c_160 => ?_) (fun c_160 => ?_)
                  · rw [bP_eq0] at c_160
                    refine aw_iconst (v := nI 0) d_M_isBlockContext_167 (by decide) ?_
                    refine aw_istore (L' := [some (.ref m), some (.int (nI u)), some (.int (nI (fd B (ob u) 5))), some (.int (nI (dp B (fd B (ob (fd B (ob u) 5)) 3)))), some (.int (nI (fd B (ob u) 2))), some (.int (nI (fd B (ob u) 4))), some (.int (nI 0))]) d_M_isBlockContext_168 (by decide) rfl rfl ?_
                    refine aw_iload d_M_isBlockContext_170 rfl ?_
                    refine aw_if_eq (tgt := 194) d_M_isBlockContext_172 (by decide) (fun _ => ?_) (fun z => absurd (by decide) z)
                    refine aw_iconst (v := nI 0) d_M_isBlockContext_194 (by decide) ?_
                    exact aw_iret d_M_isBlockContext_195 rfl nar0 (rt_f (by first | exact fun q => c_7 ⟨ho, q.1, q.2.1⟩ | exact fun q => c_25 q.2.2.1 | exact fun q => c_52 q.2.2.2.1 | exact fun q => c_65 q.2.2.2.2.1 | exact fun q => c_116 q.2.2.2.2.2.1 | exact fun q => c_127 q.2.2.2.2.2.2.1 | exact fun q => c_143 q.2.2.2.2.2.2.2.1 | exact fun q => c_187 q.2.2.2.2.2.2.2.2.2 | exact fun q => q.2.2.2.2.2.2.2.2.1.elim c_148 c_160))
                  · rw [bP_eq0, Classical.not_not] at c_160
                    refine aw_iconst (v := nI 1) d_M_isBlockContext_163 (by decide) ?_
                    refine aw_goto (tgt := 168) d_M_isBlockContext_164 (by decide) ?_
                    refine aw_istore (L' := [some (.ref m), some (.int (nI u)), some (.int (nI (fd B (ob u) 5))), some (.int (nI (dp B (fd B (ob (fd B (ob u) 5)) 3)))), some (.int (nI (fd B (ob u) 2))), some (.int (nI (fd B (ob u) 4))), some (.int (nI 1))]) d_M_isBlockContext_168 (by decide) rfl rfl ?_
                    refine aw_iload d_M_isBlockContext_170 rfl ?_
                    refine aw_if_eq (tgt := 194) d_M_isBlockContext_172 (by decide) (fun z => absurd z (by decide)) (fun _ => ?_)
                    refine aw_aload_n d_M_isBlockContext_175 rfl ?_
                    refine aw_iload_n d_M_isBlockContext_176 rfl ?_
                    refine aw_bipush (v := nI 6) d_M_isBlockContext_177 (by decide) ?_
                    refine aw_iload d_M_isBlockContext_179 rfl ?_
                    refine aw_iconst (v := nI 1) d_M_isBlockContext_181 (by decide) ?_
                    refine aw_ishr (v := nI ((fd B (ob u) 2) / 2)) d_M_isBlockContext_182 (pk_shrN (by omega) _ 1 (by decide)) ?_
                    refine aw_iadd (v := nI (6 + (fd B (ob u) 2) / 2)) d_M_isBlockContext_183 (nI_add _ _) ?_
                    refine aw_callVi (mc2 := 0) (ms2 := 0) (r := bP (CO B (ob u) (6 + (fd B (ob u) 2) / 2))) (As := [.int (nI u), .int (nI (6 + (fd B (ob u) 2) / 2))]) (rest := []) (c_M_isCommon hB_ hm hin hst X u (by omega) hv (6 + (fd B (ob u) 2) / 2) (HF.mono c_7 (by decide)) (by omega)) cv_M_98 d_M_isBlockContext_184 hm rfl rfl rfl (Nat.le_of_ble_eq_true rfl) (by decide) (by decide) (by omega) (by omega) ?_
                    refine aw_if_eq (tgt := 194) d_M_isBlockContext_187 (by decide) (fun c_187 => ?_) (fun c_187 => ?_)
                    · rw [bP_eq0] at c_187
                      refine aw_iconst (v := nI 0) d_M_isBlockContext_194 (by decide) ?_
                      exact aw_iret d_M_isBlockContext_195 rfl nar0 (rt_f (by first | exact fun q => c_7 ⟨ho, q.1, q.2.1⟩ | exact fun q => c_25 q.2.2.1 | exact fun q => c_52 q.2.2.2.1 | exact fun q => c_65 q.2.2.2.2.1 | exact fun q => c_116 q.2.2.2.2.2.1 | exact fun q => c_127 q.2.2.2.2.2.2.1 | exact fun q => c_143 q.2.2.2.2.2.2.2.1 | exact fun q => c_187 q.2.2.2.2.2.2.2.2.2 | exact fun q => q.2.2.2.2.2.2.2.2.1.elim c_148 c_160))
                    · rw [bP_eq0, Classical.not_not] at c_187
                      refine aw_iconst (v := nI 1) d_M_isBlockContext_190 (by decide) ?_
                      refine aw_goto (tgt := 195) d_M_isBlockContext_191 (by decide) ?_
                      exact aw_iret d_M_isBlockContext_195 rfl nar1 (rt_t (by exact ⟨c_7.2.1, c_7.2.2, c_25, c_52, c_65, c_116, c_127, c_143, by first | exact Or.inl c_148 | exact Or.inr c_160, c_187⟩))
        · rw [bP_eq0] at c_65
          refine aw_iconst (v := nI 0) d_M_isBlockContext_68 (by decide) ?_
          exact aw_iret d_M_isBlockContext_69 rfl nar0 (rt_f (by first | exact fun q => c_7 ⟨ho, q.1, q.2.1⟩ | exact fun q => c_25 q.2.2.1 | exact fun q => c_52 q.2.2.2.1 | exact fun q => c_65 q.2.2.2.2.1 | exact fun q => c_116 q.2.2.2.2.2.1 | exact fun q => c_127 q.2.2.2.2.2.2.1 | exact fun q => c_143 q.2.2.2.2.2.2.2.1 | exact fun q => c_187 q.2.2.2.2.2.2.2.2.2 | exact fun q => q.2.2.2.2.2.2.2.2.1.elim c_148 c_160))
  · rw [bP_eq0] at c_7
    refine aw_iconst (v := nI 0) d_M_isBlockContext_10 (by decide) ?_
    exact aw_iret d_M_isBlockContext_11 rfl nar0 (rt_f (by first | exact fun q => c_7 ⟨ho, q.1, q.2.1⟩ | exact fun q => c_25 q.2.2.1 | exact fun q => c_52 q.2.2.2.1 | exact fun q => c_65 q.2.2.2.2.1 | exact fun q => c_116 q.2.2.2.2.2.1 | exact fun q => c_127 q.2.2.2.2.2.2.1 | exact fun q => c_143 q.2.2.2.2.2.2.2.1 | exact fun q => c_187 q.2.2.2.2.2.2.2.2.2 | exact fun q => q.2.2.2.2.2.2.2.2.1.elim c_148 c_160))
