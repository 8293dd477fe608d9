set_option maxHeartbeats 4000000 in
theorem c_M_goes {tb : Nat → Nat} {h : AH} {m ai am ak as_ aks ar an ab cn ln kl mn : Nat} {cd : Int32} {fn fb fq : Nat → Int32} {s : PS} {N K : Nat} (D0 : mND ai am ak as_ aks ar an ab) (hm : h m = some (mO cd ai cn am ln ak kl as_ aks ar an ab mn)) (hn_ : h an = some (.inl (0, 8192, .inl fn))) (hb_ : h ab = some (.inl (0, 8192, .inl fb))) (hq_ : h ar = some (.inl (0, 8192, .inl fq))) (hN : N ≤ 8191) (hK : K ≤ 8191) (hg : pgd N K s) (hR : RP s fn fb fq mn) (u w : Nat) (hu : u < 4294967296) (hu2 : vl N u) (hw : w < 4294967296) (hw2 : vl K w) : AM tb y_M_goes b_M_goes 3 (some .boolean) 1 20 [.ref m, .int (nI u), .int (nI w)] h 0 0 (fun v h' => v = some (.int (bP ((pgo s u w).2 = true))) ∧ ∃ fn' fb' fq' mn', h' m = some (mO cd ai cn am ln ak kl as_ aks ar an ab mn') ∧ h' an = some (.inl (0, 8192, .inl fn')) ∧ h' ab = some (.inl (0, 8192, .inl fb')) ∧ h' ar = some (.inl (0, 8192, .inl fq')) ∧ RP (pgo s u w).1 fn' fb' fq' mn' ∧ (∀ q, q ≠ m → q ≠ an → q ≠ ab → q ≠ ar → h' q = h q)) := by
  refine am_of (ini := false) [some (.ref m), some (.int (nI u)), some (.int (nI w))] (by decide) (fun z => by cases z) (Nat.le_of_ble_eq_true rfl) rfl ?_
  refine aw_iload_n d_M_goes_0 rfl ?_
  refine aw_callSi (mc2 := 0) (ms2 := 0) (r := bP (ob u ≠ 0)) (As := [.int (nI u)]) (rest := []) (c_M_isObject u (by omega) (vl_e hu2 hN)) cs_M_57 d_M_goes_1 rfl rfl (Nat.le_of_ble_eq_true rfl) (by decide) (by decide) (by omega) (by omega) ?_
  refine aw_if_eq (tgt := 14) d_M_goes_4 (by decide) (fun c_4 => ?_) (fun c_4 => ?_)
  · rw [bP_eq0] at c_4
    have z0 : ob u = 0 ∨ ob w = 0 := Or.inl (Classical.not_not.mp c_4)
    refine aw_iload_n d_M_goes_14 rfl ?_
    refine aw_iload_n d_M_goes_15 rfl ?_
    refine aw_icmp_ne (tgt := 23) d_M_goes_16 (by decide) (fun c_16 => ?_) (fun c_16 => ?_)
    · rw [w_eq (by omega) (by omega)] at c_16
      refine aw_iconst (v := nI 0) d_M_goes_23 (by decide) ?_
      exact aw_iret d_M_goes_24 rfl nar0 ⟨by rw [pgo_0 z0]; exact congrArg (fun z => some (Value.int z)) (bP_f (by simp [c_16])).symm, _, _, _, _, hm, hn_, hb_, hq_, by rw [pgo_0 z0]; exact hR, fun q _ _ _ _ => rfl⟩
    · rw [w_eq (by omega) (by omega)] at c_16
      refine aw_iconst (v := nI 1) d_M_goes_19 (by decide) ?_
      refine aw_goto (tgt := 24) d_M_goes_20 (by decide) ?_
      exact aw_iret d_M_goes_24 rfl nar1 ⟨by rw [pgo_0 z0]; exact congrArg (fun z => some (Value.int z)) (bP_t (by simp [c_16])).symm, _, _, _, _, hm, hn_, hb_, hq_, by rw [pgo_0 z0]; exact hR, fun q _ _ _ _ => rfl⟩
  · rw [bP_eq0, Classical.not_not] at c_4
    refine aw_iload_n d_M_goes_7 rfl ?_
    refine aw_callSi (mc2 := 0) (ms2 := 0) (r := bP (ob w ≠ 0)) (As := [.int (nI w)]) (rest := []) (c_M_isObject w (by omega) (vl_e hw2 hK)) cs_M_57 d_M_goes_8 rfl rfl (Nat.le_of_ble_eq_true rfl) (by decide) (by decide) (by omega) (by omega) ?_
    refine aw_if_ne (tgt := 25) d_M_goes_11 (by decide) (fun c_11 => ?_) (fun c_11 => ?_)
    · rw [bP_eq0, Classical.not_not] at c_11
      obtain ⟨e_1, e_2, e_3, e_4, e_5, e_6⟩ := ob_of hu2 c_4
      obtain ⟨i_1, i_2, i_3, i_4, i_5, i_6⟩ := ob_of hw2 c_11
      have hpl := hg.pl (ob u)
      have hbl := hg.bl (ob w)
      have hle := hg.le
      have hmn := hR.1
      refine aw_aload_n d_M_goes_25 rfl ?_
      refine aw_get fl_M_30 d_M_goes_26 hm rfl ?_
      refine aw_iload_n d_M_goes_29 rfl ?_
      refine aw_iconst (v := nI 2) d_M_goes_30 (by decide) ?_
      refine aw_idiv (v := nI (ob u)) d_M_goes_31 (by decide) (by rw [pk_div (by omega) (by decide) (by decide), show u / 2 = ob u by omega]) ?_
      refine aw_iald (x := nI (s.1 (ob u))) d_M_goes_32 hn_ (vp_in_nI (by omega) (by omega)) (by rw [nI_clamp (by omega)]; exact hR.2.1 _ (by omega)) ?_
      refine aw_if_ne (tgt := 91) d_M_goes_33 (by decide) (fun c_33 => ?_) (fun c_33 => ?_)
      · rw [w_eq0 (by omega)] at c_33
        have nz : ¬ (s.1 (ob u) = 0 ∧ s.2.1 (ob w) = 0) := fun q => c_33 q.1
        refine aw_aload_n d_M_goes_91 rfl ?_
        refine aw_get fl_M_30 d_M_goes_92 hm rfl ?_
        refine aw_iload_n d_M_goes_95 rfl ?_
        refine aw_iconst (v := nI 2) d_M_goes_96 (by decide) ?_
        refine aw_idiv (v := nI (ob u)) d_M_goes_97 (by decide) (by rw [pk_div (by omega) (by decide) (by decide), show u / 2 = ob u by omega]) ?_
        refine aw_iald (x := nI (s.1 (ob u))) d_M_goes_98 hn_ (vp_in_nI (by omega) (by omega)) (by rw [nI_clamp (by omega)]; exact hR.2.1 _ (by omega)) ?_
        refine aw_iload_n d_M_goes_99 rfl ?_
        refine aw_iconst (v := nI 2) d_M_goes_100 (by decide) ?_
        refine aw_idiv (v := nI (ob w)) d_M_goes_101 (by decide) (by rw [pk_div (by omega) (by decide) (by decide), show w / 2 = ob w by omega]) ?_
        refine aw_icmp_ne (tgt := 123) d_M_goes_102 (by decide) (fun c_102 => ?_) (fun c_102 => ?_)
        · rw [w_eq (by omega) (by omega)] at c_102
          refine aw_iconst (v := nI 0) d_M_goes_123 (by decide) ?_
          exact aw_iret d_M_goes_124 rfl nar0 ⟨by rw [pgo_n c_4 c_11 nz]; exact congrArg (fun z => some (Value.int z)) (bP_f (by simp only [decide_eq_true_eq]; omega)).symm, _, _, _, _, hm, hn_, hb_, hq_, by rw [pgo_n c_4 c_11 nz]; exact hR, fun q _ _ _ _ => rfl⟩
        · rw [w_eq (by omega) (by omega)] at c_102
          refine aw_aload_n d_M_goes_105 rfl ?_
          refine aw_get fl_M_33 d_M_goes_106 hm rfl ?_
          refine aw_iload_n d_M_goes_109 rfl ?_
          refine aw_iconst (v := nI 2) d_M_goes_110 (by decide) ?_
          refine aw_idiv (v := nI (ob w)) d_M_goes_111 (by decide) (by rw [pk_div (by omega) (by decide) (by decide), show w / 2 = ob w by omega]) ?_
          refine aw_iald (x := nI (s.2.1 (ob w))) d_M_goes_112 hb_ (vp_in_nI (by omega) (by omega)) (by rw [nI_clamp (by omega)]; exact hR.2.2.1 _ (by omega)) ?_
          refine aw_iload_n d_M_goes_113 rfl ?_
          refine aw_iconst (v := nI 2) d_M_goes_114 (by decide) ?_
          refine aw_idiv (v := nI (ob u)) d_M_goes_115 (by decide) (by rw [pk_div (by omega) (by decide) (by decide), show u / 2 = ob u by omega]) ?_
          refine aw_icmp_ne (tgt := 123) d_M_goes_116 (by decide) (fun c_116 => ?_) (fun c_116 => ?_)
          · rw [w_eq (by omega) (by omega)] at c_116
            refine aw_iconst (v := nI 0) d_M_goes_123 (by decide) ?_
            exact aw_iret d_M_goes_124 rfl nar0 ⟨by rw [pgo_n c_4 c_11 nz]; exact congrArg (fun z => some (Value.int z)) (bP_f (by simp only [decide_eq_true_eq]; omega)).symm, _, _, _, _, hm, hn_, hb_, hq_, by rw [pgo_n c_4 c_11 nz]; exact hR, fun q _ _ _ _ => rfl⟩
          · rw [w_eq (by omega) (by omega)] at c_116
            refine aw_iconst (v := nI 1) d_M_goes_119 (by decide) ?_
            refine aw_goto (tgt := 124) d_M_goes_120 (by decide) ?_
            exact aw_iret d_M_goes_124 rfl nar1 ⟨by rw [pgo_n c_4 c_11 nz]; exact congrArg (fun z => some (Value.int z)) (bP_t (by simp only [decide_eq_true_eq]; omega)).symm, _, _, _, _, hm, hn_, hb_, hq_, by rw [pgo_n c_4 c_11 nz]; exact hR, fun q _ _ _ _ => rfl⟩
      · rw [w_eq0 (by omega)] at c_33
        have u_0 := c_33
        refine aw_aload_n d_M_goes_36 rfl ?_
        refine aw_get fl_M_33 d_M_goes_37 hm rfl ?_
        refine aw_iload_n d_M_goes_40 rfl ?_
        refine aw_iconst (v := nI 2) d_M_goes_41 (by decide) ?_
        refine aw_idiv (v := nI (ob w)) d_M_goes_42 (by decide) (by rw [pk_div (by omega) (by decide) (by decide), show w / 2 = ob w by omega]) ?_
        refine aw_iald (x := nI (s.2.1 (ob w))) d_M_goes_43 hb_ (vp_in_nI (by omega) (by omega)) (by rw [nI_clamp (by omega)]; exact hR.2.2.1 _ (by omega)) ?_
        refine aw_if_ne (tgt := 91) d_M_goes_44 (by decide) (fun c_44 => ?_) (fun c_44 => ?_)
        · rw [w_eq0 (by omega)] at c_44
          have nz : ¬ (s.1 (ob u) = 0 ∧ s.2.1 (ob w) = 0) := fun q => c_44 q.2
          refine aw_aload_n d_M_goes_91 rfl ?_
          refine aw_get fl_M_30 d_M_goes_92 hm rfl ?_
          refine aw_iload_n d_M_goes_95 rfl ?_
          refine aw_iconst (v := nI 2) d_M_goes_96 (by decide) ?_
          refine aw_idiv (v := nI (ob u)) d_M_goes_97 (by decide) (by rw [pk_div (by omega) (by decide) (by decide), show u / 2 = ob u by omega]) ?_
          refine aw_iald (x := nI (s.1 (ob u))) d_M_goes_98 hn_ (vp_in_nI (by omega) (by omega)) (by rw [nI_clamp (by omega)]; exact hR.2.1 _ (by omega)) ?_
          refine aw_iload_n d_M_goes_99 rfl ?_
          refine aw_iconst (v := nI 2) d_M_goes_100 (by decide) ?_
          refine aw_idiv (v := nI (ob w)) d_M_goes_101 (by decide) (by rw [pk_div (by omega) (by decide) (by decide), show w / 2 = ob w by omega]) ?_
          refine aw_icmp_ne (tgt := 123) d_M_goes_102 (by decide) (fun c_102 => ?_) (fun c_102 => ?_)
          · rw [w_eq (by omega) (by omega)] at c_102
            refine aw_iconst (v := nI 0) d_M_goes_123 (by decide) ?_
            exact aw_iret d_M_goes_124 rfl nar0 ⟨by rw [pgo_n c_4 c_11 nz]; exact congrArg (fun z => some (Value.int z)) (bP_f (by simp only [decide_eq_true_eq]; omega)).symm, _, _, _, _, hm, hn_, hb_, hq_, by rw [pgo_n c_4 c_11 nz]; exact hR, fun q _ _ _ _ => rfl⟩
          · rw [w_eq (by omega) (by omega)] at c_102
            refine aw_aload_n d_M_goes_105 rfl ?_
            refine aw_get fl_M_33 d_M_goes_106 hm rfl ?_
            refine aw_iload_n d_M_goes_109 rfl ?_
            refine aw_iconst (v := nI 2) d_M_goes_110 (by decide) ?_
            refine aw_idiv (v := nI (ob w)) d_M_goes_111 (by decide) (by rw [pk_div (by omega) (by decide) (by decide), show w / 2 = ob w by omega]) ?_
            refine aw_iald (x := nI (s.2.1 (ob w))) d_M_goes_112 hb_ (vp_in_nI (by omega) (by omega)) (by rw [nI_clamp (by omega)]; exact hR.2.2.1 _ (by omega)) ?_
            refine aw_iload_n d_M_goes_113 rfl ?_
            refine aw_iconst (v := nI 2) d_M_goes_114 (by decide) ?_
            refine aw_idiv (v := nI (ob u)) d_M_goes_115 (by decide) (by rw [pk_div (by omega) (by decide) (by decide), show u / 2 = ob u by omega]) ?_
            refine aw_icmp_ne (tgt := 123) d_M_goes_116 (by decide) (fun c_116 => ?_) (fun c_116 => ?_)
            · rw [w_eq (by omega) (by omega)] at c_116
              refine aw_iconst (v := nI 0) d_M_goes_123 (by decide) ?_
              exact aw_iret d_M_goes_124 rfl nar0 ⟨by rw [pgo_n c_4 c_11 nz]; exact congrArg (fun z => some (Value.int z)) (bP_f (by simp only [decide_eq_true_eq]; omega)).symm, _, _, _, _, hm, hn_, hb_, hq_, by rw [pgo_n c_4 c_11 nz]; exact hR, fun q _ _ _ _ => rfl⟩
            · rw [w_eq (by omega) (by omega)] at c_116
              refine aw_iconst (v := nI 1) d_M_goes_119 (by decide) ?_
              refine aw_goto (tgt := 124) d_M_goes_120 (by decide) ?_
              exact aw_iret d_M_goes_124 rfl nar1 ⟨by rw [pgo_n c_4 c_11 nz]; exact congrArg (fun z => some (Value.int z)) (bP_t (by simp only [decide_eq_true_eq]; omega)).symm, _, _, _, _, hm, hn_, hb_, hq_, by rw [pgo_n c_4 c_11 nz]; exact hR, fun q _ _ _ _ => rfl⟩
        · rw [w_eq0 (by omega)] at c_44
          have w_0 := c_44
          have hlt := hg.lt u_0 e_5 e_6
          refine aw_aload_n d_M_goes_47 rfl ?_
          refine aw_get fl_M_30 d_M_goes_48 hm rfl ?_
          refine aw_iload_n d_M_goes_51 rfl ?_
          refine aw_iconst (v := nI 2) d_M_goes_52 (by decide) ?_
          refine aw_idiv (v := nI (ob u)) d_M_goes_53 (by decide) (by rw [pk_div (by omega) (by decide) (by decide), show u / 2 = ob u by omega]) ?_
          refine aw_iload_n d_M_goes_54 rfl ?_
          refine aw_iconst (v := nI 2) d_M_goes_55 (by decide) ?_
          refine aw_idiv (v := nI (ob w)) d_M_goes_56 (by decide) (by rw [pk_div (by omega) (by decide) (by decide), show w / 2 = ob w by omega]) ?_
          refine aw_iast (f' := upd fn (ob u) (nI (ob w))) d_M_goes_57 hn_ (vp_in_nI (by omega) (by omega)) (by rw [nI_clamp (by omega)]) ?_
          obtain ⟨k_1, e_k_1⟩ : ∃ z, z = av_up h an (.inl (0, 8192, .inl (upd fn (ob u) (nI (ob w))))) := ⟨_, rfl⟩
          refine aw_heap (h' := k_1) e_k_1.symm ?_
          have g1_m : k_1 m = some (.inr (5, [.int cd, .ref ai, .int (nI cn), .ref am, .int (nI ln), .ref ak, .int (nI kl), .ref as_, .ref aks, .ref ar, .ref an, .ref ab, .int (nI mn)])) := by rw [e_k_1, av_up_ne (av_apart' hm hn_)]; exact hm
          have g1_ab : k_1 ab = some (.inl (0, 8192, .inl fb)) := by rw [e_k_1, av_up_ne (Ne.symm D0.2.2.2.2)]; exact hb_
          have g1_ar : k_1 ar = some (.inl (0, 8192, .inl fq)) := by rw [e_k_1, av_up_ne D0.2.2.2.1.1]; exact hq_
          have g1_an : k_1 an = some (.inl (0, 8192, .inl (upd fn (ob u) (nI (ob w))))) := by rw [e_k_1]; exact av_up_self _ _ _
          refine aw_aload_n d_M_goes_58 rfl ?_
          refine aw_get fl_M_33 d_M_goes_59 g1_m rfl ?_
          refine aw_iload_n d_M_goes_62 rfl ?_
          refine aw_iconst (v := nI 2) d_M_goes_63 (by decide) ?_
          refine aw_idiv (v := nI (ob w)) d_M_goes_64 (by decide) (by rw [pk_div (by omega) (by decide) (by decide), show w / 2 = ob w by omega]) ?_
          refine aw_iload_n d_M_goes_65 rfl ?_
          refine aw_iconst (v := nI 2) d_M_goes_66 (by decide) ?_
          refine aw_idiv (v := nI (ob u)) d_M_goes_67 (by decide) (by rw [pk_div (by omega) (by decide) (by decide), show u / 2 = ob u by omega]) ?_
          refine aw_iast (f' := upd fb (ob w) (nI (ob u))) d_M_goes_68 g1_ab (vp_in_nI (by omega) (by omega)) (by rw [nI_clamp (by omega)]) ?_
          obtain ⟨k_2, e_k_2⟩ : ∃ z, z = av_up k_1 ab (.inl (0, 8192, .inl (upd fb (ob w) (nI (ob u))))) := ⟨_, rfl⟩
          refine aw_heap (h' := k_2) e_k_2.symm ?_
          have g2_m : k_2 m = some (.inr (5, [.int cd, .ref ai, .int (nI cn), .ref am, .int (nI ln), .ref ak, .int (nI kl), .ref as_, .ref aks, .ref ar, .ref an, .ref ab, .int (nI mn)])) := by rw [e_k_2, av_up_ne (av_apart' g1_m g1_ab)]; exact g1_m
          have g2_ar : k_2 ar = some (.inl (0, 8192, .inl fq)) := by rw [e_k_2, av_up_ne D0.2.2.2.1.2]; exact g1_ar
          have g2_an : k_2 an = some (.inl (0, 8192, .inl (upd fn (ob u) (nI (ob w))))) := by rw [e_k_2, av_up_ne D0.2.2.2.2]; exact g1_an
          have g2_ab : k_2 ab = some (.inl (0, 8192, .inl (upd fb (ob w) (nI (ob u))))) := by rw [e_k_2]; exact av_up_self _ _ _
          refine aw_aload_n d_M_goes_69 rfl ?_
          refine aw_get fl_M_27 d_M_goes_70 g2_m rfl ?_
          refine aw_aload_n d_M_goes_73 rfl ?_
          refine aw_get fl_M_159 d_M_goes_74 g2_m rfl ?_
          refine aw_iload_n d_M_goes_77 rfl ?_
          refine aw_iconst (v := nI 2) d_M_goes_78 (by decide) ?_
          refine aw_idiv (v := nI (ob u)) d_M_goes_79 (by decide) (by rw [pk_div (by omega) (by decide) (by decide), show u / 2 = ob u by omega]) ?_
          refine aw_iast (f' := upd fq mn (nI (ob u))) d_M_goes_80 g2_ar (vp_in_nI (by omega) (by omega)) (by rw [nI_clamp (by omega)]) ?_
          obtain ⟨k_3, e_k_3⟩ : ∃ z, z = av_up k_2 ar (.inl (0, 8192, .inl (upd fq mn (nI (ob u))))) := ⟨_, rfl⟩
          refine aw_heap (h' := k_3) e_k_3.symm ?_
          have g3_m : k_3 m = some (.inr (5, [.int cd, .ref ai, .int (nI cn), .ref am, .int (nI ln), .ref ak, .int (nI kl), .ref as_, .ref aks, .ref ar, .ref an, .ref ab, .int (nI mn)])) := by rw [e_k_3, av_up_ne (av_apart' g2_m g2_ar)]; exact g2_m
          have g3_an : k_3 an = some (.inl (0, 8192, .inl (upd fn (ob u) (nI (ob w))))) := by rw [e_k_3, av_up_ne (Ne.symm D0.2.2.2.1.1)]; exact g2_an
          have g3_ab : k_3 ab = some (.inl (0, 8192, .inl (upd fb (ob w) (nI (ob u))))) := by rw [e_k_3, av_up_ne (Ne.symm D0.2.2.2.1.2)]; exact g2_ab
          have g3_ar : k_3 ar = some (.inl (0, 8192, .inl (upd fq mn (nI (ob u))))) := by rw [e_k_3]; exact av_up_self _ _ _
          refine aw_aload_n d_M_goes_81 rfl ?_
          refine aw_dup d_M_goes_82 rfl ?_
          refine aw_get fl_M_159 d_M_goes_83 g3_m rfl ?_
          refine aw_iconst (v := nI 1) d_M_goes_86 (by decide) ?_
          refine aw_iadd (v := nI (mn + 1)) d_M_goes_87 (nI_add _ _) ?_
          refine aw_put (fs' := [.int cd, .ref ai, .int (nI cn), .ref am, .int (nI ln), .ref ak, .int (nI kl), .ref as_, .ref aks, .ref ar, .ref an, .ref ab, .int (nI (mn + 1))]) (pt_M_159 _) d_M_goes_88 g3_m rfl rfl (by simp) rfl ?_
          obtain ⟨k_4, e_k_4⟩ : ∃ z, z = av_up k_3 m (.inr (5, [.int cd, .ref ai, .int (nI cn), .ref am, .int (nI ln), .ref ak, .int (nI kl), .ref as_, .ref aks, .ref ar, .ref an, .ref ab, .int (nI (mn + 1))])) := ⟨_, rfl⟩
          refine aw_heap (h' := k_4) e_k_4.symm ?_
          have g4_an : k_4 an = some (.inl (0, 8192, .inl (upd fn (ob u) (nI (ob w))))) := by rw [e_k_4, av_up_ne (av_apart g3_an g3_m)]; exact g3_an
          have g4_ab : k_4 ab = some (.inl (0, 8192, .inl (upd fb (ob w) (nI (ob u))))) := by rw [e_k_4, av_up_ne (av_apart g3_ab g3_m)]; exact g3_ab
          have g4_ar : k_4 ar = some (.inl (0, 8192, .inl (upd fq mn (nI (ob u))))) := by rw [e_k_4, av_up_ne (av_apart g3_ar g3_m)]; exact g3_ar
          have g4_m : k_4 m = some (.inr (5, [.int cd, .ref ai, .int (nI cn), .ref am, .int (nI ln), .ref ak, .int (nI kl), .ref as_, .ref aks, .ref ar, .ref an, .ref ab, .int (nI (mn + 1))])) := by rw [e_k_4]; exact av_up_self _ _ _
          refine aw_aload_n d_M_goes_91 rfl ?_
          refine aw_get fl_M_30 d_M_goes_92 g4_m rfl ?_
          refine aw_iload_n d_M_goes_95 rfl ?_
          refine aw_iconst (v := nI 2) d_M_goes_96 (by decide) ?_
          refine aw_idiv (v := nI (ob u)) d_M_goes_97 (by decide) (by rw [pk_div (by omega) (by decide) (by decide), show u / 2 = ob u by omega]) ?_
          refine aw_iald (x := nI (ob w)) d_M_goes_98 g4_an (vp_in_nI (by omega) (by omega)) (by rw [nI_clamp (by omega)]; unfold upd; rw [if_pos rfl]) ?_
          refine aw_iload_n d_M_goes_99 rfl ?_
          refine aw_iconst (v := nI 2) d_M_goes_100 (by decide) ?_
          refine aw_idiv (v := nI (ob w)) d_M_goes_101 (by decide) (by rw [pk_div (by omega) (by decide) (by decide), show w / 2 = ob w by omega]) ?_
          refine aw_icmp_ne (tgt := 123) d_M_goes_102 (by decide) (fun c_102 => absurd c_102 (by exact fun z => z rfl)) (fun c_102 => ?_)
          try rw [w_eq (by omega) (by omega)] at c_102
          refine aw_aload_n d_M_goes_105 rfl ?_
          refine aw_get fl_M_33 d_M_goes_106 g4_m rfl ?_
          refine aw_iload_n d_M_goes_109 rfl ?_
          refine aw_iconst (v := nI 2) d_M_goes_110 (by decide) ?_
          refine aw_idiv (v := nI (ob w)) d_M_goes_111 (by decide) (by rw [pk_div (by omega) (by decide) (by decide), show w / 2 = ob w by omega]) ?_
          refine aw_iald (x := nI (ob u)) d_M_goes_112 g4_ab (vp_in_nI (by omega) (by omega)) (by rw [nI_clamp (by omega)]; unfold upd; rw [if_pos rfl]) ?_
          refine aw_iload_n d_M_goes_113 rfl ?_
          refine aw_iconst (v := nI 2) d_M_goes_114 (by decide) ?_
          refine aw_idiv (v := nI (ob u)) d_M_goes_115 (by decide) (by rw [pk_div (by omega) (by decide) (by decide), show u / 2 = ob u by omega]) ?_
          refine aw_icmp_ne (tgt := 123) d_M_goes_116 (by decide) (fun c_116 => absurd c_116 (by exact fun z => z rfl)) (fun c_116 => ?_)
          try rw [w_eq (by omega) (by omega)] at c_116
          refine aw_iconst (v := nI 1) d_M_goes_119 (by decide) ?_
          refine aw_goto (tgt := 124) d_M_goes_120 (by decide) ?_
          exact aw_iret d_M_goes_124 rfl nar1 ⟨by rw [pgo_y c_4 c_11 ⟨u_0, w_0⟩]; exact congrArg (fun z => some (Value.int z)) (bP_t rfl).symm, _, _, _, _, g4_m, g4_an, g4_ab, g4_ar, hR.y c_4 c_11 ⟨u_0, w_0⟩, fun q a_m a_an a_ab a_ar => by rw [e_k_4, av_up_ne a_m, e_k_3, av_up_ne a_ar, e_k_2, av_up_ne a_ab, e_k_1, av_up_ne a_an]⟩
    · rw [bP_eq0] at c_11
      have z0 : ob u = 0 ∨ ob w = 0 := Or.inr (Classical.not_not.mp c_11)
      refine aw_iload_n d_M_goes_14 rfl ?_
      refine aw_iload_n d_M_goes_15 rfl ?_
      refine aw_icmp_ne (tgt := 23) d_M_goes_16 (by decide) (fun c_16 => ?_) (fun c_16 => ?_)
      · rw [w_eq (by omega) (by omega)] at c_16
        refine aw_iconst (v := nI 0) d_M_goes_23 (by decide) ?_
        exact aw_iret d_M_goes_24 rfl nar0 ⟨by rw [pgo_0 z0]; exact congrArg (fun z => some (Value.int z)) (bP_f (by simp [c_16])).symm, _, _, _, _, hm, hn_, hb_, hq_, by rw [pgo_0 z0]; exact hR, fun q _ _ _ _ => rfl⟩
      · rw [w_eq (by omega) (by omega)] at c_16
        refine aw_iconst (v := nI 1) d_M_goes_19 (by decide) ?_
        refine aw_goto (tgt := 24) d_M_goes_20 (by decide) ?_
        exact aw_iret d_M_goes_24 rfl nar1 ⟨by rw [pgo_0 z0]; exact congrArg (fun z => some (Value.int z)) (bP_t (by simp [c_16])).symm, _, _, _, _, hm, hn_, hb_, hq_, by rw [pgo_0 z0]; exact hR, fun q _ _ _ _ => rfl⟩
