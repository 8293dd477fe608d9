theorem gsp_stop {B C : Nat → Nat} {i : Nat} (h : ¬ (gsp B C i).2 = true) : ∀ j, gsp B C (i + j) = gsp B C i
  | 0 => rfl
  | j + 1 => by
    have e := gsp_stop h j
    show gsp B C (i + j + 1) = _
    rw [gsp, e, if_neg h]
theorem gsp_t {B C : Nat → Nat} {k : Nat} (h : (gsp B C k).2 = true) : gsp B C (k + 1) = pgo (gsp B C k).1 (sp B k) (sp C k) := by rw [gsp, if_pos h]
theorem gfd_0t {B C : Nat → Nat} {s : PS} {k l : Nat} : (gfd B C s k l 0).2 = true ↔ (pgo s (cl B k) (cl C l)).2 = true ∧ kd B k = kd C l ∧ sz B k = sz C l := by
  rw [gfd, gf0_2]
  simp only [Bool.and_eq_true, decide_eq_true_eq]
theorem gst_t {B C : Nat → Nat} {j : Nat} (h : (gst B C j).2 = true ∧ j < (gst B C j).1.2.2.2) : gst B C (j + 1) = gbo B C (gst B C j).1 ((gst B C j).1.2.2.1 j) ((gst B C j).1.1 ((gst B C j).1.2.2.1 j)) := by rw [gst, if_pos h]
theorem bP_and {P : Prop} {x : Int32} (h : P) (e : x = bP P) : x = nI 1 := by rw [e, bP_t h]

set_option maxHeartbeats 4000000 in
theorem lp_M_goTogether {tb : Nat → Nat} {h : AH} {fr lo : Nat} {mc ms : Nat} (hfr : 2 ≤ fr) (hlo : 43 ≤ lo) {m ai am ak as_ aks ar an ab cn ln kl : Nat} {cd : Int32} {HB KB : Nat → Nat} {fs fks : Nat → Int32} (hHB : ∀ i, HB i < 256) (hKB : ∀ i, KB i < 256) (D0 : mND ai am ak as_ aks ar an ab) (X : VX HB ln fs) (Y : VX KB kl fks) (s : PS) (hg : pgd (nn HB) (nn KB) s) (k : Nat) (q1 : 1 ≤ k) (q2 : k ≤ nn HB) (q3 : s.1 k ≠ 0) : ∀ (d : Nat) (i : Nat) (r : Int32) (g : AH) (fn fb fq : Nat → Int32) (mn : Nat), g m = some (mO cd ai cn am ln ak kl as_ aks ar an ab mn) → g am = some (.inl (1, 65536, .inl (bsf HB))) → g ak = some (.inl (1, 65536, .inl (bsf KB))) → g as_ = some (.inl (0, 8192, .inl fs)) → g aks = some (.inl (0, 8192, .inl fks)) → g an = some (.inl (0, 8192, .inl fn)) → g ab = some (.inl (0, 8192, .inl fb)) → g ar = some (.inl (0, 8192, .inl fq)) → (∀ q, q ≠ m → q ≠ an → q ≠ ab → q ≠ ar → g q = h q) → mn ≤ 8191 → r = bP ((gfd HB KB s k (s.1 k) i).2 = true) → ((gfd HB KB s k (s.1 k) i).2 = true → RP (gfd HB KB s k (s.1 k) i).1 fn fb fq mn) → i ≤ sz HB k → sz HB k < i + d → AW tb "ImageReaderModel" b_M_goTogether 6 (some .boolean) false none fr lo (fun v h' => v = some (.int (bP ((gbo HB KB s k (s.1 k)).2 = true))) ∧ ∃ fn' fb' fq' mn', h' m = some (mO cd ai cn am ln ak kl as_ aks ar an ab mn') ∧ h' an = some (.inl (0, 8192, .inl fn')) ∧ h' ab = some (.inl (0, 8192, .inl fb')) ∧ h' ar = some (.inl (0, 8192, .inl fq')) ∧ ((gbo HB KB s k (s.1 k)).2 = true → RP (gbo HB KB s k (s.1 k)).1 fn' fb' fq' mn') ∧ mn' ≤ 8191 ∧ (∀ q, q ≠ m → q ≠ an → q ≠ ab → q ≠ ar → h' q = h q)) 90 [some (.ref m), some (.int (nI k)), some (.int (nI (oa HB k))), some (.int (nI (oa KB (s.1 k)))), some (.int r), some (.int (nI i))] [] g mc ms := by
  intro d
  induction d with
  | zero => intro i r g fn fb fq mn gm gi gk gs gt gn gb gq gf gmn hr_ hR hi hd; omega
  | succ d ih =>
    intro i r g fn fb fq mn gm gi gk gs gt gn gb gq gf gmn hr_ hR hi hd
    have hN := X.n
    have hK := Y.n
    have o_k := X.at k q1 q2
    have z_k := sz_lt hHB k
    have l1 : 1 ≤ s.1 k := by omega
    have l2 : s.1 k ≤ nn KB := (hg.2.1 k q3).2.2.1
    have o_l := Y.at (s.1 k) l1 l2
    have z_l := sz_lt hKB (s.1 k)
    refine aw_iload d_M_goTogether_90 rfl ?_
    refine aw_if_eq (tgt := 186) d_M_goTogether_92 (by decide) (fun c_92 => ?_) (fun c_92 => ?_)
    · rw [hr_, bP_eq0] at c_92
      have hG : gbo HB KB s k (s.1 k) = gfd HB KB s k (s.1 k) i := by unfold gbo; rw [show sz HB k = i + (sz HB k - i) by omega]; exact gfd_stop c_92 _
      refine aw_iload d_M_goTogether_186 rfl ?_
      exact aw_iret d_M_goTogether_188 rfl (by rw [hr_]; exact bP_nar _) ⟨by rw [hr_, hG], fn, fb, fq, mn, gm, gn, gb, gq, fun z => by rw [hG] at z ⊢; exact hR z, gmn, gf⟩
    · rw [hr_, bP_eq0, Classical.not_not] at c_92
      have e_t := gfd_t i c_92
      refine aw_iload d_M_goTogether_95 rfl ?_
      refine aw_aload_n d_M_goTogether_97 rfl ?_
      refine aw_get fl_M_14 d_M_goTogether_98 gm rfl ?_
      refine aw_iload_n d_M_goTogether_101 rfl ?_
      refine aw_callSi (mc2 := mc) (ms2 := ms) (r := nI (sz HB k)) (As := [.ref am, .int (nI (oa HB k))]) (rest := [.int (nI i)]) (c_M_sizeAt hHB gi (by omega) (oa HB k) (by omega)) cs_M_54 d_M_goTogether_102 rfl rfl (Nat.le_of_ble_eq_true rfl) (by omega) (by omega) (by omega) (by omega) ?_
      have b_102 := sz_lt hHB k
      refine aw_icmp_ge (tgt := 186) d_M_goTogether_105 (by decide) (fun c_105 => ?_) (fun c_105 => ?_)
      · rw [nI_leI (by omega) (by omega)] at c_105
        have hG : gbo HB KB s k (s.1 k) = gfd HB KB s k (s.1 k) i := by unfold gbo; rw [show sz HB k = i by omega]
        refine aw_iload d_M_goTogether_186 rfl ?_
        exact aw_iret d_M_goTogether_188 rfl (by rw [hr_]; exact bP_nar _) ⟨by rw [hr_, hG], fn, fb, fq, mn, gm, gn, gb, gq, fun z => by rw [hG] at z ⊢; exact hR z, gmn, gf⟩
      · rw [nI_leI (by omega) (by omega)] at c_105
        refine aw_aload_n d_M_goTogether_108 rfl ?_
        refine aw_get fl_M_14 d_M_goTogether_109 gm rfl ?_
        refine aw_iload_n d_M_goTogether_112 rfl ?_
        refine aw_callSi (mc2 := mc) (ms2 := ms) (r := bP (kd HB k = 1)) (As := [.ref am, .int (nI (oa HB k))]) (rest := []) (c_M_isOfBytes hHB gi (by omega) (oa HB k) (by omega)) cs_M_50 d_M_goTogether_113 rfl rfl (Nat.le_of_ble_eq_true rfl) (by omega) (by omega) (by omega) (by omega) ?_
        refine aw_if_eq (tgt := 154) d_M_goTogether_116 (by decide) (fun c_116 => ?_) (fun c_116 => ?_)
        · rw [bP_eq0] at c_116
          have c_k : kd HB k ≠ 1 := c_116
          have d_k : kd KB (s.1 k) ≠ 1 := by rw [← e_t.1]; exact c_116
          have o_b := X.fp k i q1 q2 c_k (by omega)
          have o_c := Y.fp (s.1 k) i l1 l2 d_k (by omega)
          refine aw_aload_n d_M_goTogether_154 rfl ?_
          refine aw_aload_n d_M_goTogether_155 rfl ?_
          refine aw_get fl_M_14 d_M_goTogether_156 gm rfl ?_
          refine aw_iload_n d_M_goTogether_159 rfl ?_
          refine aw_iload d_M_goTogether_160 rfl ?_
          refine aw_callSi (mc2 := mc) (ms2 := ms) (r := nI (fd HB k i)) (As := [.ref am, .int (nI (oa HB k)), .int (nI i)]) (rest := [.ref m]) (c_M_fieldAt hHB gi (by omega) (oa HB k) i (by omega)) cs_M_61 d_M_goTogether_162 rfl rfl (Nat.le_of_ble_eq_true rfl) (by omega) (by omega) (by omega) (by omega) ?_
          have b_162 := fd_lt hHB k i
          refine aw_aload_n d_M_goTogether_165 rfl ?_
          refine aw_get fl_M_17 d_M_goTogether_166 gm rfl ?_
          refine aw_iload_n d_M_goTogether_169 rfl ?_
          refine aw_iload d_M_goTogether_170 rfl ?_
          refine aw_callSi (mc2 := mc) (ms2 := ms) (r := nI (fd KB (s.1 k) i)) (As := [.ref ak, .int (nI (oa KB (s.1 k))), .int (nI i)]) (rest := [.int (nI (fd HB k i)), .ref m]) (c_M_fieldAt hKB gk (by omega) (oa KB (s.1 k)) i (by omega)) cs_M_61 d_M_goTogether_172 rfl rfl (Nat.le_of_ble_eq_true rfl) (by omega) (by omega) (by omega) (by omega) ?_
          have b_172 := fd_lt hKB (s.1 k) i
          refine aw_callV (mc2 := mc) (ms2 := ms) (As := [.int (nI (fd HB k i)), .int (nI (fd KB (s.1 k) i))]) (rest := []) (c_M_goes D0 gm gn gb gq X.n.2 Y.n.2 (gfd_gd X.1 Y.1 hg q1 q2 l1 l2 i hi) (hR c_92) (fd HB k i) (fd KB (s.1 k) i) (by omega) (X.fv q1 q2 c_k (by omega)) (by omega) (Y.fv l1 l2 d_k (by omega))) cv_M_179 d_M_goTogether_175 gm rfl rfl rfl (Nat.le_of_ble_eq_true rfl) (by omega) (by omega) (by omega) (by omega) (fun v_175 k_175c q_175 => ?_)
          obtain ⟨y1_175, fn_175, fb_175, fq_175, mn_175, y2_175, y3_175, y4_175, y5_175, y6_175, y7_175⟩ := q_175
          refine aw_st (st' := .int (bP ((pgo ((gfd HB KB s k (s.1 k) i).1) (fd HB k i) (fd KB (s.1 k) i)).2 = true)) :: []) (by rw [y1_175]; rfl) ?_
          have y_175_am : k_175c am = some (.inl (1, 65536, .inl (bsf HB))) := by rw [y7_175 _ (av_apart gi gm) (av_apT gi gn (by decide)) (av_apT gi gb (by decide)) (av_apT gi gq (by decide))]; exact gi
          have y_175_ak : k_175c ak = some (.inl (1, 65536, .inl (bsf KB))) := by rw [y7_175 _ (av_apart gk gm) (av_apT gk gn (by decide)) (av_apT gk gb (by decide)) (av_apT gk gq (by decide))]; exact gk
          have y_175_as_ : k_175c as_ = some (.inl (0, 8192, .inl fs)) := by rw [y7_175 _ (av_apart gs gm) (D0.2.1.2.2.1) (D0.2.1.2.2.2) (D0.2.1.2.1)]; exact gs
          have y_175_aks : k_175c aks = some (.inl (0, 8192, .inl fks)) := by rw [y7_175 _ (av_apart gt gm) (D0.2.2.1.2.1) (D0.2.2.1.2.2) (D0.2.2.1.1)]; exact gt
          have y8_175 : mn_175 ≤ 8191 := by rw [y6_175.1]; exact Nat.le_trans (pgo_gd (gfd_gd X.1 Y.1 hg q1 q2 l1 l2 i hi) (ob_le (X.fv q1 q2 c_k (by omega))) (ob_le (Y.fv l1 l2 d_k (by omega)))).le X.n.2
          refine aw_istore (L' := [some (.ref m), some (.int (nI k)), some (.int (nI (oa HB k))), some (.int (nI (oa KB (s.1 k)))), some (.int (bP ((pgo ((gfd HB KB s k (s.1 k) i).1) (fd HB k i) (fd KB (s.1 k) i)).2 = true))), some (.int (nI i))]) d_M_goTogether_178 (by decide) rfl rfl ?_
          refine aw_iinc (v := nI (i + 1)) (L' := [some (.ref m), some (.int (nI k)), some (.int (nI (oa HB k))), some (.int (nI (oa KB (s.1 k)))), some (.int (bP ((pgo ((gfd HB KB s k (s.1 k) i).1) (fd HB k i) (fd KB (s.1 k) i)).2 = true))), some (.int (nI (i + 1)))]) d_M_goTogether_180 rfl (nI_add i 1) (by decide) rfl rfl ?_
          refine aw_goto (tgt := 90) d_M_goTogether_183 (by decide) ?_
          exact ih (i + 1) _ _ _ _ _ _ y2_175 y_175_am y_175_ak y_175_as_ y_175_aks y3_175 y4_175 y5_175 (fun q b1 b2 b3 b4 => ((y7_175 q b1 b2 b3 b4).trans (gf q b1 b2 b3 b4))) y8_175 (by rw [gfd_f c_92 c_k]) (fun _ => by rw [gfd_f c_92 c_k]; exact y6_175) (by omega) (by omega)
        · rw [bP_eq0, Classical.not_not] at c_116
          have o_b := X.bp k i q1 q2 c_116 (by omega)
          have o_c := Y.bp (s.1 k) i l1 l2 (by rw [← e_t.1]; exact c_116) (by omega)
          refine aw_aload_n d_M_goTogether_119 rfl ?_
          refine aw_get fl_M_14 d_M_goTogether_120 gm rfl ?_
          refine aw_iload_n d_M_goTogether_123 rfl ?_
          refine aw_bipush (v := nI 7) d_M_goTogether_124 (by decide) ?_
          refine aw_iadd (v := nI (oa HB k + 7)) d_M_goTogether_126 (nI_add _ _) ?_
          refine aw_iload d_M_goTogether_127 rfl ?_
          refine aw_iadd (v := nI (oa HB k + 7 + i)) d_M_goTogether_129 (nI_add _ _) ?_
          refine aw_bald (x := bs (HB (oa HB k + 7 + i))) d_M_goTogether_130 gi (vp_in_nI (by omega) (by omega)) (by rw [nI_clamp (by omega)]; rfl) ?_
          refine aw_aload_n d_M_goTogether_131 rfl ?_
          refine aw_get fl_M_17 d_M_goTogether_132 gm rfl ?_
          refine aw_iload_n d_M_goTogether_135 rfl ?_
          refine aw_bipush (v := nI 7) d_M_goTogether_136 (by decide) ?_
          refine aw_iadd (v := nI (oa KB (s.1 k) + 7)) d_M_goTogether_138 (nI_add _ _) ?_
          refine aw_iload d_M_goTogether_139 rfl ?_
          refine aw_iadd (v := nI (oa KB (s.1 k) + 7 + i)) d_M_goTogether_141 (nI_add _ _) ?_
          refine aw_bald (x := bs (KB (oa KB (s.1 k) + 7 + i))) d_M_goTogether_142 gk (vp_in_nI (by omega) (by omega)) (by rw [nI_clamp (by omega)]; rfl) ?_
          refine aw_icmp_ne (tgt := 150) d_M_goTogether_143 (by decide) (fun c_143 => ?_) (fun c_143 => ?_)
          · rw [bs_eq (hHB _) (hKB _)] at c_143
            refine aw_iconst (v := nI 0) d_M_goTogether_150 (by decide) ?_
            refine aw_goto (tgt := 178) d_M_goTogether_151 (by decide) ?_
            refine aw_istore (L' := [some (.ref m), some (.int (nI k)), some (.int (nI (oa HB k))), some (.int (nI (oa KB (s.1 k)))), some (.int (nI 0)), some (.int (nI i))]) d_M_goTogether_178 (by decide) rfl rfl ?_
            refine aw_iinc (v := nI (i + 1)) (L' := [some (.ref m), some (.int (nI k)), some (.int (nI (oa HB k))), some (.int (nI (oa KB (s.1 k)))), some (.int (nI 0)), some (.int (nI (i + 1)))]) d_M_goTogether_180 rfl (nI_add i 1) (by decide) rfl rfl ?_
            refine aw_goto (tgt := 90) d_M_goTogether_183 (by decide) ?_
            exact ih (i + 1) _ g fn fb fq mn gm gi gk gs gt gn gb gq gf gmn (by rw [gfd_b c_92 c_116]; exact (bP_f (by simp [c_143, bt])).symm) (fun _ => by rw [gfd_b c_92 c_116]; exact hR c_92) (by omega) (by omega)
          · rw [bs_eq (hHB _) (hKB _)] at c_143
            refine aw_iconst (v := nI 1) d_M_goTogether_146 (by decide) ?_
            refine aw_goto (tgt := 178) d_M_goTogether_147 (by decide) ?_
            refine aw_istore (L' := [some (.ref m), some (.int (nI k)), some (.int (nI (oa HB k))), some (.int (nI (oa KB (s.1 k)))), some (.int (nI 1)), some (.int (nI i))]) d_M_goTogether_178 (by decide) rfl rfl ?_
            refine aw_iinc (v := nI (i + 1)) (L' := [some (.ref m), some (.int (nI k)), some (.int (nI (oa HB k))), some (.int (nI (oa KB (s.1 k)))), some (.int (nI 1)), some (.int (nI (i + 1)))]) d_M_goTogether_180 rfl (nI_add i 1) (by decide) rfl rfl ?_
            refine aw_goto (tgt := 90) d_M_goTogether_183 (by decide) ?_
            exact ih (i + 1) _ g fn fb fq mn gm gi gk gs gt gn gb gq gf gmn (by rw [gfd_b c_92 c_116]; exact (bP_t (by simp [c_143, bt])).symm) (fun _ => by rw [gfd_b c_92 c_116]; exact hR c_92) (by omega) (by omega)

set_option maxHeartbeats 4000000 in
theorem c_M_goTogether {tb : Nat → Nat} {h : AH} {m ai am ak as_ aks ar an ab cn ln kl : Nat} {cd : Int32} {HB KB : Nat → Nat} {fs fks : Nat → Int32} (hHB : ∀ i, HB i < 256) (hKB : ∀ i, KB i < 256) (D0 : mND ai am ak as_ aks ar an ab) (X : VX HB ln fs) (Y : VX KB kl fks) {fn fb fq : Nat → Int32} {mn : Nat} (gm : h m = some (mO cd ai cn am ln ak kl as_ aks ar an ab mn)) (gi : h am = some (.inl (1, 65536, .inl (bsf HB)))) (gk : h ak = some (.inl (1, 65536, .inl (bsf KB)))) (gs : h as_ = some (.inl (0, 8192, .inl fs))) (gt : h aks = some (.inl (0, 8192, .inl fks))) (gn : h an = some (.inl (0, 8192, .inl fn))) (gb : h ab = some (.inl (0, 8192, .inl fb))) (gq : h ar = some (.inl (0, 8192, .inl fq))) (gmn : mn ≤ 8191) (s : PS) (hg : pgd (nn HB) (nn KB) s) (k : Nat) (q1 : 1 ≤ k) (q2 : k ≤ nn HB) (q3 : s.1 k ≠ 0) (hR : RP s fn fb fq mn) : AM tb y_M_goTogether b_M_goTogether 6 (some .boolean) 2 43 [.ref m, .int (nI k)] h 0 0 (fun v h' => v = some (.int (bP ((gbo HB KB s k (s.1 k)).2 = true))) ∧ ∃ fn' fb' fq' mn', h' m = some (mO cd ai cn am ln ak kl as_ aks ar an ab mn') ∧ h' an = some (.inl (0, 8192, .inl fn')) ∧ h' ab = some (.inl (0, 8192, .inl fb')) ∧ h' ar = some (.inl (0, 8192, .inl fq')) ∧ ((gbo HB KB s k (s.1 k)).2 = true → RP (gbo HB KB s k (s.1 k)).1 fn' fb' fq' mn') ∧ mn' ≤ 8191 ∧ (∀ q, q ≠ m → q ≠ an → q ≠ ab → q ≠ ar → h' q = h q)) := by
  have hN := X.n
  have hK := Y.n
  have o_k := X.at k q1 q2
  have z_k := sz_lt hHB k
  have l1 : 1 ≤ s.1 k := by omega
  have l2 : s.1 k ≤ nn KB := (hg.2.1 k q3).2.2.1
  have o_l := Y.at (s.1 k) l1 l2
  have z_l := sz_lt hKB (s.1 k)
  have gf : (∀ q, q ≠ m → q ≠ an → q ≠ ab → q ≠ ar → h q = h q) := fun _ _ _ _ _ => rfl
  refine am_of (ini := false) [some (.ref m), some (.int (nI k)), none, none, none, none] (by decide) (fun z => by cases z) (Nat.le_of_ble_eq_true rfl) rfl ?_
  refine aw_aload_n d_M_goTogether_0 rfl ?_
  refine aw_get fl_M_20 d_M_goTogether_1 gm rfl ?_
  refine aw_iload_n d_M_goTogether_4 rfl ?_
  refine aw_iald (x := nI (oa HB k)) d_M_goTogether_5 gs (vp_in_nI (by omega) (by omega)) (by rw [nI_clamp (by omega)]; exact (X).2 _ (by omega) (by omega)) ?_
  have o_5 := (X).at k (by omega) (by omega)
  refine aw_istore_n (L' := [some (.ref m), some (.int (nI k)), some (.int (nI (oa HB k))), none, none, none]) d_M_goTogether_6 (by decide) rfl rfl ?_
  refine aw_aload_n d_M_goTogether_7 rfl ?_
  refine aw_get fl_M_24 d_M_goTogether_8 gm rfl ?_
  refine aw_aload_n d_M_goTogether_11 rfl ?_
  refine aw_get fl_M_30 d_M_goTogether_12 gm rfl ?_
  refine aw_iload_n d_M_goTogether_15 rfl ?_
  refine aw_iald (x := nI (s.1 k)) d_M_goTogether_16 gn (vp_in_nI (by omega) (by omega)) (by rw [nI_clamp (by omega)]; exact hR.2.1 k (by omega)) ?_
  refine aw_iald (x := nI (oa KB (s.1 k))) d_M_goTogether_17 gt (vp_in_nI (by omega) (by omega)) (by rw [nI_clamp (by omega)]; exact (Y).2 _ (by omega) (by omega)) ?_
  have o_17 := (Y).at (s.1 k) (by omega) (by omega)
  refine aw_istore_n (L' := [some (.ref m), some (.int (nI k)), some (.int (nI (oa HB k))), some (.int (nI (oa KB (s.1 k)))), none, none]) d_M_goTogether_18 (by decide) rfl rfl ?_
  refine aw_aload_n d_M_goTogether_19 rfl ?_
  refine aw_aload_n d_M_goTogether_20 rfl ?_
  refine aw_get fl_M_14 d_M_goTogether_21 gm rfl ?_
  refine aw_iload_n d_M_goTogether_24 rfl ?_
  refine aw_callSi (mc2 := 0) (ms2 := 0) (r := nI (cl HB k)) (As := [.ref am, .int (nI (oa HB k))]) (rest := [.ref m]) (c_M_word hHB gi (by omega) (oa HB k) (by omega)) cs_M_47 d_M_goTogether_25 rfl rfl (Nat.le_of_ble_eq_true rfl) (by decide) (by decide) (by omega) (by omega) ?_
  have b_25 := cl_lt hHB k
  refine aw_aload_n d_M_goTogether_28 rfl ?_
  refine aw_get fl_M_17 d_M_goTogether_29 gm rfl ?_
  refine aw_iload_n d_M_goTogether_32 rfl ?_
  refine aw_callSi (mc2 := 0) (ms2 := 0) (r := nI (cl KB (s.1 k))) (As := [.ref ak, .int (nI (oa KB (s.1 k)))]) (rest := [.int (nI (cl HB k)), .ref m]) (c_M_word hKB gk (by omega) (oa KB (s.1 k)) (by omega)) cs_M_47 d_M_goTogether_33 rfl rfl (Nat.le_of_ble_eq_true rfl) (by decide) (by decide) (by omega) (by omega) ?_
  have b_33 := cl_lt hKB (s.1 k)
  refine aw_callV (mc2 := 0) (ms2 := 0) (As := [.int (nI (cl HB k)), .int (nI (cl KB (s.1 k)))]) (rest := []) (c_M_goes D0 gm gn gb gq X.n.2 Y.n.2 hg hR (cl HB k) (cl KB (s.1 k)) (by omega) (X.cv q1 q2) (by omega) (Y.cv l1 l2)) cv_M_179 d_M_goTogether_36 gm rfl rfl rfl (Nat.le_of_ble_eq_true rfl) (by decide) (by decide) (by omega) (by omega) (fun v_36 k_36c q_36 => ?_)
  obtain ⟨y1_36, fn_36, fb_36, fq_36, mn_36, y2_36, y3_36, y4_36, y5_36, y6_36, y7_36⟩ := q_36
  refine aw_st (st' := .int (bP ((pgo (s) (cl HB k) (cl KB (s.1 k))).2 = true)) :: []) (by rw [y1_36]; rfl) ?_
  have y_36_am : k_36c am = some (.inl (1, 65536, .inl (bsf HB))) := by rw [y7_36 _ (av_apart gi gm) (av_apT gi gn (by decide)) (av_apT gi gb (by decide)) (av_apT gi gq (by decide))]; exact gi
  have y_36_ak : k_36c ak = some (.inl (1, 65536, .inl (bsf KB))) := by rw [y7_36 _ (av_apart gk gm) (av_apT gk gn (by decide)) (av_apT gk gb (by decide)) (av_apT gk gq (by decide))]; exact gk
  have y_36_as_ : k_36c as_ = some (.inl (0, 8192, .inl fs)) := by rw [y7_36 _ (av_apart gs gm) (D0.2.1.2.2.1) (D0.2.1.2.2.2) (D0.2.1.2.1)]; exact gs
  have y_36_aks : k_36c aks = some (.inl (0, 8192, .inl fks)) := by rw [y7_36 _ (av_apart gt gm) (D0.2.2.1.2.1) (D0.2.2.1.2.2) (D0.2.2.1.1)]; exact gt
  have y8_36 : mn_36 ≤ 8191 := by rw [y6_36.1]; exact Nat.le_trans (pgo_gd hg (ob_le (X.cv q1 q2)) (ob_le (Y.cv l1 l2))).le X.n.2
  refine aw_if_eq (tgt := 84) d_M_goTogether_39 (by decide) (fun c_39 => ?_) (fun c_39 => ?_)
  · rw [bP_eq0] at c_39
    refine aw_iconst (v := nI 0) d_M_goTogether_84 (by decide) ?_
    refine aw_istore (L' := [some (.ref m), some (.int (nI k)), some (.int (nI (oa HB k))), some (.int (nI (oa KB (s.1 k)))), some (.int (nI 0)), none]) d_M_goTogether_85 (by decide) rfl rfl ?_
    refine aw_iconst (v := nI 0) d_M_goTogether_87 (by decide) ?_
    refine aw_istore (L' := [some (.ref m), some (.int (nI k)), some (.int (nI (oa HB k))), some (.int (nI (oa KB (s.1 k)))), some (.int (nI 0)), some (.int (nI 0))]) d_M_goTogether_88 (by decide) rfl rfl ?_
    exact lp_M_goTogether (by decide) (by decide) hHB hKB D0 X Y s hg k q1 q2 q3 (sz HB k + 1) 0 _ _ _ _ _ _ y2_36 y_36_am y_36_ak y_36_as_ y_36_aks y3_36 y4_36 y5_36 (fun q b1 b2 b3 b4 => ((y7_36 q b1 b2 b3 b4).trans (gf q b1 b2 b3 b4))) y8_36 ((bP_f (fun q => by have q := gfd_0t.mp q; first | exact absurd q.1 c_39 | exact absurd q.2.1 c_58 | exact absurd q.2.2 c_77)).symm) (fun _ => by rw [gfd_z]; exact y6_36) (by omega) (by omega)
  · rw [bP_eq0, Classical.not_not] at c_39
    refine aw_aload_n d_M_goTogether_42 rfl ?_
    refine aw_get fl_M_14 d_M_goTogether_43 y2_36 rfl ?_
    refine aw_iload_n d_M_goTogether_46 rfl ?_
    refine aw_iconst (v := nI 4) d_M_goTogether_47 (by decide) ?_
    refine aw_iadd (v := nI (oa HB k + 4)) d_M_goTogether_48 (nI_add _ _) ?_
    refine aw_bald (x := bs (HB (oa HB k + 4))) d_M_goTogether_49 y_36_am (vp_in_nI (by omega) (by omega)) (by rw [nI_clamp (by omega)]; rfl) ?_
    refine aw_aload_n d_M_goTogether_50 rfl ?_
    refine aw_get fl_M_17 d_M_goTogether_51 y2_36 rfl ?_
    refine aw_iload_n d_M_goTogether_54 rfl ?_
    refine aw_iconst (v := nI 4) d_M_goTogether_55 (by decide) ?_
    refine aw_iadd (v := nI (oa KB (s.1 k) + 4)) d_M_goTogether_56 (nI_add _ _) ?_
    refine aw_bald (x := bs (KB (oa KB (s.1 k) + 4))) d_M_goTogether_57 y_36_ak (vp_in_nI (by omega) (by omega)) (by rw [nI_clamp (by omega)]; rfl) ?_
    refine aw_icmp_ne (tgt := 84) d_M_goTogether_58 (by decide) (fun c_58 => ?_) (fun c_58 => ?_)
    · rw [bs_eq (hHB _) (hKB _)] at c_58
      refine aw_iconst (v := nI 0) d_M_goTogether_84 (by decide) ?_
      refine aw_istore (L' := [some (.ref m), some (.int (nI k)), some (.int (nI (oa HB k))), some (.int (nI (oa KB (s.1 k)))), some (.int (nI 0)), none]) d_M_goTogether_85 (by decide) rfl rfl ?_
      refine aw_iconst (v := nI 0) d_M_goTogether_87 (by decide) ?_
      refine aw_istore (L' := [some (.ref m), some (.int (nI k)), some (.int (nI (oa HB k))), some (.int (nI (oa KB (s.1 k)))), some (.int (nI 0)), some (.int (nI 0))]) d_M_goTogether_88 (by decide) rfl rfl ?_
      exact lp_M_goTogether (by decide) (by decide) hHB hKB D0 X Y s hg k q1 q2 q3 (sz HB k + 1) 0 _ _ _ _ _ _ y2_36 y_36_am y_36_ak y_36_as_ y_36_aks y3_36 y4_36 y5_36 (fun q b1 b2 b3 b4 => ((y7_36 q b1 b2 b3 b4).trans (gf q b1 b2 b3 b4))) y8_36 ((bP_f (fun q => by have q := gfd_0t.mp q; first | exact absurd q.1 c_39 | exact absurd q.2.1 c_58 | exact absurd q.2.2 c_77)).symm) (fun _ => by rw [gfd_z]; exact y6_36) (by omega) (by omega)
    · rw [bs_eq (hHB _) (hKB _)] at c_58
      refine aw_aload_n d_M_goTogether_61 rfl ?_
      refine aw_get fl_M_14 d_M_goTogether_62 y2_36 rfl ?_
      refine aw_iload_n d_M_goTogether_65 rfl ?_
      refine aw_callSi (mc2 := 0) (ms2 := 0) (r := nI (sz HB k)) (As := [.ref am, .int (nI (oa HB k))]) (rest := []) (c_M_sizeAt hHB y_36_am (by omega) (oa HB k) (by omega)) cs_M_54 d_M_goTogether_66 rfl rfl (Nat.le_of_ble_eq_true rfl) (by decide) (by decide) (by omega) (by omega) ?_
      have b_66 := sz_lt hHB k
      refine aw_aload_n d_M_goTogether_69 rfl ?_
      refine aw_get fl_M_17 d_M_goTogether_70 y2_36 rfl ?_
      refine aw_iload_n d_M_goTogether_73 rfl ?_
      refine aw_callSi (mc2 := 0) (ms2 := 0) (r := nI (sz KB (s.1 k))) (As := [.ref ak, .int (nI (oa KB (s.1 k)))]) (rest := [.int (nI (sz HB k))]) (c_M_sizeAt hKB y_36_ak (by omega) (oa KB (s.1 k)) (by omega)) cs_M_54 d_M_goTogether_74 rfl rfl (Nat.le_of_ble_eq_true rfl) (by decide) (by decide) (by omega) (by omega) ?_
      have b_74 := sz_lt hKB (s.1 k)
      refine aw_icmp_ne (tgt := 84) d_M_goTogether_77 (by decide) (fun c_77 => ?_) (fun c_77 => ?_)
      · rw [w_eq (by omega) (by omega)] at c_77
        refine aw_iconst (v := nI 0) d_M_goTogether_84 (by decide) ?_
        refine aw_istore (L' := [some (.ref m), some (.int (nI k)), some (.int (nI (oa HB k))), some (.int (nI (oa KB (s.1 k)))), some (.int (nI 0)), none]) d_M_goTogether_85 (by decide) rfl rfl ?_
        refine aw_iconst (v := nI 0) d_M_goTogether_87 (by decide) ?_
        refine aw_istore (L' := [some (.ref m), some (.int (nI k)), some (.int (nI (oa HB k))), some (.int (nI (oa KB (s.1 k)))), some (.int (nI 0)), some (.int (nI 0))]) d_M_goTogether_88 (by decide) rfl rfl ?_
        exact lp_M_goTogether (by decide) (by decide) hHB hKB D0 X Y s hg k q1 q2 q3 (sz HB k + 1) 0 _ _ _ _ _ _ y2_36 y_36_am y_36_ak y_36_as_ y_36_aks y3_36 y4_36 y5_36 (fun q b1 b2 b3 b4 => ((y7_36 q b1 b2 b3 b4).trans (gf q b1 b2 b3 b4))) y8_36 ((bP_f (fun q => by have q := gfd_0t.mp q; first | exact absurd q.1 c_39 | exact absurd q.2.1 c_58 | exact absurd q.2.2 c_77)).symm) (fun _ => by rw [gfd_z]; exact y6_36) (by omega) (by omega)
      · rw [w_eq (by omega) (by omega)] at c_77
        refine aw_iconst (v := nI 1) d_M_goTogether_80 (by decide) ?_
        refine aw_goto (tgt := 85) d_M_goTogether_81 (by decide) ?_
        refine aw_istore (L' := [some (.ref m), some (.int (nI k)), some (.int (nI (oa HB k))), some (.int (nI (oa KB (s.1 k)))), some (.int (nI 1)), none]) d_M_goTogether_85 (by decide) rfl rfl ?_
        refine aw_iconst (v := nI 0) d_M_goTogether_87 (by decide) ?_
        refine aw_istore (L' := [some (.ref m), some (.int (nI k)), some (.int (nI (oa HB k))), some (.int (nI (oa KB (s.1 k)))), some (.int (nI 1)), some (.int (nI 0))]) d_M_goTogether_88 (by decide) rfl rfl ?_
        exact lp_M_goTogether (by decide) (by decide) hHB hKB D0 X Y s hg k q1 q2 q3 (sz HB k + 1) 0 _ _ _ _ _ _ y2_36 y_36_am y_36_ak y_36_as_ y_36_aks y3_36 y4_36 y5_36 (fun q b1 b2 b3 b4 => ((y7_36 q b1 b2 b3 b4).trans (gf q b1 b2 b3 b4))) y8_36 ((bP_t (gfd_0t.mpr ⟨c_39, c_58, c_77⟩)).symm) (fun _ => by rw [gfd_z]; exact y6_36) (by omega) (by omega)
