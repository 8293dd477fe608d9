set_option maxHeartbeats 4000000 in
theorem lp_M_sameQ {tb : Nat → Nat} {h : AH} {fr lo : Nat} {mc ms : Nat} (hfr : 3 ≤ fr) (hlo : 68 ≤ lo) {m ai am ak as_ aks ar an ab cn ln kl : Nat} {cd : Int32} {HB KB : Nat → Nat} {fs fks : Nat → Int32} (hHB : ∀ i, HB i < 256) (hKB : ∀ i, KB i < 256) (D0 : mND ai am ak as_ aks ar an ab) (X : VX HB ln fs) (Y : VX KB kl fks) : ∀ (d : Nat) (j : Nat) (r : Int32) (g : AH) (fn fb fq : Nat → Int32) (mn : Nat), g m = some (mO cd ai cn am ln ak kl as_ aks ar an ab mn) → g am = some (.inl (1, 65536, .inl (bsf HB))) → g ak = some (.inl (1, 65536, .inl (bsf KB))) → g as_ = some (.inl (0, 8192, .inl fs)) → g aks = some (.inl (0, 8192, .inl fks)) → g an = some (.inl (0, 8192, .inl fn)) → g ab = some (.inl (0, 8192, .inl fb)) → g ar = some (.inl (0, 8192, .inl fq)) → (∀ q, q ≠ m → q ≠ an → q ≠ ab → q ≠ ar → g q = h q) → mn ≤ 8191 → r = bP ((gst HB KB j).2 = true) → ((gst HB KB j).2 = true → RP (gst HB KB j).1 fn fb fq mn) → j ≤ nn HB → nn HB < j + d → AW tb "ImageReaderModel" b_M_same 3 (some .boolean) false none fr lo (fun v h' => v = some (.int (bP (gfin HB KB = true))) ∧ ∃ fn' fb' fq' mn', h' m = some (mO cd ai cn am ln ak kl as_ aks ar an ab mn') ∧ h' an = some (.inl (0, 8192, .inl fn')) ∧ h' ab = some (.inl (0, 8192, .inl fb')) ∧ h' ar = some (.inl (0, 8192, .inl fq')) ∧ (∀ q, q ≠ m → q ≠ an → q ≠ ab → q ≠ ar → h' q = h q)) 139 [some (.ref m), some (.int r), some (.int (nI j))] [] g mc ms := by
  intro d
  induction d with
  | zero => intro j r g fn fb fq mn gm gi gk gs gt gn gb gq gf gmn hr_ hR hj hd; omega
  | succ d ih =>
    intro j r g fn fb fq mn gm gi gk gs gt gn gb gq gf gmn hr_ hR hj hd
    have hN := X.n
    refine aw_iload_n d_M_same_139 rfl ?_
    refine aw_aload_n d_M_same_140 rfl ?_
    refine aw_get fl_M_159 d_M_same_141 gm rfl ?_
    refine aw_icmp_ge (tgt := 168) d_M_same_144 (by decide) (fun c_144 => ?_) (fun c_144 => ?_)
    · rw [nI_leI (by omega) (by omega)] at c_144
      have hx : ¬ ((gst HB KB j).2 = true ∧ j < (gst HB KB j).1.2.2.2) := fun q => by have q2 := (hR q.1).1; omega
      refine aw_iload_n d_M_same_168 rfl ?_
      exact aw_iret d_M_same_169 rfl (by rw [hr_]; exact bP_nar _) ⟨by rw [hr_, gfin_at hx hj], fn, fb, fq, mn, gm, gn, gb, gq, gf⟩
    · rw [nI_leI (by omega) (by omega)] at c_144
      refine aw_iload_n d_M_same_147 rfl ?_
      refine aw_if_eq (tgt := 168) d_M_same_148 (by decide) (fun c_148 => ?_) (fun c_148 => ?_)
      · rw [hr_, bP_eq0] at c_148
        have hx : ¬ ((gst HB KB j).2 = true ∧ j < (gst HB KB j).1.2.2.2) := fun q => c_148 q.1
        refine aw_iload_n d_M_same_168 rfl ?_
        exact aw_iret d_M_same_169 rfl (by rw [hr_]; exact bP_nar _) ⟨by rw [hr_, gfin_at hx hj], fn, fb, fq, mn, gm, gn, gb, gq, gf⟩
      · rw [hr_, bP_eq0, Classical.not_not] at c_148
        have hmn := (hR c_148).1
        have hlt : j < (gst HB KB j).1.2.2.2 := by omega
        obtain ⟨u1, u2, u3⟩ := (gst_gd X.1 Y.1 j).2.2.2 j hlt
        have hle := (gst_gd X.1 Y.1 j).le
        refine aw_aload_n d_M_same_151 rfl ?_
        refine aw_aload_n d_M_same_152 rfl ?_
        refine aw_get fl_M_27 d_M_same_153 gm rfl ?_
        refine aw_iload_n d_M_same_156 rfl ?_
        refine aw_iald (x := nI ((gst HB KB j).1.2.2.1 j)) d_M_same_157 gq (vp_in_nI (by omega) (by omega)) (by rw [nI_clamp (by omega)]; exact (hR c_148).2.2.2 j hlt) ?_
        refine aw_callV (mc2 := mc) (ms2 := ms) (As := [.int (nI ((gst HB KB j).1.2.2.1 j))]) (rest := []) (c_M_goTogether hHB hKB D0 X Y gm gi gk gs gt gn gb gq gmn (gst HB KB j).1 (gst_gd X.1 Y.1 j) ((gst HB KB j).1.2.2.1 j) u1 u2 u3 (hR c_148)) cv_M_182 d_M_same_158 gm rfl rfl rfl (Nat.le_of_ble_eq_true rfl) (by omega) (by omega) (by omega) (by omega) (fun v_158 k_158c q_158 => ?_)
        obtain ⟨y1, fn_1, fb_1, fq_1, mn_1, y2, y3, y4, y5, y6, y8, y7⟩ := q_158
        refine aw_st (st' := .int (bP ((gbo HB KB (gst HB KB j).1 ((gst HB KB j).1.2.2.1 j) ((gst HB KB j).1.1 ((gst HB KB j).1.2.2.1 j))).2 = true)) :: []) (by rw [y1]; rfl) ?_
        have y_am : k_158c am = some (.inl (1, 65536, .inl (bsf HB))) := by rw [y7 _ (av_apart gi gm) (av_apT gi gn (by decide)) (av_apT gi gb (by decide)) (av_apT gi gq (by decide))]; exact gi
        have y_ak : k_158c ak = some (.inl (1, 65536, .inl (bsf KB))) := by rw [y7 _ (av_apart gk gm) (av_apT gk gn (by decide)) (av_apT gk gb (by decide)) (av_apT gk gq (by decide))]; exact gk
        have y_as_ : k_158c as_ = some (.inl (0, 8192, .inl fs)) := by rw [y7 _ (av_apart gs gm) (D0.2.1.2.2.1) (D0.2.1.2.2.2) (D0.2.1.2.1)]; exact gs
        have y_aks : k_158c aks = some (.inl (0, 8192, .inl fks)) := by rw [y7 _ (av_apart gt gm) (D0.2.2.1.2.1) (D0.2.2.1.2.2) (D0.2.2.1.1)]; exact gt
        refine aw_istore_n (L' := [some (.ref m), some (.int (bP ((gbo HB KB (gst HB KB j).1 ((gst HB KB j).1.2.2.1 j) ((gst HB KB j).1.1 ((gst HB KB j).1.2.2.1 j))).2 = true))), some (.int (nI j))]) d_M_same_161 (by decide) rfl rfl ?_
        refine aw_iinc (v := nI (j + 1)) (L' := [some (.ref m), some (.int (bP ((gbo HB KB (gst HB KB j).1 ((gst HB KB j).1.2.2.1 j) ((gst HB KB j).1.1 ((gst HB KB j).1.2.2.1 j))).2 = true))), some (.int (nI (j + 1)))]) d_M_same_162 rfl (nI_add j 1) (by decide) rfl rfl ?_
        refine aw_goto (tgt := 139) d_M_same_165 (by decide) ?_
        exact ih (j + 1) _ _ _ _ _ _ y2 y_am y_ak y_as_ y_aks y3 y4 y5 (fun q b1 b2 b3 b4 => ((y7 q b1 b2 b3 b4).trans (gf q b1 b2 b3 b4))) y8 (by rw [gst_t ⟨c_148, hlt⟩]) (fun z => by rw [gst_t ⟨c_148, hlt⟩] at z ⊢; exact y6 z) (by omega) (by omega)

set_option maxHeartbeats 4000000 in
theorem lp_M_sameS {tb : Nat → Nat} {h : AH} {fr lo : Nat} {mc ms : Nat} (hfr : 3 ≤ fr) (hlo : 68 ≤ lo) {m ai am ak as_ aks ar an ab cn ln kl : Nat} {cd : Int32} {HB KB : Nat → Nat} {fs fks : Nat → Int32} (hHB : ∀ i, HB i < 256) (hKB : ∀ i, KB i < 256) (D0 : mND ai am ak as_ aks ar an ab) (X : VX HB ln fs) (Y : VX KB kl fks) : ∀ (d : Nat) (k : Nat) (r : Int32) (g : AH) (fn fb fq : Nat → Int32) (mn : Nat), g m = some (mO cd ai cn am ln ak kl as_ aks ar an ab mn) → g am = some (.inl (1, 65536, .inl (bsf HB))) → g ak = some (.inl (1, 65536, .inl (bsf KB))) → g as_ = some (.inl (0, 8192, .inl fs)) → g aks = some (.inl (0, 8192, .inl fks)) → g an = some (.inl (0, 8192, .inl fn)) → g ab = some (.inl (0, 8192, .inl fb)) → g ar = some (.inl (0, 8192, .inl fq)) → (∀ q, q ≠ m → q ≠ an → q ≠ ab → q ≠ ar → g q = h q) → mn ≤ 8191 → r = bP ((gsp HB KB k).2 = true) → ((gsp HB KB k).2 = true → RP (gsp HB KB k).1 fn fb fq mn) → k ≤ 50 → 50 < k + d → AW tb "ImageReaderModel" b_M_same 3 (some .boolean) false none fr lo (fun v h' => v = some (.int (bP (gfin HB KB = true))) ∧ ∃ fn' fb' fq' mn', h' m = some (mO cd ai cn am ln ak kl as_ aks ar an ab mn') ∧ h' an = some (.inl (0, 8192, .inl fn')) ∧ h' ab = some (.inl (0, 8192, .inl fb')) ∧ h' ar = some (.inl (0, 8192, .inl fq')) ∧ (∀ q, q ≠ m → q ≠ an → q ≠ ab → q ≠ ar → h' q = h q)) 100 [some (.ref m), some (.int r), some (.int (nI k))] [] g mc ms := by
  intro d
  induction d with
  | zero => intro k r g fn fb fq mn gm gi gk gs gt gn gb gq gf gmn hr_ hR hk hd; omega
  | succ d ih =>
    intro k r g fn fb fq mn gm gi gk gs gt gn gb gq gf gmn hr_ hR hk hd
    have hN := X.n
    refine aw_iload_n d_M_same_100 rfl ?_
    refine aw_bipush (v := nI 50) d_M_same_101 (by decide) ?_
    refine aw_icmp_ge (tgt := 137) d_M_same_103 (by decide) (fun c_103 => ?_) (fun c_103 => ?_)
    · rw [nI_leI (by omega) (by omega)] at c_103
      have hG : gsp HB KB 50 = gsp HB KB k := by rw [show k = 50 by omega]
      refine aw_iconst (v := nI 0) d_M_same_137 (by decide) ?_
      refine aw_istore_n (L' := [some (.ref m), some (.int r), some (.int (nI 0))]) d_M_same_138 (by decide) rfl rfl ?_
      exact lp_M_sameQ (by omega) (by omega) hHB hKB D0 X Y (nn HB + 1) 0 r g fn fb fq mn gm gi gk gs gt gn gb gq gf gmn (by rw [show gst HB KB 0 = gsp HB KB k from hG]; exact hr_) (fun z => by rw [show gst HB KB 0 = gsp HB KB k from hG] at z ⊢; exact hR z) (by omega) (by omega)
    · rw [nI_leI (by omega) (by omega)] at c_103
      refine aw_iload_n d_M_same_106 rfl ?_
      refine aw_if_eq (tgt := 137) d_M_same_107 (by decide) (fun c_107 => ?_) (fun c_107 => ?_)
      · rw [hr_, bP_eq0] at c_107
        have hG : gsp HB KB 50 = gsp HB KB k := by rw [show (50 : Nat) = k + (50 - k) by omega]; exact gsp_stop c_107 _
        refine aw_iconst (v := nI 0) d_M_same_137 (by decide) ?_
        refine aw_istore_n (L' := [some (.ref m), some (.int r), some (.int (nI 0))]) d_M_same_138 (by decide) rfl rfl ?_
        exact lp_M_sameQ (by omega) (by omega) hHB hKB D0 X Y (nn HB + 1) 0 r g fn fb fq mn gm gi gk gs gt gn gb gq gf gmn (by rw [show gst HB KB 0 = gsp HB KB k from hG]; exact hr_) (fun z => by rw [show gst HB KB 0 = gsp HB KB k from hG] at z ⊢; exact hR z) (by omega) (by omega)
      · rw [hr_, bP_eq0, Classical.not_not] at c_107
        refine aw_aload_n d_M_same_110 rfl ?_
        refine aw_aload_n d_M_same_111 rfl ?_
        refine aw_get fl_M_14 d_M_same_112 gm rfl ?_
        refine aw_iload_n d_M_same_115 rfl ?_
        refine aw_callSi (mc2 := mc) (ms2 := ms) (r := nI (sp HB k)) (As := [.ref am, .int (nI k)]) (rest := [.ref m]) (c_M_special_aBI hHB gi (by omega) k (by omega)) cs_M_65 d_M_same_116 rfl rfl (Nat.le_of_ble_eq_true rfl) (by omega) (by omega) (by omega) (by omega) ?_
        have b_116 : sp HB k < 4294967296 := bw_lt hHB _
        refine aw_aload_n d_M_same_119 rfl ?_
        refine aw_get fl_M_17 d_M_same_120 gm rfl ?_
        refine aw_iload_n d_M_same_123 rfl ?_
        refine aw_callSi (mc2 := mc) (ms2 := ms) (r := nI (sp KB k)) (As := [.ref ak, .int (nI k)]) (rest := [.int (nI (sp HB k)), .ref m]) (c_M_special_aBI hKB gk (by omega) k (by omega)) cs_M_65 d_M_same_124 rfl rfl (Nat.le_of_ble_eq_true rfl) (by omega) (by omega) (by omega) (by omega) ?_
        have b_124 : sp KB k < 4294967296 := bw_lt hKB _
        refine aw_callV (mc2 := mc) (ms2 := ms) (As := [.int (nI (sp HB k)), .int (nI (sp KB k))]) (rest := []) (c_M_goes D0 gm gn gb gq X.n.2 Y.n.2 (gsp_gd X.1 Y.1 k hk) (hR c_107) (sp HB k) (sp KB k) (by omega) (X.sv (by omega)) (by omega) (Y.sv (by omega))) cv_M_179 d_M_same_127 gm rfl rfl rfl (Nat.le_of_ble_eq_true rfl) (by omega) (by omega) (by omega) (by omega) (fun v_127 k_127c q_127 => ?_)
        obtain ⟨y1_127, fn_127, fb_127, fq_127, mn_127, y2_127, y3_127, y4_127, y5_127, y6_127, y7_127⟩ := q_127
        refine aw_st (st' := .int (bP ((pgo ((gsp HB KB k).1) (sp HB k) (sp KB k)).2 = true)) :: []) (by rw [y1_127]; rfl) ?_
        have y_127_am : k_127c am = some (.inl (1, 65536, .inl (bsf HB))) := by rw [y7_127 _ (av_apart gi gm) (av_apT gi gn (by decide)) (av_apT gi gb (by decide)) (av_apT gi gq (by decide))]; exact gi
        have y_127_ak : k_127c ak = some (.inl (1, 65536, .inl (bsf KB))) := by rw [y7_127 _ (av_apart gk gm) (av_apT gk gn (by decide)) (av_apT gk gb (by decide)) (av_apT gk gq (by decide))]; exact gk
        have y_127_as_ : k_127c as_ = some (.inl (0, 8192, .inl fs)) := by rw [y7_127 _ (av_apart gs gm) (D0.2.1.2.2.1) (D0.2.1.2.2.2) (D0.2.1.2.1)]; exact gs
        have y_127_aks : k_127c aks = some (.inl (0, 8192, .inl fks)) := by rw [y7_127 _ (av_apart gt gm) (D0.2.2.1.2.1) (D0.2.2.1.2.2) (D0.2.2.1.1)]; exact gt
        have y8_127 : mn_127 ≤ 8191 := by rw [y6_127.1]; exact Nat.le_trans (pgo_gd (gsp_gd X.1 Y.1 k hk) (ob_le (X.sv (by omega))) (ob_le (Y.sv (by omega)))).le X.n.2
        refine aw_istore_n (L' := [some (.ref m), some (.int (bP ((pgo ((gsp HB KB k).1) (sp HB k) (sp KB k)).2 = true))), some (.int (nI k))]) d_M_same_130 (by decide) rfl rfl ?_
        refine aw_iinc (v := nI (k + 1)) (L' := [some (.ref m), some (.int (bP ((pgo ((gsp HB KB k).1) (sp HB k) (sp KB k)).2 = true))), some (.int (nI (k + 1)))]) d_M_same_131 rfl (nI_add k 1) (by decide) rfl rfl ?_
        refine aw_goto (tgt := 100) d_M_same_134 (by decide) ?_
        exact ih (k + 1) _ _ _ _ _ _ y2_127 y_127_am y_127_ak y_127_as_ y_127_aks y3_127 y4_127 y5_127 (fun q b1 b2 b3 b4 => ((y7_127 q b1 b2 b3 b4).trans (gf q b1 b2 b3 b4))) y8_127 (by rw [gsp_t c_107]) (fun _ => by rw [gsp_t c_107]; exact y6_127) (by omega) (by omega)

set_option maxHeartbeats 4000000 in
theorem lp_M_sameZ {tb : Nat → Nat} {fr lo : Nat} {mc ms : Nat} (hfr : 0 ≤ fr) (hlo : 0 ≤ lo) {m ai am ak as_ aks ar an ab cn ln kl mn : Nat} {cd : Int32} {g0 : AH} {f0 f1 : Nat → Int32} {Post : Option Value → AH → Prop} (hne : an ≠ ab) (hm : g0 m = some (mO cd ai cn am ln ak kl as_ aks ar an ab mn)) (hn_ : g0 an = some (.inl (0, 8192, .inl f0))) (hb_ : g0 ab = some (.inl (0, 8192, .inl f1))) (kx : ∀ f f2 : Nat → Int32, (∀ k, k < 8192 → f k = nI 0 ∧ f2 k = nI 0) → AW tb "ImageReaderModel" b_M_same 3 (some .boolean) false none fr lo Post 96 [some (.ref m), none, none] [] (av_up (av_up g0 an (.inl (0, 8192, .inl f))) ab (.inl (0, 8192, .inl f2))) mc ms) : ∀ (d : Nat) (k : Nat) (f f2 : Nat → Int32), k ≤ 8192 → (∀ j, j < k → f j = nI 0 ∧ f2 j = nI 0) → 8192 < k + d → AW tb "ImageReaderModel" b_M_same 3 (some .boolean) false none fr lo (Post) 69 [some (.ref m), some (.int (nI k)), none] [] (av_up (av_up g0 an (.inl (0, 8192, .inl f))) ab (.inl (0, 8192, .inl f2))) mc ms := by
  intro d
  induction d with
  | zero => intro k f f2 hk hz hd; omega
  | succ d ih =>
    intro k f f2 hk hz hd
    have hm1 : (av_up (av_up g0 an (.inl (0, 8192, .inl f))) ab (.inl (0, 8192, .inl f2))) m = some (mO cd ai cn am ln ak kl as_ aks ar an ab mn) := by rw [av_up_ne (av_apart' hm hb_), av_up_ne (av_apart' hm hn_)]; exact hm
    have hn1 : (av_up (av_up g0 an (.inl (0, 8192, .inl f))) ab (.inl (0, 8192, .inl f2))) an = some (.inl (0, 8192, .inl f)) := by rw [av_up_ne hne]; exact av_up_self _ _ _
    have hb1 : (av_up (av_up g0 an (.inl (0, 8192, .inl f))) ab (.inl (0, 8192, .inl f2))) ab = some (.inl (0, 8192, .inl f2)) := av_up_self _ _ _
    refine aw_iload_n d_M_same_69 rfl ?_
    refine aw_sipush (v := nI 8192) d_M_same_70 (by decide) ?_
    refine aw_icmp_ge (tgt := 96) d_M_same_73 (by decide) (fun c_73 => ?_) (fun c_73 => ?_)
    · rw [nI_leI (by omega) (by omega)] at c_73
      refine aw_loc (L' := [some (.ref m), none, none]) (by intro i v hv; match i, hv with | 0, hv => exact hv | 1, hv => cases hv | 2, hv => cases hv | i + 3, hv => cases hv) ?_
      exact kx f f2 (fun j h => hz j (by omega))
    · rw [nI_leI (by omega) (by omega)] at c_73
      refine aw_aload_n d_M_same_76 rfl ?_
      refine aw_get fl_M_30 d_M_same_77 hm1 rfl ?_
      refine aw_iload_n d_M_same_80 rfl ?_
      refine aw_iconst (v := nI 0) d_M_same_81 (by decide) ?_
      refine aw_iast (f' := upd f k (nI 0)) d_M_same_82 hn1 (vp_in_nI (by omega) (by omega)) (by rw [nI_clamp (by omega)]) ?_
      obtain ⟨k_1, e_k_1⟩ : ∃ z, z = av_up (av_up (av_up g0 an (.inl (0, 8192, .inl f))) ab (.inl (0, 8192, .inl f2))) an (.inl (0, 8192, .inl (upd f k (nI 0)))) := ⟨_, rfl⟩
      refine aw_heap (h' := k_1) e_k_1.symm ?_
      have g1_m : k_1 m = some (.inr (5, [.int cd, .ref ai, .int (nI cn), .ref am, .int (nI ln), .ref ak, .int (nI kl), .ref as_, .ref aks, .ref ar, .ref an, .ref ab, .int (nI mn)])) := by rw [e_k_1, av_up_ne (av_apart' hm hn_)]; exact hm1
      have g1_ab : k_1 ab = some (.inl (0, 8192, .inl f2)) := by rw [e_k_1, av_up_ne (Ne.symm hne)]; exact hb1
      have g1_an : k_1 an = some (.inl (0, 8192, .inl (upd f k (nI 0)))) := by rw [e_k_1]; exact av_up_self _ _ _
      refine aw_aload_n d_M_same_83 rfl ?_
      refine aw_get fl_M_33 d_M_same_84 g1_m rfl ?_
      refine aw_iload_n d_M_same_87 rfl ?_
      refine aw_iconst (v := nI 0) d_M_same_88 (by decide) ?_
      refine aw_iast (f' := upd f2 k (nI 0)) d_M_same_89 g1_ab (vp_in_nI (by omega) (by omega)) (by rw [nI_clamp (by omega)]) ?_
      obtain ⟨k_2, e_k_2⟩ : ∃ z, z = av_up k_1 ab (.inl (0, 8192, .inl (upd f2 k (nI 0)))) := ⟨_, rfl⟩
      refine aw_heap (h' := k_2) e_k_2.symm ?_
      have g2_m : k_2 m = some (.inr (5, [.int cd, .ref ai, .int (nI cn), .ref am, .int (nI ln), .ref ak, .int (nI kl), .ref as_, .ref aks, .ref ar, .ref an, .ref ab, .int (nI mn)])) := by rw [e_k_2, av_up_ne (av_apart' hm hb_)]; exact g1_m
      have g2_an : k_2 an = some (.inl (0, 8192, .inl (upd f k (nI 0)))) := by rw [e_k_2, av_up_ne hne]; exact g1_an
      have g2_ab : k_2 ab = some (.inl (0, 8192, .inl (upd f2 k (nI 0)))) := by rw [e_k_2]; exact av_up_self _ _ _
      refine aw_iinc (v := nI (k + 1)) (L' := [some (.ref m), some (.int (nI (k + 1))), none]) d_M_same_90 rfl (nI_add k 1) (by decide) rfl rfl ?_
      refine aw_goto (tgt := 69) d_M_same_93 (by decide) ?_
      refine aw_heap (h' := (av_up (av_up g0 an (.inl (0, 8192, .inl (upd f k (nI 0))))) ab (.inl (0, 8192, .inl (upd f2 k (nI 0)))))) (by rw [e_k_2, e_k_1, av_up4 hne]) ?_
      exact ih (k + 1) _ _ (by omega) (fun j h => by unfold upd; by_cases z : j = k; (rw [if_pos z, if_pos z]; exact ⟨rfl, rfl⟩); (rw [if_neg z, if_neg z]; exact hz j (by omega))) (by omega)

def sameS (ln kl : Nat) (HB KB : Nat → Nat) : Prop := 0 < ln ∧ 0 < kl ∧ HB 4 = KB 4 ∧ HB 5 = KB 5 ∧ gfin HB KB = true

set_option maxHeartbeats 4000000 in
theorem c_M_same {tb : Nat → Nat} {h : AH} {m ai am ak as_ aks ar an ab cn ln kl mn : Nat} {cd : Int32} {B HB KB : Nat → Nat} {fs fks fq fn fb : Nat → Int32} (M0 : mS h m ai am ak as_ aks ar an ab cd cn ln kl mn B HB KB fs fks fq fn fb) (K0 : mOK cn ln kl B HB KB fs) (D0 : mND ai am ak as_ aks ar an ab)  : AM tb y_M_same b_M_same 3 (some .boolean) 4 86 [.ref m] h 0 0 (fun v h' => v = some (.int (bP (sameS ln kl HB KB))) ∧ ∃ fks' fn' fb' fq' mn', mS h' m ai am ak as_ aks ar an ab (nI 0) cn ln kl mn' B HB KB fs fks' fq' fn' fb' ∧ mFr m ai am ak as_ aks ar an ab h h') := by
  have k_ln := K0.2.2.2.2.1
  have k_nn : nn HB < 65536 := bh_lt K0.2.1 6
  have k_kl := K0.2.2.2.2.2.1
  refine am_of (ini := false) [some (.ref m), none, none] (by decide) (fun z => by cases z) (Nat.le_of_ble_eq_true rfl) rfl ?_
  refine aw_aload_n d_M_same_0 rfl ?_
  refine aw_iconst (v := nI 0) d_M_same_1 (by decide) ?_
  refine aw_put (fs' := [.int (nI 0), .ref ai, .int (nI cn), .ref am, .int (nI ln), .ref ak, .int (nI kl), .ref as_, .ref aks, .ref ar, .ref an, .ref ab, .int (nI mn)]) (pt_M_36 _) d_M_same_2 M0.1 rfl rfl (by simp) rfl ?_
  obtain ⟨k_1, e_k_1⟩ : ∃ z, z = av_up h m (.inr (5, [.int (nI 0), .ref ai, .int (nI cn), .ref am, .int (nI ln), .ref ak, .int (nI kl), .ref as_, .ref aks, .ref ar, .ref an, .ref ab, .int (nI mn)])) := ⟨_, rfl⟩
  refine aw_heap (h' := k_1) e_k_1.symm ?_
  have g1_ai : k_1 ai = some (.inl (1, 65536, .inl (bsf B))) := by rw [e_k_1, av_up_ne (av_apart M0.2.1 M0.1)]; exact M0.2.1
  have g1_am : k_1 am = some (.inl (1, 65536, .inl (bsf HB))) := by rw [e_k_1, av_up_ne (av_apart M0.2.2.1 M0.1)]; exact M0.2.2.1
  have g1_ak : k_1 ak = some (.inl (1, 65536, .inl (bsf KB))) := by rw [e_k_1, av_up_ne (av_apart M0.2.2.2.1 M0.1)]; exact M0.2.2.2.1
  have g1_as_ : k_1 as_ = some (.inl (0, 8192, .inl fs)) := by rw [e_k_1, av_up_ne (av_apart M0.2.2.2.2.1 M0.1)]; exact M0.2.2.2.2.1
  have g1_aks : k_1 aks = some (.inl (0, 8192, .inl fks)) := by rw [e_k_1, av_up_ne (av_apart M0.2.2.2.2.2.1 M0.1)]; exact M0.2.2.2.2.2.1
  have g1_ar : k_1 ar = some (.inl (0, 8192, .inl fq)) := by rw [e_k_1, av_up_ne (av_apart M0.2.2.2.2.2.2.1 M0.1)]; exact M0.2.2.2.2.2.2.1
  have g1_an : k_1 an = some (.inl (0, 8192, .inl fn)) := by rw [e_k_1, av_up_ne (av_apart M0.2.2.2.2.2.2.2.1 M0.1)]; exact M0.2.2.2.2.2.2.2.1
  have g1_ab : k_1 ab = some (.inl (0, 8192, .inl fb)) := by rw [e_k_1, av_up_ne (av_apart M0.2.2.2.2.2.2.2.2 M0.1)]; exact M0.2.2.2.2.2.2.2.2
  have g1_m : k_1 m = some (.inr (5, [.int (nI 0), .ref ai, .int (nI cn), .ref am, .int (nI ln), .ref ak, .int (nI kl), .ref as_, .ref aks, .ref ar, .ref an, .ref ab, .int (nI mn)])) := by rw [e_k_1]; exact av_up_self _ _ _
  refine aw_aload_n d_M_same_5 rfl ?_
  refine aw_get fl_M_149 d_M_same_6 g1_m rfl ?_
  refine aw_if_eq (tgt := 49) d_M_same_9 (by decide) (fun c_9 => ?_) (fun c_9 => ?_)
  · rw [w_eq0 (by omega)] at c_9
    refine aw_iconst (v := nI 0) d_M_same_49 (by decide) ?_
    exact aw_iret d_M_same_50 rfl nar0 ⟨by rw [bP_f (fun z => by first | exact absurd c_9 (by have := z.1; omega) | exact absurd c_16 (by have := z.2.1; omega) | exact c_31 z.2.2.1 | exact c_46 z.2.2.2.1)], _, _, _, _, _, ⟨g1_m, g1_ai, g1_am, g1_ak, g1_as_, g1_aks, g1_ar, g1_an, g1_ab⟩, fun q a_m a_ai a_am a_ak a_as_ a_aks a_ar a_an a_ab => by rw [e_k_1, av_up_ne a_m]⟩
  · rw [w_eq0 (by omega)] at c_9
    refine aw_aload_n d_M_same_12 rfl ?_
    refine aw_get fl_M_176 d_M_same_13 g1_m rfl ?_
    refine aw_if_eq (tgt := 49) d_M_same_16 (by decide) (fun c_16 => ?_) (fun c_16 => ?_)
    · rw [w_eq0 (by omega)] at c_16
      refine aw_iconst (v := nI 0) d_M_same_49 (by decide) ?_
      exact aw_iret d_M_same_50 rfl nar0 ⟨by rw [bP_f (fun z => by first | exact absurd c_9 (by have := z.1; omega) | exact absurd c_16 (by have := z.2.1; omega) | exact c_31 z.2.2.1 | exact c_46 z.2.2.2.1)], _, _, _, _, _, ⟨g1_m, g1_ai, g1_am, g1_ak, g1_as_, g1_aks, g1_ar, g1_an, g1_ab⟩, fun q a_m a_ai a_am a_ak a_as_ a_aks a_ar a_an a_ab => by rw [e_k_1, av_up_ne a_m]⟩
    · rw [w_eq0 (by omega)] at c_16
      refine aw_aload_n d_M_same_19 rfl ?_
      refine aw_get fl_M_14 d_M_same_20 g1_m rfl ?_
      refine aw_iconst (v := nI 4) d_M_same_23 (by decide) ?_
      refine aw_bald (x := bs (HB 4)) d_M_same_24 g1_am (vp_in_nI (by omega) (by omega)) (by rw [nI_clamp (by omega)]; rfl) ?_
      refine aw_aload_n d_M_same_25 rfl ?_
      refine aw_get fl_M_17 d_M_same_26 g1_m rfl ?_
      refine aw_iconst (v := nI 4) d_M_same_29 (by decide) ?_
      refine aw_bald (x := bs (KB 4)) d_M_same_30 g1_ak (vp_in_nI (by omega) (by omega)) (by rw [nI_clamp (by omega)]; rfl) ?_
      refine aw_icmp_ne (tgt := 49) d_M_same_31 (by decide) (fun c_31 => ?_) (fun c_31 => ?_)
      · rw [bs_eq (K0.2.1 _) (K0.2.2.1 _)] at c_31
        refine aw_iconst (v := nI 0) d_M_same_49 (by decide) ?_
        exact aw_iret d_M_same_50 rfl nar0 ⟨by rw [bP_f (fun z => by first | exact absurd c_9 (by have := z.1; omega) | exact absurd c_16 (by have := z.2.1; omega) | exact c_31 z.2.2.1 | exact c_46 z.2.2.2.1)], _, _, _, _, _, ⟨g1_m, g1_ai, g1_am, g1_ak, g1_as_, g1_aks, g1_ar, g1_an, g1_ab⟩, fun q a_m a_ai a_am a_ak a_as_ a_aks a_ar a_an a_ab => by rw [e_k_1, av_up_ne a_m]⟩
      · rw [bs_eq (K0.2.1 _) (K0.2.2.1 _)] at c_31
        refine aw_aload_n d_M_same_34 rfl ?_
        refine aw_get fl_M_14 d_M_same_35 g1_m rfl ?_
        refine aw_iconst (v := nI 5) d_M_same_38 (by decide) ?_
        refine aw_bald (x := bs (HB 5)) d_M_same_39 g1_am (vp_in_nI (by omega) (by omega)) (by rw [nI_clamp (by omega)]; rfl) ?_
        refine aw_aload_n d_M_same_40 rfl ?_
        refine aw_get fl_M_17 d_M_same_41 g1_m rfl ?_
        refine aw_iconst (v := nI 5) d_M_same_44 (by decide) ?_
        refine aw_bald (x := bs (KB 5)) d_M_same_45 g1_ak (vp_in_nI (by omega) (by omega)) (by rw [nI_clamp (by omega)]; rfl) ?_
        refine aw_icmp_eq (tgt := 51) d_M_same_46 (by decide) (fun c_46 => ?_) (fun c_46 => ?_)
        · rw [bs_eq (K0.2.1 _) (K0.2.2.1 _)] at c_46
          have X := (K0.2.2.2.2.2.2.1 (by omega)).2
          have LK := K0.2.2.2.2.2.2.2 (by omega)
          refine aw_aload_n d_M_same_51 rfl ?_
          refine aw_get fl_M_17 d_M_same_52 g1_m rfl ?_
          refine aw_aload_n d_M_same_55 rfl ?_
          refine aw_get fl_M_24 d_M_same_56 g1_m rfl ?_
          refine aw_callS (mc2 := 0) (ms2 := 0) (As := [.ref ak, .ref aks]) (rest := []) (c_M_note K0.2.2.1 g1_ak g1_aks LK) cs_M_152 d_M_same_59 rfl rfl (Nat.le_of_ble_eq_true rfl) (by decide) (by decide) (by omega) (by omega) (fun v_59 k_59c q_59 => ?_)
          obtain ⟨n1_59, f_59, n2_59, n3_59⟩ := q_59
          refine aw_st (st' := []) (by rw [n1_59]; rfl) ?_
          have gn59_ai : k_59c ai = some (.inl (1, 65536, .inl (bsf B))) := by rw [n2_59, av_up_ne (av_apT g1_ai g1_aks (by decide))]; exact g1_ai
          have gn59_am : k_59c am = some (.inl (1, 65536, .inl (bsf HB))) := by rw [n2_59, av_up_ne (av_apT g1_am g1_aks (by decide))]; exact g1_am
          have gn59_ak : k_59c ak = some (.inl (1, 65536, .inl (bsf KB))) := by rw [n2_59, av_up_ne (av_apT g1_ak g1_aks (by decide))]; exact g1_ak
          have gn59_as_ : k_59c as_ = some (.inl (0, 8192, .inl fs)) := by rw [n2_59, av_up_ne D0.2.1.1]; exact g1_as_
          have gn59_ar : k_59c ar = some (.inl (0, 8192, .inl fq)) := by rw [n2_59, av_up_ne (Ne.symm D0.2.2.1.1)]; exact g1_ar
          have gn59_an : k_59c an = some (.inl (0, 8192, .inl fn)) := by rw [n2_59, av_up_ne (Ne.symm D0.2.2.1.2.1)]; exact g1_an
          have gn59_ab : k_59c ab = some (.inl (0, 8192, .inl fb)) := by rw [n2_59, av_up_ne (Ne.symm D0.2.2.1.2.2)]; exact g1_ab
          have gn59_m : k_59c m = some (.inr (5, [.int (nI 0), .ref ai, .int (nI cn), .ref am, .int (nI ln), .ref ak, .int (nI kl), .ref as_, .ref aks, .ref ar, .ref an, .ref ab, .int (nI mn)])) := by rw [n2_59, av_up_ne (av_apart' g1_m g1_aks)]; exact g1_m
          have gn59_aks : k_59c aks = some (.inl (0, 8192, .inl f_59)) := by rw [n2_59]; exact av_up_self _ _ _
          have Y : VX KB kl f_59 := ⟨LK, n3_59⟩
          refine aw_aload_n d_M_same_62 rfl ?_
          refine aw_iconst (v := nI 0) d_M_same_63 (by decide) ?_
          refine aw_put (fs' := [.int (nI 0), .ref ai, .int (nI cn), .ref am, .int (nI ln), .ref ak, .int (nI kl), .ref as_, .ref aks, .ref ar, .ref an, .ref ab, .int (nI 0)]) (pt_M_159 _) d_M_same_64 gn59_m rfl rfl (by simp) rfl ?_
          obtain ⟨k_2, e_k_2⟩ : ∃ z, z = av_up k_59c m (.inr (5, [.int (nI 0), .ref ai, .int (nI cn), .ref am, .int (nI ln), .ref ak, .int (nI kl), .ref as_, .ref aks, .ref ar, .ref an, .ref ab, .int (nI 0)])) := ⟨_, rfl⟩
          refine aw_heap (h' := k_2) e_k_2.symm ?_
          have g2_ai : k_2 ai = some (.inl (1, 65536, .inl (bsf B))) := by rw [e_k_2, av_up_ne (av_apart gn59_ai gn59_m)]; exact gn59_ai
          have g2_am : k_2 am = some (.inl (1, 65536, .inl (bsf HB))) := by rw [e_k_2, av_up_ne (av_apart gn59_am gn59_m)]; exact gn59_am
          have g2_ak : k_2 ak = some (.inl (1, 65536, .inl (bsf KB))) := by rw [e_k_2, av_up_ne (av_apart gn59_ak gn59_m)]; exact gn59_ak
          have g2_as_ : k_2 as_ = some (.inl (0, 8192, .inl fs)) := by rw [e_k_2, av_up_ne (av_apart gn59_as_ gn59_m)]; exact gn59_as_
          have g2_ar : k_2 ar = some (.inl (0, 8192, .inl fq)) := by rw [e_k_2, av_up_ne (av_apart gn59_ar gn59_m)]; exact gn59_ar
          have g2_an : k_2 an = some (.inl (0, 8192, .inl fn)) := by rw [e_k_2, av_up_ne (av_apart gn59_an gn59_m)]; exact gn59_an
          have g2_ab : k_2 ab = some (.inl (0, 8192, .inl fb)) := by rw [e_k_2, av_up_ne (av_apart gn59_ab gn59_m)]; exact gn59_ab
          have g2_aks : k_2 aks = some (.inl (0, 8192, .inl f_59)) := by rw [e_k_2, av_up_ne (av_apart gn59_aks gn59_m)]; exact gn59_aks
          have g2_m : k_2 m = some (.inr (5, [.int (nI 0), .ref ai, .int (nI cn), .ref am, .int (nI ln), .ref ak, .int (nI kl), .ref as_, .ref aks, .ref ar, .ref an, .ref ab, .int (nI 0)])) := by rw [e_k_2]; exact av_up_self _ _ _
          refine aw_iconst (v := nI 0) d_M_same_67 (by decide) ?_
          refine aw_istore_n (L' := [some (.ref m), some (.int (nI 0)), none]) d_M_same_68 (by decide) rfl rfl ?_
          refine lp_M_sameZ (by decide) (by decide) D0.2.2.2.2 g2_m g2_an g2_ab (fun f1 f2 hz => ?_) 8193 0 fn fb (by omega) (fun j h => by omega) (by omega) |> (fun z => aw_heap (by rw [av_up_id g2_an, av_up_id g2_ab]) z)
          obtain ⟨k_L, e_L⟩ : ∃ z, z = av_up k_2 an (.inl (0, 8192, .inl f1)) := ⟨_, rfl⟩
          rw [← e_L]
          have gL_ai : k_L ai = some (.inl (1, 65536, .inl (bsf B))) := by rw [e_L, av_up_ne (av_apT g2_ai g2_an (by decide))]; exact g2_ai
          have gL_am : k_L am = some (.inl (1, 65536, .inl (bsf HB))) := by rw [e_L, av_up_ne (av_apT g2_am g2_an (by decide))]; exact g2_am
          have gL_ak : k_L ak = some (.inl (1, 65536, .inl (bsf KB))) := by rw [e_L, av_up_ne (av_apT g2_ak g2_an (by decide))]; exact g2_ak
          have gL_as_ : k_L as_ = some (.inl (0, 8192, .inl fs)) := by rw [e_L, av_up_ne D0.2.1.2.2.1]; exact g2_as_
          have gL_ar : k_L ar = some (.inl (0, 8192, .inl fq)) := by rw [e_L, av_up_ne D0.2.2.2.1.1]; exact g2_ar
          have gL_ab : k_L ab = some (.inl (0, 8192, .inl fb)) := by rw [e_L, av_up_ne (Ne.symm D0.2.2.2.2)]; exact g2_ab
          have gL_aks : k_L aks = some (.inl (0, 8192, .inl f_59)) := by rw [e_L, av_up_ne D0.2.2.1.2.1]; exact g2_aks
          have gL_m : k_L m = some (.inr (5, [.int (nI 0), .ref ai, .int (nI cn), .ref am, .int (nI ln), .ref ak, .int (nI kl), .ref as_, .ref aks, .ref ar, .ref an, .ref ab, .int (nI 0)])) := by rw [e_L, av_up_ne (av_apart' g2_m g2_an)]; exact g2_m
          have gL_an : k_L an = some (.inl (0, 8192, .inl f1)) := by rw [e_L]; exact av_up_self _ _ _
          obtain ⟨k_R, e_R⟩ : ∃ z, z = av_up k_L ab (.inl (0, 8192, .inl f2)) := ⟨_, rfl⟩
          refine aw_heap (h' := k_R) e_R.symm ?_
          have gR_ai : k_R ai = some (.inl (1, 65536, .inl (bsf B))) := by rw [e_R, av_up_ne (av_apT gL_ai gL_ab (by decide))]; exact gL_ai
          have gR_am : k_R am = some (.inl (1, 65536, .inl (bsf HB))) := by rw [e_R, av_up_ne (av_apT gL_am gL_ab (by decide))]; exact gL_am
          have gR_ak : k_R ak = some (.inl (1, 65536, .inl (bsf KB))) := by rw [e_R, av_up_ne (av_apT gL_ak gL_ab (by decide))]; exact gL_ak
          have gR_as_ : k_R as_ = some (.inl (0, 8192, .inl fs)) := by rw [e_R, av_up_ne D0.2.1.2.2.2]; exact gL_as_
          have gR_ar : k_R ar = some (.inl (0, 8192, .inl fq)) := by rw [e_R, av_up_ne D0.2.2.2.1.2]; exact gL_ar
          have gR_aks : k_R aks = some (.inl (0, 8192, .inl f_59)) := by rw [e_R, av_up_ne D0.2.2.1.2.2]; exact gL_aks
          have gR_m : k_R m = some (.inr (5, [.int (nI 0), .ref ai, .int (nI cn), .ref am, .int (nI ln), .ref ak, .int (nI kl), .ref as_, .ref aks, .ref ar, .ref an, .ref ab, .int (nI 0)])) := by rw [e_R, av_up_ne (av_apart' gL_m gL_ab)]; exact gL_m
          have gR_an : k_R an = some (.inl (0, 8192, .inl f1)) := by rw [e_R, av_up_ne D0.2.2.2.2]; exact gL_an
          have gR_ab : k_R ab = some (.inl (0, 8192, .inl f2)) := by rw [e_R]; exact av_up_self _ _ _
          refine aw_iconst (v := nI 1) d_M_same_96 (by decide) ?_
          refine aw_istore_n (L' := [some (.ref m), some (.int (nI 1)), none]) d_M_same_97 (by decide) rfl rfl ?_
          refine aw_iconst (v := nI 0) d_M_same_98 (by decide) ?_
          refine aw_istore_n (L' := [some (.ref m), some (.int (nI 1)), some (.int (nI 0))]) d_M_same_99 (by decide) rfl rfl ?_
          refine aw_post (fun v g q => ?_) (lp_M_sameS (by decide) (by decide) K0.2.1 K0.2.2.1 D0 X Y 51 0 _ k_R _ _ _ 0 gR_m gR_am gR_ak gR_as_ gR_aks gR_an gR_ab gR_ar (fun _ _ _ _ _ => rfl) (by decide) (bP_t rfl).symm (fun _ => ⟨rfl, fun k h => (hz k h).1, fun k h => (hz k h).2, fun j h => absurd h (Nat.not_lt_zero j)⟩) (by omega) (by omega))
          obtain ⟨t1, fn_9, fb_9, fq_9, mn_9, t2, t3, t4, t5, t7⟩ := q
          have t_ai : g ai = some (.inl (1, 65536, .inl (bsf B))) := by rw [t7 _ (av_apart gR_ai gR_m) (av_apT gR_ai gR_an (by decide)) (av_apT gR_ai gR_ab (by decide)) (av_apT gR_ai gR_ar (by decide))]; exact gR_ai
          have t_am : g am = some (.inl (1, 65536, .inl (bsf HB))) := by rw [t7 _ (av_apart gR_am gR_m) (av_apT gR_am gR_an (by decide)) (av_apT gR_am gR_ab (by decide)) (av_apT gR_am gR_ar (by decide))]; exact gR_am
          have t_ak : g ak = some (.inl (1, 65536, .inl (bsf KB))) := by rw [t7 _ (av_apart gR_ak gR_m) (av_apT gR_ak gR_an (by decide)) (av_apT gR_ak gR_ab (by decide)) (av_apT gR_ak gR_ar (by decide))]; exact gR_ak
          have t_as_ : g as_ = some (.inl (0, 8192, .inl fs)) := by rw [t7 _ (av_apart gR_as_ gR_m) (D0.2.1.2.2.1) (D0.2.1.2.2.2) (D0.2.1.2.1)]; exact gR_as_
          have t_aks : g aks = some (.inl (0, 8192, .inl f_59)) := by rw [t7 _ (av_apart gR_aks gR_m) (D0.2.2.1.2.1) (D0.2.2.1.2.2) (D0.2.2.1.1)]; exact gR_aks
          exact ⟨by rw [t1, bP_congr (show gfin HB KB = true ↔ sameS ln kl HB KB from ⟨fun z => ⟨by omega, by omega, c_31, c_46, z⟩, fun z => z.2.2.2.2⟩)], _, _, _, _, _, ⟨t2, t_ai, t_am, t_ak, t_as_, t_aks, t5, t3, t4⟩, fun q a_m a_ai a_am a_ak a_as_ a_aks a_ar a_an a_ab => by rw [t7 q a_m a_an a_ab a_ar, e_R, av_up_ne a_ab, e_L, av_up_ne a_an, e_k_2, av_up_ne a_m, n2_59, av_up_ne a_aks, e_k_1, av_up_ne a_m]⟩
        · rw [bs_eq (K0.2.1 _) (K0.2.2.1 _)] at c_46
          refine aw_iconst (v := nI 0) d_M_same_49 (by decide) ?_
          exact aw_iret d_M_same_50 rfl nar0 ⟨by rw [bP_f (fun z => by first | exact absurd c_9 (by have := z.1; omega) | exact absurd c_16 (by have := z.2.1; omega) | exact c_31 z.2.2.1 | exact c_46 z.2.2.2.1)], _, _, _, _, _, ⟨g1_m, g1_ai, g1_am, g1_ak, g1_as_, g1_aks, g1_ar, g1_an, g1_ab⟩, fun q a_m a_ai a_am a_ak a_as_ a_aks a_ar a_an a_ab => by rw [e_k_1, av_up_ne a_m]⟩

theorem av_up_none {h : AH} {a x : Nat} {e : AE} (q : av_up h a e x = none) : x ≠ a ∧ h x = none := by
  by_cases z : x = a
  · rw [z, av_up_self] at q; cases q
  · rw [av_up_ne z] at q; exact ⟨z, q⟩
theorem bsf_0 : bsf (fun _ => 0) = fun _ => (0 : Int32) := by
  funext i
  show bs 0 = 0
  decide

set_option maxHeartbeats 4000000 in
theorem c_M_init {tb : Nat → Nat} {h : AH} {m : Nat} (hm : h m = some (.inr (5, [.int 0, .null, .int 0, .null, .int 0, .null, .int 0, .null, .null, .null, .null, .null, .int 0]))) : AM tb y_M_init b_M_init 1 none 1 20 [.ref m] h 8 237568 (fun v h' => v = none ∧ ∃ ai am ak as_ aks ar an ab, mS h' m ai am ak as_ aks ar an ab 0 0 0 0 0 (fun _ => 0) (fun _ => 0) (fun _ => 0) (fun _ => 0) (fun _ => 0) (fun _ => 0) (fun _ => 0) (fun _ => 0) ∧ mND ai am ak as_ aks ar an ab ∧ (h ai = none ∧ h am = none ∧ h ak = none ∧ h as_ = none ∧ h aks = none ∧ h ar = none ∧ h an = none ∧ h ab = none) ∧ ∀ q, q ≠ m → h q ≠ none → h' q = h q) := by
  have e0 := bsf_0
  refine am_of (ini := true) [some (.ref m)] (by decide) (fun _ => rfl) (Nat.le_of_ble_eq_true rfl) rfl ?_
  refine aw_aload_n d_M_init_0 rfl ?_
  refine aw_objInit d_M_init_1 tw_623 tw_23 tw_24 (by omega) (by omega) (Nat.le_of_ble_eq_true rfl) ?_
  refine aw_aload_n d_M_init_4 rfl ?_
  refine aw_ldc (v := nI 65536) d_M_init_5 tw_624 ?_
  refine aw_newa (t := 1) (N := 65536) (z := (65536, .inl (fun _ => 0))) (mc2 := 7) (ms2 := 172032) d_M_init_7 tw_41 (fun _ => rfl) (fun _ _ z => z) (fun _ => rfl) (nI_pos (by omega)) (nI_clamp (by omega)) (by simp only [newarray.typeOf, componentBytes]; omega) (by omega) (by omega) (fun ai f_ai => ?_)
  obtain ⟨k_1, e_k_1⟩ : ∃ z, z = av_up h ai (.inl (1, 65536, .inl (fun _ => 0))) := ⟨_, rfl⟩
  refine aw_heap (h' := k_1) e_k_1.symm ?_
  have ne_m_ai : m ≠ ai := (fun z => by have z1 := hm; rw [z, f_ai] at z1; cases z1)
  have g1_m : k_1 m = some (.inr (5, [.int 0, .null, .int 0, .null, .int 0, .null, .int 0, .null, .null, .null, .null, .null, .int 0])) := by rw [e_k_1, av_up_ne ne_m_ai]; exact hm
  have g1_ai : k_1 ai = some (.inl (1, 65536, .inl (fun _ => 0))) := by rw [e_k_1]; exact av_up_self _ _ _
  refine aw_put (fs' := [.int 0, .ref ai, .int 0, .null, .int 0, .null, .int 0, .null, .null, .null, .null, .null, .int 0]) pt_M_8 d_M_init_9 g1_m rfl rfl (by simp) rfl ?_
  obtain ⟨k_2, e_k_2⟩ : ∃ z, z = av_up k_1 m (.inr (5, [.int 0, .ref ai, .int 0, .null, .int 0, .null, .int 0, .null, .null, .null, .null, .null, .int 0])) := ⟨_, rfl⟩
  refine aw_heap (h' := k_2) e_k_2.symm ?_
  have g2_ai : k_2 ai = some (.inl (1, 65536, .inl (fun _ => 0))) := by rw [e_k_2, av_up_ne (Ne.symm ne_m_ai)]; exact g1_ai
  have g2_m : k_2 m = some (.inr (5, [.int 0, .ref ai, .int 0, .null, .int 0, .null, .int 0, .null, .null, .null, .null, .null, .int 0])) := by rw [e_k_2]; exact av_up_self _ _ _
  refine aw_aload_n d_M_init_12 rfl ?_
  refine aw_ldc (v := nI 65536) d_M_init_13 tw_624 ?_
  refine aw_newa (t := 1) (N := 65536) (z := (65536, .inl (fun _ => 0))) (mc2 := 6) (ms2 := 106496) d_M_init_15 tw_41 (fun _ => rfl) (fun _ _ z => z) (fun _ => rfl) (nI_pos (by omega)) (nI_clamp (by omega)) (by simp only [newarray.typeOf, componentBytes]; omega) (by omega) (by omega) (fun am f_am => ?_)
  obtain ⟨k_3, e_k_3⟩ : ∃ z, z = av_up k_2 am (.inl (1, 65536, .inl (fun _ => 0))) := ⟨_, rfl⟩
  refine aw_heap (h' := k_3) e_k_3.symm ?_
  have ne_ai_am : ai ≠ am := (fun z => by have z1 := g2_ai; rw [z, f_am] at z1; cases z1)
  have g3_ai : k_3 ai = some (.inl (1, 65536, .inl (fun _ => 0))) := by rw [e_k_3, av_up_ne ne_ai_am]; exact g2_ai
  have ne_m_am : m ≠ am := (fun z => by have z1 := g2_m; rw [z, f_am] at z1; cases z1)
  have g3_m : k_3 m = some (.inr (5, [.int 0, .ref ai, .int 0, .null, .int 0, .null, .int 0, .null, .null, .null, .null, .null, .int 0])) := by rw [e_k_3, av_up_ne ne_m_am]; exact g2_m
  have g3_am : k_3 am = some (.inl (1, 65536, .inl (fun _ => 0))) := by rw [e_k_3]; exact av_up_self _ _ _
  refine aw_put (fs' := [.int 0, .ref ai, .int 0, .ref am, .int 0, .null, .int 0, .null, .null, .null, .null, .null, .int 0]) pt_M_14 d_M_init_17 g3_m rfl rfl (by simp) rfl ?_
  obtain ⟨k_4, e_k_4⟩ : ∃ z, z = av_up k_3 m (.inr (5, [.int 0, .ref ai, .int 0, .ref am, .int 0, .null, .int 0, .null, .null, .null, .null, .null, .int 0])) := ⟨_, rfl⟩
  refine aw_heap (h' := k_4) e_k_4.symm ?_
  have g4_ai : k_4 ai = some (.inl (1, 65536, .inl (fun _ => 0))) := by rw [e_k_4, av_up_ne (Ne.symm ne_m_ai)]; exact g3_ai
  have g4_am : k_4 am = some (.inl (1, 65536, .inl (fun _ => 0))) := by rw [e_k_4, av_up_ne (Ne.symm ne_m_am)]; exact g3_am
  have g4_m : k_4 m = some (.inr (5, [.int 0, .ref ai, .int 0, .ref am, .int 0, .null, .int 0, .null, .null, .null, .null, .null, .int 0])) := by rw [e_k_4]; exact av_up_self _ _ _
  refine aw_aload_n d_M_init_20 rfl ?_
  refine aw_ldc (v := nI 65536) d_M_init_21 tw_624 ?_
  refine aw_newa (t := 1) (N := 65536) (z := (65536, .inl (fun _ => 0))) (mc2 := 5) (ms2 := 40960) d_M_init_23 tw_41 (fun _ => rfl) (fun _ _ z => z) (fun _ => rfl) (nI_pos (by omega)) (nI_clamp (by omega)) (by simp only [newarray.typeOf, componentBytes]; omega) (by omega) (by omega) (fun ak f_ak => ?_)
  obtain ⟨k_5, e_k_5⟩ : ∃ z, z = av_up k_4 ak (.inl (1, 65536, .inl (fun _ => 0))) := ⟨_, rfl⟩
  refine aw_heap (h' := k_5) e_k_5.symm ?_
  have ne_ai_ak : ai ≠ ak := (fun z => by have z1 := g4_ai; rw [z, f_ak] at z1; cases z1)
  have g5_ai : k_5 ai = some (.inl (1, 65536, .inl (fun _ => 0))) := by rw [e_k_5, av_up_ne ne_ai_ak]; exact g4_ai
  have ne_am_ak : am ≠ ak := (fun z => by have z1 := g4_am; rw [z, f_ak] at z1; cases z1)
  have g5_am : k_5 am = some (.inl (1, 65536, .inl (fun _ => 0))) := by rw [e_k_5, av_up_ne ne_am_ak]; exact g4_am
  have ne_m_ak : m ≠ ak := (fun z => by have z1 := g4_m; rw [z, f_ak] at z1; cases z1)
  have g5_m : k_5 m = some (.inr (5, [.int 0, .ref ai, .int 0, .ref am, .int 0, .null, .int 0, .null, .null, .null, .null, .null, .int 0])) := by rw [e_k_5, av_up_ne ne_m_ak]; exact g4_m
  have g5_ak : k_5 ak = some (.inl (1, 65536, .inl (fun _ => 0))) := by rw [e_k_5]; exact av_up_self _ _ _
  refine aw_put (fs' := [.int 0, .ref ai, .int 0, .ref am, .int 0, .ref ak, .int 0, .null, .null, .null, .null, .null, .int 0]) pt_M_17 d_M_init_25 g5_m rfl rfl (by simp) rfl ?_
  obtain ⟨k_6, e_k_6⟩ : ∃ z, z = av_up k_5 m (.inr (5, [.int 0, .ref ai, .int 0, .ref am, .int 0, .ref ak, .int 0, .null, .null, .null, .null, .null, .int 0])) := ⟨_, rfl⟩
  refine aw_heap (h' := k_6) e_k_6.symm ?_
  have g6_ai : k_6 ai = some (.inl (1, 65536, .inl (fun _ => 0))) := by rw [e_k_6, av_up_ne (Ne.symm ne_m_ai)]; exact g5_ai
  have g6_am : k_6 am = some (.inl (1, 65536, .inl (fun _ => 0))) := by rw [e_k_6, av_up_ne (Ne.symm ne_m_am)]; exact g5_am
  have g6_ak : k_6 ak = some (.inl (1, 65536, .inl (fun _ => 0))) := by rw [e_k_6, av_up_ne (Ne.symm ne_m_ak)]; exact g5_ak
  have g6_m : k_6 m = some (.inr (5, [.int 0, .ref ai, .int 0, .ref am, .int 0, .ref ak, .int 0, .null, .null, .null, .null, .null, .int 0])) := by rw [e_k_6]; exact av_up_self _ _ _
  refine aw_aload_n d_M_init_28 rfl ?_
  refine aw_sipush (v := nI 8192) d_M_init_29 (by decide) ?_
  refine aw_newa (t := 0) (N := 8192) (z := (8192, .inl (fun _ => 0))) (mc2 := 4) (ms2 := 32768) d_M_init_32 tw_111 (fun _ => rfl) (fun _ _ z => z) (fun _ => rfl) (nI_pos (by omega)) (nI_clamp (by omega)) (by simp only [newarray.typeOf, componentBytes]; omega) (by omega) (by omega) (fun as_ f_as_ => ?_)
  obtain ⟨k_7, e_k_7⟩ : ∃ z, z = av_up k_6 as_ (.inl (0, 8192, .inl (fun _ => 0))) := ⟨_, rfl⟩
  refine aw_heap (h' := k_7) e_k_7.symm ?_
  have ne_ai_as_ : ai ≠ as_ := (fun z => by have z1 := g6_ai; rw [z, f_as_] at z1; cases z1)
  have g7_ai : k_7 ai = some (.inl (1, 65536, .inl (fun _ => 0))) := by rw [e_k_7, av_up_ne ne_ai_as_]; exact g6_ai
  have ne_am_as_ : am ≠ as_ := (fun z => by have z1 := g6_am; rw [z, f_as_] at z1; cases z1)
  have g7_am : k_7 am = some (.inl (1, 65536, .inl (fun _ => 0))) := by rw [e_k_7, av_up_ne ne_am_as_]; exact g6_am
  have ne_ak_as_ : ak ≠ as_ := (fun z => by have z1 := g6_ak; rw [z, f_as_] at z1; cases z1)
  have g7_ak : k_7 ak = some (.inl (1, 65536, .inl (fun _ => 0))) := by rw [e_k_7, av_up_ne ne_ak_as_]; exact g6_ak
  have ne_m_as_ : m ≠ as_ := (fun z => by have z1 := g6_m; rw [z, f_as_] at z1; cases z1)
  have g7_m : k_7 m = some (.inr (5, [.int 0, .ref ai, .int 0, .ref am, .int 0, .ref ak, .int 0, .null, .null, .null, .null, .null, .int 0])) := by rw [e_k_7, av_up_ne ne_m_as_]; exact g6_m
  have g7_as_ : k_7 as_ = some (.inl (0, 8192, .inl (fun _ => 0))) := by rw [e_k_7]; exact av_up_self _ _ _
  refine aw_put (fs' := [.int 0, .ref ai, .int 0, .ref am, .int 0, .ref ak, .int 0, .ref as_, .null, .null, .null, .null, .int 0]) pt_M_20 d_M_init_34 g7_m rfl rfl (by simp) rfl ?_
  obtain ⟨k_8, e_k_8⟩ : ∃ z, z = av_up k_7 m (.inr (5, [.int 0, .ref ai, .int 0, .ref am, .int 0, .ref ak, .int 0, .ref as_, .null, .null, .null, .null, .int 0])) := ⟨_, rfl⟩
  refine aw_heap (h' := k_8) e_k_8.symm ?_
  have g8_ai : k_8 ai = some (.inl (1, 65536, .inl (fun _ => 0))) := by rw [e_k_8, av_up_ne (Ne.symm ne_m_ai)]; exact g7_ai
  have g8_am : k_8 am = some (.inl (1, 65536, .inl (fun _ => 0))) := by rw [e_k_8, av_up_ne (Ne.symm ne_m_am)]; exact g7_am
  have g8_ak : k_8 ak = some (.inl (1, 65536, .inl (fun _ => 0))) := by rw [e_k_8, av_up_ne (Ne.symm ne_m_ak)]; exact g7_ak
  have g8_as_ : k_8 as_ = some (.inl (0, 8192, .inl (fun _ => 0))) := by rw [e_k_8, av_up_ne (Ne.symm ne_m_as_)]; exact g7_as_
  have g8_m : k_8 m = some (.inr (5, [.int 0, .ref ai, .int 0, .ref am, .int 0, .ref ak, .int 0, .ref as_, .null, .null, .null, .null, .int 0])) := by rw [e_k_8]; exact av_up_self _ _ _
  refine aw_aload_n d_M_init_37 rfl ?_
  refine aw_sipush (v := nI 8192) d_M_init_38 (by decide) ?_
  refine aw_newa (t := 0) (N := 8192) (z := (8192, .inl (fun _ => 0))) (mc2 := 3) (ms2 := 24576) d_M_init_41 tw_111 (fun _ => rfl) (fun _ _ z => z) (fun _ => rfl) (nI_pos (by omega)) (nI_clamp (by omega)) (by simp only [newarray.typeOf, componentBytes]; omega) (by omega) (by omega) (fun aks f_aks => ?_)
  obtain ⟨k_9, e_k_9⟩ : ∃ z, z = av_up k_8 aks (.inl (0, 8192, .inl (fun _ => 0))) := ⟨_, rfl⟩
  refine aw_heap (h' := k_9) e_k_9.symm ?_
  have ne_ai_aks : ai ≠ aks := (fun z => by have z1 := g8_ai; rw [z, f_aks] at z1; cases z1)
  have g9_ai : k_9 ai = some (.inl (1, 65536, .inl (fun _ => 0))) := by rw [e_k_9, av_up_ne ne_ai_aks]; exact g8_ai
  have ne_am_aks : am ≠ aks := (fun z => by have z1 := g8_am; rw [z, f_aks] at z1; cases z1)
  have g9_am : k_9 am = some (.inl (1, 65536, .inl (fun _ => 0))) := by rw [e_k_9, av_up_ne ne_am_aks]; exact g8_am
  have ne_ak_aks : ak ≠ aks := (fun z => by have z1 := g8_ak; rw [z, f_aks] at z1; cases z1)
  have g9_ak : k_9 ak = some (.inl (1, 65536, .inl (fun _ => 0))) := by rw [e_k_9, av_up_ne ne_ak_aks]; exact g8_ak
  have ne_as__aks : as_ ≠ aks := (fun z => by have z1 := g8_as_; rw [z, f_aks] at z1; cases z1)
  have g9_as_ : k_9 as_ = some (.inl (0, 8192, .inl (fun _ => 0))) := by rw [e_k_9, av_up_ne ne_as__aks]; exact g8_as_
  have ne_m_aks : m ≠ aks := (fun z => by have z1 := g8_m; rw [z, f_aks] at z1; cases z1)
  have g9_m : k_9 m = some (.inr (5, [.int 0, .ref ai, .int 0, .ref am, .int 0, .ref ak, .int 0, .ref as_, .null, .null, .null, .null, .int 0])) := by rw [e_k_9, av_up_ne ne_m_aks]; exact g8_m
  have g9_aks : k_9 aks = some (.inl (0, 8192, .inl (fun _ => 0))) := by rw [e_k_9]; exact av_up_self _ _ _
  refine aw_put (fs' := [.int 0, .ref ai, .int 0, .ref am, .int 0, .ref ak, .int 0, .ref as_, .ref aks, .null, .null, .null, .int 0]) pt_M_24 d_M_init_43 g9_m rfl rfl (by simp) rfl ?_
  obtain ⟨k_10, e_k_10⟩ : ∃ z, z = av_up k_9 m (.inr (5, [.int 0, .ref ai, .int 0, .ref am, .int 0, .ref ak, .int 0, .ref as_, .ref aks, .null, .null, .null, .int 0])) := ⟨_, rfl⟩
  refine aw_heap (h' := k_10) e_k_10.symm ?_
  have g10_ai : k_10 ai = some (.inl (1, 65536, .inl (fun _ => 0))) := by rw [e_k_10, av_up_ne (Ne.symm ne_m_ai)]; exact g9_ai
  have g10_am : k_10 am = some (.inl (1, 65536, .inl (fun _ => 0))) := by rw [e_k_10, av_up_ne (Ne.symm ne_m_am)]; exact g9_am
  have g10_ak : k_10 ak = some (.inl (1, 65536, .inl (fun _ => 0))) := by rw [e_k_10, av_up_ne (Ne.symm ne_m_ak)]; exact g9_ak
  have g10_as_ : k_10 as_ = some (.inl (0, 8192, .inl (fun _ => 0))) := by rw [e_k_10, av_up_ne (Ne.symm ne_m_as_)]; exact g9_as_
  have g10_aks : k_10 aks = some (.inl (0, 8192, .inl (fun _ => 0))) := by rw [e_k_10, av_up_ne (Ne.symm ne_m_aks)]; exact g9_aks
  have g10_m : k_10 m = some (.inr (5, [.int 0, .ref ai, .int 0, .ref am, .int 0, .ref ak, .int 0, .ref as_, .ref aks, .null, .null, .null, .int 0])) := by rw [e_k_10]; exact av_up_self _ _ _
  refine aw_aload_n d_M_init_46 rfl ?_
  refine aw_sipush (v := nI 8192) d_M_init_47 (by decide) ?_
  refine aw_newa (t := 0) (N := 8192) (z := (8192, .inl (fun _ => 0))) (mc2 := 2) (ms2 := 16384) d_M_init_50 tw_111 (fun _ => rfl) (fun _ _ z => z) (fun _ => rfl) (nI_pos (by omega)) (nI_clamp (by omega)) (by simp only [newarray.typeOf, componentBytes]; omega) (by omega) (by omega) (fun ar f_ar => ?_)
  obtain ⟨k_11, e_k_11⟩ : ∃ z, z = av_up k_10 ar (.inl (0, 8192, .inl (fun _ => 0))) := ⟨_, rfl⟩
  refine aw_heap (h' := k_11) e_k_11.symm ?_
  have ne_ai_ar : ai ≠ ar := (fun z => by have z1 := g10_ai; rw [z, f_ar] at z1; cases z1)
  have g11_ai : k_11 ai = some (.inl (1, 65536, .inl (fun _ => 0))) := by rw [e_k_11, av_up_ne ne_ai_ar]; exact g10_ai
  have ne_am_ar : am ≠ ar := (fun z => by have z1 := g10_am; rw [z, f_ar] at z1; cases z1)
  have g11_am : k_11 am = some (.inl (1, 65536, .inl (fun _ => 0))) := by rw [e_k_11, av_up_ne ne_am_ar]; exact g10_am
  have ne_ak_ar : ak ≠ ar := (fun z => by have z1 := g10_ak; rw [z, f_ar] at z1; cases z1)
  have g11_ak : k_11 ak = some (.inl (1, 65536, .inl (fun _ => 0))) := by rw [e_k_11, av_up_ne ne_ak_ar]; exact g10_ak
  have ne_as__ar : as_ ≠ ar := (fun z => by have z1 := g10_as_; rw [z, f_ar] at z1; cases z1)
  have g11_as_ : k_11 as_ = some (.inl (0, 8192, .inl (fun _ => 0))) := by rw [e_k_11, av_up_ne ne_as__ar]; exact g10_as_
  have ne_aks_ar : aks ≠ ar := (fun z => by have z1 := g10_aks; rw [z, f_ar] at z1; cases z1)
  have g11_aks : k_11 aks = some (.inl (0, 8192, .inl (fun _ => 0))) := by rw [e_k_11, av_up_ne ne_aks_ar]; exact g10_aks
  have ne_m_ar : m ≠ ar := (fun z => by have z1 := g10_m; rw [z, f_ar] at z1; cases z1)
  have g11_m : k_11 m = some (.inr (5, [.int 0, .ref ai, .int 0, .ref am, .int 0, .ref ak, .int 0, .ref as_, .ref aks, .null, .null, .null, .int 0])) := by rw [e_k_11, av_up_ne ne_m_ar]; exact g10_m
  have g11_ar : k_11 ar = some (.inl (0, 8192, .inl (fun _ => 0))) := by rw [e_k_11]; exact av_up_self _ _ _
  refine aw_put (fs' := [.int 0, .ref ai, .int 0, .ref am, .int 0, .ref ak, .int 0, .ref as_, .ref aks, .ref ar, .null, .null, .int 0]) pt_M_27 d_M_init_52 g11_m rfl rfl (by simp) rfl ?_
  obtain ⟨k_12, e_k_12⟩ : ∃ z, z = av_up k_11 m (.inr (5, [.int 0, .ref ai, .int 0, .ref am, .int 0, .ref ak, .int 0, .ref as_, .ref aks, .ref ar, .null, .null, .int 0])) := ⟨_, rfl⟩
  refine aw_heap (h' := k_12) e_k_12.symm ?_
  have g12_ai : k_12 ai = some (.inl (1, 65536, .inl (fun _ => 0))) := by rw [e_k_12, av_up_ne (Ne.symm ne_m_ai)]; exact g11_ai
  have g12_am : k_12 am = some (.inl (1, 65536, .inl (fun _ => 0))) := by rw [e_k_12, av_up_ne (Ne.symm ne_m_am)]; exact g11_am
  have g12_ak : k_12 ak = some (.inl (1, 65536, .inl (fun _ => 0))) := by rw [e_k_12, av_up_ne (Ne.symm ne_m_ak)]; exact g11_ak
  have g12_as_ : k_12 as_ = some (.inl (0, 8192, .inl (fun _ => 0))) := by rw [e_k_12, av_up_ne (Ne.symm ne_m_as_)]; exact g11_as_
  have g12_aks : k_12 aks = some (.inl (0, 8192, .inl (fun _ => 0))) := by rw [e_k_12, av_up_ne (Ne.symm ne_m_aks)]; exact g11_aks
  have g12_ar : k_12 ar = some (.inl (0, 8192, .inl (fun _ => 0))) := by rw [e_k_12, av_up_ne (Ne.symm ne_m_ar)]; exact g11_ar
  have g12_m : k_12 m = some (.inr (5, [.int 0, .ref ai, .int 0, .ref am, .int 0, .ref ak, .int 0, .ref as_, .ref aks, .ref ar, .null, .null, .int 0])) := by rw [e_k_12]; exact av_up_self _ _ _
  refine aw_aload_n d_M_init_55 rfl ?_
  refine aw_sipush (v := nI 8192) d_M_init_56 (by decide) ?_
  refine aw_newa (t := 0) (N := 8192) (z := (8192, .inl (fun _ => 0))) (mc2 := 1) (ms2 := 8192) d_M_init_59 tw_111 (fun _ => rfl) (fun _ _ z => z) (fun _ => rfl) (nI_pos (by omega)) (nI_clamp (by omega)) (by simp only [newarray.typeOf, componentBytes]; omega) (by omega) (by omega) (fun an f_an => ?_)
  obtain ⟨k_13, e_k_13⟩ : ∃ z, z = av_up k_12 an (.inl (0, 8192, .inl (fun _ => 0))) := ⟨_, rfl⟩
  refine aw_heap (h' := k_13) e_k_13.symm ?_
  have ne_ai_an : ai ≠ an := (fun z => by have z1 := g12_ai; rw [z, f_an] at z1; cases z1)
  have g13_ai : k_13 ai = some (.inl (1, 65536, .inl (fun _ => 0))) := by rw [e_k_13, av_up_ne ne_ai_an]; exact g12_ai
  have ne_am_an : am ≠ an := (fun z => by have z1 := g12_am; rw [z, f_an] at z1; cases z1)
  have g13_am : k_13 am = some (.inl (1, 65536, .inl (fun _ => 0))) := by rw [e_k_13, av_up_ne ne_am_an]; exact g12_am
  have ne_ak_an : ak ≠ an := (fun z => by have z1 := g12_ak; rw [z, f_an] at z1; cases z1)
  have g13_ak : k_13 ak = some (.inl (1, 65536, .inl (fun _ => 0))) := by rw [e_k_13, av_up_ne ne_ak_an]; exact g12_ak
  have ne_as__an : as_ ≠ an := (fun z => by have z1 := g12_as_; rw [z, f_an] at z1; cases z1)
  have g13_as_ : k_13 as_ = some (.inl (0, 8192, .inl (fun _ => 0))) := by rw [e_k_13, av_up_ne ne_as__an]; exact g12_as_
  have ne_aks_an : aks ≠ an := (fun z => by have z1 := g12_aks; rw [z, f_an] at z1; cases z1)
  have g13_aks : k_13 aks = some (.inl (0, 8192, .inl (fun _ => 0))) := by rw [e_k_13, av_up_ne ne_aks_an]; exact g12_aks
  have ne_ar_an : ar ≠ an := (fun z => by have z1 := g12_ar; rw [z, f_an] at z1; cases z1)
  have g13_ar : k_13 ar = some (.inl (0, 8192, .inl (fun _ => 0))) := by rw [e_k_13, av_up_ne ne_ar_an]; exact g12_ar
  have ne_m_an : m ≠ an := (fun z => by have z1 := g12_m; rw [z, f_an] at z1; cases z1)
  have g13_m : k_13 m = some (.inr (5, [.int 0, .ref ai, .int 0, .ref am, .int 0, .ref ak, .int 0, .ref as_, .ref aks, .ref ar, .null, .null, .int 0])) := by rw [e_k_13, av_up_ne ne_m_an]; exact g12_m
  have g13_an : k_13 an = some (.inl (0, 8192, .inl (fun _ => 0))) := by rw [e_k_13]; exact av_up_self _ _ _
  refine aw_put (fs' := [.int 0, .ref ai, .int 0, .ref am, .int 0, .ref ak, .int 0, .ref as_, .ref aks, .ref ar, .ref an, .null, .int 0]) pt_M_30 d_M_init_61 g13_m rfl rfl (by simp) rfl ?_
  obtain ⟨k_14, e_k_14⟩ : ∃ z, z = av_up k_13 m (.inr (5, [.int 0, .ref ai, .int 0, .ref am, .int 0, .ref ak, .int 0, .ref as_, .ref aks, .ref ar, .ref an, .null, .int 0])) := ⟨_, rfl⟩
  refine aw_heap (h' := k_14) e_k_14.symm ?_
  have g14_ai : k_14 ai = some (.inl (1, 65536, .inl (fun _ => 0))) := by rw [e_k_14, av_up_ne (Ne.symm ne_m_ai)]; exact g13_ai
  have g14_am : k_14 am = some (.inl (1, 65536, .inl (fun _ => 0))) := by rw [e_k_14, av_up_ne (Ne.symm ne_m_am)]; exact g13_am
  have g14_ak : k_14 ak = some (.inl (1, 65536, .inl (fun _ => 0))) := by rw [e_k_14, av_up_ne (Ne.symm ne_m_ak)]; exact g13_ak
  have g14_as_ : k_14 as_ = some (.inl (0, 8192, .inl (fun _ => 0))) := by rw [e_k_14, av_up_ne (Ne.symm ne_m_as_)]; exact g13_as_
  have g14_aks : k_14 aks = some (.inl (0, 8192, .inl (fun _ => 0))) := by rw [e_k_14, av_up_ne (Ne.symm ne_m_aks)]; exact g13_aks
  have g14_ar : k_14 ar = some (.inl (0, 8192, .inl (fun _ => 0))) := by rw [e_k_14, av_up_ne (Ne.symm ne_m_ar)]; exact g13_ar
  have g14_an : k_14 an = some (.inl (0, 8192, .inl (fun _ => 0))) := by rw [e_k_14, av_up_ne (Ne.symm ne_m_an)]; exact g13_an
  have g14_m : k_14 m = some (.inr (5, [.int 0, .ref ai, .int 0, .ref am, .int 0, .ref ak, .int 0, .ref as_, .ref aks, .ref ar, .ref an, .null, .int 0])) := by rw [e_k_14]; exact av_up_self _ _ _
  refine aw_aload_n d_M_init_64 rfl ?_
  refine aw_sipush (v := nI 8192) d_M_init_65 (by decide) ?_
  refine aw_newa (t := 0) (N := 8192) (z := (8192, .inl (fun _ => 0))) (mc2 := 0) (ms2 := 0) d_M_init_68 tw_111 (fun _ => rfl) (fun _ _ z => z) (fun _ => rfl) (nI_pos (by omega)) (nI_clamp (by omega)) (by simp only [newarray.typeOf, componentBytes]; omega) (by omega) (by omega) (fun ab f_ab => ?_)
  obtain ⟨k_15, e_k_15⟩ : ∃ z, z = av_up k_14 ab (.inl (0, 8192, .inl (fun _ => 0))) := ⟨_, rfl⟩
  refine aw_heap (h' := k_15) e_k_15.symm ?_
  have ne_ai_ab : ai ≠ ab := (fun z => by have z1 := g14_ai; rw [z, f_ab] at z1; cases z1)
  have g15_ai : k_15 ai = some (.inl (1, 65536, .inl (fun _ => 0))) := by rw [e_k_15, av_up_ne ne_ai_ab]; exact g14_ai
  have ne_am_ab : am ≠ ab := (fun z => by have z1 := g14_am; rw [z, f_ab] at z1; cases z1)
  have g15_am : k_15 am = some (.inl (1, 65536, .inl (fun _ => 0))) := by rw [e_k_15, av_up_ne ne_am_ab]; exact g14_am
  have ne_ak_ab : ak ≠ ab := (fun z => by have z1 := g14_ak; rw [z, f_ab] at z1; cases z1)
  have g15_ak : k_15 ak = some (.inl (1, 65536, .inl (fun _ => 0))) := by rw [e_k_15, av_up_ne ne_ak_ab]; exact g14_ak
  have ne_as__ab : as_ ≠ ab := (fun z => by have z1 := g14_as_; rw [z, f_ab] at z1; cases z1)
  have g15_as_ : k_15 as_ = some (.inl (0, 8192, .inl (fun _ => 0))) := by rw [e_k_15, av_up_ne ne_as__ab]; exact g14_as_
  have ne_aks_ab : aks ≠ ab := (fun z => by have z1 := g14_aks; rw [z, f_ab] at z1; cases z1)
  have g15_aks : k_15 aks = some (.inl (0, 8192, .inl (fun _ => 0))) := by rw [e_k_15, av_up_ne ne_aks_ab]; exact g14_aks
  have ne_ar_ab : ar ≠ ab := (fun z => by have z1 := g14_ar; rw [z, f_ab] at z1; cases z1)
  have g15_ar : k_15 ar = some (.inl (0, 8192, .inl (fun _ => 0))) := by rw [e_k_15, av_up_ne ne_ar_ab]; exact g14_ar
  have ne_an_ab : an ≠ ab := (fun z => by have z1 := g14_an; rw [z, f_ab] at z1; cases z1)
  have g15_an : k_15 an = some (.inl (0, 8192, .inl (fun _ => 0))) := by rw [e_k_15, av_up_ne ne_an_ab]; exact g14_an
  have ne_m_ab : m ≠ ab := (fun z => by have z1 := g14_m; rw [z, f_ab] at z1; cases z1)
  have g15_m : k_15 m = some (.inr (5, [.int 0, .ref ai, .int 0, .ref am, .int 0, .ref ak, .int 0, .ref as_, .ref aks, .ref ar, .ref an, .null, .int 0])) := by rw [e_k_15, av_up_ne ne_m_ab]; exact g14_m
  have g15_ab : k_15 ab = some (.inl (0, 8192, .inl (fun _ => 0))) := by rw [e_k_15]; exact av_up_self _ _ _
  refine aw_put (fs' := [.int 0, .ref ai, .int 0, .ref am, .int 0, .ref ak, .int 0, .ref as_, .ref aks, .ref ar, .ref an, .ref ab, .int 0]) pt_M_33 d_M_init_70 g15_m rfl rfl (by simp) rfl ?_
  obtain ⟨k_16, e_k_16⟩ : ∃ z, z = av_up k_15 m (.inr (5, [.int 0, .ref ai, .int 0, .ref am, .int 0, .ref ak, .int 0, .ref as_, .ref aks, .ref ar, .ref an, .ref ab, .int 0])) := ⟨_, rfl⟩
  refine aw_heap (h' := k_16) e_k_16.symm ?_
  have g16_ai : k_16 ai = some (.inl (1, 65536, .inl (fun _ => 0))) := by rw [e_k_16, av_up_ne (Ne.symm ne_m_ai)]; exact g15_ai
  have g16_am : k_16 am = some (.inl (1, 65536, .inl (fun _ => 0))) := by rw [e_k_16, av_up_ne (Ne.symm ne_m_am)]; exact g15_am
  have g16_ak : k_16 ak = some (.inl (1, 65536, .inl (fun _ => 0))) := by rw [e_k_16, av_up_ne (Ne.symm ne_m_ak)]; exact g15_ak
  have g16_as_ : k_16 as_ = some (.inl (0, 8192, .inl (fun _ => 0))) := by rw [e_k_16, av_up_ne (Ne.symm ne_m_as_)]; exact g15_as_
  have g16_aks : k_16 aks = some (.inl (0, 8192, .inl (fun _ => 0))) := by rw [e_k_16, av_up_ne (Ne.symm ne_m_aks)]; exact g15_aks
  have g16_ar : k_16 ar = some (.inl (0, 8192, .inl (fun _ => 0))) := by rw [e_k_16, av_up_ne (Ne.symm ne_m_ar)]; exact g15_ar
  have g16_an : k_16 an = some (.inl (0, 8192, .inl (fun _ => 0))) := by rw [e_k_16, av_up_ne (Ne.symm ne_m_an)]; exact g15_an
  have g16_ab : k_16 ab = some (.inl (0, 8192, .inl (fun _ => 0))) := by rw [e_k_16, av_up_ne (Ne.symm ne_m_ab)]; exact g15_ab
  have g16_m : k_16 m = some (.inr (5, [.int 0, .ref ai, .int 0, .ref am, .int 0, .ref ak, .int 0, .ref as_, .ref aks, .ref ar, .ref an, .ref ab, .int 0])) := by rw [e_k_16]; exact av_up_self _ _ _
  have w_ai : h ai = none := f_ai
  have w_am : h am = none := (av_up_none (e_k_1 ▸ (av_up_none (e_k_2 ▸ f_am)).2)).2
  have w_ak : h ak = none := (av_up_none (e_k_1 ▸ (av_up_none (e_k_2 ▸ (av_up_none (e_k_3 ▸ (av_up_none (e_k_4 ▸ f_ak)).2)).2)).2)).2
  have w_as_ : h as_ = none := (av_up_none (e_k_1 ▸ (av_up_none (e_k_2 ▸ (av_up_none (e_k_3 ▸ (av_up_none (e_k_4 ▸ (av_up_none (e_k_5 ▸ (av_up_none (e_k_6 ▸ f_as_)).2)).2)).2)).2)).2)).2
  have w_aks : h aks = none := (av_up_none (e_k_1 ▸ (av_up_none (e_k_2 ▸ (av_up_none (e_k_3 ▸ (av_up_none (e_k_4 ▸ (av_up_none (e_k_5 ▸ (av_up_none (e_k_6 ▸ (av_up_none (e_k_7 ▸ (av_up_none (e_k_8 ▸ f_aks)).2)).2)).2)).2)).2)).2)).2)).2
  have w_ar : h ar = none := (av_up_none (e_k_1 ▸ (av_up_none (e_k_2 ▸ (av_up_none (e_k_3 ▸ (av_up_none (e_k_4 ▸ (av_up_none (e_k_5 ▸ (av_up_none (e_k_6 ▸ (av_up_none (e_k_7 ▸ (av_up_none (e_k_8 ▸ (av_up_none (e_k_9 ▸ (av_up_none (e_k_10 ▸ f_ar)).2)).2)).2)).2)).2)).2)).2)).2)).2)).2
  have w_an : h an = none := (av_up_none (e_k_1 ▸ (av_up_none (e_k_2 ▸ (av_up_none (e_k_3 ▸ (av_up_none (e_k_4 ▸ (av_up_none (e_k_5 ▸ (av_up_none (e_k_6 ▸ (av_up_none (e_k_7 ▸ (av_up_none (e_k_8 ▸ (av_up_none (e_k_9 ▸ (av_up_none (e_k_10 ▸ (av_up_none (e_k_11 ▸ (av_up_none (e_k_12 ▸ f_an)).2)).2)).2)).2)).2)).2)).2)).2)).2)).2)).2)).2
  have w_ab : h ab = none := (av_up_none (e_k_1 ▸ (av_up_none (e_k_2 ▸ (av_up_none (e_k_3 ▸ (av_up_none (e_k_4 ▸ (av_up_none (e_k_5 ▸ (av_up_none (e_k_6 ▸ (av_up_none (e_k_7 ▸ (av_up_none (e_k_8 ▸ (av_up_none (e_k_9 ▸ (av_up_none (e_k_10 ▸ (av_up_none (e_k_11 ▸ (av_up_none (e_k_12 ▸ (av_up_none (e_k_13 ▸ (av_up_none (e_k_14 ▸ f_ab)).2)).2)).2)).2)).2)).2)).2)).2)).2)).2)).2)).2)).2)).2
  exact aw_vret d_M_init_73 rfl ⟨rfl, ai, am, ak, as_, aks, ar, an, ab, ⟨g16_m, (by rw [e0]; exact g16_ai), (by rw [e0]; exact g16_am), (by rw [e0]; exact g16_ak), g16_as_, g16_aks, g16_ar, g16_an, g16_ab⟩, ⟨⟨ne_ai_am, ne_ai_ak, ne_am_ak⟩, ⟨ne_as__aks, ne_as__ar, ne_as__an, ne_as__ab⟩, ⟨ne_aks_ar, ne_aks_an, ne_aks_ab⟩, ⟨ne_ar_an, ne_ar_ab⟩, ne_an_ab⟩, ⟨w_ai, w_am, w_ak, w_as_, w_aks, w_ar, w_an, w_ab⟩, fun q a_m hq => by rw [e_k_16, av_up_ne a_m, e_k_15, av_up_ne (fun z => hq (by rw [z]; exact w_ab)), e_k_14, av_up_ne a_m, e_k_13, av_up_ne (fun z => hq (by rw [z]; exact w_an)), e_k_12, av_up_ne a_m, e_k_11, av_up_ne (fun z => hq (by rw [z]; exact w_ar)), e_k_10, av_up_ne a_m, e_k_9, av_up_ne (fun z => hq (by rw [z]; exact w_aks)), e_k_8, av_up_ne a_m, e_k_7, av_up_ne (fun z => hq (by rw [z]; exact w_as_)), e_k_6, av_up_ne a_m, e_k_5, av_up_ne (fun z => hq (by rw [z]; exact w_ak)), e_k_4, av_up_ne a_m, e_k_3, av_up_ne (fun z => hq (by rw [z]; exact w_am)), e_k_2, av_up_ne a_m, e_k_1, av_up_ne (fun z => hq (by rw [z]; exact w_ai))]⟩
