set_option maxHeartbeats 4000000 in
theorem lp_M_sameQ {tb : Nat → Nat} {h : AH} {fr lo : Nat} {mc ms : Nat} (hfr : 3 ≤ fr) (hlo : 68 ≤ lo) {m ai am ak as_ aks ar an ab cn ln kl : Nat} {cd : Int32} {HB KB : Nat → Nat} {fs fks : Nat → Int32} (hHB : ∀ i, HB i < 256) (hKB : ∀ i, KB i < 256) (D0 : mND ai am ak as_ aks ar an ab) (X : VX HB ln fs) (Y : VX KB kl fks) : ∀ (d : Nat) (j : Nat) (r : Int32) (g : AH) (fn fb fq : Nat → Int32) (mn : Nat), g m = some (mO cd ai cn am ln ak kl as_ aks ar an ab mn) → g am = some (.inl (1, 65536, .inl (bsf HB))) → g ak = some (.inl (1, 65536, .inl (bsf KB))) → g as_ = some (.inl (0, 8192, .inl fs)) → g aks = some (.inl (0, 8192, .inl fks)) → g an = some (.inl (0, 8192, .inl fn)) → g ab = some (.inl (0, 8192, .inl fb)) → g ar = some (.inl (0, 8192, .inl fq)) → (∀ q, q ≠ m → q ≠ an → q ≠ ab → q ≠ ar → g q = h q) → mn ≤ 8191 → r = bP ((gst HB KB j).2 = true) → ((gst HB KB j).2 = true → RP (gst HB KB j).1 fn fb fq mn) → j ≤ nn HB → nn HB < j + d → AW tb "ImageReaderModel" b_M_same 3 (some .boolean) false none fr lo (fun v h' => v = some (.int (bP (gfin HB KB = true))) ∧ ∃ fn' fb' fq' mn', h' m = some (mO cd ai cn am ln ak kl as_ aks ar an ab mn') ∧ h' an = some (.inl (0, 8192, .inl fn')) ∧ h' ab = some (.inl (0, 8192, .inl fb')) ∧ h' ar = some (.inl (0, 8192, .inl fq')) ∧ (∀ q, q ≠ m → q ≠ an → q ≠ ab → q ≠ ar → h' q = h q)) 139 [some (.ref m), some (.int r), some (.int (nI j))] [] g mc ms := by
  intro d
  induction d with
  | zero => intro j r g fn fb fq mn gm gi gk gs gt gn gb gq gf gmn hr_ hR hj hd; omega
  | succ d ih =>
    intro j r g fn fb fq mn gm gi gk gs gt gn gb gq gf gmn hr_ hR hj hd
    have hN := X.n
    refine aw_iload_n d_M_same_139 rfl ?_
    refine aw_aload_n d_M_same_140 rfl ?_
    refine aw_get fl_M_159 d_M_same_141 gm rfl ?_
    refine aw_icmp_ge (tgt := 168) d_M_same_144 (by decide) (fun c_144 => ?_) (fun c_144 => ?_)
    · rw [nI_leI (by omega) (by omega)] at c_144
      have hx : ¬ ((gst HB KB j).2 = true ∧ j < (gst HB KB j).1.2.2.2) := fun q => by have q2 := (hR q.1).1; omega
      refine aw_iload_n d_M_same_168 rfl ?_
      exact aw_iret d_M_same_169 rfl (by rw [hr_]; exact bP_nar _) ⟨by rw [hr_, gfin_at hx hj], fn, fb, fq, mn, gm, gn, gb, gq, gf⟩
    · rw [nI_leI (by omega) (by omega)] at c_144
      refine aw_iload_n d_M_same_147 rfl ?_
      refine aw_if_eq (tgt := 168) d_M_same_148 (by decide) (fun c_148 => ?_) (fun c_148 => ?_)
      · rw [hr_, bP_eq0] at c_148
        have hx : ¬ ((gst HB KB j).2 = true ∧ j < (gst HB KB j).1.2.2.2) := fun q => c_148 q.1
        refine aw_iload_n d_M_same_168 rfl ?_
        exact aw_iret d_M_same_169 rfl (by rw [hr_]; exact bP_nar _) ⟨by rw [hr_, gfin_at hx hj], fn, fb, fq, mn, gm, gn, gb, gq, gf⟩
      · rw [hr_, bP_eq0, Classical.not_not] at c_148
        have hmn := (hR c_148).1
        have hlt : j < (gst HB KB j).1.2.2.2 := by omega
        obtain ⟨u1, u2, u3⟩ := (gst_gd X.1 Y.1 j).2.2.2 j hlt
        have hle := (gst_gd X.1 Y.1 j).le
        refine aw_aload_n d_M_same_151 rfl ?_
        refine aw_aload_n d_M_same_152 rfl ?_
        refine aw_get fl_M_27 d_M_same_153 gm rfl ?_
        refine aw_iload_n d_M_same_156 rfl ?_
        refine aw_iald (x := nI ((gst HB KB j).1.2.2.1 j)) d_M_same_157 gq (vp_in_nI (by omega) (by omega)) (by rw [nI_clamp (by omega)]; exact (hR c_148).2.2.2 j hlt) ?_
        refine aw_callV (mc2 := mc) (ms2 := ms) (As := [.int (nI ((gst HB KB j).1.2.2.1 j))]) (rest := []) (c_M_goTogether hHB hKB D0 X Y gm gi gk gs gt gn gb gq gmn (gst HB KB j).1 (gst_gd X.1 Y.1 j) ((gst HB KB j).1.2.2.1 j) u1 u2 u3 (hR c_148)) cv_M_182 d_M_same_158 gm rfl rfl rfl (Nat.le_of_ble_eq_true rfl) (by omega) (by omega) (by omega) (by omega) (fun v_158 k_158c q_158 => ?_)
        obtain ⟨y1, fn_1, fb_1, fq_1, mn_1, y2, y3, y4, y5, y6, y8, y7⟩ := q_158
        refine aw_st (st' := .int (bP ((gbo HB KB (gst HB KB j).1 ((gst HB KB j).1.2.2.1 j) ((gst HB KB j).1.1 ((gst HB KB j).1.2.2.1 j))).2 = true)) :: []) (by rw [y1]; rfl) ?_
        have y_am : k_158c am = some (.inl (1, 65536, .inl (bsf HB))) := by rw [y7 _ (av_apart gi gm) (av_apT gi gn (by decide)) (av_apT gi gb (by decide)) (av_apT gi gq (by decide))]; exact gi
        have y_ak : k_158c ak = some (.inl (1, 65536, .inl (bsf KB))) := by rw [y7 _ (av_apart gk gm) (av_apT gk gn (by decide)) (av_apT gk gb (by decide)) (av_apT gk gq (by decide))]; exact gk
        have y_as_ : k_158c as_ = some (.inl (0, 8192, .inl fs)) := by rw [y7 _ (av_apart gs gm) (D0.2.1.2.2.1) (D0.2.1.2.2.2) (D0.2.1.2.1)]; exact gs
        have y_aks : k_158c aks = some (.inl (0, 8192, .inl fks)) := by rw [y7 _ (av_apart gt gm) (D0.2.2.1.2.1) (D0.2.2.1.2.2) (D0.2.2.1.1)]; exact gt
        refine aw_istore_n (L' := [some (.ref m), some (.int (bP ((gbo HB KB (gst HB KB j).1 ((gst HB KB j).1.2.2.1 j) ((gst HB KB j).1.1 ((gst HB KB j).1.2.2.1 j))).2 = true))), some (.int (nI j))]) d_M_same_161 (by decide) rfl rfl ?_
        refine aw_iinc (v := nI (j + 1)) (L' := [some (.ref m), some (.int (bP ((gbo HB KB (gst HB KB j).1 ((gst HB KB j).1.2.2.1 j) ((gst HB KB j).1.1 ((gst HB KB j).1.2.2.1 j))).2 = true))), some (.int (nI (j + 1)))]) d_M_same_162 rfl (nI_add j 1) (by decide) rfl rfl ?_
        refine aw_goto (tgt := 139) d_M_same_165 (by decide) ?_
        exact ih (j + 1) _ _ _ _ _ _ y2 y_am y_ak y_as_ y_aks y3 y4 y5 (fun q b1 b2 b3 b4 => ((y7 q b1 b2 b3 b4).trans (gf q b1 b2 b3 b4))) y8 (by rw [gst_t ⟨c_148, hlt⟩]) (fun z => by rw [gst_t ⟨c_148, hlt⟩] at z ⊢; exact y6 z) (by omega) (by omega)

set_option maxHeartbeats 4000000 in
theorem lp_M_sameS {tb : Nat → Nat} {h : AH} {fr lo : Nat} {mc ms : Nat} (hfr : 3 ≤ fr) (hlo : 68 ≤ lo) {m ai am ak as_ aks ar an ab cn ln kl : Nat} {cd : Int32} {HB KB : Nat → Nat} {fs fks : Nat → Int32} (hHB : ∀ i, HB i < 256) (hKB : ∀ i, KB i < 256) (D0 : mND ai am ak as_ aks ar an ab) (X : VX HB ln fs) (Y : VX KB kl fks) : ∀ (d : Nat) (k : Nat) (r : Int32) (g : AH) (fn fb fq : Nat → Int32) (mn : Nat), g m = some (mO cd ai cn am ln ak kl as_ aks ar an ab mn) → g am = some (.inl (1, 65536, .inl (bsf HB))) → g ak = some (.inl (1, 65536, .inl (bsf KB))) → g as_ = some (.inl (0, 8192, .inl fs)) → g aks = some (.inl (0, 8192, .inl fks)) → g an = some (.inl (0, 8192, .inl fn)) → g ab = some (.inl (0, 8192, .inl fb)) → g ar = some (.inl (0, 8192, .inl fq)) → (∀ q, q ≠ m → q ≠ an → q ≠ ab → q ≠ ar → g q = h q) → mn ≤ 8191 → r = bP ((gsp HB KB k).2 = true) → ((gsp HB KB k).2 = true → RP (gsp HB KB k).1 fn fb fq mn) → k ≤ 50 → 50 < k + d → AW tb "ImageReaderModel" b_M_same 3 (some .boolean) false none fr lo (fun v h' => v = some (.int (bP (gfin HB KB = true))) ∧ ∃ fn' fb' fq' mn', h' m = some (mO cd ai cn am ln ak kl as_ aks ar an ab mn') ∧ h' an = some (.inl (0, 8192, .inl fn')) ∧ h' ab = some (.inl (0, 8192, .inl fb')) ∧ h' ar = some (.inl (0, 8192, .inl fq')) ∧ (∀ q, q ≠ m → q ≠ an → q ≠ ab → q ≠ ar → h' q = h q)) 100 [some (.ref m), some (.int r), some (.int (nI k))] [] g mc ms := by
  intro d
  induction d with
  | zero => intro k r g fn fb fq mn gm gi gk gs gt gn gb gq gf gmn hr_ hR hk hd; omega
  | succ d ih =>
    intro k r g fn fb fq mn gm gi gk gs gt gn gb gq gf gmn hr_ hR hk hd
    have hN := X.n
    refine aw_iload_n d_M_same_100 rfl ?_
    refine aw_bipush (v := nI 50) d_M_same_101 (by decide) ?_
    refine aw_icmp_ge (tgt := 137) d_M_same_103 (by decide) (fun c_103 => ?_) (fun c_103 => ?_)
    · rw [nI_leI (by omega) (by omega)] at c_103
      have hG : gsp HB KB 50 = gsp HB KB k := by rw [show k = 50 by omega]
      refine aw_iconst (v := nI 0) d_M_same_137 (by decide) ?_
      refine aw_istore_n (L' := [some (.ref m), some (.int r), some (.int (nI 0))]) d_M_same_138 (by decide) rfl rfl ?_
      exact lp_M_sameQ (by omega) (by omega) hHB hKB D0 X Y (nn HB + 1) 0 r g fn fb fq mn gm gi gk gs gt gn gb gq gf gmn (by rw [show gst HB KB 0 = gsp HB KB k from hG]; exact hr_) (fun z => by rw [show gst HB KB 0 = gsp HB KB k from hG] at z ⊢; exact hR z) (by omega) (by omega)
    · rw [nI_leI (by omega) (by omega)] at c_103
      refine aw_iload_n d_M_same_106 rfl ?_
      refine aw_if_eq (tgt := 137) d_M_same_107 (by decide) (fun c_107 => ?_) (fun c_107 => ?_)
      · rw [hr_, bP_eq0] at c_107
        have hG : gsp HB KB 50 = gsp HB KB k := by rw [show (50 : Nat) = k + (50 - k) by omega]; exact gsp_stop c_107 _
        refine aw_iconst (v := nI 0) d_M_same_137 (by decide) ?_
        refine aw_istore_n (L' := [some (.ref m), some (.int r), some (.int (nI 0))]) d_M_same_138 (by decide) rfl rfl ?_
        exact lp_M_sameQ (by omega) (by omega) hHB hKB D0 X Y (nn HB + 1) 0 r g fn fb fq mn gm gi gk gs gt gn gb gq gf gmn (by rw [show gst HB KB 0 = gsp HB KB k from hG]; exact hr_) (fun z => by rw [show gst HB KB 0 = gsp HB KB k from hG] at z ⊢; exact hR z) (by omega) (by omega)
      · rw [hr_, bP_eq0, Classical.not_not] at c_107
        refine aw_aload_n d_M_same_110 rfl ?_
        refine aw_aload_n d_M_same_111 rfl ?_
        refine aw_get fl_M_14 d_M_same_112 gm rfl ?_
        refine aw_iload_n d_M_same_115 rfl ?_
        refine aw_callSi (mc2 := mc) (ms2 := ms) (r := nI (sp HB k)) (As := [.ref am, .int (nI k)]) (rest := [.ref m]) (c_M_special_aBI hHB gi (by omega) k (by omega)) cs_M_65 d_M_same_116 rfl rfl (Nat.le_of_ble_eq_true rfl) (by omega) (by omega) (by omega) (by omega) ?_
        have b_116 : sp HB k < 4294967296 := bw_lt hHB _
        refine aw_aload_n d_M_same_119 rfl ?_
        refine aw_get fl_M_17 d_M_same_120 gm rfl ?_
        refine aw_iload_n d_M_same_123 rfl ?_
        refine aw_callSi (mc2 := mc) (ms2 := ms) (r := nI (sp KB k)) (As := [.ref ak, .int (nI k)]) (rest := [.int (nI (sp HB k)), .ref m]) (c_M_special_aBI hKB gk (by omega) k (by omega)) cs_M_65 d_M_same_124 rfl rfl (Nat.le_of_ble_eq_true rfl) (by omega) (by omega) (by omega) (by omega) ?_
        have b_124 : sp KB k < 4294967296 := bw_lt hKB _
        refine aw_callV (mc2 := mc) (ms2 := ms) (As := [.int (nI (sp HB k)), .int (nI (sp KB k))]) (rest := []) (c_M_goes D0 gm gn gb gq X.n.2 Y.n.2 (gsp_gd X.1 Y.1 k hk) (hR c_107) (sp HB k) (sp KB k) (by omega) (X.sv (by omega)) (by omega) (Y.sv (by omega))) cv_M_179 d_M_same_127 gm rfl rfl rfl (Nat.le_of_ble_eq_true rfl) (by omega) (by omega) (by omega) (by omega) (fun v_127 k_127c q_127 => ?_)
        obtain ⟨y1_127, fn_127, fb_127, fq_127, mn_127, y2_127, y3_127, y4_127, y5_127, y6_127, y7_127⟩ := q_127
        refine aw_st (st' := .int (bP ((pgo ((gsp HB KB k).1) (sp HB k) (sp KB k)).2 = true)) :: []) (by rw [y1_127]; rfl) ?_
        have y_127_am : k_127c am = some (.inl (1, 65536, .inl (bsf HB))) := by rw [y7_127 _ (av_apart gi gm) (av_apT gi gn (by decide)) (av_apT gi gb (by decide)) (av_apT gi gq (by decide))]; exact gi
        have y_127_ak : k_127c ak = some (.inl (1, 65536, .inl (bsf KB))) := by rw [y7_127 _ (av_apart gk gm) (av_apT gk gn (by decide)) (av_apT gk gb (by decide)) (av_apT gk gq (by decide))]; exact gk
        have y_127_as_ : k_127c as_ = some (.inl (0, 8192, .inl fs)) := by rw [y7_127 _ (av_apart gs gm) (D0.2.1.2.2.1) (D0.2.1.2.2.2) (D0.2.1.2.1)]; exact gs
        have y_127_aks : k_127c aks = some (.inl (0, 8192, .inl fks)) := by rw [y7_127 _ (av_apart gt gm) (D0.2.2.1.2.1) (D0.2.2.1.2.2) (D0.2.2.1.1)]; exact gt
        have y8_127 : mn_127 ≤ 8191 := by rw [y6_127.1]; exact Nat.le_trans (pgo_gd (gsp_gd X.1 Y.1 k hk) (ob_le (X.sv (by omega))) (ob_le (Y.sv (by omega)))).le X.n.2
        refine aw_istore_n (L' := [some (.ref m), some (.int (bP ((pgo ((gsp HB KB k).1) (sp HB k) (sp KB k)).2 = true))), some (.int (nI k))]) d_M_same_130 (by decide) rfl rfl ?_
        refine aw_iinc (v := nI (k + 1)) (L' := [some (.ref m), some (.int (bP ((pgo ((gsp HB KB k).1) (sp HB k) (sp KB k)).2 = true))), some (.int (nI (k + 1)))]) d_M_same_131 rfl (nI_add k 1) (by decide) rfl rfl ?_
        refine aw_goto (tgt := 100) d_M_same_134 (by decide) ?_
        exact ih (k + 1) _ _ _ _ _ _ y2_127 y_127_am y_127_ak y_127_as_ y_127_aks y3_127 y4_127 y5_127 (fun q b1 b2 b3 b4 => ((y7_127 q b1 b2 b3 b4).trans (gf q b1 b2 b3 b4))) y8_127 (by rw [gsp_t c_107]) (fun _ => by rw [gsp_t c_107]; exact y6_127) (by omega) (by omega)

set_option maxHeartbeats 4000000 in
theorem lp_M_sameZ {tb : Nat → Nat} {fr lo : Nat} {mc ms : Nat} (hfr : 0 ≤ fr) (hlo : 0 ≤ lo) {m ai am ak as_ aks ar an ab cn ln kl mn : Nat} {cd : Int32} {g0 : AH} {f0 f1 : Nat → Int32} {Post : Option Value → AH → Prop} (hne : an ≠ ab) (hm : g0 m = some (mO cd ai cn am ln ak kl as_ aks ar an ab mn)) (hn_ : g0 an = some (.inl (0, 8192, .inl f0))) (hb_ : g0 ab = some (.inl (0, 8192, .inl f1))) (kx : ∀ f f2 : Nat → Int32, (∀ k, k < 8192 → f k = nI 0 ∧ f2 k = nI 0) → AW tb "ImageReaderModel" b_M_same 3 (some .boolean) false none fr lo Post 96 [some (.ref m), none, none] [] (av_up (av_up g0 an (.inl (0, 8192, .inl f))) ab (.inl (0, 8192, .inl f2))) mc ms) : ∀ (d : Nat) (k : Nat) (f f2 : Nat → Int32), k ≤ 8192 → (∀ j, j < k → f j = nI 0 ∧ f2 j = nI 0) → 8192 < k + d → AW tb "ImageReaderModel" b_M_same 3 (some .boolean) false none fr lo (Post) 69 [some (.ref m), some (.int (nI k)), none] [] (av_up (av_up g0 an (.inl (0, 8192, .inl f))) ab (.inl (0, 8192, .inl f2))) mc ms := by
  intro d
  induction d with
  | zero => intro k f f2 hk hz hd; omega
  | succ d ih =>
    intro k f f2 hk hz hd
    have hm1 : (av_up (av_up g0 an (.inl (0, 8192, .inl f))) ab (.inl (0, 8192, .inl f2))) m = some (mO cd ai cn am ln ak kl as_ aks ar an ab mn) := by rw [av_up_ne (av_apart' hm hb_), av_up_ne (av_apart' hm hn_)]; exact hm
    have hn1 : (av_up (av_up g0 an (.inl (0, 8192, .inl f))) ab (.inl (0, 8192, .inl f2))) an = some (.inl (0, 8192, .inl f)) := by rw [av_up_ne hne]; exact av_up_self _ _ _
    have hb1 : (av_up (av_up g0 an (.inl (0, 8192, .inl f))) ab (.inl (0, 8192, .inl f2))) ab = some (.inl (0, 8192, .inl f2)) := av_up_self _ _ _
    refine aw_iload_n d_M_same_69 rfl ?_
    refine aw_sipush (v := nI 8192) d_M_same_70 (by decide) ?_
    refine aw_icmp_ge (tgt := 96) d_M_same_73 (by decide) (fun c_73 => ?_) (fun c_73 => ?_)
    · rw [nI_leI (by omega) (by omega)] at c_73
      refine aw_loc (L' := [some (.ref m), none, none]) (by intro i v hv; match i, hv with | 0, hv => exact hv | 1, hv => cases hv | 2, hv => cases hv | i + 3, hv => cases hv) ?_
      exact kx f f2 (fun j h => hz j (by omega))
    · rw [nI_leI (by omega) (by omega)] at c_73
      refine aw_aload_n d_M_same_76 rfl ?_
      refine aw_get fl_M_30 d_M_same_77 hm1 rfl ?_
      refine aw_iload_n d_M_same_80 rfl ?_
      refine aw_iconst (v := nI 0) d_M_same_81 (by decide) ?_
      refine aw_iast (f' := upd f k (nI 0)) d_M_same_82 hn1 (vp_in_nI (by omega) (by omega)) (by rw [nI_clamp (by omega)]) ?_
      obtain ⟨k_1, e_k_1⟩ : ∃ z, z = av_up (av_up (av_up g0 an (.inl (0, 8192, .inl f))) ab (.inl (0, 8192, .inl f2))) an (.inl (0, 8192, .inl (upd f k (nI 0)))) := ⟨_, rfl⟩
      refine aw_heap (h' := k_1) e_k_1.symm ?_
      have g1_m : k_1 m = some (.inr (5, [.int cd, .ref ai, .int (nI cn), .ref am, .int (nI ln), .ref ak, .int (nI kl), .ref as_, .ref aks, .ref ar, .ref an, .ref ab, .int (nI mn)])) := by rw [e_k_1, av_up_ne (av_apart' hm hn_)]; exact hm1
      have g1_ab : k_1 ab = some (.inl (0, 8192, .inl f2)) := by rw [e_k_1, av_up_ne (Ne.symm hne)]; exact hb1
      have g1_an : k_1 an = some (.inl (0, 8192, .inl (upd f k (nI 0)))) := by rw [e_k_1]; exact av_up_self _ _ _
      refine aw_aload_n d_M_same_83 rfl ?_
      refine aw_get fl_M_33 d_M_same_84 g1_m rfl ?_
      refine aw_iload_n d_M_same_87 rfl ?_
      refine aw_iconst (v := nI 0) d_M_same_88 (by decide) ?_
      refine aw_iast (f' := upd f2 k (nI 0)) d_M_same_89 g1_ab (vp_in_nI (by omega) (by omega)) (by rw [nI_clamp (by omega)]) ?_
      obtain ⟨k_2, e_k_2⟩ : ∃ z, z = av_up k_1 ab (.inl (0, 8192, .inl (upd f2 k (nI 0)))) := ⟨_, rfl⟩
      refine aw_heap (h' := k_2) e_k_2.symm ?_
      have g2_m : k_2 m = some (.inr (5, [.int cd, .ref ai, .int (nI cn), .ref am, .int (nI ln), .ref ak, .int (nI kl), .ref as_, .ref aks, .ref ar, .ref an, .ref ab, .int (nI mn)])) := by rw [e_k_2, av_up_ne (av_apart' hm hb_)]; exact g1_m
      have g2_an : k_2 an = some (.inl (0, 8192, .inl (upd f k (nI 0)))) := by rw [e_k_2, av_up_ne hne]; exact g1_an
      have g2_ab : k_2 ab = some (.inl (0, 8192, .inl (upd f2 k (nI 0)))) := by rw [e_k_2]; exact av_up_self _ _ _
      refine aw_iinc (v := nI (k + 1)) (L' := [some (.ref m), some (.int (nI (k + 1))), none]) d_M_same_90 rfl (nI_add k 1) (by decide) rfl rfl ?_
      refine aw_goto (tgt := 69) d_M_same_93 (by decide) ?_
      refine aw_heap (h' := (av_up (av_up g0 an (.inl (0, 8192, .inl (upd f k (nI 0))))) ab (.inl (0, 8192, .inl (upd f2 k (nI 0)))))) (by rw [e_k_2, e_k_1, av_up4 hne]) ?_
      exact ih (k + 1) _ _ (by omega) (fun j h => by unfold upd; by_cases z : j = k; (rw [if_pos z, if_pos z]; exact ⟨rfl, rfl⟩); (rw [if_neg z, if_neg z]; exact hz j (by omega))) (by omega)

def sameS (ln kl : Nat) (HB KB : Nat → Nat) : Prop := 0 < ln ∧ 0 < kl ∧ HB 4 = KB 4 ∧ HB 5 = KB 5 ∧ gfin HB KB = true

set_option maxHeartbeats 4000000 in
theorem c_M_same {tb : Nat → Nat} {h : AH} {m ai am ak as_ aks ar an ab cn ln kl mn : Nat} {cd : Int32} {B HB KB : Nat → Nat} {fs fks fq fn fb : Nat → Int32} (M0 : mS h m ai am ak as_ aks ar an ab cd cn ln kl mn B HB KB fs fks fq fn fb) (K0 : mOK cn ln kl B HB KB fs) (D0 : mND ai am ak as_ aks ar an ab)  : AM tb y_M_same b_M_same 3 (some .boolean) 4 86 [.ref m] h 0 0 (fun v h' => v = some (.int (bP (sameS ln kl HB KB))) ∧ ∃ fks' fn' fb' fq' mn', mS h' m ai am ak as_ aks ar an ab (nI 0) cn ln kl mn' B HB KB fs fks' fq' fn' fb' ∧ mFr m ai am ak as_ aks ar an ab h h') := by
  have k_ln := K0.2.2.2.2.1
  have k_nn : nn HB < 65536 := bh_lt K0.2.1 6
  have k_kl := K0.2.2.2.2.2.1
  refine am_of (ini := false) [some (.ref m), none, none] (by decide) (fun z => by cases z) (Nat.le_of_ble_eq_true rfl) rfl ?_
  refine aw_aload_n d_M_same_0 rfl ?_
  refine aw_iconst (v := nI 0) d_M_same_1 (by decide) ?_
  refine aw_put (fs' := [.int (nI 0), .ref ai, .int (nI cn), .ref am, .int (nI ln), .ref ak, .int (nI kl), .ref as_, .ref aks, .ref ar, .ref an, .ref ab, .int (nI mn)]) (pt_M_36 _) d_M_same_2 M0.1 rfl rfl (by simp) rfl ?_
  obtain ⟨k_1, e_k_1⟩ : ∃ z, z = av_up h m (.inr (5, [.int (nI 0), .ref ai, .int (nI cn), .ref am, .int (nI ln), .ref ak, .int (nI kl), .ref as_, .ref aks, .ref ar, .ref an, .ref ab, .int (nI mn)])) := ⟨_, rfl⟩
  refine aw_heap (h' := k_1) e_k_1.symm ?_
  have g1_ai : k_1 ai = some (.inl (1, 65536, .inl (bsf B))) := by rw [e_k_1, av_up_ne (av_apart M0.2.1 M0.1)]; exact M0.2.1
  have g1_am : k_1 am = some (.inl (1, 65536, .inl (bsf HB))) := by rw [e_k_1, av_up_ne (av_apart M0.2.2.1 M0.1)]; exact M0.2.2.1
  have g1_ak : k_1 ak = some (.inl (1, 65536, .inl (bsf KB))) := by rw [e_k_1, av_up_ne (av_apart M0.2.2.2.1 M0.1)]; exact M0.2.2.2.1
  have g1_as_ : k_1 as_ = some (.inl (0, 8192, .inl fs)) := by rw [e_k_1, av_up_ne (av_apart M0.2.2.2.2.1 M0.1)]; exact M0.2.2.2.2.1
  have g1_aks : k_1 aks = some (.inl (0, 8192, .inl fks)) := by rw [e_k_1, av_up_ne (av_apart M0.2.2.2.2.2.1 M0.1)]; exact M0.2.2.2.2.2.1
  have g1_ar : k_1 ar = some (.inl (0, 8192, .inl fq)) := by rw [e_k_1, av_up_ne (av_apart M0.2.2.2.2.2.2.1 M0.1)]; exact M0.2.2.2.2.2.2.1
  have g1_an : k_1 an = some (.inl (0, 8192, .inl fn)) := by rw [e_k_1, av_up_ne (av_apart M0.2.2.2.2.2.2.2.1 M0.1)]; exact M0.2.2.2.2.2.2.2.1
  have g1_ab : k_1 ab = some (.inl (0, 8192, .inl fb)) := by rw [e_k_1, av_up_ne (av_apart M0.2.2.2.2.2.2.2.2 M0.1)]; exact M0.2.2.2.2.2.2.2.2
  have g1_m : k_1 m = some (.inr (5, [.int (nI 0), .ref ai, .int (nI cn), .ref am, .int (nI ln), .ref ak, .int (nI kl), .ref as_, .ref aks, .ref ar, .ref an, .ref ab, .int (nI mn)])) := by rw [e_k_1]; exact av_up_self _ _ _
  refine aw_aload_n d_M_same_5 rfl ?_
  refine aw_get fl_M_149 d_M_same_6 g1_m rfl ?_
  refine aw_if_eq (tgt := 49) d_M_same_9 (by decide) (fun c_9 => ?_) (fun c_9 => ?_)
  · rw [w_eq0 (by omega)] at c_9
    refine aw_iconst (v := nI 0) d_M_same_49 (by decide) ?_
    exact aw_iret d_M_same_50 rfl nar0 ⟨by rw [bP_f (fun z => by first | exact absurd c_9 (by have := z.1; omega) | exact absurd c_16 (by have := z.2.1; omega) | exact c_31 z.2.2.1 | exact c_46 z.2.2.2.1)], _, _, _, _, _, ⟨g1_m, g1_ai, g1_am, g1_ak, g1_as_, g1_aks, g1_ar, g1_an, g1_ab⟩, fun q a_m a_ai a_am a_ak a_as_ a_aks a_ar a_an a_ab => by rw [e_k_1, av_up_ne a_m]⟩
  · rw [w_eq0 (by omega)] at c_9
    refine aw_aload_n d_M_same_12 rfl ?_
    refine aw_get fl_M_176 d_M_same_13 g1_m rfl ?_
    refine aw_if_eq (tgt := 49) d_M_same_16 (by decide) (fun c_16 => ?_) (fun c_16 => ?_)
    · rw [w_eq0 (by omega)] at c_16
      refine aw_iconst (v := nI 0) d_M_same_49 (by decide) ?_
      exact aw_iret d_M_same_50 rfl nar0 ⟨by rw [bP_f (fun z => by first | exact absurd c_9 (by have := z.1; omega) | exact absurd c_16 (by have := z.2.1; omega) | exact c_31 z.2.2.1 | exact c_46 z.2.2.2.1)], _, _, _, _, _, ⟨g1_m, g1_ai, g1_am, g1_ak, g1_as_, g1_aks, g1_ar, g1_an, g1_ab⟩, fun q a_m a_ai a_am a_ak a_as_ a_aks a_ar a_an a_ab => by rw [e_k_1, av_up_ne a_m]⟩
    · rw [w_eq0 (by omega)] at c_16
      refine aw_aload_n d_M_same_19 rfl ?_
      refine aw_get fl_M_14 d_M_same_20 g1_m rfl ?_
      refine aw_iconst (v := nI 4) d_M_same_23 (by decide) ?_
      refine aw_bald (x := bs (HB 4)) d_M_same_24 g1_am (vp_in_nI (by omega) (by omega)) (by rw [nI_clamp (by omega)]; rfl) ?_
      refine aw_aload_n d_M_same_25 rfl ?_
      refine aw_get fl_M_17 d_M_same_26 g1_m rfl ?_
      refine aw_iconst (v := nI 4) d_M_same_29 (by decide) ?_
      refine aw_bald (x := bs (KB 4)) d_M_same_30 g1_ak (vp_in_nI (by omega) (by omega)) (by rw [nI_clamp (by omega)]; rfl) ?_
      refine aw_icmp_ne (tgt := 49) d_M_same_31 (by decide) (fun c_31 => ?_) (fun c_31 => ?_)
      · rw [bs_eq (K0.2.1 _) (K0.2.2.1 _)] at c_31
        refine aw_iconst (v := nI 0) d_M_same_49 (by decide) ?_
        exact aw_iret d_M_same_50 rfl nar0 ⟨by rw [bP_f (fun z => by first | exact absurd c_9 (by have := z.1; omega) | exact absurd c_16 (by have := z.2.1; omega) | exact c_31 z.2.2.1 | exact c_46 z.2.2.2.1)], _, _, _, _, _, ⟨g1_m, g1_ai, g1_am, g1_ak, g1_as_, g1_aks, g1_ar, g1_an, g1_ab⟩, fun q a_m a_ai a_am a_ak a_as_ a_aks a_ar a_an a_ab => by rw [e_k_1, av_up_ne a_m]⟩
      · rw [bs_eq (K0.2.1 _) (K0.2.2.1 _)] at c_31
        refine aw_aload_n d_M_same_34 rfl ?_
        refine aw_get fl_M_14 d_M_same_35 g1_m rfl ?_
        refine aw_iconst (v := nI 5) d_M_same_38 (by decide) ?_
        refine aw_bald (x := bs (HB 5)) d_M_same_39 g1_am (vp_in_nI (by omega) (by omega)) (by rw [nI_clamp (by omega)]; rfl) ?_
        refine aw_aload_n d_M_same_40 rfl ?_
        refine aw_get fl_M_17 d_M_same_41 g1_m rfl ?_
        refine aw_iconst (v := nI 5) d_M_same_44 (by decide) ?_
        refine aw_bald (x := bs (KB 5)) d_M_same_45 g1_ak (vp_in_nI (by omega) (by omega)) (by rw [nI_clamp (by omega)]; rfl) ?_
        refine aw_icmp_eq (tgt := 51) d_M_same_46 (by decide) (fun c_46 => ?_) (fun c_46 => ?_)
        · rw [bs_eq (K0.2.1 _) (K0.2.2.1 _)] at c_46
          have X := (K0.2.2.2.2.2.2.1 (by omega)).2
          have LK := K0.2.2.2.2.2.2.2 (by omega)
          refine aw_aload_n d_M_same_51 rfl ?_
          refine aw_get fl_M_17 d_M_same_52 g1_m rfl ?_
          refine aw_aload_n d_M_same_55 rfl ?_
          refine aw_get fl_M_24 d_M_same_56 g1_m rfl ?_
          refine aw_callS (mc2 := 0) (ms2 := 0) (As := [.ref ak, .ref aks]) (rest := []) (c_M_note K0.2.2.1 g1_ak g1_aks LK) cs_M_152 d_M_same_59 rfl rfl (Nat.le_of_ble_eq_true rfl) (by decide) (by decide) (by omega) (by omega) (fun v_59 k_59c q_59 => ?_)
          obtain ⟨n1_59, f_59, n2_59, n3_59⟩ := q_59
          refine aw_st (st' := []) (by rw [n1_59]; rfl) ?_
          have gn59_ai : k_59c ai = some (.inl (1, 65536, .inl (bsf B))) := by rw [n2_59, av_up_ne (av_apT g1_ai g1_aks (by decide))]; exact g1_ai
          have gn59_am : k_59c am = some (.inl (1, 65536, .inl (bsf HB))) := by rw [n2_59, av_up_ne (av_apT g1_am g1_aks (by decide))]; exact g1_am
          have gn59_ak : k_59c ak = some (.inl (1, 65536, .inl (bsf KB))) := by rw [n2_59, av_up_ne (av_apT g1_ak g1_aks (by decide))]; exact g1_ak
          have gn59_as_ : k_59c as_ = some (.inl (0, 8192, .inl fs)) := by rw [n2_59, av_up_ne D0.2.1.1]; exact g1_as_
          have gn59_ar : k_59c ar = some (.inl (0, 8192, .inl fq)) := by rw [n2_59, av_up_ne (Ne.symm D0.2.2.1.1)]; exact g1_ar
          have gn59_an : k_59c an = some (.inl (0, 8192, .inl fn)) := by rw [n2_59, av_up_ne (Ne.symm D0.2.2.1.2.1)]; exact g1_an
          have gn59_ab : k_59c ab = some (.inl (0, 8192, .inl fb)) := by rw [n2_59, av_up_ne (Ne.symm D0.2.2.1.2.2)]; exact g1_ab
          have gn59_m : k_59c m = some (.inr (5, [.int (nI 0), .ref ai, .int (nI cn), .ref am, .int (nI ln), .ref ak, .int (nI kl), .ref as_, .ref aks, .ref ar, .ref an, .ref ab, .int (nI mn)])) := by rw [n2_59, av_up_ne (av_apart' g1_m g1_aks)]; exact g1_m
          have gn59_aks : k_59c aks = some (.inl (0, 8192, .inl f_59)) := by rw [n2_59]; exact av_up_self _ _ _
          have Y : VX KB kl f_59 := ⟨LK, n3_59⟩
          refine aw_aload_n d_M_same_62 rfl ?_
          refine aw_iconst (v := nI 0) d_M_same_63 (by decide) ?_
          refine aw_put (fs' := [.int (nI 0), .ref ai, .int (nI cn), .ref am, .int (nI ln), .ref ak, .int (nI kl), .ref as_, .ref aks, .ref ar, .ref an, .ref ab, .int (nI 0)]) (pt_M_159 _) d_M_same_64 gn59_m rfl rfl (by simp) rfl ?_
          obtain ⟨k_2, e_k_2⟩ : ∃ z, z = av_up k_59c m (.inr (5, [.int (nI 0), .ref ai, .int (nI cn), .ref am, .int (nI ln), .ref ak, .int (nI kl), .ref as_, .ref aks, .ref ar, .ref an, .ref ab, .int (nI 0)])) := ⟨_, rfl⟩
          refine aw_heap (h' := k_2) e_k_2.symm ?_
          have g2_ai : k_2 ai = some (.inl (1, 65536, .inl (bsf B))) := by rw [e_k_2, av_up_ne (av_apart gn59_ai gn59_m)]; exact gn59_ai
          have g2_am : k_2 am = some (.inl (1, 65536, .inl (bsf HB))) := by rw [e_k_2, av_up_ne (av_apart gn59_am gn59_m)]; exact gn59_am
          have g2_ak : k_2 ak = some (.inl (1, 65536, .inl (bsf KB))) := by rw [e_k_2, av_up_ne (av_apart gn59_ak gn59_m)]; exact gn59_ak
          have g2_as_ : k_2 as_ = some (.inl (0, 8192, .inl fs)) := by rw [e_k_2, av_up_ne (av_apart gn59_as_ gn59_m)]; exact gn59_as_
          have g2_ar : k_2 ar = some (.inl (0, 8192, .inl fq)) := by rw [e_k_2, av_up_ne (av_apart gn59_ar gn59_m)]; exact gn59_ar
          have g2_an : k_2 an = some (.inl (0, 8192, .inl fn)) := by rw [e_k_2, av_up_ne (av_apart gn59_an gn59_m)]; exact gn59_an
          have g2_ab : k_2 ab = some (.inl (0, 8192, .inl fb)) := by rw [e_k_2, av_up_ne (av_apart gn59_ab gn59_m)]; exact gn59_ab
          have g2_aks : k_2 aks = some (.inl (0, 8192, .inl f_59)) := by rw [e_k_2, av_up_ne (av_apart gn59_aks gn59_m)]; exact gn59_aks
          have g2_m : k_2 m = some (.inr (5, [.int (nI 0), .ref ai, .int (nI cn), .ref am, .int (nI ln), .ref ak, .int (nI kl), .ref as_, .ref aks, .ref ar, .ref an, .ref ab, .int (nI 0)])) := by rw [e_k_2]; exact av_up_self _ _ _
          refine aw_iconst (v := nI 0) d_M_same_67 (by decide) ?_
          refine aw_istore_n (L' := [some (.ref m), some (.int (nI 0)), none]) d_M_same_68 (by decide) rfl rfl ?_
          refine lp_M_sameZ (by decide) (by decide) D0.2.2.2.2 g2_m g2_an g2_ab (fun f1 f2 hz => ?_) 8193 0 fn fb (by omega) (fun j h => by omega) (by omega) |> (fun z => aw_heap (by rw [av_up_id g2_an, av_up_id g2_ab]) z)
          obtain ⟨k_L, e_L⟩ : ∃ z, z = av_up k_2 an (.inl (0, 8192, .inl f1)) := ⟨_, rfl⟩
          rw [← e_L]
          have gL_ai : k_L ai = some (.inl (1, 65536, .inl (bsf B))) := by rw [e_L, av_up_ne (av_apT g2_ai g2_an (by decide))]; exact g2_ai
          have gL_am : k_L am = some (.inl (1, 65536, .inl (bsf HB))) := by rw [e_L, av_up_ne (av_apT g2_am g2_an (by decide))]; exact g2_am
          have gL_ak : k_L ak = some (.inl (1, 65536, .inl (bsf KB))) := by rw [e_L, av_up_ne (av_apT g2_ak g2_an (by decide))]; exact g2_ak
          have gL_as_ : k_L as_ = some (.inl (0, 8192, .inl fs)) := by rw [e_L, av_up_ne D0.2.1.2.2.1]; exact g2_as_
          have gL_ar : k_L ar = some (.inl (0, 8192, .inl fq)) := by rw [e_L, av_up_ne D0.2.2.2.1.1]; exact g2_ar
          have gL_ab : k_L ab = some (.inl (0, 8192, .inl fb)) := by rw [e_L, av_up_ne (Ne.symm D0.2.2.2.2)]; exact g2_ab
          have gL_aks : k_L aks = some (.inl (0, 8192, .inl f_59)) := by rw [e_L, av_up_ne D0.2.2.1.2.1]; exact g2_aks
          have gL_m : k_L m = some (.inr (5, [.int (nI 0), .ref ai, .int (nI cn), .ref am, .int (nI ln), .ref ak, .int (nI kl), .ref as_, .ref aks, .ref ar, .ref an, .ref ab, .int (nI 0)])) := by rw [e_L, av_up_ne (av_apart' g2_m g2_an)]; exact g2_m
          have gL_an : k_L an = some (.inl (0, 8192, .inl f1)) := by rw [e_L]; exact av_up_self _ _ _
          obtain ⟨k_R, e_R⟩ : ∃ z, z = av_up k_L ab (.inl (0, 8192, .inl f2)) := ⟨_, rfl⟩
          refine aw_heap (h' := k_R) e_R.symm ?_
          have gR_ai : k_R ai = some (.inl (1, 65536, .inl (bsf B))) := by rw [e_R, av_up_ne (av_apT gL_ai gL_ab (by decide))]; exact gL_ai
          have gR_am : k_R am = some (.inl (1, 65536, .inl (bsf HB))) := by rw [e_R, av_up_ne (av_apT gL_am gL_ab (by decide))]; exact gL_am
          have gR_ak : k_R ak = some (.inl (1, 65536, .inl (bsf KB))) := by rw [e_R, av_up_ne (av_apT gL_ak gL_ab (by decide))]; exact gL_ak
          have gR_as_ : k_R as_ = some (.inl (0, 8192, .inl fs)) := by rw [e_R, av_up_ne D0.2.1.2.2.2]; exact gL_as_
          have gR_ar : k_R ar = some (.inl (0, 8192, .inl fq)) := by rw [e_R, av_up_ne D0.2.2.2.1.2]; exact gL_ar
          have gR_aks : k_R aks = some (.inl (0, 8192, .inl f_59)) := by rw [e_R, av_up_ne D0.2.2.1.2.2]; exact gL_aks
          have gR_m : k_R m = some (.inr (5, [.int (nI 0), .ref ai, .int (nI cn), .ref am, .int (nI ln), .ref ak, .int (nI kl), .ref as_, .ref aks, .ref ar, .ref an, .ref ab, .int (nI 0)])) := by rw [e_R, av_up_ne (av_apart' gL_m gL_ab)]; exact gL_m
          have gR_an : k_R an = some (.inl (0, 8192, .inl f1)) := by rw [e_R, av_up_ne D0.2.2.2.2]; exact gL_an
          have gR_ab : k_R ab = some (.inl (0, 8192, .inl f2)) := by rw [e_R]; exact av_up_self _ _ _
          refine aw_iconst (v := nI 1) d_M_same_96 (by decide) ?_
          refine aw_istore_n (L' := [some (.ref m), some (.int (nI 1)), none]) d_M_same_97 (by decide) rfl rfl ?_
          refine aw_iconst (v := nI 0) d_M_same_98 (by decide) ?_
          refine aw_istore_n (L' := [some (.ref m), some (.int (nI 1)), some (.int (nI 0))]) d_M_same_99 (by decide) rfl rfl ?_
          refine aw_post (fun v g q => ?_) (lp_M_sameS (by decide) (by decide) K0.2.1 K0.2.2.1 D0 X Y 51 0 _ k_R _ _ _ 0 gR_m gR_am gR_ak gR_as_ gR_aks gR_an gR_ab gR_ar (fun _ _ _ _ _ => rfl) (by decide) (bP_t rfl).symm (fun _ => ⟨rfl, fun k h => (hz k h).1, fun k h => (hz k h).2, fun j h => absurd h (Nat.not_lt_zero j)⟩) (by omega) (by omega))
          obtain ⟨t1, fn_9, fb_9, fq_9, mn_9, t2, t3, t4, t5, t7⟩ := q
          have t_ai : g ai = some (.inl (1, 65536, .inl (bsf B))) := by rw [t7 _ (av_apart gR_ai gR_m) (av_apT gR_ai gR_an (by decide)) (av_apT gR_ai gR_ab (by decide)) (av_apT gR_ai gR_ar (by decide))]; exact gR_ai
          have t_am : g am = some (.inl (1, 65536, .inl (bsf HB))) := by rw [t7 _ (av_apart gR_am gR_m) (av_apT gR_am gR_an (by decide)) (av_apT gR_am gR_ab (by decide)) (av_apT gR_am gR_ar (by decide))]; exact gR_am
          have t_ak : g ak = some (.inl (1, 65536, .inl (bsf KB))) := by rw [t7 _ (av_apart gR_ak gR_m) (av_apT gR_ak gR_an (by decide)) (av_apT gR_ak gR_ab (by decide)) (av_apT gR_ak gR_ar (by decide))]; exact gR_ak
          have t_as_ : g as_ = some (.inl (0, 8192, .inl fs)) := by rw [t7 _ (av_apart gR_as_ gR_m) (D0.2.1.2.2.1) (D0.2.1.2.2.2) (D0.2.1.2.1)]; exact gR_as_
          have t_aks : g aks = some (.inl (0, 8192, .inl f_59)) := by rw [t7 _ (av_apart gR_aks gR_m) (D0.2.2.1.2.1) (D0.2.2.1.2.2) (D0.2.2.1.1)]; exact gR_aks
          exact ⟨by rw [t1, bP_congr (show gfin HB KB = true ↔ sameS ln kl HB KB from ⟨fun z => ⟨by omega, by omega, c_31, c_46, z⟩, fun z => z.2.2.2.2⟩)], _, _, _, _, _, ⟨t2, t_ai, t_am, t_ak, t_as_, t_aks, t5, t3, t4⟩, fun q a_m a_ai a_am a_ak a_as_ a_aks a_ar a_an a_ab => by rw [t7 q a_m a_an a_ab a_ar, e_R, av_up_ne a_ab, e_L, av_up_ne a_an, e_k_2, av_up_ne a_m, n2_59, av_up_ne a_aks, e_k_1, av_up_ne a_m]⟩
        · rw [bs_eq (K0.2.1 _) (K0.2.2.1 _)] at c_46
          refine aw_iconst (v := nI 0) d_M_same_49 (by decide) ?_
          exact aw_iret d_M_same_50 rfl nar0 ⟨by rw [bP_f (fun z => by first | exact absurd c_9 (by have := z.1; omega) | exact absurd c_16 (by have := z.2.1; omega) | exact c_31 z.2.2.1 | exact c_46 z.2.2.2.1)], _, _, _, _, _, ⟨g1_m, g1_ai, g1_am, g1_ak, g1_as_, g1_aks, g1_ar, g1_an, g1_ab⟩, fun q a_m a_ai a_am a_ak a_as_ a_aks a_ar a_an a_ab => by rw [e_k_1, av_up_ne a_m]⟩
