set_option maxHeartbeats 4000000 in
theorem c_M_reach {tb : Nat → Nat} {h : AH} {m ai am ak as_ aks ar an ab cn ln kl mn : Nat} {cd : Int32} {fn fq : Nat → Int32} {s : BS} {N : Nat} (hm : h m = some (mO cd ai cn am ln ak kl as_ aks ar an ab mn)) (hn_ : h an = some (.inl (0, 8192, .inl fn))) (hq_ : h ar = some (.inl (0, 8192, .inl fq))) (hne : ar ≠ an) (hN : N ≤ 8191) (hg : vgood N s) (hR : RB s fn fq mn) (u : Nat) (hu : u < 4294967296) (hv : vl N u) : AM tb y_M_reach b_M_reach 2 none 1 20 [.ref m, .int (nI u)] h 0 0 (fun v h' => v = none ∧ ∃ fn' fq' mn', h' m = some (mO cd ai cn am ln ak kl as_ aks ar an ab mn') ∧ h' an = some (.inl (0, 8192, .inl fn')) ∧ h' ar = some (.inl (0, 8192, .inl fq')) ∧ RB (vis s (ob u)) fn' fq' mn' ∧ ∀ q, q ≠ m → q ≠ an → q ≠ ar → h' q = h q) := by
  refine am_of (ini := false) [some (.ref m), some (.int (nI u))] (by decide) (fun z => by cases z) (Nat.le_of_ble_eq_true rfl) rfl ?_
  refine aw_iload_n d_M_reach_0 rfl ?_
  refine aw_callSi (mc2 := 0) (ms2 := 0) (r := bP (ob u ≠ 0)) (As := [.int (nI u)]) (rest := []) (c_M_isObject u (by omega) (vl_e hv hN)) cs_M_57 d_M_reach_1 rfl rfl (Nat.le_of_ble_eq_true rfl) (by decide) (by decide) (by omega) (by omega) ?_
  refine aw_if_eq (tgt := 49) d_M_reach_4 (by decide) (fun c_4 => ?_) (fun c_4 => ?_)
  · rw [bP_eq0] at c_4
    exact aw_vret d_M_reach_49 rfl ⟨rfl, fn, fq, mn, hm, hn_, hq_, by rw [vis_n (by first | exact fun z => z.1 (Classical.not_not.mp c_4) | (rw [e_4]; exact fun z => c_14 z.2))]; exact hR, fun q _ _ _ => rfl⟩
  · rw [bP_eq0, Classical.not_not] at c_4
    obtain ⟨e_1, e_2, e_3, e_4, e_5, e_6⟩ := ob_of hv c_4
    have hmn := hR.1
    have hle := hg.le
    have h1l := hg.2.1 (u / 2)
    refine aw_aload_n d_M_reach_7 rfl ?_
    refine aw_get fl_M_30 d_M_reach_8 hm rfl ?_
    refine aw_iload_n d_M_reach_11 rfl ?_
    refine aw_iconst (v := nI 2) d_M_reach_12 (by decide) ?_
    refine aw_idiv (v := nI (u / 2)) d_M_reach_13 (by decide) (pk_div (by omega) (by decide) (by decide)) ?_
    refine aw_iald (x := nI (s.1 (u / 2))) d_M_reach_14 hn_ (vp_in_nI (by omega) (by omega)) (by rw [nI_clamp (by omega)]; exact hR.2.1 _ (by omega)) ?_
    refine aw_if_ne (tgt := 49) d_M_reach_15 (by decide) (fun c_15 => ?_) (fun c_15 => ?_)
    · rw [w_eq0 (by omega)] at c_15
      have c_14 := c_15
      exact aw_vret d_M_reach_49 rfl ⟨rfl, fn, fq, mn, hm, hn_, hq_, by rw [vis_n (by first | exact fun z => z.1 (Classical.not_not.mp c_4) | (rw [e_4]; exact fun z => c_14 z.2))]; exact hR, fun q _ _ _ => rfl⟩
    · rw [w_eq0 (by omega)] at c_15
      have e_s := c_15
      have hlt := hg.lt (k := u / 2) e_s (by omega) (by omega)
      refine aw_aload_n d_M_reach_18 rfl ?_
      refine aw_get fl_M_30 d_M_reach_19 hm rfl ?_
      refine aw_iload_n d_M_reach_22 rfl ?_
      refine aw_iconst (v := nI 2) d_M_reach_23 (by decide) ?_
      refine aw_idiv (v := nI (u / 2)) d_M_reach_24 (by decide) (pk_div (by omega) (by decide) (by decide)) ?_
      refine aw_iconst (v := nI 1) d_M_reach_25 (by decide) ?_
      refine aw_iast (f' := upd fn (u / 2) (nI 1)) d_M_reach_26 hn_ (vp_in_nI (by omega) (by omega)) (by rw [nI_clamp (by omega)]) ?_
      obtain ⟨k_1, e_k_1⟩ : ∃ z, z = av_up h an (.inl (0, 8192, .inl (upd fn (u / 2) (nI 1)))) := ⟨_, rfl⟩
      refine aw_heap (h' := k_1) e_k_1.symm ?_
      have g1_m : k_1 m = some (.inr (5, [.int cd, .ref ai, .int (nI cn), .ref am, .int (nI ln), .ref ak, .int (nI kl), .ref as_, .ref aks, .ref ar, .ref an, .ref ab, .int (nI mn)])) := by rw [e_k_1, av_up_ne (av_apart' hm hn_)]; exact hm
      have g1_ar : k_1 ar = some (.inl (0, 8192, .inl fq)) := by rw [e_k_1, av_up_ne hne]; exact hq_
      have g1_an : k_1 an = some (.inl (0, 8192, .inl (upd fn (u / 2) (nI 1)))) := by rw [e_k_1]; exact av_up_self _ _ _
      refine aw_aload_n d_M_reach_27 rfl ?_
      refine aw_get fl_M_27 d_M_reach_28 g1_m rfl ?_
      refine aw_aload_n d_M_reach_31 rfl ?_
      refine aw_get fl_M_159 d_M_reach_32 g1_m rfl ?_
      refine aw_iload_n d_M_reach_35 rfl ?_
      refine aw_iconst (v := nI 2) d_M_reach_36 (by decide) ?_
      refine aw_idiv (v := nI (u / 2)) d_M_reach_37 (by decide) (pk_div (by omega) (by decide) (by decide)) ?_
      refine aw_iast (f' := upd fq mn (nI (u / 2))) d_M_reach_38 g1_ar (vp_in_nI (by omega) (by omega)) (by rw [nI_clamp (by omega)]) ?_
      obtain ⟨k_2, e_k_2⟩ : ∃ z, z = av_up k_1 ar (.inl (0, 8192, .inl (upd fq mn (nI (u / 2))))) := ⟨_, rfl⟩
      refine aw_heap (h' := k_2) e_k_2.symm ?_
      have g2_m : k_2 m = some (.inr (5, [.int cd, .ref ai, .int (nI cn), .ref am, .int (nI ln), .ref ak, .int (nI kl), .ref as_, .ref aks, .ref ar, .ref an, .ref ab, .int (nI mn)])) := by rw [e_k_2, av_up_ne (av_apart' g1_m g1_ar)]; exact g1_m
      have g2_an : k_2 an = some (.inl (0, 8192, .inl (upd fn (u / 2) (nI 1)))) := by rw [e_k_2, av_up_ne (Ne.symm hne)]; exact g1_an
      have g2_ar : k_2 ar = some (.inl (0, 8192, .inl (upd fq mn (nI (u / 2))))) := by rw [e_k_2]; exact av_up_self _ _ _
      refine aw_aload_n d_M_reach_39 rfl ?_
      refine aw_dup d_M_reach_40 rfl ?_
      refine aw_get fl_M_159 d_M_reach_41 g2_m rfl ?_
      refine aw_iconst (v := nI 1) d_M_reach_44 (by decide) ?_
      refine aw_iadd (v := nI (mn + 1)) d_M_reach_45 (nI_add _ _) ?_
      refine aw_put (fs' := [.int cd, .ref ai, .int (nI cn), .ref am, .int (nI ln), .ref ak, .int (nI kl), .ref as_, .ref aks, .ref ar, .ref an, .ref ab, .int (nI (mn + 1))]) (pt_M_159 _) d_M_reach_46 g2_m rfl rfl (by simp) rfl ?_
      obtain ⟨k_3, e_k_3⟩ : ∃ z, z = av_up k_2 m (.inr (5, [.int cd, .ref ai, .int (nI cn), .ref am, .int (nI ln), .ref ak, .int (nI kl), .ref as_, .ref aks, .ref ar, .ref an, .ref ab, .int (nI (mn + 1))])) := ⟨_, rfl⟩
      refine aw_heap (h' := k_3) e_k_3.symm ?_
      have g3_an : k_3 an = some (.inl (0, 8192, .inl (upd fn (u / 2) (nI 1)))) := by rw [e_k_3, av_up_ne (av_apart g2_an g2_m)]; exact g2_an
      have g3_ar : k_3 ar = some (.inl (0, 8192, .inl (upd fq mn (nI (u / 2))))) := by rw [e_k_3, av_up_ne (av_apart g2_ar g2_m)]; exact g2_ar
      have g3_m : k_3 m = some (.inr (5, [.int cd, .ref ai, .int (nI cn), .ref am, .int (nI ln), .ref ak, .int (nI kl), .ref as_, .ref aks, .ref ar, .ref an, .ref ab, .int (nI (mn + 1))])) := by rw [e_k_3]; exact av_up_self _ _ _
      exact aw_vret d_M_reach_49 rfl ⟨rfl, _, _, _, g3_m, g3_an, g3_ar, (e_4 ▸ hR.y (k := u / 2) ⟨by omega, e_s⟩), fun q a_m a_an a_ar => by rw [e_k_3, av_up_ne a_m, e_k_2, av_up_ne a_ar, e_k_1, av_up_ne a_an]⟩

set_option maxHeartbeats 4000000 in
theorem lp_M_reachAllF {tb : Nat → Nat} {h : AH} {fr lo : Nat} {mc ms : Nat} (hfr : 2 ≤ fr) (hlo : 43 ≤ lo) {m ai am ak as_ aks ar an ab cn ln kl : Nat} {cd : Int32} {HB : Nat → Nat} {fs : Nat → Int32} (hHB : ∀ i, HB i < 256) (D0 : mND ai am ak as_ aks ar an ab) (X : VX HB ln fs) (s : BS) (hs : vgood (nn HB) s) (j vj : Nat) (q1 : 1 ≤ vj) (q2 : vj ≤ nn HB) (kx : ∀ (g : AH) (fn fq : Nat → Int32) (mn : Nat), g m = some (mO cd ai cn am ln ak kl as_ aks ar an ab mn) → g am = some (.inl (1, 65536, .inl (bsf HB))) → g as_ = some (.inl (0, 8192, .inl fs)) → g an = some (.inl (0, 8192, .inl fn)) → g ar = some (.inl (0, 8192, .inl fq)) → (∀ q, q ≠ m → q ≠ an → q ≠ ar → g q = h q) → RB (vob HB s vj) fn fq mn → AW tb "ImageReaderModel" b_M_reachAll 4 none false none fr lo (fun v h' => v = none ∧ ∃ fn' fq' mn', h' m = some (mO cd ai cn am ln ak kl as_ aks ar an ab mn') ∧ h' an = some (.inl (0, 8192, .inl fn')) ∧ h' ar = some (.inl (0, 8192, .inl fq')) ∧ RB (vfin HB) fn' fq' mn' ∧ (∀ q, q ≠ m → q ≠ an → q ≠ ar → h' q = h q)) 131 [some (.ref m), some (.int (nI j)), none, none] [] g mc ms) : ∀ (d : Nat) (i : Nat) (g : AH) (fn fq : Nat → Int32) (mn : Nat), g m = some (mO cd ai cn am ln ak kl as_ aks ar an ab mn) → g am = some (.inl (1, 65536, .inl (bsf HB))) → g as_ = some (.inl (0, 8192, .inl fs)) → g an = some (.inl (0, 8192, .inl fn)) → g ar = some (.inl (0, 8192, .inl fq)) → (∀ q, q ≠ m → q ≠ an → q ≠ ar → g q = h q) → i ≤ (if kd HB vj = 1 then 0 else sz HB vj) → RB (vfd HB s vj i) fn fq mn → (if kd HB vj = 1 then 0 else sz HB vj) < i + d → AW tb "ImageReaderModel" b_M_reachAll 4 none false none fr lo (fun v h' => v = none ∧ ∃ fn' fq' mn', h' m = some (mO cd ai cn am ln ak kl as_ aks ar an ab mn') ∧ h' an = some (.inl (0, 8192, .inl fn')) ∧ h' ar = some (.inl (0, 8192, .inl fq')) ∧ RB (vfin HB) fn' fq' mn' ∧ (∀ q, q ≠ m → q ≠ an → q ≠ ar → h' q = h q)) 89 [some (.ref m), some (.int (nI j)), some (.int (nI (oa HB vj))), some (.int (nI i))] [] g mc ms := by
  intro d
  induction d with
  | zero => intro i g fn fq mn gm gi gs gn gq gf hi hR hd; omega
  | succ d ih =>
    intro i g fn fq mn gm gi gs gn gq gf hi hR hd
    have hN8 := X.n.2
    have hN1 := X.n.1
    have o_j := X.at vj q1 q2
    have z_j := sz_lt hHB vj
    have hE : (if kd HB vj = 1 then 0 else sz HB vj) ≤ sz HB vj := by split <;> omega
    refine aw_iload_n d_M_reachAll_89 rfl ?_
    refine aw_aload_n d_M_reachAll_90 rfl ?_
    refine aw_get fl_M_14 d_M_reachAll_91 gm rfl ?_
    refine aw_iload_n d_M_reachAll_94 rfl ?_
    refine aw_callSi (mc2 := mc) (ms2 := ms) (r := nI (sz HB vj)) (As := [.ref am, .int (nI (oa HB vj))]) (rest := [.int (nI i)]) (c_M_sizeAt hHB gi (by omega) (oa HB vj) (by omega)) cs_M_54 d_M_reachAll_95 rfl rfl (Nat.le_of_ble_eq_true rfl) (by omega) (by omega) (by omega) (by omega) ?_
    have b_95 := sz_lt hHB vj
    refine aw_icmp_ge (tgt := 131) d_M_reachAll_98 (by decide) (fun c_98 => ?_) (fun c_98 => ?_)
    · rw [nI_leI (by omega) (by omega)] at c_98
      refine aw_loc (L' := [some (.ref m), some (.int (nI j)), none, none]) (by intro i v hv; match i, hv with | 0, hv => exact hv | 1, hv => exact hv | 2, hv => cases hv | 3, hv => cases hv | i + 4, hv => cases hv) ?_
      have e9 : i = (if kd HB vj = 1 then 0 else sz HB vj) := by split at hi <;> split <;> omega
      exact kx g fn fq mn gm gi gs gn gq gf (by unfold vob; rw [← e9]; exact hR)
    · rw [nI_leI (by omega) (by omega)] at c_98
      refine aw_aload_n d_M_reachAll_101 rfl ?_
      refine aw_get fl_M_14 d_M_reachAll_102 gm rfl ?_
      refine aw_iload_n d_M_reachAll_105 rfl ?_
      refine aw_callSi (mc2 := mc) (ms2 := ms) (r := bP (kd HB vj = 1)) (As := [.ref am, .int (nI (oa HB vj))]) (rest := []) (c_M_isOfBytes hHB gi (by omega) (oa HB vj) (by omega)) cs_M_50 d_M_reachAll_106 rfl rfl (Nat.le_of_ble_eq_true rfl) (by omega) (by omega) (by omega) (by omega) ?_
      refine aw_if_ne (tgt := 131) d_M_reachAll_109 (by decide) (fun c_109 => ?_) (fun c_109 => ?_)
      · rw [bP_eq0, Classical.not_not] at c_109
        refine aw_loc (L' := [some (.ref m), some (.int (nI j)), none, none]) (by intro i v hv; match i, hv with | 0, hv => exact hv | 1, hv => exact hv | 2, hv => cases hv | 3, hv => cases hv | i + 4, hv => cases hv) ?_
        have e9 : i = (if kd HB vj = 1 then 0 else sz HB vj) := by rw [if_pos c_109] at hi ⊢; omega
        exact kx g fn fq mn gm gi gs gn gq gf (by unfold vob; rw [← e9]; exact hR)
      · rw [bP_eq0] at c_109
        have c_k := c_109
        have o_f := X.fp vj i q1 q2 c_109 (by omega)
        refine aw_aload_n d_M_reachAll_112 rfl ?_
        refine aw_aload_n d_M_reachAll_113 rfl ?_
        refine aw_get fl_M_14 d_M_reachAll_114 gm rfl ?_
        refine aw_iload_n d_M_reachAll_117 rfl ?_
        refine aw_iload_n d_M_reachAll_118 rfl ?_
        refine aw_callSi (mc2 := mc) (ms2 := ms) (r := nI (fd HB vj i)) (As := [.ref am, .int (nI (oa HB vj)), .int (nI i)]) (rest := [.ref m]) (c_M_fieldAt hHB gi (by omega) (oa HB vj) i (by omega)) cs_M_61 d_M_reachAll_119 rfl rfl (Nat.le_of_ble_eq_true rfl) (by omega) (by omega) (by omega) (by omega) ?_
        have b_119 := fd_lt hHB vj i
        refine aw_callV (mc2 := mc) (ms2 := ms) (As := [.int (nI (fd HB vj i))]) (rest := []) (c_M_reach gm gn gq (D0.2.2.2.1.1) hN8 (vfd_good X.1 hs q1 q2 i hi) hR (fd HB vj i) (by omega) (X.fv q1 q2 c_k (by omega))) cv_M_162 d_M_reachAll_122 gm rfl rfl rfl (Nat.le_of_ble_eq_true rfl) (by omega) (by omega) (by omega) (by omega) (fun v_122 k_122c q_122 => ?_)
        obtain ⟨y1_122, fn_122, fq_122, mn_122, y2_122, y3_122, y4_122, y5_122, y6_122⟩ := q_122
        refine aw_st (st' := []) (by rw [y1_122]; rfl) ?_
        have y_122_am : k_122c am = some (.inl (1, 65536, .inl (bsf HB))) := by rw [y6_122 _ (av_apart gi gm) (av_apT gi gn (by decide)) (av_apT gi gq (by decide))]; exact gi
        have y_122_as_ : k_122c as_ = some (.inl (0, 8192, .inl fs)) := by rw [y6_122 _ (av_apart gs gm) (D0.2.1.2.2.1) (D0.2.1.2.1)]; exact gs
        refine aw_iinc (v := nI (i + 1)) (L' := [some (.ref m), some (.int (nI j)), some (.int (nI (oa HB vj))), some (.int (nI (i + 1)))]) d_M_reachAll_125 rfl (nI_add i 1) (by decide) rfl rfl ?_
        refine aw_goto (tgt := 89) d_M_reachAll_128 (by decide) ?_
        exact ih (i + 1) _ _ _ _ y2_122 y_122_am y_122_as_ y3_122 y4_122 (fun q b1 b2 b3 => ((y6_122 q b1 b2 b3).trans (gf q b1 b2 b3))) (by rw [if_neg c_109]; omega) y5_122 (by rw [if_neg c_109] at hd ⊢; omega)

set_option maxHeartbeats 4000000 in
theorem lp_M_reachAllQ {tb : Nat → Nat} {h : AH} {fr lo : Nat} {mc ms : Nat} (hfr : 2 ≤ fr) (hlo : 43 ≤ lo) {m ai am ak as_ aks ar an ab cn ln kl : Nat} {cd : Int32} {HB : Nat → Nat} {fs : Nat → Int32} (hHB : ∀ i, HB i < 256) (D0 : mND ai am ak as_ aks ar an ab) (X : VX HB ln fs) : ∀ (d : Nat) (j : Nat) (g : AH) (fn fq : Nat → Int32) (mn : Nat), g m = some (mO cd ai cn am ln ak kl as_ aks ar an ab mn) → g am = some (.inl (1, 65536, .inl (bsf HB))) → g as_ = some (.inl (0, 8192, .inl fs)) → g an = some (.inl (0, 8192, .inl fn)) → g ar = some (.inl (0, 8192, .inl fq)) → (∀ q, q ≠ m → q ≠ an → q ≠ ar → g q = h q) → j ≤ nn HB → RB (vst HB j) fn fq mn → nn HB < j + d → AW tb "ImageReaderModel" b_M_reachAll 4 none false none fr lo (fun v h' => v = none ∧ ∃ fn' fq' mn', h' m = some (mO cd ai cn am ln ak kl as_ aks ar an ab mn') ∧ h' an = some (.inl (0, 8192, .inl fn')) ∧ h' ar = some (.inl (0, 8192, .inl fq')) ∧ RB (vfin HB) fn' fq' mn' ∧ (∀ q, q ≠ m → q ≠ an → q ≠ ar → h' q = h q)) 55 [some (.ref m), some (.int (nI j)), none, none] [] g mc ms := by
  intro d
  induction d with
  | zero => intro j g fn fq mn gm gi gs gn gq gf hj hR hd; omega
  | succ d ih =>
    intro j g fn fq mn gm gi gs gn gq gf hj hR hd
    have hN8 := X.n.2
    have hN1 := X.n.1
    have hmn := hR.1
    have hle := (vst_good X.1 j).le
    refine aw_iload_n d_M_reachAll_55 rfl ?_
    refine aw_aload_n d_M_reachAll_56 rfl ?_
    refine aw_get fl_M_159 d_M_reachAll_57 gm rfl ?_
    refine aw_icmp_ge (tgt := 137) d_M_reachAll_60 (by decide) (fun c_60 => ?_) (fun c_60 => ?_)
    · rw [nI_leI (by omega) (by omega)] at c_60
      refine aw_vret d_M_reachAll_137 rfl ⟨rfl, fn, fq, mn, gm, gn, gq, ?_, gf⟩
      rw [vfin_at (by omega) hj]; exact hR
    · rw [nI_leI (by omega) (by omega)] at c_60
      obtain ⟨q1, q2⟩ := (vst_good X.1 j).2.2.2 j (by omega)
      refine aw_aload_n d_M_reachAll_63 rfl ?_
      refine aw_get fl_M_20 d_M_reachAll_64 gm rfl ?_
      refine aw_aload_n d_M_reachAll_67 rfl ?_
      refine aw_get fl_M_27 d_M_reachAll_68 gm rfl ?_
      refine aw_iload_n d_M_reachAll_71 rfl ?_
      refine aw_iald (x := nI ((vst HB j).2.1 j)) d_M_reachAll_72 gq (vp_in_nI (by omega) (by omega)) (by rw [nI_clamp (by omega)]; exact hR.2.2 j (by omega)) ?_
      refine aw_iald (x := nI (oa HB ((vst HB j).2.1 j))) d_M_reachAll_73 gs (vp_in_nI (by omega) (by omega)) (by rw [nI_clamp (by omega)]; exact (X).2 _ (by omega) (by omega)) ?_
      have o_73 := (X).at ((vst HB j).2.1 j) (by omega) (by omega)
      refine aw_istore_n (L' := [some (.ref m), some (.int (nI j)), some (.int (nI (oa HB ((vst HB j).2.1 j)))), none]) d_M_reachAll_74 (by decide) rfl rfl ?_
      refine aw_aload_n d_M_reachAll_75 rfl ?_
      refine aw_aload_n d_M_reachAll_76 rfl ?_
      refine aw_get fl_M_14 d_M_reachAll_77 gm rfl ?_
      refine aw_iload_n d_M_reachAll_80 rfl ?_
      refine aw_callSi (mc2 := mc) (ms2 := ms) (r := nI (cl HB ((vst HB j).2.1 j))) (As := [.ref am, .int (nI (oa HB ((vst HB j).2.1 j)))]) (rest := [.ref m]) (c_M_word hHB gi (by omega) (oa HB ((vst HB j).2.1 j)) (by omega)) cs_M_47 d_M_reachAll_81 rfl rfl (Nat.le_of_ble_eq_true rfl) (by omega) (by omega) (by omega) (by omega) ?_
      have b_81 := cl_lt hHB ((vst HB j).2.1 j)
      refine aw_callV (mc2 := mc) (ms2 := ms) (As := [.int (nI (cl HB ((vst HB j).2.1 j)))]) (rest := []) (c_M_reach gm gn gq (D0.2.2.2.1.1) hN8 (vst_good X.1 j) hR (cl HB ((vst HB j).2.1 j)) (by omega) (X.cv q1 q2)) cv_M_162 d_M_reachAll_84 gm rfl rfl rfl (Nat.le_of_ble_eq_true rfl) (by omega) (by omega) (by omega) (by omega) (fun v_84 k_84c q_84 => ?_)
      obtain ⟨y1_84, fn_84, fq_84, mn_84, y2_84, y3_84, y4_84, y5_84, y6_84⟩ := q_84
      refine aw_st (st' := []) (by rw [y1_84]; rfl) ?_
      have y_84_am : k_84c am = some (.inl (1, 65536, .inl (bsf HB))) := by rw [y6_84 _ (av_apart gi gm) (av_apT gi gn (by decide)) (av_apT gi gq (by decide))]; exact gi
      have y_84_as_ : k_84c as_ = some (.inl (0, 8192, .inl fs)) := by rw [y6_84 _ (av_apart gs gm) (D0.2.1.2.2.1) (D0.2.1.2.1)]; exact gs
      refine aw_iconst (v := nI 0) d_M_reachAll_87 (by decide) ?_
      refine aw_istore_n (L' := [some (.ref m), some (.int (nI j)), some (.int (nI (oa HB ((vst HB j).2.1 j)))), some (.int (nI 0))]) d_M_reachAll_88 (by decide) rfl rfl ?_
      refine lp_M_reachAllF (by omega) (by omega) hHB D0 X (vst HB j) (vst_good X.1 j) j ((vst HB j).2.1 j) q1 q2 (fun g2 fn2 fq2 mn2 a1 a2 a3 a4 a5 a6 a7 => ?_) ((if kd HB ((vst HB j).2.1 j) = 1 then 0 else sz HB ((vst HB j).2.1 j)) + 1) 0 _ _ _ _ y2_84 y_84_am y_84_as_ y3_84 y4_84 (fun q b1 b2 b3 => ((y6_84 q b1 b2 b3).trans (gf q b1 b2 b3))) (Nat.zero_le _) y5_84 (by omega)
      refine aw_iinc (v := nI (j + 1)) (L' := [some (.ref m), some (.int (nI (j + 1))), none, none]) d_M_reachAll_131 rfl (nI_add j 1) (by decide) rfl rfl ?_
      refine aw_goto (tgt := 55) d_M_reachAll_134 (by decide) ?_
      exact ih (j + 1) g2 fn2 fq2 mn2 a1 a2 a3 a4 a5 a6 (by have q := (vst_good X.1 j).le; omega) (by rw [vst, if_pos (by omega)]; exact a7) (by omega)

set_option maxHeartbeats 4000000 in
theorem lp_M_reachAllS {tb : Nat → Nat} {h : AH} {fr lo : Nat} {mc ms : Nat} (hfr : 2 ≤ fr) (hlo : 43 ≤ lo) {m ai am ak as_ aks ar an ab cn ln kl : Nat} {cd : Int32} {HB : Nat → Nat} {fs : Nat → Int32} (hHB : ∀ i, HB i < 256) (D0 : mND ai am ak as_ aks ar an ab) (X : VX HB ln fs) : ∀ (d : Nat) (k : Nat) (g : AH) (fn fq : Nat → Int32) (mn : Nat), g m = some (mO cd ai cn am ln ak kl as_ aks ar an ab mn) → g am = some (.inl (1, 65536, .inl (bsf HB))) → g as_ = some (.inl (0, 8192, .inl fs)) → g an = some (.inl (0, 8192, .inl fn)) → g ar = some (.inl (0, 8192, .inl fq)) → (∀ q, q ≠ m → q ≠ an → q ≠ ar → g q = h q) → k ≤ 50 → RB (vsp HB k) fn fq mn → 50 < k + d → AW tb "ImageReaderModel" b_M_reachAll 4 none false none fr lo (fun v h' => v = none ∧ ∃ fn' fq' mn', h' m = some (mO cd ai cn am ln ak kl as_ aks ar an ab mn') ∧ h' an = some (.inl (0, 8192, .inl fn')) ∧ h' ar = some (.inl (0, 8192, .inl fq')) ∧ RB (vfin HB) fn' fq' mn' ∧ (∀ q, q ≠ m → q ≠ an → q ≠ ar → h' q = h q)) 29 [some (.ref m), some (.int (nI k)), none, none] [] g mc ms := by
  intro d
  induction d with
  | zero => intro k g fn fq mn gm gi gs gn gq gf hk hR hd; omega
  | succ d ih =>
    intro k g fn fq mn gm gi gs gn gq gf hk hR hd
    have hN8 := X.n.2
    have hN1 := X.n.1
    refine aw_iload_n d_M_reachAll_29 rfl ?_
    refine aw_bipush (v := nI 50) d_M_reachAll_30 (by decide) ?_
    refine aw_icmp_ge (tgt := 53) d_M_reachAll_32 (by decide) (fun c_32 => ?_) (fun c_32 => ?_)
    · rw [nI_leI (by omega) (by omega)] at c_32
      refine aw_iconst (v := nI 0) d_M_reachAll_53 (by decide) ?_
      refine aw_istore_n (L' := [some (.ref m), some (.int (nI 0)), none, none]) d_M_reachAll_54 (by decide) rfl rfl ?_
      exact lp_M_reachAllQ (by omega) (by omega) hHB D0 X (nn HB + 1) 0 g fn fq mn gm gi gs gn gq gf (by omega) (by rw [show vst HB 0 = vsp HB k by rw [vst, show k = 50 by omega]]; exact hR) (by omega)
    · rw [nI_leI (by omega) (by omega)] at c_32
      refine aw_aload_n d_M_reachAll_35 rfl ?_
      refine aw_aload_n d_M_reachAll_36 rfl ?_
      refine aw_get fl_M_14 d_M_reachAll_37 gm rfl ?_
      refine aw_iload_n d_M_reachAll_40 rfl ?_
      refine aw_callSi (mc2 := mc) (ms2 := ms) (r := nI (sp HB k)) (As := [.ref am, .int (nI k)]) (rest := [.ref m]) (c_M_special_aBI hHB gi (by omega) k (by omega)) cs_M_65 d_M_reachAll_41 rfl rfl (Nat.le_of_ble_eq_true rfl) (by omega) (by omega) (by omega) (by omega) ?_
      have b_41 : sp HB k < 4294967296 := bw_lt hHB _
      refine aw_callV (mc2 := mc) (ms2 := ms) (As := [.int (nI (sp HB k))]) (rest := []) (c_M_reach gm gn gq (D0.2.2.2.1.1) hN8 (vsp_good X.1 k hk) hR (sp HB k) (by omega) (X.sv (by omega))) cv_M_162 d_M_reachAll_44 gm rfl rfl rfl (Nat.le_of_ble_eq_true rfl) (by omega) (by omega) (by omega) (by omega) (fun v_44 k_44c q_44 => ?_)
      obtain ⟨y1_44, fn_44, fq_44, mn_44, y2_44, y3_44, y4_44, y5_44, y6_44⟩ := q_44
      refine aw_st (st' := []) (by rw [y1_44]; rfl) ?_
      have y_44_am : k_44c am = some (.inl (1, 65536, .inl (bsf HB))) := by rw [y6_44 _ (av_apart gi gm) (av_apT gi gn (by decide)) (av_apT gi gq (by decide))]; exact gi
      have y_44_as_ : k_44c as_ = some (.inl (0, 8192, .inl fs)) := by rw [y6_44 _ (av_apart gs gm) (D0.2.1.2.2.1) (D0.2.1.2.1)]; exact gs
      refine aw_iinc (v := nI (k + 1)) (L' := [some (.ref m), some (.int (nI (k + 1))), none, none]) d_M_reachAll_47 rfl (nI_add k 1) (by decide) rfl rfl ?_
      refine aw_goto (tgt := 29) d_M_reachAll_50 (by decide) ?_
      exact ih (k + 1) _ _ _ _ y2_44 y_44_am y_44_as_ y3_44 y4_44 (fun q b1 b2 b3 => ((y6_44 q b1 b2 b3).trans (gf q b1 b2 b3))) (by omega) y5_44 (by omega)

set_option maxHeartbeats 4000000 in
theorem lp_M_reachAllZ {tb : Nat → Nat} {fr lo : Nat} {mc ms : Nat} (hfr : 0 ≤ fr) (hlo : 0 ≤ lo) {m ai am ak as_ aks ar an ab cn ln kl mn : Nat} {cd : Int32} {g0 : AH} {f0 : Nat → Int32} {Post : Option Value → AH → Prop} (hm : g0 m = some (mO cd ai cn am ln ak kl as_ aks ar an ab mn)) (hn_ : g0 an = some (.inl (0, 8192, .inl f0))) (kx : ∀ f : Nat → Int32, (∀ k, k < 8192 → f k = nI 0) → AW tb "ImageReaderModel" b_M_reachAll 4 none false none fr lo Post 27 [some (.ref m), none, none, none] [] (av_up g0 an (.inl (0, 8192, .inl f))) mc ms) : ∀ (d : Nat) (k : Nat) (f : Nat → Int32), k ≤ 8192 → (∀ j, j < k → f j = nI 0) → 8192 < k + d → AW tb "ImageReaderModel" b_M_reachAll 4 none false none fr lo (Post) 7 [some (.ref m), some (.int (nI k)), none, none] [] (av_up g0 an (.inl (0, 8192, .inl f))) mc ms := by
  intro d
  induction d with
  | zero => intro k f hk hz hd; omega
  | succ d ih =>
    intro k f hk hz hd
    have hm1 : (av_up g0 an (.inl (0, 8192, .inl f))) m = some (mO cd ai cn am ln ak kl as_ aks ar an ab mn) := by rw [av_up_ne (av_apart' hm hn_)]; exact hm
    have hn1 : (av_up g0 an (.inl (0, 8192, .inl f))) an = some (.inl (0, 8192, .inl f)) := av_up_self _ _ _
    refine aw_iload_n d_M_reachAll_7 rfl ?_
    refine aw_sipush (v := nI 8192) d_M_reachAll_8 (by decide) ?_
    refine aw_icmp_ge (tgt := 27) d_M_reachAll_11 (by decide) (fun c_11 => ?_) (fun c_11 => ?_)
    · rw [nI_leI (by omega) (by omega)] at c_11
      refine aw_loc (L' := [some (.ref m), none, none, none]) (by intro i v hv; match i, hv with | 0, hv => exact hv | 1, hv => cases hv | 2, hv => cases hv | 3, hv => cases hv | i + 4, hv => cases hv) ?_
      exact kx f (fun j h => hz j (by omega))
    · rw [nI_leI (by omega) (by omega)] at c_11
      refine aw_aload_n d_M_reachAll_14 rfl ?_
      refine aw_get fl_M_30 d_M_reachAll_15 hm1 rfl ?_
      refine aw_iload_n d_M_reachAll_18 rfl ?_
      refine aw_iconst (v := nI 0) d_M_reachAll_19 (by decide) ?_
      refine aw_iast (f' := upd f k (nI 0)) d_M_reachAll_20 hn1 (vp_in_nI (by omega) (by omega)) (by rw [nI_clamp (by omega)]) ?_
      obtain ⟨k_1, e_k_1⟩ : ∃ z, z = av_up (av_up g0 an (.inl (0, 8192, .inl f))) an (.inl (0, 8192, .inl (upd f k (nI 0)))) := ⟨_, rfl⟩
      refine aw_heap (h' := k_1) e_k_1.symm ?_
      have g1_m : k_1 m = some (.inr (5, [.int cd, .ref ai, .int (nI cn), .ref am, .int (nI ln), .ref ak, .int (nI kl), .ref as_, .ref aks, .ref ar, .ref an, .ref ab, .int (nI mn)])) := by rw [e_k_1, av_up_ne (av_apart' hm hn_)]; exact hm1
      have g1_an : k_1 an = some (.inl (0, 8192, .inl (upd f k (nI 0)))) := by rw [e_k_1]; exact av_up_self _ _ _
      refine aw_iinc (v := nI (k + 1)) (L' := [some (.ref m), some (.int (nI (k + 1))), none, none]) d_M_reachAll_21 rfl (nI_add k 1) (by decide) rfl rfl ?_
      refine aw_goto (tgt := 7) d_M_reachAll_24 (by decide) ?_
      refine aw_heap (h' := (av_up g0 an (.inl (0, 8192, .inl (upd f k (nI 0)))))) (by rw [e_k_1, av_up_up]) ?_
      exact ih (k + 1) _ (by omega) (fun j h => by unfold upd; by_cases z : j = k; (rw [if_pos z]); (rw [if_neg z]; exact hz j (by omega))) (by omega)

set_option maxHeartbeats 4000000 in
theorem c_M_reachAll {tb : Nat → Nat} {h : AH} {m ai am ak as_ aks ar an ab cn ln kl mn : Nat} {cd : Int32} {HB : Nat → Nat} {fs fn fq : Nat → Int32} (hHB : ∀ i, HB i < 256) (D0 : mND ai am ak as_ aks ar an ab) (X : VX HB ln fs) (gm : h m = some (mO cd ai cn am ln ak kl as_ aks ar an ab mn)) (gi : h am = some (.inl (1, 65536, .inl (bsf HB)))) (gs : h as_ = some (.inl (0, 8192, .inl fs))) (gn : h an = some (.inl (0, 8192, .inl fn))) (gq : h ar = some (.inl (0, 8192, .inl fq))) : AM tb y_M_reachAll b_M_reachAll 4 none 2 43 [.ref m] h 0 0 (fun v h' => v = none ∧ ∃ fn' fq' mn', h' m = some (mO cd ai cn am ln ak kl as_ aks ar an ab mn') ∧ h' an = some (.inl (0, 8192, .inl fn')) ∧ h' ar = some (.inl (0, 8192, .inl fq')) ∧ RB (vfin HB) fn' fq' mn' ∧ (∀ q, q ≠ m → q ≠ an → q ≠ ar → h' q = h q)) := by
  refine am_of (ini := false) [some (.ref m), none, none, none] (by decide) (fun z => by cases z) (Nat.le_of_ble_eq_true rfl) rfl ?_
  refine aw_aload_n d_M_reachAll_0 rfl ?_
  refine aw_iconst (v := nI 0) d_M_reachAll_1 (by decide) ?_
  refine aw_put (fs' := [.int cd, .ref ai, .int (nI cn), .ref am, .int (nI ln), .ref ak, .int (nI kl), .ref as_, .ref aks, .ref ar, .ref an, .ref ab, .int (nI 0)]) (pt_M_159 _) d_M_reachAll_2 gm rfl rfl (by simp) rfl ?_
  obtain ⟨k_1, e_k_1⟩ : ∃ z, z = av_up h m (.inr (5, [.int cd, .ref ai, .int (nI cn), .ref am, .int (nI ln), .ref ak, .int (nI kl), .ref as_, .ref aks, .ref ar, .ref an, .ref ab, .int (nI 0)])) := ⟨_, rfl⟩
  refine aw_heap (h' := k_1) e_k_1.symm ?_
  have g1_am : k_1 am = some (.inl (1, 65536, .inl (bsf HB))) := by rw [e_k_1, av_up_ne (av_apart gi gm)]; exact gi
  have g1_as_ : k_1 as_ = some (.inl (0, 8192, .inl fs)) := by rw [e_k_1, av_up_ne (av_apart gs gm)]; exact gs
  have g1_an : k_1 an = some (.inl (0, 8192, .inl fn)) := by rw [e_k_1, av_up_ne (av_apart gn gm)]; exact gn
  have g1_ar : k_1 ar = some (.inl (0, 8192, .inl fq)) := by rw [e_k_1, av_up_ne (av_apart gq gm)]; exact gq
  have g1_m : k_1 m = some (.inr (5, [.int cd, .ref ai, .int (nI cn), .ref am, .int (nI ln), .ref ak, .int (nI kl), .ref as_, .ref aks, .ref ar, .ref an, .ref ab, .int (nI 0)])) := by rw [e_k_1]; exact av_up_self _ _ _
  refine aw_iconst (v := nI 0) d_M_reachAll_5 (by decide) ?_
  refine aw_istore_n (L' := [some (.ref m), some (.int (nI 0)), none, none]) d_M_reachAll_6 (by decide) rfl rfl ?_
  refine lp_M_reachAllZ (by decide) (by decide) g1_m g1_an (fun f hz => ?_) 8193 0 fn (by omega) (fun j h => by omega) (by omega) |> (fun z => aw_heap (by rw [av_up_id g1_an]) z)
  obtain ⟨k_L, e_L⟩ : ∃ z, z = av_up k_1 an (.inl (0, 8192, .inl f)) := ⟨_, rfl⟩
  refine aw_heap (h' := k_L) e_L.symm ?_
  have gL_am : k_L am = some (.inl (1, 65536, .inl (bsf HB))) := by rw [e_L, av_up_ne (av_apT g1_am g1_an (by decide))]; exact g1_am
  have gL_as_ : k_L as_ = some (.inl (0, 8192, .inl fs)) := by rw [e_L, av_up_ne D0.2.1.2.2.1]; exact g1_as_
  have gL_ar : k_L ar = some (.inl (0, 8192, .inl fq)) := by rw [e_L, av_up_ne D0.2.2.2.1.1]; exact g1_ar
  have gL_m : k_L m = some (.inr (5, [.int cd, .ref ai, .int (nI cn), .ref am, .int (nI ln), .ref ak, .int (nI kl), .ref as_, .ref aks, .ref ar, .ref an, .ref ab, .int (nI 0)])) := by rw [e_L, av_up_ne (av_apart' g1_m g1_an)]; exact g1_m
  have gL_an : k_L an = some (.inl (0, 8192, .inl f)) := by rw [e_L]; exact av_up_self _ _ _
  refine aw_iconst (v := nI 0) d_M_reachAll_27 (by decide) ?_
  refine aw_istore_n (L' := [some (.ref m), some (.int (nI 0)), none, none]) d_M_reachAll_28 (by decide) rfl rfl ?_
  exact lp_M_reachAllS (by decide) (by decide) hHB D0 X 51 0 _ _ _ 0 gL_m gL_am gL_as_ gL_an gL_ar (fun q a_m a_an a_ar => by rw [e_L, av_up_ne a_an, e_k_1, av_up_ne a_m]) (by omega) ⟨rfl, hz, fun j h => absurd h (Nat.not_lt_zero j)⟩ (by omega)
