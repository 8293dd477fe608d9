set_option maxHeartbeats 4000000 in
theorem c_M_reachable {tb : Nat → Nat} {h : AH} {m ai am ak as_ aks ar an ab cn ln kl mn : Nat} {cd : Int32} {B HB KB : Nat → Nat} {fs fks fq fn fb : Nat → Int32} (M0 : mS h m ai am ak as_ aks ar an ab cd cn ln kl mn B HB KB fs fks fq fn fb) (K0 : mOK cn ln kl B HB KB fs) (D0 : mND ai am ak as_ aks ar an ab)  : AM tb y_M_reachable b_M_reachable 1 (some .int) 3 66 [.ref m] h 0 0 (fun v h' => v = some (.int (nI (if ln = 0 then 0 else (vfin HB).2.2))) ∧ ∃ fn' fq' mn', mS h' m ai am ak as_ aks ar an ab (nI 0) cn ln kl mn' B HB KB fs fks fq' fn' fb ∧ mFr m ai am ak as_ aks ar an ab h h') := by
  have k_ln := K0.2.2.2.2.1
  have k_nn : nn HB < 65536 := bh_lt K0.2.1 6
  refine am_of (ini := false) [some (.ref m)] (by decide) (fun z => by cases z) (Nat.le_of_ble_eq_true rfl) rfl ?_
  refine aw_aload_n d_M_reachable_0 rfl ?_
  refine aw_iconst (v := nI 0) d_M_reachable_1 (by decide) ?_
  refine aw_put (fs' := [.int (nI 0), .ref ai, .int (nI cn), .ref am, .int (nI ln), .ref ak, .int (nI kl), .ref as_, .ref aks, .ref ar, .ref an, .ref ab, .int (nI mn)]) (pt_M_36 _) d_M_reachable_2 M0.1 rfl rfl (by simp) rfl ?_
  obtain ⟨k_1, e_k_1⟩ : ∃ z, z = av_up h m (.inr (5, [.int (nI 0), .ref ai, .int (nI cn), .ref am, .int (nI ln), .ref ak, .int (nI kl), .ref as_, .ref aks, .ref ar, .ref an, .ref ab, .int (nI mn)])) := ⟨_, rfl⟩
  refine aw_heap (h' := k_1) e_k_1.symm ?_
  have g1_ai : k_1 ai = some (.inl (1, 65536, .inl (bsf B))) := by rw [e_k_1, av_up_ne (av_apart M0.2.1 M0.1)]; exact M0.2.1
  have g1_am : k_1 am = some (.inl (1, 65536, .inl (bsf HB))) := by rw [e_k_1, av_up_ne (av_apart M0.2.2.1 M0.1)]; exact M0.2.2.1
  have g1_ak : k_1 ak = some (.inl (1, 65536, .inl (bsf KB))) := by rw [e_k_1, av_up_ne (av_apart M0.2.2.2.1 M0.1)]; exact M0.2.2.2.1
  have g1_as_ : k_1 as_ = some (.inl (0, 8192, .inl fs)) := by rw [e_k_1, av_up_ne (av_apart M0.2.2.2.2.1 M0.1)]; exact M0.2.2.2.2.1
  have g1_aks : k_1 aks = some (.inl (0, 8192, .inl fks)) := by rw [e_k_1, av_up_ne (av_apart M0.2.2.2.2.2.1 M0.1)]; exact M0.2.2.2.2.2.1
  have g1_ar : k_1 ar = some (.inl (0, 8192, .inl fq)) := by rw [e_k_1, av_up_ne (av_apart M0.2.2.2.2.2.2.1 M0.1)]; exact M0.2.2.2.2.2.2.1
  have g1_an : k_1 an = some (.inl (0, 8192, .inl fn)) := by rw [e_k_1, av_up_ne (av_apart M0.2.2.2.2.2.2.2.1 M0.1)]; exact M0.2.2.2.2.2.2.2.1
  have g1_ab : k_1 ab = some (.inl (0, 8192, .inl fb)) := by rw [e_k_1, av_up_ne (av_apart M0.2.2.2.2.2.2.2.2 M0.1)]; exact M0.2.2.2.2.2.2.2.2
  have g1_m : k_1 m = some (.inr (5, [.int (nI 0), .ref ai, .int (nI cn), .ref am, .int (nI ln), .ref ak, .int (nI kl), .ref as_, .ref aks, .ref ar, .ref an, .ref ab, .int (nI mn)])) := by rw [e_k_1]; exact av_up_self _ _ _
  refine aw_aload_n d_M_reachable_5 rfl ?_
  refine aw_get fl_M_149 d_M_reachable_6 g1_m rfl ?_
  refine aw_if_ne (tgt := 14) d_M_reachable_9 (by decide) (fun c_9 => ?_) (fun c_9 => ?_)
  · rw [w_eq0 (by omega)] at c_9
    have X := (K0.2.2.2.2.2.2.1 (by omega)).2
    refine aw_aload_n d_M_reachable_14 rfl ?_
    refine aw_callV (mc2 := 0) (ms2 := 0) (As := []) (rest := []) (c_M_reachAll K0.2.1 D0 X g1_m g1_am g1_as_ g1_an g1_ar) cv_M_166 d_M_reachable_15 g1_m rfl rfl rfl (Nat.le_of_ble_eq_true rfl) (by decide) (by decide) (by omega) (by omega) (fun v_15 k_15c q_15 => ?_)
    obtain ⟨y1, fn_1, fq_1, mn_1, y2, y3, y4, y5, y6⟩ := q_15
    refine aw_st (st' := []) (by rw [y1]; rfl) ?_
    have y_ai : k_15c ai = some (.inl (1, 65536, .inl (bsf B))) := by rw [y6 _ (av_apart g1_ai g1_m) (av_apT g1_ai g1_an (by decide)) (av_apT g1_ai g1_ar (by decide))]; exact g1_ai
    have y_am : k_15c am = some (.inl (1, 65536, .inl (bsf HB))) := by rw [y6 _ (av_apart g1_am g1_m) (av_apT g1_am g1_an (by decide)) (av_apT g1_am g1_ar (by decide))]; exact g1_am
    have y_ak : k_15c ak = some (.inl (1, 65536, .inl (bsf KB))) := by rw [y6 _ (av_apart g1_ak g1_m) (av_apT g1_ak g1_an (by decide)) (av_apT g1_ak g1_ar (by decide))]; exact g1_ak
    have y_as_ : k_15c as_ = some (.inl (0, 8192, .inl fs)) := by rw [y6 _ (av_apart g1_as_ g1_m) (D0.2.1.2.2.1) (D0.2.1.2.1)]; exact g1_as_
    have y_aks : k_15c aks = some (.inl (0, 8192, .inl fks)) := by rw [y6 _ (av_apart g1_aks g1_m) (D0.2.2.1.2.1) (D0.2.2.1.1)]; exact g1_aks
    have y_ab : k_15c ab = some (.inl (0, 8192, .inl fb)) := by rw [y6 _ (av_apart g1_ab g1_m) (Ne.symm D0.2.2.2.2) (Ne.symm D0.2.2.2.1.2)]; exact g1_ab
    refine aw_aload_n d_M_reachable_18 rfl ?_
    refine aw_get fl_M_159 d_M_reachable_19 y2 rfl ?_
    exact aw_iret d_M_reachable_22 rfl rfl ⟨by rw [if_neg (by omega), y5.1], _, _, _, ⟨y2, y_ai, y_am, y_ak, y_as_, y_aks, y4, y3, y_ab⟩, fun q a_m a_ai a_am a_ak a_as_ a_aks a_ar a_an a_ab => by rw [y6 q a_m a_an a_ar, e_k_1, av_up_ne a_m]⟩
  · rw [w_eq0 (by omega)] at c_9
    refine aw_iconst (v := nI 0) d_M_reachable_12 (by decide) ?_
    exact aw_iret d_M_reachable_13 rfl rfl ⟨by rw [if_pos (by omega)], _, _, _, ⟨g1_m, g1_ai, g1_am, g1_ak, g1_as_, g1_aks, g1_ar, g1_an, g1_ab⟩, fun q a_m a_ai a_am a_ak a_as_ a_aks a_ar a_an a_ab => by rw [e_k_1, av_up_ne a_m]⟩

set_option maxHeartbeats 4000000 in
theorem c_M_write {tb : Nat → Nat} {h : AH} {m ai am ak as_ aks ar an ab cn ln kl mn : Nat} {cd : Int32} {B HB KB : Nat → Nat} {fs fks fq fn fb : Nat → Int32} (M0 : mS h m ai am ak as_ aks ar an ab cd cn ln kl mn B HB KB fs fks fq fn fb) (K0 : mOK cn ln kl B HB KB fs) (D0 : mND ai am ak as_ aks ar an ab)  : AM tb y_M_write b_M_write 6 (some .int) 3 66 [.ref m] h 0 0 (fun v h' => (ln = 0 → v = some (.int (-1)) ∧ mS h' m ai am ak as_ aks ar an ab (nI 0) cn ln kl mn B HB KB fs fks fq fn fb) ∧ (0 < ln → v = some (.int (nI (wout HB).1)) ∧ ∃ B' fn' fq' mn', mS h' m ai am ak as_ aks ar an ab (nI 0) ((wout HB).1) ln kl mn' B' HB KB fs fks fq' fn' fb ∧ RW (wout HB) B' ∧ ∀ i, B' i < 256) ∧ mFr m ai am ak as_ aks ar an ab h h') := by
  have k_ln := K0.2.2.2.2.1
  have k_nn : nn HB < 65536 := bh_lt K0.2.1 6
  refine am_of (ini := false) [some (.ref m), none, none, none, none, none] (by decide) (fun z => by cases z) (Nat.le_of_ble_eq_true rfl) rfl ?_
  refine aw_aload_n d_M_write_0 rfl ?_
  refine aw_iconst (v := nI 0) d_M_write_1 (by decide) ?_
  refine aw_put (fs' := [.int (nI 0), .ref ai, .int (nI cn), .ref am, .int (nI ln), .ref ak, .int (nI kl), .ref as_, .ref aks, .ref ar, .ref an, .ref ab, .int (nI mn)]) (pt_M_36 _) d_M_write_2 M0.1 rfl rfl (by simp) rfl ?_
  obtain ⟨k_1, e_k_1⟩ : ∃ z, z = av_up h m (.inr (5, [.int (nI 0), .ref ai, .int (nI cn), .ref am, .int (nI ln), .ref ak, .int (nI kl), .ref as_, .ref aks, .ref ar, .ref an, .ref ab, .int (nI mn)])) := ⟨_, rfl⟩
  refine aw_heap (h' := k_1) e_k_1.symm ?_
  have g1_ai : k_1 ai = some (.inl (1, 65536, .inl (bsf B))) := by rw [e_k_1, av_up_ne (av_apart M0.2.1 M0.1)]; exact M0.2.1
  have g1_am : k_1 am = some (.inl (1, 65536, .inl (bsf HB))) := by rw [e_k_1, av_up_ne (av_apart M0.2.2.1 M0.1)]; exact M0.2.2.1
  have g1_ak : k_1 ak = some (.inl (1, 65536, .inl (bsf KB))) := by rw [e_k_1, av_up_ne (av_apart M0.2.2.2.1 M0.1)]; exact M0.2.2.2.1
  have g1_as_ : k_1 as_ = some (.inl (0, 8192, .inl fs)) := by rw [e_k_1, av_up_ne (av_apart M0.2.2.2.2.1 M0.1)]; exact M0.2.2.2.2.1
  have g1_aks : k_1 aks = some (.inl (0, 8192, .inl fks)) := by rw [e_k_1, av_up_ne (av_apart M0.2.2.2.2.2.1 M0.1)]; exact M0.2.2.2.2.2.1
  have g1_ar : k_1 ar = some (.inl (0, 8192, .inl fq)) := by rw [e_k_1, av_up_ne (av_apart M0.2.2.2.2.2.2.1 M0.1)]; exact M0.2.2.2.2.2.2.1
  have g1_an : k_1 an = some (.inl (0, 8192, .inl fn)) := by rw [e_k_1, av_up_ne (av_apart M0.2.2.2.2.2.2.2.1 M0.1)]; exact M0.2.2.2.2.2.2.2.1
  have g1_ab : k_1 ab = some (.inl (0, 8192, .inl fb)) := by rw [e_k_1, av_up_ne (av_apart M0.2.2.2.2.2.2.2.2 M0.1)]; exact M0.2.2.2.2.2.2.2.2
  have g1_m : k_1 m = some (.inr (5, [.int (nI 0), .ref ai, .int (nI cn), .ref am, .int (nI ln), .ref ak, .int (nI kl), .ref as_, .ref aks, .ref ar, .ref an, .ref ab, .int (nI mn)])) := by rw [e_k_1]; exact av_up_self _ _ _
  refine aw_aload_n d_M_write_5 rfl ?_
  refine aw_get fl_M_149 d_M_write_6 g1_m rfl ?_
  refine aw_if_ne (tgt := 14) d_M_write_9 (by decide) (fun c_9 => ?_) (fun c_9 => ?_)
  · rw [w_eq0 (by omega)] at c_9
    have X := (K0.2.2.2.2.2.2.1 (by omega)).2
    have hN := X.n
    refine aw_aload_n d_M_write_14 rfl ?_
    refine aw_callV (mc2 := 0) (ms2 := 0) (As := []) (rest := []) (c_M_reachAll K0.2.1 D0 X g1_m g1_am g1_as_ g1_an g1_ar) cv_M_166 d_M_write_15 g1_m rfl rfl rfl (Nat.le_of_ble_eq_true rfl) (by decide) (by decide) (by omega) (by omega) (fun v_15 k_15c q_15 => ?_)
    obtain ⟨y1, fn_1, fq_1, mn_1, y2, y3, y4, y5, y6⟩ := q_15
    refine aw_st (st' := []) (by rw [y1]; rfl) ?_
    have y_ai : k_15c ai = some (.inl (1, 65536, .inl (bsf B))) := by rw [y6 _ (av_apart g1_ai g1_m) (av_apT g1_ai g1_an (by decide)) (av_apT g1_ai g1_ar (by decide))]; exact g1_ai
    have y_am : k_15c am = some (.inl (1, 65536, .inl (bsf HB))) := by rw [y6 _ (av_apart g1_am g1_m) (av_apT g1_am g1_an (by decide)) (av_apT g1_am g1_ar (by decide))]; exact g1_am
    have y_ak : k_15c ak = some (.inl (1, 65536, .inl (bsf KB))) := by rw [y6 _ (av_apart g1_ak g1_m) (av_apT g1_ak g1_an (by decide)) (av_apT g1_ak g1_ar (by decide))]; exact g1_ak
    have y_as_ : k_15c as_ = some (.inl (0, 8192, .inl fs)) := by rw [y6 _ (av_apart g1_as_ g1_m) (D0.2.1.2.2.1) (D0.2.1.2.1)]; exact g1_as_
    have y_aks : k_15c aks = some (.inl (0, 8192, .inl fks)) := by rw [y6 _ (av_apart g1_aks g1_m) (D0.2.2.1.2.1) (D0.2.2.1.1)]; exact g1_aks
    have y_ab : k_15c ab = some (.inl (0, 8192, .inl fb)) := by rw [y6 _ (av_apart g1_ab g1_m) (Ne.symm D0.2.2.2.2) (Ne.symm D0.2.2.2.1.2)]; exact g1_ab
    refine aw_iconst (v := nI 0) d_M_write_18 (by decide) ?_
    refine aw_istore_n (L' := [some (.ref m), some (.int (nI 0)), none, none, none, none]) d_M_write_19 (by decide) rfl rfl ?_
    refine aw_iconst (v := nI 1) d_M_write_20 (by decide) ?_
    refine aw_istore_n (L' := [some (.ref m), some (.int (nI 0)), some (.int (nI 1)), none, none, none]) d_M_write_21 (by decide) rfl rfl ?_
    refine lp_M_writeN (by decide) (by decide) K0.2.1 D0 X y2 y_am y3 (fun f hf => ?_) (nn HB + 1) 1 fn_1 (by omega) (by omega) (fun j h => by rw [y5.2.1 j h]; by_cases z : j < 1; (rw [if_pos z, show j = 0 by omega]; unfold nuM; have hg := vst_good X.1 (nn HB); have z0 : (vfin HB).1 0 = 0 := Classical.byContradiction (fun q => absurd (hg.2.2.1 0 q).1 (by decide)); rw [if_pos z0, z0]); (rw [if_neg z])) (by omega) |> (fun z => aw_heap (by rw [av_up_id y3]) z)
    obtain ⟨k_L, e_L⟩ : ∃ z, z = av_up k_15c an (.inl (0, 8192, .inl f)) := ⟨_, rfl⟩
    refine aw_heap (h' := k_L) e_L.symm ?_
    have gL_ai : k_L ai = some (.inl (1, 65536, .inl (bsf B))) := by rw [e_L, av_up_ne (av_apT y_ai y3 (by decide))]; exact y_ai
    have gL_am : k_L am = some (.inl (1, 65536, .inl (bsf HB))) := by rw [e_L, av_up_ne (av_apT y_am y3 (by decide))]; exact y_am
    have gL_ak : k_L ak = some (.inl (1, 65536, .inl (bsf KB))) := by rw [e_L, av_up_ne (av_apT y_ak y3 (by decide))]; exact y_ak
    have gL_as_ : k_L as_ = some (.inl (0, 8192, .inl fs)) := by rw [e_L, av_up_ne D0.2.1.2.2.1]; exact y_as_
    have gL_aks : k_L aks = some (.inl (0, 8192, .inl fks)) := by rw [e_L, av_up_ne D0.2.2.1.2.1]; exact y_aks
    have gL_ab : k_L ab = some (.inl (0, 8192, .inl fb)) := by rw [e_L, av_up_ne (Ne.symm D0.2.2.2.2)]; exact y_ab
    have gL_m : k_L m = some (.inr (5, [.int (nI 0), .ref ai, .int (nI cn), .ref am, .int (nI ln), .ref ak, .int (nI kl), .ref as_, .ref aks, .ref ar, .ref an, .ref ab, .int (nI mn_1)])) := by rw [e_L, av_up_ne (av_apart' y2 y3)]; exact y2
    have gL_ar : k_L ar = some (.inl (0, 8192, .inl fq_1)) := by rw [e_L, av_up_ne D0.2.2.2.1.1]; exact y4
    have gL_an : k_L an = some (.inl (0, 8192, .inl f)) := by rw [e_L]; exact av_up_self _ _ _
    refine aw_aload_n d_M_write_76 rfl ?_
    refine aw_iconst (v := nI 0) d_M_write_77 (by decide) ?_
    refine aw_put (fs' := [.int (nI 0), .ref ai, .int (nI 0), .ref am, .int (nI ln), .ref ak, .int (nI kl), .ref as_, .ref aks, .ref ar, .ref an, .ref ab, .int (nI mn_1)]) (pt_M_40 _) d_M_write_78 gL_m rfl rfl (by simp) rfl ?_
    obtain ⟨k_2, e_k_2⟩ : ∃ z, z = av_up k_L m (.inr (5, [.int (nI 0), .ref ai, .int (nI 0), .ref am, .int (nI ln), .ref ak, .int (nI kl), .ref as_, .ref aks, .ref ar, .ref an, .ref ab, .int (nI mn_1)])) := ⟨_, rfl⟩
    refine aw_heap (h' := k_2) e_k_2.symm ?_
    have g2_ai : k_2 ai = some (.inl (1, 65536, .inl (bsf B))) := by rw [e_k_2, av_up_ne (av_apart gL_ai gL_m)]; exact gL_ai
    have g2_am : k_2 am = some (.inl (1, 65536, .inl (bsf HB))) := by rw [e_k_2, av_up_ne (av_apart gL_am gL_m)]; exact gL_am
    have g2_ak : k_2 ak = some (.inl (1, 65536, .inl (bsf KB))) := by rw [e_k_2, av_up_ne (av_apart gL_ak gL_m)]; exact gL_ak
    have g2_as_ : k_2 as_ = some (.inl (0, 8192, .inl fs)) := by rw [e_k_2, av_up_ne (av_apart gL_as_ gL_m)]; exact gL_as_
    have g2_aks : k_2 aks = some (.inl (0, 8192, .inl fks)) := by rw [e_k_2, av_up_ne (av_apart gL_aks gL_m)]; exact gL_aks
    have g2_ab : k_2 ab = some (.inl (0, 8192, .inl fb)) := by rw [e_k_2, av_up_ne (av_apart gL_ab gL_m)]; exact gL_ab
    have g2_ar : k_2 ar = some (.inl (0, 8192, .inl fq_1)) := by rw [e_k_2, av_up_ne (av_apart gL_ar gL_m)]; exact gL_ar
    have g2_an : k_2 an = some (.inl (0, 8192, .inl f)) := by rw [e_k_2, av_up_ne (av_apart gL_an gL_m)]; exact gL_an
    have g2_m : k_2 m = some (.inr (5, [.int (nI 0), .ref ai, .int (nI 0), .ref am, .int (nI ln), .ref ak, .int (nI kl), .ref as_, .ref aks, .ref ar, .ref an, .ref ab, .int (nI mn_1)])) := by rw [e_k_2]; exact av_up_self _ _ _
    refine aw_iconst (v := nI 0) d_M_write_81 (by decide) ?_
    refine aw_istore_n (L' := [some (.ref m), some (.int (nI (cntM (vfin HB).1 (nn HB)))), some (.int (nI 0)), none, none, none]) d_M_write_82 (by decide) rfl rfl ?_
    refine aw_post (fun v g q => ?_) (lp_M_writeH (by decide) (by decide) K0.2.1 D0 X hf 7 0 k_2 B g2_m g2_ai g2_am g2_as_ g2_an (fun _ _ _ => rfl) (fun i hi => absurd hi (Nat.not_lt_zero i)) K0.1 (by omega) (by omega))
    obtain ⟨t1, B', t2, t3, t4, t5, t6, t7⟩ := q
    have t_am : g am = some (.inl (1, 65536, .inl (bsf HB))) := by rw [t7 _ (av_apart g2_am g2_m) (Ne.symm D0.1.1)]; exact g2_am
    have t_ak : g ak = some (.inl (1, 65536, .inl (bsf KB))) := by rw [t7 _ (av_apart g2_ak g2_m) (Ne.symm D0.1.2.1)]; exact g2_ak
    have t_as_ : g as_ = some (.inl (0, 8192, .inl fs)) := by rw [t7 _ (av_apart g2_as_ g2_m) (av_apT g2_as_ g2_ai (by decide))]; exact g2_as_
    have t_aks : g aks = some (.inl (0, 8192, .inl fks)) := by rw [t7 _ (av_apart g2_aks g2_m) (av_apT g2_aks g2_ai (by decide))]; exact g2_aks
    have t_ar : g ar = some (.inl (0, 8192, .inl fq_1)) := by rw [t7 _ (av_apart g2_ar g2_m) (av_apT g2_ar g2_ai (by decide))]; exact g2_ar
    have t_ab : g ab = some (.inl (0, 8192, .inl fb)) := by rw [t7 _ (av_apart g2_ab g2_m) (av_apT g2_ab g2_ai (by decide))]; exact g2_ab
    exact ⟨fun z => absurd z (by omega), fun _ => ⟨t1, B', _, _, _, ⟨t2, t3, t_am, t_ak, t_as_, t_aks, t_ar, t4, t_ab⟩, t5, t6⟩, fun q a_m a_ai a_am a_ak a_as_ a_aks a_ar a_an a_ab => by rw [t7 q a_m a_ai, e_k_2, av_up_ne a_m, e_L, av_up_ne a_an, y6 q a_m a_an a_ar, e_k_1, av_up_ne a_m]⟩
  · rw [w_eq0 (by omega)] at c_9
    refine aw_iconst (v := (-1)) d_M_write_12 (by decide) ?_
    exact aw_iret d_M_write_13 rfl rfl ⟨fun _ => ⟨rfl, ⟨g1_m, g1_ai, g1_am, g1_ak, g1_as_, g1_aks, g1_ar, g1_an, g1_ab⟩⟩, fun z => absurd z (by omega), fun q a_m a_ai a_am a_ak a_as_ a_aks a_ar a_an a_ab => by rw [e_k_1, av_up_ne a_m]⟩
