/-! ===== the reader's constructor ===== -/
theorem iA.ex {h : AH} {K im : Nat} {l : List Nat} {C : Nat → Nat} (H : iA h K im l C) : LV h l := H.e.ex
theorem im3 {P : Nat → Prop} (h0 : P 0) (h1 : P 1) (h2 : P 2) : ∀ j, j < 3 → P j
  | 0, _ => h0
  | 1, _ => h1
  | 2, _ => h2
  | j + 3, h => absurd h (by omega)

set_option maxHeartbeats 4000000 in
theorem c_R_init {tb : Nat → Nat} {h : AH} {r K : Nat} (ho : h r = some (.inr (0, [.null, .null, .null, .null, .null, .null, .null, .null]))) (hK : 256 ≤ K) : AM tb y_R_init b_R_init 1 none 2 40 [.ref r] h 30 2304 (fun v h' => v = none ∧ ∃ F, CLS h' r F K 256 64 64 0 C0 C0 C0 ∧ frm [r] F h h') := by
  refine am_of (ini := true) [some (.ref r)] (by decide) (fun _ => rfl) (Nat.le_of_ble_eq_true rfl) rfl ?_
  refine aw_aload_n d_R_init_0 rfl ?_
  refine aw_objInit d_R_init_1 tw_22 tw_23 tw_24 (by omega) (by omega) (Nat.le_of_ble_eq_true rfl) ?_
  refine aw_aload_n d_R_init_4 rfl ?_
  refine aw_new (mc2 := 29) (ms2 := 2302) nc_R_7 d_R_init_5 (by omega) (by omega) (fun b f_b => ?_)
  obtain ⟨k_1, e_k_1⟩ : ∃ z, z = av_up h b (.inr (1, [.null, .int 0])) := ⟨_, rfl⟩
  refine aw_heap (h' := k_1) e_k_1.symm ?_
  have ne_r_b : r ≠ b := (fun z => by have z1 := ho; rw [z, f_b] at z1; cases z1)
  have g1_r : k_1 r = some (.inr (0, [.null, .null, .null, .null, .null, .null, .null, .null])) := by rw [e_k_1, av_up_ne ne_r_b]; exact ho
  have g1_b : k_1 b = some (.inr (1, [.null, .int 0])) := by rw [e_k_1]; exact av_up_self _ _ _
  refine aw_dup d_R_init_8 rfl ?_
  refine aw_callI (mc2 := 28) (ms2 := 2046) (As := []) (rest := [.ref b, .ref r]) (c_B_init g1_b) ci_R_9 d_R_init_9 rfl rfl (Nat.le_of_ble_eq_true rfl) (by decide) (by decide) (by omega) (by omega) (fun v_9 k_9c q_9 => ?_)
  obtain ⟨z_b, l_b, H_b_0, T_b⟩ := q_9
  refine aw_st (st' := [.ref b, .ref r]) (by rw [z_b]; rfl) ?_
  have N_b := ((frm.refl []).nw e_k_1 f_b).tr T_b
  have rn_b := T_b.at (show r ∉ [b] by simp only [List.mem_cons, List.not_mem_nil, or_false]; exact ne_r_b) g1_r
  have dr_b : ∀ x ∈ l_b, x ∉ [r] := dj_fr N_b (fun x hx => absurd hx (by simp)) (fun x hx => by simp only [List.mem_cons, List.not_mem_nil, or_false] at hx; rw [hx, ho]; exact Option.some_ne_none _)
  refine aw_put (fs' := [.ref b, .null, .null, .null, .null, .null, .null, .null]) pt_R_10 d_R_init_12 rn_b rfl rfl (by simp) rfl ?_
  obtain ⟨k_2, e_k_2⟩ : ∃ z, z = av_up k_9c r (.inr (0, [.ref b, .null, .null, .null, .null, .null, .null, .null])) := ⟨_, rfl⟩
  refine aw_heap (h' := k_2) e_k_2.symm ?_
  have g2_r : k_2 r = some (.inr (0, [.ref b, .null, .null, .null, .null, .null, .null, .null])) := by rw [e_k_2]; exact av_up_self _ _ _
  have G_b_b := H_b_0.lo (h' := k_2) (fun x hx => by rw [e_k_2, av_up_ne (fun z => dr_b x hx (by simp [z]))])
  refine aw_aload_n d_R_init_15 rfl ?_
  refine aw_new (mc2 := 27) (ms2 := 2035) nc_R_16 d_R_init_16 (by omega) (by omega) (fun x0 f_x0 => ?_)
  obtain ⟨k_3, e_k_3⟩ : ∃ z, z = av_up k_2 x0 (.inr (2, [.null, .null, .null, .null, .null, .null, .int 0, .int 0, .int 0, .int 0, .int 0])) := ⟨_, rfl⟩
  refine aw_heap (h' := k_3) e_k_3.symm ?_
  have ne_r_x0 : r ≠ x0 := (fun z => by have z1 := g2_r; rw [z, f_x0] at z1; cases z1)
  have g3_r : k_3 r = some (.inr (0, [.ref b, .null, .null, .null, .null, .null, .null, .null])) := by rw [e_k_3, av_up_ne ne_r_x0]; exact g2_r
  have g3_x0 : k_3 x0 = some (.inr (2, [.null, .null, .null, .null, .null, .null, .int 0, .int 0, .int 0, .int 0, .int 0])) := by rw [e_k_3]; exact av_up_self _ _ _
  refine aw_dup d_R_init_19 rfl ?_
  refine aw_callI (mc2 := 21) (ms2 := 1473) (As := []) (rest := [.ref x0, .ref r]) (c_I_init g3_x0) ci_R_18 d_R_init_20 rfl rfl (Nat.le_of_ble_eq_true rfl) (by decide) (by decide) (by omega) (by omega) (fun v_20 k_20c q_20 => ?_)
  obtain ⟨z_x0, l_x0, H_x0_0, T_x0⟩ := q_20
  refine aw_st (st' := [.ref x0, .ref r]) (by rw [z_x0]; rfl) ?_
  have N_x0 := ((frm.refl []).nw e_k_3 f_x0).tr T_x0
  have rn_x0 := T_x0.at (show r ∉ [x0] by simp only [List.mem_cons, List.not_mem_nil, or_false]; exact ne_r_x0) g3_r
  have dr_x0 : ∀ x ∈ l_x0, x ∉ [r] := dj_fr N_x0 (fun x hx => absurd hx (by simp)) (fun x hx => by simp only [List.mem_cons, List.not_mem_nil, or_false] at hx; rw [hx, g2_r]; exact Option.some_ne_none _)
  have d_x0_b := dj_fr N_x0 (fun x hx => absurd hx (by simp)) G_b_b.ex
  have H_b_x0 := G_b_b.lo (fun x hx => N_x0.1 x (by simp) (G_b_b.ex x hx))
  refine aw_put (fs' := [.ref b, .ref x0, .null, .null, .null, .null, .null, .null]) pt_R_19 d_R_init_23 rn_x0 rfl rfl (by simp) rfl ?_
  obtain ⟨k_4, e_k_4⟩ : ∃ z, z = av_up k_20c r (.inr (0, [.ref b, .ref x0, .null, .null, .null, .null, .null, .null])) := ⟨_, rfl⟩
  refine aw_heap (h' := k_4) e_k_4.symm ?_
  have g4_r : k_4 r = some (.inr (0, [.ref b, .ref x0, .null, .null, .null, .null, .null, .null])) := by rw [e_k_4]; exact av_up_self _ _ _
  have G_b_x0 := H_b_x0.lo (h' := k_4) (fun x hx => by rw [e_k_4, av_up_ne (fun z => dr_b x hx (by simp [z]))])
  have G_x0_x0 := H_x0_0.lo (h' := k_4) (fun x hx => by rw [e_k_4, av_up_ne (fun z => dr_x0 x hx (by simp [z]))])
  refine aw_aload_n d_R_init_26 rfl ?_
  refine aw_new (mc2 := 20) (ms2 := 1462) nc_R_16 d_R_init_27 (by omega) (by omega) (fun x1 f_x1 => ?_)
  obtain ⟨k_5, e_k_5⟩ : ∃ z, z = av_up k_4 x1 (.inr (2, [.null, .null, .null, .null, .null, .null, .int 0, .int 0, .int 0, .int 0, .int 0])) := ⟨_, rfl⟩
  refine aw_heap (h' := k_5) e_k_5.symm ?_
  have ne_r_x1 : r ≠ x1 := (fun z => by have z1 := g4_r; rw [z, f_x1] at z1; cases z1)
  have g5_r : k_5 r = some (.inr (0, [.ref b, .ref x0, .null, .null, .null, .null, .null, .null])) := by rw [e_k_5, av_up_ne ne_r_x1]; exact g4_r
  have g5_x1 : k_5 x1 = some (.inr (2, [.null, .null, .null, .null, .null, .null, .int 0, .int 0, .int 0, .int 0, .int 0])) := by rw [e_k_5]; exact av_up_self _ _ _
  refine aw_dup d_R_init_30 rfl ?_
  refine aw_callI (mc2 := 14) (ms2 := 900) (As := []) (rest := [.ref x1, .ref r]) (c_I_init g5_x1) ci_R_18 d_R_init_31 rfl rfl (Nat.le_of_ble_eq_true rfl) (by decide) (by decide) (by omega) (by omega) (fun v_31 k_31c q_31 => ?_)
  obtain ⟨z_x1, l_x1, H_x1_0, T_x1⟩ := q_31
  refine aw_st (st' := [.ref x1, .ref r]) (by rw [z_x1]; rfl) ?_
  have N_x1 := ((frm.refl []).nw e_k_5 f_x1).tr T_x1
  have rn_x1 := T_x1.at (show r ∉ [x1] by simp only [List.mem_cons, List.not_mem_nil, or_false]; exact ne_r_x1) g5_r
  have dr_x1 : ∀ x ∈ l_x1, x ∉ [r] := dj_fr N_x1 (fun x hx => absurd hx (by simp)) (fun x hx => by simp only [List.mem_cons, List.not_mem_nil, or_false] at hx; rw [hx, g4_r]; exact Option.some_ne_none _)
  have d_x1_b := dj_fr N_x1 (fun x hx => absurd hx (by simp)) G_b_x0.ex
  have H_b_x1 := G_b_x0.lo (fun x hx => N_x1.1 x (by simp) (G_b_x0.ex x hx))
  have d_x1_x0 := dj_fr N_x1 (fun x hx => absurd hx (by simp)) G_x0_x0.ex
  have H_x0_x1 := G_x0_x0.lo (fun x hx => N_x1.1 x (by simp) (G_x0_x0.ex x hx))
  refine aw_put (fs' := [.ref b, .ref x0, .ref x1, .null, .null, .null, .null, .null]) pt_R_23 d_R_init_34 rn_x1 rfl rfl (by simp) rfl ?_
  obtain ⟨k_6, e_k_6⟩ : ∃ z, z = av_up k_31c r (.inr (0, [.ref b, .ref x0, .ref x1, .null, .null, .null, .null, .null])) := ⟨_, rfl⟩
  refine aw_heap (h' := k_6) e_k_6.symm ?_
  have g6_r : k_6 r = some (.inr (0, [.ref b, .ref x0, .ref x1, .null, .null, .null, .null, .null])) := by rw [e_k_6]; exact av_up_self _ _ _
  have G_b_x1 := H_b_x1.lo (h' := k_6) (fun x hx => by rw [e_k_6, av_up_ne (fun z => dr_b x hx (by simp [z]))])
  have G_x0_x1 := H_x0_x1.lo (h' := k_6) (fun x hx => by rw [e_k_6, av_up_ne (fun z => dr_x0 x hx (by simp [z]))])
  have G_x1_x1 := H_x1_0.lo (h' := k_6) (fun x hx => by rw [e_k_6, av_up_ne (fun z => dr_x1 x hx (by simp [z]))])
  refine aw_aload_n d_R_init_37 rfl ?_
  refine aw_new (mc2 := 13) (ms2 := 889) nc_R_16 d_R_init_38 (by omega) (by omega) (fun x2 f_x2 => ?_)
  obtain ⟨k_7, e_k_7⟩ : ∃ z, z = av_up k_6 x2 (.inr (2, [.null, .null, .null, .null, .null, .null, .int 0, .int 0, .int 0, .int 0, .int 0])) := ⟨_, rfl⟩
  refine aw_heap (h' := k_7) e_k_7.symm ?_
  have ne_r_x2 : r ≠ x2 := (fun z => by have z1 := g6_r; rw [z, f_x2] at z1; cases z1)
  have g7_r : k_7 r = some (.inr (0, [.ref b, .ref x0, .ref x1, .null, .null, .null, .null, .null])) := by rw [e_k_7, av_up_ne ne_r_x2]; exact g6_r
  have g7_x2 : k_7 x2 = some (.inr (2, [.null, .null, .null, .null, .null, .null, .int 0, .int 0, .int 0, .int 0, .int 0])) := by rw [e_k_7]; exact av_up_self _ _ _
  refine aw_dup d_R_init_41 rfl ?_
  refine aw_callI (mc2 := 7) (ms2 := 327) (As := []) (rest := [.ref x2, .ref r]) (c_I_init g7_x2) ci_R_18 d_R_init_42 rfl rfl (Nat.le_of_ble_eq_true rfl) (by decide) (by decide) (by omega) (by omega) (fun v_42 k_42c q_42 => ?_)
  obtain ⟨z_x2, l_x2, H_x2_0, T_x2⟩ := q_42
  refine aw_st (st' := [.ref x2, .ref r]) (by rw [z_x2]; rfl) ?_
  have N_x2 := ((frm.refl []).nw e_k_7 f_x2).tr T_x2
  have rn_x2 := T_x2.at (show r ∉ [x2] by simp only [List.mem_cons, List.not_mem_nil, or_false]; exact ne_r_x2) g7_r
  have dr_x2 : ∀ x ∈ l_x2, x ∉ [r] := dj_fr N_x2 (fun x hx => absurd hx (by simp)) (fun x hx => by simp only [List.mem_cons, List.not_mem_nil, or_false] at hx; rw [hx, g6_r]; exact Option.some_ne_none _)
  have d_x2_b := dj_fr N_x2 (fun x hx => absurd hx (by simp)) G_b_x1.ex
  have H_b_x2 := G_b_x1.lo (fun x hx => N_x2.1 x (by simp) (G_b_x1.ex x hx))
  have d_x2_x0 := dj_fr N_x2 (fun x hx => absurd hx (by simp)) G_x0_x1.ex
  have H_x0_x2 := G_x0_x1.lo (fun x hx => N_x2.1 x (by simp) (G_x0_x1.ex x hx))
  have d_x2_x1 := dj_fr N_x2 (fun x hx => absurd hx (by simp)) G_x1_x1.ex
  have H_x1_x2 := G_x1_x1.lo (fun x hx => N_x2.1 x (by simp) (G_x1_x1.ex x hx))
  refine aw_put (fs' := [.ref b, .ref x0, .ref x1, .ref x2, .null, .null, .null, .null]) pt_R_26 d_R_init_45 rn_x2 rfl rfl (by simp) rfl ?_
  obtain ⟨k_8, e_k_8⟩ : ∃ z, z = av_up k_42c r (.inr (0, [.ref b, .ref x0, .ref x1, .ref x2, .null, .null, .null, .null])) := ⟨_, rfl⟩
  refine aw_heap (h' := k_8) e_k_8.symm ?_
  have g8_r : k_8 r = some (.inr (0, [.ref b, .ref x0, .ref x1, .ref x2, .null, .null, .null, .null])) := by rw [e_k_8]; exact av_up_self _ _ _
  have G_b_x2 := H_b_x2.lo (h' := k_8) (fun x hx => by rw [e_k_8, av_up_ne (fun z => dr_b x hx (by simp [z]))])
  have G_x0_x2 := H_x0_x2.lo (h' := k_8) (fun x hx => by rw [e_k_8, av_up_ne (fun z => dr_x0 x hx (by simp [z]))])
  have G_x1_x2 := H_x1_x2.lo (h' := k_8) (fun x hx => by rw [e_k_8, av_up_ne (fun z => dr_x1 x hx (by simp [z]))])
  have G_x2_x2 := H_x2_0.lo (h' := k_8) (fun x hx => by rw [e_k_8, av_up_ne (fun z => dr_x2 x hx (by simp [z]))])
  refine aw_aload_n d_R_init_48 rfl ?_
  refine aw_new (mc2 := 6) (ms2 := 324) nc_R_29 d_R_init_49 (by omega) (by omega) (fun w f_w => ?_)
  obtain ⟨k_9, e_k_9⟩ : ∃ z, z = av_up k_8 w (.inr (3, [.null, .null, .int 0])) := ⟨_, rfl⟩
  refine aw_heap (h' := k_9) e_k_9.symm ?_
  have ne_r_w : r ≠ w := (fun z => by have z1 := g8_r; rw [z, f_w] at z1; cases z1)
  have g9_r : k_9 r = some (.inr (0, [.ref b, .ref x0, .ref x1, .ref x2, .null, .null, .null, .null])) := by rw [e_k_9, av_up_ne ne_r_w]; exact g8_r
  have g9_w : k_9 w = some (.inr (3, [.null, .null, .int 0])) := by rw [e_k_9]; exact av_up_self _ _ _
  refine aw_dup d_R_init_52 rfl ?_
  refine aw_callI (mc2 := 4) (ms2 := 196) (As := []) (rest := [.ref w, .ref r]) (c_W_init g9_w) ci_R_31 d_R_init_53 rfl rfl (Nat.le_of_ble_eq_true rfl) (by decide) (by decide) (by omega) (by omega) (fun v_53 k_53c q_53 => ?_)
  obtain ⟨z_w, l_w, H_w_0, T_w⟩ := q_53
  refine aw_st (st' := [.ref w, .ref r]) (by rw [z_w]; rfl) ?_
  have N_w := ((frm.refl []).nw e_k_9 f_w).tr T_w
  have rn_w := T_w.at (show r ∉ [w] by simp only [List.mem_cons, List.not_mem_nil, or_false]; exact ne_r_w) g9_r
  have dr_w : ∀ x ∈ l_w, x ∉ [r] := dj_fr N_w (fun x hx => absurd hx (by simp)) (fun x hx => by simp only [List.mem_cons, List.not_mem_nil, or_false] at hx; rw [hx, g8_r]; exact Option.some_ne_none _)
  have d_w_b := dj_fr N_w (fun x hx => absurd hx (by simp)) G_b_x2.ex
  have H_b_w := G_b_x2.lo (fun x hx => N_w.1 x (by simp) (G_b_x2.ex x hx))
  have d_w_x0 := dj_fr N_w (fun x hx => absurd hx (by simp)) G_x0_x2.ex
  have H_x0_w := G_x0_x2.lo (fun x hx => N_w.1 x (by simp) (G_x0_x2.ex x hx))
  have d_w_x1 := dj_fr N_w (fun x hx => absurd hx (by simp)) G_x1_x2.ex
  have H_x1_w := G_x1_x2.lo (fun x hx => N_w.1 x (by simp) (G_x1_x2.ex x hx))
  have d_w_x2 := dj_fr N_w (fun x hx => absurd hx (by simp)) G_x2_x2.ex
  have H_x2_w := G_x2_x2.lo (fun x hx => N_w.1 x (by simp) (G_x2_x2.ex x hx))
  refine aw_put (fs' := [.ref b, .ref x0, .ref x1, .ref x2, .ref w, .null, .null, .null]) pt_R_32 d_R_init_56 rn_w rfl rfl (by simp) rfl ?_
  obtain ⟨k_10, e_k_10⟩ : ∃ z, z = av_up k_53c r (.inr (0, [.ref b, .ref x0, .ref x1, .ref x2, .ref w, .null, .null, .null])) := ⟨_, rfl⟩
  refine aw_heap (h' := k_10) e_k_10.symm ?_
  have g10_r : k_10 r = some (.inr (0, [.ref b, .ref x0, .ref x1, .ref x2, .ref w, .null, .null, .null])) := by rw [e_k_10]; exact av_up_self _ _ _
  have G_b_w := H_b_w.lo (h' := k_10) (fun x hx => by rw [e_k_10, av_up_ne (fun z => dr_b x hx (by simp [z]))])
  have G_x0_w := H_x0_w.lo (h' := k_10) (fun x hx => by rw [e_k_10, av_up_ne (fun z => dr_x0 x hx (by simp [z]))])
  have G_x1_w := H_x1_w.lo (h' := k_10) (fun x hx => by rw [e_k_10, av_up_ne (fun z => dr_x1 x hx (by simp [z]))])
  have G_x2_w := H_x2_w.lo (h' := k_10) (fun x hx => by rw [e_k_10, av_up_ne (fun z => dr_x2 x hx (by simp [z]))])
  have G_w_w := H_w_0.lo (h' := k_10) (fun x hx => by rw [e_k_10, av_up_ne (fun z => dr_w x hx (by simp [z]))])
  refine aw_aload_n d_R_init_59 rfl ?_
  refine aw_new (mc2 := 3) (ms2 := 192) nc_R_36 d_R_init_60 (by omega) (by omega) (fun p f_p => ?_)
  obtain ⟨k_11, e_k_11⟩ : ∃ z, z = av_up k_10 p (.inr (4, [.null, .null, .null, .int 0])) := ⟨_, rfl⟩
  refine aw_heap (h' := k_11) e_k_11.symm ?_
  have ne_r_p : r ≠ p := (fun z => by have z1 := g10_r; rw [z, f_p] at z1; cases z1)
  have g11_r : k_11 r = some (.inr (0, [.ref b, .ref x0, .ref x1, .ref x2, .ref w, .null, .null, .null])) := by rw [e_k_11, av_up_ne ne_r_p]; exact g10_r
  have g11_p : k_11 p = some (.inr (4, [.null, .null, .null, .int 0])) := by rw [e_k_11]; exact av_up_self _ _ _
  refine aw_dup d_R_init_63 rfl ?_
  refine aw_callI (mc2 := 0) (ms2 := 0) (As := []) (rest := [.ref p, .ref r]) (c_P_init g11_p) ci_R_38 d_R_init_64 rfl rfl (Nat.le_of_ble_eq_true rfl) (by decide) (by decide) (by omega) (by omega) (fun v_64 k_64c q_64 => ?_)
  obtain ⟨z_p, l_p, H_p_0, T_p⟩ := q_64
  refine aw_st (st' := [.ref p, .ref r]) (by rw [z_p]; rfl) ?_
  have N_p := ((frm.refl []).nw e_k_11 f_p).tr T_p
  have rn_p := T_p.at (show r ∉ [p] by simp only [List.mem_cons, List.not_mem_nil, or_false]; exact ne_r_p) g11_r
  have dr_p : ∀ x ∈ l_p, x ∉ [r] := dj_fr N_p (fun x hx => absurd hx (by simp)) (fun x hx => by simp only [List.mem_cons, List.not_mem_nil, or_false] at hx; rw [hx, g10_r]; exact Option.some_ne_none _)
  have d_p_b := dj_fr N_p (fun x hx => absurd hx (by simp)) G_b_w.ex
  have H_b_p := G_b_w.lo (fun x hx => N_p.1 x (by simp) (G_b_w.ex x hx))
  have d_p_x0 := dj_fr N_p (fun x hx => absurd hx (by simp)) G_x0_w.ex
  have H_x0_p := G_x0_w.lo (fun x hx => N_p.1 x (by simp) (G_x0_w.ex x hx))
  have d_p_x1 := dj_fr N_p (fun x hx => absurd hx (by simp)) G_x1_w.ex
  have H_x1_p := G_x1_w.lo (fun x hx => N_p.1 x (by simp) (G_x1_w.ex x hx))
  have d_p_x2 := dj_fr N_p (fun x hx => absurd hx (by simp)) G_x2_w.ex
  have H_x2_p := G_x2_w.lo (fun x hx => N_p.1 x (by simp) (G_x2_w.ex x hx))
  have d_p_w := dj_fr N_p (fun x hx => absurd hx (by simp)) G_w_w.ex
  have H_w_p := G_w_w.lo (fun x hx => N_p.1 x (by simp) (G_w_w.ex x hx))
  refine aw_put (fs' := [.ref b, .ref x0, .ref x1, .ref x2, .ref w, .ref p, .null, .null]) pt_R_39 d_R_init_67 rn_p rfl rfl (by simp) rfl ?_
  obtain ⟨k_12, e_k_12⟩ : ∃ z, z = av_up k_64c r (.inr (0, [.ref b, .ref x0, .ref x1, .ref x2, .ref w, .ref p, .null, .null])) := ⟨_, rfl⟩
  refine aw_heap (h' := k_12) e_k_12.symm ?_
  have g12_r : k_12 r = some (.inr (0, [.ref b, .ref x0, .ref x1, .ref x2, .ref w, .ref p, .null, .null])) := by rw [e_k_12]; exact av_up_self _ _ _
  have G_b_p := H_b_p.lo (h' := k_12) (fun x hx => by rw [e_k_12, av_up_ne (fun z => dr_b x hx (by simp [z]))])
  have G_x0_p := H_x0_p.lo (h' := k_12) (fun x hx => by rw [e_k_12, av_up_ne (fun z => dr_x0 x hx (by simp [z]))])
  have G_x1_p := H_x1_p.lo (h' := k_12) (fun x hx => by rw [e_k_12, av_up_ne (fun z => dr_x1 x hx (by simp [z]))])
  have G_x2_p := H_x2_p.lo (h' := k_12) (fun x hx => by rw [e_k_12, av_up_ne (fun z => dr_x2 x hx (by simp [z]))])
  have G_w_p := H_w_p.lo (h' := k_12) (fun x hx => by rw [e_k_12, av_up_ne (fun z => dr_w x hx (by simp [z]))])
  have G_p_p := H_p_0.lo (h' := k_12) (fun x hx => by rw [e_k_12, av_up_ne (fun z => dr_p x hx (by simp [z]))])
  refine aw_aload_n d_R_init_70 rfl ?_
  refine aw_aload_n d_R_init_71 rfl ?_
  refine aw_get fl_R_19 d_R_init_72 g12_r rfl ?_
  refine aw_put (fs' := [.ref b, .ref x0, .ref x1, .ref x2, .ref w, .ref p, .ref x0, .null]) (pt_R_43 _) d_R_init_75 g12_r rfl rfl (by simp) rfl ?_
  obtain ⟨k_13, e_k_13⟩ : ∃ z, z = av_up k_12 r (.inr (0, [.ref b, .ref x0, .ref x1, .ref x2, .ref w, .ref p, .ref x0, .null])) := ⟨_, rfl⟩
  refine aw_heap (h' := k_13) e_k_13.symm ?_
  have g13_r : k_13 r = some (.inr (0, [.ref b, .ref x0, .ref x1, .ref x2, .ref w, .ref p, .ref x0, .null])) := by rw [e_k_13]; exact av_up_self _ _ _
  have G_b_hd := G_b_p.lo (h' := k_13) (fun x hx => by rw [e_k_13, av_up_ne (fun z => dr_b x hx (by simp [z]))])
  have G_x0_hd := G_x0_p.lo (h' := k_13) (fun x hx => by rw [e_k_13, av_up_ne (fun z => dr_x0 x hx (by simp [z]))])
  have G_x1_hd := G_x1_p.lo (h' := k_13) (fun x hx => by rw [e_k_13, av_up_ne (fun z => dr_x1 x hx (by simp [z]))])
  have G_x2_hd := G_x2_p.lo (h' := k_13) (fun x hx => by rw [e_k_13, av_up_ne (fun z => dr_x2 x hx (by simp [z]))])
  have G_w_hd := G_w_p.lo (h' := k_13) (fun x hx => by rw [e_k_13, av_up_ne (fun z => dr_w x hx (by simp [z]))])
  have G_p_hd := G_p_p.lo (h' := k_13) (fun x hx => by rw [e_k_13, av_up_ne (fun z => dr_p x hx (by simp [z]))])
  refine aw_aload_n d_R_init_78 rfl ?_
  refine aw_aload_n d_R_init_79 rfl ?_
  refine aw_get fl_R_19 d_R_init_80 g13_r rfl ?_
  refine aw_put (fs' := [.ref b, .ref x0, .ref x1, .ref x2, .ref w, .ref p, .ref x0, .ref x0]) (pt_R_46 _) d_R_init_83 g13_r rfl rfl (by simp) rfl ?_
  obtain ⟨k_14, e_k_14⟩ : ∃ z, z = av_up k_13 r (.inr (0, [.ref b, .ref x0, .ref x1, .ref x2, .ref w, .ref p, .ref x0, .ref x0])) := ⟨_, rfl⟩
  refine aw_heap (h' := k_14) e_k_14.symm ?_
  have g14_r : k_14 r = some (.inr (0, [.ref b, .ref x0, .ref x1, .ref x2, .ref w, .ref p, .ref x0, .ref x0])) := by rw [e_k_14]; exact av_up_self _ _ _
  have G_b_kp := G_b_hd.lo (h' := k_14) (fun x hx => by rw [e_k_14, av_up_ne (fun z => dr_b x hx (by simp [z]))])
  have G_x0_kp := G_x0_hd.lo (h' := k_14) (fun x hx => by rw [e_k_14, av_up_ne (fun z => dr_x0 x hx (by simp [z]))])
  have G_x1_kp := G_x1_hd.lo (h' := k_14) (fun x hx => by rw [e_k_14, av_up_ne (fun z => dr_x1 x hx (by simp [z]))])
  have G_x2_kp := G_x2_hd.lo (h' := k_14) (fun x hx => by rw [e_k_14, av_up_ne (fun z => dr_x2 x hx (by simp [z]))])
  have G_w_kp := G_w_hd.lo (h' := k_14) (fun x hx => by rw [e_k_14, av_up_ne (fun z => dr_w x hx (by simp [z]))])
  have G_p_kp := G_p_hd.lo (h' := k_14) (fun x hx => by rw [e_k_14, av_up_ne (fun z => dr_p x hx (by simp [z]))])
  exact aw_vret d_R_init_86 rfl ⟨rfl, _, ⟨Z7 [r] l_b l_x0 l_x1 l_x2 l_w l_p, X3 x0 x1 x2, b, w, p, 0, 0, PD_mk dr_b dr_x0 d_x0_b dr_x1 d_x1_b d_x1_x0 dr_x2 d_x2_b d_x2_x0 d_x2_x1 dr_w d_w_b d_w_x0 d_w_x1 d_w_x2 dr_p d_p_b d_p_x0 d_p_x1 d_p_x2 d_p_w, Z7_mem (by intro x hx; simp only [List.mem_append]; simp only [hx, true_or, or_true]) (by intro x hx; simp only [List.mem_append]; simp only [hx, true_or, or_true]) (by intro x hx; simp only [List.mem_append]; simp only [hx, true_or, or_true]) (by intro x hx; simp only [List.mem_append]; simp only [hx, true_or, or_true]) (by intro x hx; simp only [List.mem_append]; simp only [hx, true_or, or_true]) (by intro x hx; simp only [List.mem_append]; simp only [hx, true_or, or_true]) (by intro x hx; simp only [List.mem_append]; simp only [hx, true_or, or_true]), ⟨rfl, g14_r, G_b_kp, im3 (G_x0_kp.mono hK).e (G_x1_kp.mono hK).e (G_x2_kp.mono hK).e, G_x0_kp.mono hK, G_x0_kp.mono hK, G_w_kp, G_p_kp, by decide, by decide, by decide, by decide, P64_64, P64_64⟩⟩, (((((((((((((((frm.refl [r]).tr (N_b.wd (fun x hx => absurd hx (by simp)) (fun x hx => List.mem_append.mp hx))).up e_k_2 (by simp)).tr (N_x0.wd (fun x hx => absurd hx (by simp)) (fun x hx => List.mem_append.mp hx))).up e_k_4 (by simp)).tr (N_x1.wd (fun x hx => absurd hx (by simp)) (fun x hx => List.mem_append.mp hx))).up e_k_6 (by simp)).tr (N_x2.wd (fun x hx => absurd hx (by simp)) (fun x hx => List.mem_append.mp hx))).up e_k_8 (by simp)).tr (N_w.wd (fun x hx => absurd hx (by simp)) (fun x hx => List.mem_append.mp hx))).up e_k_10 (by simp)).tr (N_p.wd (fun x hx => absurd hx (by simp)) (fun x hx => List.mem_append.mp hx))).up e_k_12 (by simp)).up e_k_13 (by simp)).up e_k_14 (by simp))⟩
