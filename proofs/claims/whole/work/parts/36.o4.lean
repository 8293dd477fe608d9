/-! ===== the class: taking an image in ===== -/

set_option maxHeartbeats 4000000 in
theorem c_I_clear {tb : Nat → Nat} {h : AH} {im a0 a1 a2 a3 a4 a5 cc pc us n iw wp cp : Nat} {f0 f1 f2 f3 f4 f5 : Nat → Int32} (M : iS h im a0 a1 a2 a3 a4 a5 cc pc us n iw wp cp f0 f1 f2 f3 f4 f5) (D : iND a0 a1 a2 a3 a4 a5) : AM tb y_I_clear b_I_clear 1 none 0 0 [.ref im] h 0 0 (fun v h' => v = none ∧ iS h' im a0 a1 a2 a3 a4 a5 cc pc 0 0 0 wp cp f0 f1 f2 f3 f4 f5 ∧ frm [im, a0, a1, a2, a3, a4, a5] [im, a0, a1, a2, a3, a4, a5] h h') := by
  refine am_of (ini := false) [some (.ref im)] (by decide) (fun z => by cases z) (Nat.le_of_ble_eq_true rfl) rfl ?_
  refine aw_aload_n d_I_clear_0 rfl ?_
  refine aw_iconst (v := nI 0) d_I_clear_1 (by decide) ?_
  refine aw_put (fs' := [.ref a0, .ref a1, .ref a2, .ref a3, .ref a4, .ref a5, .int (nI 0), .int (nI n), .int (nI iw), .int (nI wp), .int (nI cp)]) (pt_I_30 _) d_I_clear_2 M.1 rfl rfl (by simp) rfl ?_
  obtain ⟨k_1, e_k_1⟩ : ∃ z, z = av_up h im (.inr (2, [.ref a0, .ref a1, .ref a2, .ref a3, .ref a4, .ref a5, .int (nI 0), .int (nI n), .int (nI iw), .int (nI wp), .int (nI cp)])) := ⟨_, rfl⟩
  refine aw_heap (h' := k_1) e_k_1.symm ?_
  have g1_a0 : k_1 a0 = some (.inl (0, 50, .inl f0)) := by rw [e_k_1, av_up_ne (av_apart M.2.1 M.1)]; exact M.2.1
  have g1_a1 : k_1 a1 = some (.inl (0, cc, .inl f1)) := by rw [e_k_1, av_up_ne (av_apart M.2.2.1 M.1)]; exact M.2.2.1
  have g1_a2 : k_1 a2 = some (.inl (0, cc, .inl f2)) := by rw [e_k_1, av_up_ne (av_apart M.2.2.2.1 M.1)]; exact M.2.2.2.1
  have g1_a3 : k_1 a3 = some (.inl (0, cc, .inl f3)) := by rw [e_k_1, av_up_ne (av_apart M.2.2.2.2.1 M.1)]; exact M.2.2.2.2.1
  have g1_a4 : k_1 a4 = some (.inl (0, cc, .inl f4)) := by rw [e_k_1, av_up_ne (av_apart M.2.2.2.2.2.1 M.1)]; exact M.2.2.2.2.2.1
  have g1_a5 : k_1 a5 = some (.inl (0, pc, .inl f5)) := by rw [e_k_1, av_up_ne (av_apart M.2.2.2.2.2.2 M.1)]; exact M.2.2.2.2.2.2
  have g1_im : k_1 im = some (.inr (2, [.ref a0, .ref a1, .ref a2, .ref a3, .ref a4, .ref a5, .int (nI 0), .int (nI n), .int (nI iw), .int (nI wp), .int (nI cp)])) := by rw [e_k_1]; exact av_up_self _ _ _
  refine aw_aload_n d_I_clear_5 rfl ?_
  refine aw_iconst (v := nI 0) d_I_clear_6 (by decide) ?_
  refine aw_put (fs' := [.ref a0, .ref a1, .ref a2, .ref a3, .ref a4, .ref a5, .int (nI 0), .int (nI 0), .int (nI iw), .int (nI wp), .int (nI cp)]) (pt_I_34 _) d_I_clear_7 g1_im rfl rfl (by simp) rfl ?_
  obtain ⟨k_2, e_k_2⟩ : ∃ z, z = av_up k_1 im (.inr (2, [.ref a0, .ref a1, .ref a2, .ref a3, .ref a4, .ref a5, .int (nI 0), .int (nI 0), .int (nI iw), .int (nI wp), .int (nI cp)])) := ⟨_, rfl⟩
  refine aw_heap (h' := k_2) e_k_2.symm ?_
  have g2_a0 : k_2 a0 = some (.inl (0, 50, .inl f0)) := by rw [e_k_2, av_up_ne (av_apart g1_a0 g1_im)]; exact g1_a0
  have g2_a1 : k_2 a1 = some (.inl (0, cc, .inl f1)) := by rw [e_k_2, av_up_ne (av_apart g1_a1 g1_im)]; exact g1_a1
  have g2_a2 : k_2 a2 = some (.inl (0, cc, .inl f2)) := by rw [e_k_2, av_up_ne (av_apart g1_a2 g1_im)]; exact g1_a2
  have g2_a3 : k_2 a3 = some (.inl (0, cc, .inl f3)) := by rw [e_k_2, av_up_ne (av_apart g1_a3 g1_im)]; exact g1_a3
  have g2_a4 : k_2 a4 = some (.inl (0, cc, .inl f4)) := by rw [e_k_2, av_up_ne (av_apart g1_a4 g1_im)]; exact g1_a4
  have g2_a5 : k_2 a5 = some (.inl (0, pc, .inl f5)) := by rw [e_k_2, av_up_ne (av_apart g1_a5 g1_im)]; exact g1_a5
  have g2_im : k_2 im = some (.inr (2, [.ref a0, .ref a1, .ref a2, .ref a3, .ref a4, .ref a5, .int (nI 0), .int (nI 0), .int (nI iw), .int (nI wp), .int (nI cp)])) := by rw [e_k_2]; exact av_up_self _ _ _
  refine aw_aload_n d_I_clear_10 rfl ?_
  refine aw_iconst (v := nI 0) d_I_clear_11 (by decide) ?_
  refine aw_put (fs' := [.ref a0, .ref a1, .ref a2, .ref a3, .ref a4, .ref a5, .int (nI 0), .int (nI 0), .int (nI 0), .int (nI wp), .int (nI cp)]) (pt_I_37 _) d_I_clear_12 g2_im rfl rfl (by simp) rfl ?_
  obtain ⟨k_3, e_k_3⟩ : ∃ z, z = av_up k_2 im (.inr (2, [.ref a0, .ref a1, .ref a2, .ref a3, .ref a4, .ref a5, .int (nI 0), .int (nI 0), .int (nI 0), .int (nI wp), .int (nI cp)])) := ⟨_, rfl⟩
  refine aw_heap (h' := k_3) e_k_3.symm ?_
  have g3_a0 : k_3 a0 = some (.inl (0, 50, .inl f0)) := by rw [e_k_3, av_up_ne (av_apart g2_a0 g2_im)]; exact g2_a0
  have g3_a1 : k_3 a1 = some (.inl (0, cc, .inl f1)) := by rw [e_k_3, av_up_ne (av_apart g2_a1 g2_im)]; exact g2_a1
  have g3_a2 : k_3 a2 = some (.inl (0, cc, .inl f2)) := by rw [e_k_3, av_up_ne (av_apart g2_a2 g2_im)]; exact g2_a2
  have g3_a3 : k_3 a3 = some (.inl (0, cc, .inl f3)) := by rw [e_k_3, av_up_ne (av_apart g2_a3 g2_im)]; exact g2_a3
  have g3_a4 : k_3 a4 = some (.inl (0, cc, .inl f4)) := by rw [e_k_3, av_up_ne (av_apart g2_a4 g2_im)]; exact g2_a4
  have g3_a5 : k_3 a5 = some (.inl (0, pc, .inl f5)) := by rw [e_k_3, av_up_ne (av_apart g2_a5 g2_im)]; exact g2_a5
  have g3_im : k_3 im = some (.inr (2, [.ref a0, .ref a1, .ref a2, .ref a3, .ref a4, .ref a5, .int (nI 0), .int (nI 0), .int (nI 0), .int (nI wp), .int (nI cp)])) := by rw [e_k_3]; exact av_up_self _ _ _
  exact aw_vret d_I_clear_15 rfl ⟨rfl, ⟨g3_im, g3_a0, g3_a1, g3_a2, g3_a3, g3_a4, g3_a5⟩, ((((frm.refl [im, a0, a1, a2, a3, a4, a5]).up e_k_1 (by simp)).up e_k_2 (by simp)).up e_k_3 (by simp))⟩

set_option maxHeartbeats 4000000 in
theorem c_I_addPart {tb : Nat → Nat} {h : AH} {im a0 a1 a2 a3 a4 a5 cc pc us n iw wp cp : Nat} {f0 f1 f2 f3 f4 f5 : Nat → Int32} (M : iS h im a0 a1 a2 a3 a4 a5 cc pc us n iw wp cp f0 f1 f2 f3 f4 f5) (D : iND a0 a1 a2 a3 a4 a5) (hu : us ≤ pc) (h0 : 256 ≤ pc) (hp : pc ≤ 500000) (x : Nat) : AM tb y_I_addPart b_I_addPart 2 none 2 48 [.ref im, .int (nI x)] h ((gN pc (us + 1) - pc) / 256) (2 * (gN pc (us + 1) - pc)) (fun v h' => v = none ∧ ∃ b5 g5, iS h' im a0 a1 a2 a3 a4 b5 cc (gN pc (us + 1)) (us + 1) n iw wp cp f0 f1 f2 f3 f4 g5 ∧ iND a0 a1 a2 a3 a4 b5 ∧ g5 us = nI x ∧ (∀ k, k < us → g5 k = f5 k) ∧ frm [im, a0, a1, a2, a3, a4, a5] [im, a0, a1, a2, a3, a4, b5] h h') := by
  refine am_of (ini := false) [some (.ref im), some (.int (nI x))] (by decide) (fun z => by cases z) (Nat.le_of_ble_eq_true rfl) rfl ?_
  refine aw_aload_n d_I_addPart_0 rfl ?_
  refine aw_get fl_I_30 d_I_addPart_1 M.1 rfl ?_
  refine aw_aload_n d_I_addPart_4 rfl ?_
  refine aw_get fl_I_27 d_I_addPart_5 M.1 rfl ?_
  refine aw_alen (v := nI pc) d_I_addPart_8 M.2.2.2.2.2.2 (fun _ => rfl) rfl ?_
  refine aw_icmp_lt (tgt := 30) d_I_addPart_9 (by decide) (fun c_9 => ?_) (fun c_9 => ?_)
  · rw [nI_ltI (by omega) (by omega)] at c_9
    have hg : gN pc (us + 1) = pc := gN_le (by omega)
    refine aw_aload_n d_I_addPart_30 rfl ?_
    refine aw_get fl_I_27 d_I_addPart_31 M.1 rfl ?_
    refine aw_aload_n d_I_addPart_34 rfl ?_
    refine aw_get fl_I_30 d_I_addPart_35 M.1 rfl ?_
    refine aw_iload_n d_I_addPart_38 rfl ?_
    refine aw_iast (f' := upd f5 us (nI x)) d_I_addPart_39 M.2.2.2.2.2.2 (vp_in_nI (by omega) (by omega)) (by rw [nI_clamp (by omega)]) ?_
    obtain ⟨k_1, e_k_1⟩ : ∃ z, z = av_up h a5 (.inl (0, pc, .inl (upd f5 us (nI x)))) := ⟨_, rfl⟩
    refine aw_heap (h' := k_1) e_k_1.symm ?_
    have g1_im : k_1 im = some (.inr (2, [.ref a0, .ref a1, .ref a2, .ref a3, .ref a4, .ref a5, .int (nI us), .int (nI n), .int (nI iw), .int (nI wp), .int (nI cp)])) := by rw [e_k_1, av_up_ne (av_apart' M.1 M.2.2.2.2.2.2)]; exact M.1
    have g1_a0 : k_1 a0 = some (.inl (0, 50, .inl f0)) := by rw [e_k_1, av_up_ne D.2.2.2.2.1]; exact M.2.1
    have g1_a1 : k_1 a1 = some (.inl (0, cc, .inl f1)) := by rw [e_k_1, av_up_ne D.2.2.2.2.2.2.2.2.1]; exact M.2.2.1
    have g1_a2 : k_1 a2 = some (.inl (0, cc, .inl f2)) := by rw [e_k_1, av_up_ne D.2.2.2.2.2.2.2.2.2.2.2.1]; exact M.2.2.2.1
    have g1_a3 : k_1 a3 = some (.inl (0, cc, .inl f3)) := by rw [e_k_1, av_up_ne D.2.2.2.2.2.2.2.2.2.2.2.2.2.1]; exact M.2.2.2.2.1
    have g1_a4 : k_1 a4 = some (.inl (0, cc, .inl f4)) := by rw [e_k_1, av_up_ne D.2.2.2.2.2.2.2.2.2.2.2.2.2.2]; exact M.2.2.2.2.2.1
    have g1_a5 : k_1 a5 = some (.inl (0, pc, .inl (upd f5 us (nI x)))) := by rw [e_k_1]; exact av_up_self _ _ _
    refine aw_aload_n d_I_addPart_40 rfl ?_
    refine aw_dup d_I_addPart_41 rfl ?_
    refine aw_get fl_I_30 d_I_addPart_42 g1_im rfl ?_
    refine aw_iconst (v := nI 1) d_I_addPart_45 (by decide) ?_
    refine aw_iadd (v := nI (us + 1)) d_I_addPart_46 (nI_add _ _) ?_
    refine aw_put (fs' := [.ref a0, .ref a1, .ref a2, .ref a3, .ref a4, .ref a5, .int (nI (us + 1)), .int (nI n), .int (nI iw), .int (nI wp), .int (nI cp)]) (pt_I_30 _) d_I_addPart_47 g1_im rfl rfl (by simp) rfl ?_
    obtain ⟨k_2, e_k_2⟩ : ∃ z, z = av_up k_1 im (.inr (2, [.ref a0, .ref a1, .ref a2, .ref a3, .ref a4, .ref a5, .int (nI (us + 1)), .int (nI n), .int (nI iw), .int (nI wp), .int (nI cp)])) := ⟨_, rfl⟩
    refine aw_heap (h' := k_2) e_k_2.symm ?_
    have g2_a0 : k_2 a0 = some (.inl (0, 50, .inl f0)) := by rw [e_k_2, av_up_ne (av_apart g1_a0 g1_im)]; exact g1_a0
    have g2_a1 : k_2 a1 = some (.inl (0, cc, .inl f1)) := by rw [e_k_2, av_up_ne (av_apart g1_a1 g1_im)]; exact g1_a1
    have g2_a2 : k_2 a2 = some (.inl (0, cc, .inl f2)) := by rw [e_k_2, av_up_ne (av_apart g1_a2 g1_im)]; exact g1_a2
    have g2_a3 : k_2 a3 = some (.inl (0, cc, .inl f3)) := by rw [e_k_2, av_up_ne (av_apart g1_a3 g1_im)]; exact g1_a3
    have g2_a4 : k_2 a4 = some (.inl (0, cc, .inl f4)) := by rw [e_k_2, av_up_ne (av_apart g1_a4 g1_im)]; exact g1_a4
    have g2_a5 : k_2 a5 = some (.inl (0, pc, .inl (upd f5 us (nI x)))) := by rw [e_k_2, av_up_ne (av_apart g1_a5 g1_im)]; exact g1_a5
    have g2_im : k_2 im = some (.inr (2, [.ref a0, .ref a1, .ref a2, .ref a3, .ref a4, .ref a5, .int (nI (us + 1)), .int (nI n), .int (nI iw), .int (nI wp), .int (nI cp)])) := by rw [e_k_2]; exact av_up_self _ _ _
    exact aw_vret d_I_addPart_50 rfl ⟨rfl, _, _, ⟨g2_im, g2_a0, g2_a1, g2_a2, g2_a3, g2_a4, (by rw [hg]; exact g2_a5)⟩, ⟨D.1, D.2.1, D.2.2.1, D.2.2.2.1, D.2.2.2.2.1, D.2.2.2.2.2.1, D.2.2.2.2.2.2.1, D.2.2.2.2.2.2.2.1, D.2.2.2.2.2.2.2.2.1, D.2.2.2.2.2.2.2.2.2.1, D.2.2.2.2.2.2.2.2.2.2.1, D.2.2.2.2.2.2.2.2.2.2.2.1, D.2.2.2.2.2.2.2.2.2.2.2.2.1, D.2.2.2.2.2.2.2.2.2.2.2.2.2.1, D.2.2.2.2.2.2.2.2.2.2.2.2.2.2⟩, by unfold upd; rw [if_pos rfl], fun k hk => by unfold upd; rw [if_neg (by omega)], (((frm.refl [im, a0, a1, a2, a3, a4, a5]).up e_k_1 (by simp)).up e_k_2 (by simp)).sub (by intro x hx; simp only [List.mem_cons, List.not_mem_nil, or_false] at hx ⊢; omega)⟩
  · rw [nI_ltI (by omega) (by omega)] at c_9
    have hg : gN pc (us + 1) = 2 * pc := by rw [gN_gt (by omega) (by omega), gN_le (by omega)]
    refine aw_aload_n d_I_addPart_12 rfl ?_
    refine aw_aload_n d_I_addPart_13 rfl ?_
    refine aw_get fl_I_27 d_I_addPart_14 M.1 rfl ?_
    refine aw_iconst (v := nI 2) d_I_addPart_17 (by decide) ?_
    refine aw_aload_n d_I_addPart_18 rfl ?_
    refine aw_get fl_I_27 d_I_addPart_19 M.1 rfl ?_
    refine aw_alen (v := nI pc) d_I_addPart_22 M.2.2.2.2.2.2 (fun _ => rfl) rfl ?_
    refine aw_imul (v := nI (2 * pc)) d_I_addPart_23 (pk_mul _ _) ?_
    refine aw_callS (mc2 := 0) (ms2 := 0) (As := [.ref a5, .int (nI (2 * pc))]) (rest := [.ref im]) (c_A_copyOf_aII (n := 2 * pc) M.2.2.2.2.2.2 (by omega) rfl (by omega)) cs_I_40 d_I_addPart_24 rfl rfl (Nat.le_of_ble_eq_true rfl) (by decide) (by decide) (by omega) (by omega) (fun v_24 k_24c q_24 => ?_)
    obtain ⟨n5, y1_n5, f_n5, y3_n5⟩ := q_24
    refine aw_st (st' := [.ref n5, .ref im]) (by rw [y1_n5]; rfl) ?_
    have ne_im_n5 : im ≠ n5 := (fun z => by have z1 := M.1; rw [z, f_n5] at z1; cases z1)
    have gn5_im : k_24c im = some (.inr (2, [.ref a0, .ref a1, .ref a2, .ref a3, .ref a4, .ref a5, .int (nI us), .int (nI n), .int (nI iw), .int (nI wp), .int (nI cp)])) := by rw [y3_n5, av_up_ne ne_im_n5]; exact M.1
    have ne_a0_n5 : a0 ≠ n5 := (fun z => by have z1 := M.2.1; rw [z, f_n5] at z1; cases z1)
    have gn5_a0 : k_24c a0 = some (.inl (0, 50, .inl f0)) := by rw [y3_n5, av_up_ne ne_a0_n5]; exact M.2.1
    have ne_a1_n5 : a1 ≠ n5 := (fun z => by have z1 := M.2.2.1; rw [z, f_n5] at z1; cases z1)
    have gn5_a1 : k_24c a1 = some (.inl (0, cc, .inl f1)) := by rw [y3_n5, av_up_ne ne_a1_n5]; exact M.2.2.1
    have ne_a2_n5 : a2 ≠ n5 := (fun z => by have z1 := M.2.2.2.1; rw [z, f_n5] at z1; cases z1)
    have gn5_a2 : k_24c a2 = some (.inl (0, cc, .inl f2)) := by rw [y3_n5, av_up_ne ne_a2_n5]; exact M.2.2.2.1
    have ne_a3_n5 : a3 ≠ n5 := (fun z => by have z1 := M.2.2.2.2.1; rw [z, f_n5] at z1; cases z1)
    have gn5_a3 : k_24c a3 = some (.inl (0, cc, .inl f3)) := by rw [y3_n5, av_up_ne ne_a3_n5]; exact M.2.2.2.2.1
    have ne_a4_n5 : a4 ≠ n5 := (fun z => by have z1 := M.2.2.2.2.2.1; rw [z, f_n5] at z1; cases z1)
    have gn5_a4 : k_24c a4 = some (.inl (0, cc, .inl f4)) := by rw [y3_n5, av_up_ne ne_a4_n5]; exact M.2.2.2.2.2.1
    have ne_a5_n5 : a5 ≠ n5 := (fun z => by have z1 := M.2.2.2.2.2.2; rw [z, f_n5] at z1; cases z1)
    have gn5_a5 : k_24c a5 = some (.inl (0, pc, .inl f5)) := by rw [y3_n5, av_up_ne ne_a5_n5]; exact M.2.2.2.2.2.2
    have gn5_n5 : k_24c n5 = some (.inl (0, 2 * pc, .inl (va_cpy f5 (fun _ => 0) 0 0 pc))) := by rw [y3_n5]; exact av_up_self _ _ _
    refine aw_put (fs' := [.ref a0, .ref a1, .ref a2, .ref a3, .ref a4, .ref n5, .int (nI us), .int (nI n), .int (nI iw), .int (nI wp), .int (nI cp)]) (pt_I_27 _) d_I_addPart_27 gn5_im rfl rfl (by simp) rfl ?_
    obtain ⟨k_3, e_k_3⟩ : ∃ z, z = av_up k_24c im (.inr (2, [.ref a0, .ref a1, .ref a2, .ref a3, .ref a4, .ref n5, .int (nI us), .int (nI n), .int (nI iw), .int (nI wp), .int (nI cp)])) := ⟨_, rfl⟩
    refine aw_heap (h' := k_3) e_k_3.symm ?_
    have g3_a0 : k_3 a0 = some (.inl (0, 50, .inl f0)) := by rw [e_k_3, av_up_ne (av_apart gn5_a0 gn5_im)]; exact gn5_a0
    have g3_a1 : k_3 a1 = some (.inl (0, cc, .inl f1)) := by rw [e_k_3, av_up_ne (av_apart gn5_a1 gn5_im)]; exact gn5_a1
    have g3_a2 : k_3 a2 = some (.inl (0, cc, .inl f2)) := by rw [e_k_3, av_up_ne (av_apart gn5_a2 gn5_im)]; exact gn5_a2
    have g3_a3 : k_3 a3 = some (.inl (0, cc, .inl f3)) := by rw [e_k_3, av_up_ne (av_apart gn5_a3 gn5_im)]; exact gn5_a3
    have g3_a4 : k_3 a4 = some (.inl (0, cc, .inl f4)) := by rw [e_k_3, av_up_ne (av_apart gn5_a4 gn5_im)]; exact gn5_a4
    have g3_a5 : k_3 a5 = some (.inl (0, pc, .inl f5)) := by rw [e_k_3, av_up_ne (av_apart gn5_a5 gn5_im)]; exact gn5_a5
    have g3_n5 : k_3 n5 = some (.inl (0, 2 * pc, .inl (va_cpy f5 (fun _ => 0) 0 0 pc))) := by rw [e_k_3, av_up_ne (Ne.symm ne_im_n5)]; exact gn5_n5
    have g3_im : k_3 im = some (.inr (2, [.ref a0, .ref a1, .ref a2, .ref a3, .ref a4, .ref n5, .int (nI us), .int (nI n), .int (nI iw), .int (nI wp), .int (nI cp)])) := by rw [e_k_3]; exact av_up_self _ _ _
    refine aw_aload_n d_I_addPart_30 rfl ?_
    refine aw_get fl_I_27 d_I_addPart_31 g3_im rfl ?_
    refine aw_aload_n d_I_addPart_34 rfl ?_
    refine aw_get fl_I_30 d_I_addPart_35 g3_im rfl ?_
    refine aw_iload_n d_I_addPart_38 rfl ?_
    refine aw_iast (f' := upd (va_cpy f5 (fun _ => 0) 0 0 pc) us (nI x)) d_I_addPart_39 g3_n5 (vp_in_nI (by omega) (by omega)) (by rw [nI_clamp (by omega)]) ?_
    obtain ⟨k_4, e_k_4⟩ : ∃ z, z = av_up k_3 n5 (.inl (0, 2 * pc, .inl (upd (va_cpy f5 (fun _ => 0) 0 0 pc) us (nI x)))) := ⟨_, rfl⟩
    refine aw_heap (h' := k_4) e_k_4.symm ?_
    have g4_a0 : k_4 a0 = some (.inl (0, 50, .inl f0)) := by rw [e_k_4, av_up_ne ne_a0_n5]; exact g3_a0
    have g4_a1 : k_4 a1 = some (.inl (0, cc, .inl f1)) := by rw [e_k_4, av_up_ne ne_a1_n5]; exact g3_a1
    have g4_a2 : k_4 a2 = some (.inl (0, cc, .inl f2)) := by rw [e_k_4, av_up_ne ne_a2_n5]; exact g3_a2
    have g4_a3 : k_4 a3 = some (.inl (0, cc, .inl f3)) := by rw [e_k_4, av_up_ne ne_a3_n5]; exact g3_a3
    have g4_a4 : k_4 a4 = some (.inl (0, cc, .inl f4)) := by rw [e_k_4, av_up_ne ne_a4_n5]; exact g3_a4
    have g4_a5 : k_4 a5 = some (.inl (0, pc, .inl f5)) := by rw [e_k_4, av_up_ne ne_a5_n5]; exact g3_a5
    have g4_im : k_4 im = some (.inr (2, [.ref a0, .ref a1, .ref a2, .ref a3, .ref a4, .ref n5, .int (nI us), .int (nI n), .int (nI iw), .int (nI wp), .int (nI cp)])) := by rw [e_k_4, av_up_ne ne_im_n5]; exact g3_im
    have g4_n5 : k_4 n5 = some (.inl (0, 2 * pc, .inl (upd (va_cpy f5 (fun _ => 0) 0 0 pc) us (nI x)))) := by rw [e_k_4]; exact av_up_self _ _ _
    refine aw_aload_n d_I_addPart_40 rfl ?_
    refine aw_dup d_I_addPart_41 rfl ?_
    refine aw_get fl_I_30 d_I_addPart_42 g4_im rfl ?_
    refine aw_iconst (v := nI 1) d_I_addPart_45 (by decide) ?_
    refine aw_iadd (v := nI (us + 1)) d_I_addPart_46 (nI_add _ _) ?_
    refine aw_put (fs' := [.ref a0, .ref a1, .ref a2, .ref a3, .ref a4, .ref n5, .int (nI (us + 1)), .int (nI n), .int (nI iw), .int (nI wp), .int (nI cp)]) (pt_I_30 _) d_I_addPart_47 g4_im rfl rfl (by simp) rfl ?_
    obtain ⟨k_5, e_k_5⟩ : ∃ z, z = av_up k_4 im (.inr (2, [.ref a0, .ref a1, .ref a2, .ref a3, .ref a4, .ref n5, .int (nI (us + 1)), .int (nI n), .int (nI iw), .int (nI wp), .int (nI cp)])) := ⟨_, rfl⟩
    refine aw_heap (h' := k_5) e_k_5.symm ?_
    have g5_a0 : k_5 a0 = some (.inl (0, 50, .inl f0)) := by rw [e_k_5, av_up_ne (av_apart g4_a0 g4_im)]; exact g4_a0
    have g5_a1 : k_5 a1 = some (.inl (0, cc, .inl f1)) := by rw [e_k_5, av_up_ne (av_apart g4_a1 g4_im)]; exact g4_a1
    have g5_a2 : k_5 a2 = some (.inl (0, cc, .inl f2)) := by rw [e_k_5, av_up_ne (av_apart g4_a2 g4_im)]; exact g4_a2
    have g5_a3 : k_5 a3 = some (.inl (0, cc, .inl f3)) := by rw [e_k_5, av_up_ne (av_apart g4_a3 g4_im)]; exact g4_a3
    have g5_a4 : k_5 a4 = some (.inl (0, cc, .inl f4)) := by rw [e_k_5, av_up_ne (av_apart g4_a4 g4_im)]; exact g4_a4
    have g5_a5 : k_5 a5 = some (.inl (0, pc, .inl f5)) := by rw [e_k_5, av_up_ne (av_apart g4_a5 g4_im)]; exact g4_a5
    have g5_n5 : k_5 n5 = some (.inl (0, 2 * pc, .inl (upd (va_cpy f5 (fun _ => 0) 0 0 pc) us (nI x)))) := by rw [e_k_5, av_up_ne (Ne.symm ne_im_n5)]; exact g4_n5
    have g5_im : k_5 im = some (.inr (2, [.ref a0, .ref a1, .ref a2, .ref a3, .ref a4, .ref n5, .int (nI (us + 1)), .int (nI n), .int (nI iw), .int (nI wp), .int (nI cp)])) := by rw [e_k_5]; exact av_up_self _ _ _
    exact aw_vret d_I_addPart_50 rfl ⟨rfl, _, _, ⟨g5_im, g5_a0, g5_a1, g5_a2, g5_a3, g5_a4, (by rw [hg]; exact g5_n5)⟩, ⟨D.1, D.2.1, D.2.2.1, D.2.2.2.1, ne_a0_n5, D.2.2.2.2.2.1, D.2.2.2.2.2.2.1, D.2.2.2.2.2.2.2.1, ne_a1_n5, D.2.2.2.2.2.2.2.2.2.1, D.2.2.2.2.2.2.2.2.2.2.1, ne_a2_n5, D.2.2.2.2.2.2.2.2.2.2.2.2.1, ne_a3_n5, ne_a4_n5⟩, by unfold upd; rw [if_pos rfl], fun k hk => by unfold upd; rw [if_neg (by omega)]; exact cpy_lt (by omega), (((((frm.refl [im, a0, a1, a2, a3, a4, a5]).nw y3_n5 f_n5).up e_k_3 (by simp)).up e_k_4 (by simp)).up e_k_5 (by simp)).sub (by intro x hx; simp only [List.mem_cons, List.not_mem_nil, or_false] at hx ⊢; omega)⟩

set_option maxHeartbeats 4000000 in
theorem c_I_addObject {tb : Nat → Nat} {h : AH} {im a0 a1 a2 a3 a4 a5 cc pc us n iw wp cp : Nat} {f0 f1 f2 f3 f4 f5 : Nat → Int32} (M : iS h im a0 a1 a2 a3 a4 a5 cc pc us n iw wp cp f0 f1 f2 f3 f4 f5) (D : iND a0 a1 a2 a3 a4 a5) (hn : n < cc) (h0 : 64 ≤ cc) (hp : cc ≤ 500000) (x kk s : Nat) (hk : kk < 256) (hs : s < 65536) (hw : iw < 1073741824) (hu : us < 1073741824) : AM tb y_I_addObject b_I_addObject 5 none 2 48 [.ref im, .int (nI x), .int (nI kk), .int (nI s)] h ((gN cc (n + 2) - cc) / 16) (8 * (gN cc (n + 2) - cc)) (fun v h' => v = none ∧ ∃ b1 b2 b3 b4 g1 g2 g3 g4, iS h' im a0 b1 b2 b3 b4 a5 (gN cc (n + 2)) pc us (n + 1) (iw + (4 + (if kk = 1 then (s + 3) / 4 else s))) wp cp f0 g1 g2 g3 g4 f5 ∧ iND a0 b1 b2 b3 b4 a5 ∧ (g1 (n + 1) = nI x ∧ g2 (n + 1) = nI kk ∧ g3 (n + 1) = nI s ∧ g4 (n + 1) = nI us) ∧ (∀ k, k ≤ n → g1 k = f1 k ∧ g2 k = f2 k ∧ g3 k = f3 k ∧ g4 k = f4 k) ∧ frm [im, a0, a1, a2, a3, a4, a5] [im, a0, b1, b2, b3, b4, a5] h h') := by
  refine am_of (ini := false) [some (.ref im), some (.int (nI x)), some (.int (nI kk)), some (.int (nI s)), none] (by decide) (fun z => by cases z) (Nat.le_of_ble_eq_true rfl) rfl ?_
  refine aw_aload_n d_I_addObject_0 rfl ?_
  refine aw_dup d_I_addObject_1 rfl ?_
  refine aw_get fl_I_34 d_I_addObject_2 M.1 rfl ?_
  refine aw_iconst (v := nI 1) d_I_addObject_5 (by decide) ?_
  refine aw_iadd (v := nI (n + 1)) d_I_addObject_6 (nI_add _ _) ?_
  refine aw_put (fs' := [.ref a0, .ref a1, .ref a2, .ref a3, .ref a4, .ref a5, .int (nI us), .int (nI (n + 1)), .int (nI iw), .int (nI wp), .int (nI cp)]) (pt_I_34 _) d_I_addObject_7 M.1 rfl rfl (by simp) rfl ?_
  obtain ⟨k_1, e_k_1⟩ : ∃ z, z = av_up h im (.inr (2, [.ref a0, .ref a1, .ref a2, .ref a3, .ref a4, .ref a5, .int (nI us), .int (nI (n + 1)), .int (nI iw), .int (nI wp), .int (nI cp)])) := ⟨_, rfl⟩
  refine aw_heap (h' := k_1) e_k_1.symm ?_
  have g1_a0 : k_1 a0 = some (.inl (0, 50, .inl f0)) := by rw [e_k_1, av_up_ne (av_apart M.2.1 M.1)]; exact M.2.1
  have g1_a1 : k_1 a1 = some (.inl (0, cc, .inl f1)) := by rw [e_k_1, av_up_ne (av_apart M.2.2.1 M.1)]; exact M.2.2.1
  have g1_a2 : k_1 a2 = some (.inl (0, cc, .inl f2)) := by rw [e_k_1, av_up_ne (av_apart M.2.2.2.1 M.1)]; exact M.2.2.2.1
  have g1_a3 : k_1 a3 = some (.inl (0, cc, .inl f3)) := by rw [e_k_1, av_up_ne (av_apart M.2.2.2.2.1 M.1)]; exact M.2.2.2.2.1
  have g1_a4 : k_1 a4 = some (.inl (0, cc, .inl f4)) := by rw [e_k_1, av_up_ne (av_apart M.2.2.2.2.2.1 M.1)]; exact M.2.2.2.2.2.1
  have g1_a5 : k_1 a5 = some (.inl (0, pc, .inl f5)) := by rw [e_k_1, av_up_ne (av_apart M.2.2.2.2.2.2 M.1)]; exact M.2.2.2.2.2.2
  have g1_im : k_1 im = some (.inr (2, [.ref a0, .ref a1, .ref a2, .ref a3, .ref a4, .ref a5, .int (nI us), .int (nI (n + 1)), .int (nI iw), .int (nI wp), .int (nI cp)])) := by rw [e_k_1]; exact av_up_self _ _ _
  refine aw_aload_n d_I_addObject_10 rfl ?_
  refine aw_get fl_I_34 d_I_addObject_11 g1_im rfl ?_
  refine aw_aload_n d_I_addObject_14 rfl ?_
  refine aw_get fl_I_15 d_I_addObject_15 g1_im rfl ?_
  refine aw_alen (v := nI cc) d_I_addObject_18 g1_a1 (fun _ => rfl) rfl ?_
  refine aw_icmp_lt (tgt := 83) d_I_addObject_19 (by decide) (fun c_19 => ?_) (fun c_19 => ?_)
  · rw [nI_ltI (by omega) (by omega)] at c_19
    have hg : gN cc (n + 2) = cc := gN_le (by omega)
    refine aw_aload_n d_I_addObject_83 rfl ?_
    refine aw_get fl_I_15 d_I_addObject_84 g1_im rfl ?_
    refine aw_aload_n d_I_addObject_87 rfl ?_
    refine aw_get fl_I_34 d_I_addObject_88 g1_im rfl ?_
    refine aw_iload_n d_I_addObject_91 rfl ?_
    refine aw_iast (f' := upd f1 (n + 1) (nI x)) d_I_addObject_92 g1_a1 (vp_in_nI (by omega) (by omega)) (by rw [nI_clamp (by omega)]) ?_
    obtain ⟨k_2, e_k_2⟩ : ∃ z, z = av_up k_1 a1 (.inl (0, cc, .inl (upd f1 (n + 1) (nI x)))) := ⟨_, rfl⟩
    refine aw_heap (h' := k_2) e_k_2.symm ?_
    have g2_a0 : k_2 a0 = some (.inl (0, 50, .inl f0)) := by rw [e_k_2, av_up_ne D.1]; exact g1_a0
    have g2_a2 : k_2 a2 = some (.inl (0, cc, .inl f2)) := by rw [e_k_2, av_up_ne (Ne.symm D.2.2.2.2.2.1)]; exact g1_a2
    have g2_a3 : k_2 a3 = some (.inl (0, cc, .inl f3)) := by rw [e_k_2, av_up_ne (Ne.symm D.2.2.2.2.2.2.1)]; exact g1_a3
    have g2_a4 : k_2 a4 = some (.inl (0, cc, .inl f4)) := by rw [e_k_2, av_up_ne (Ne.symm D.2.2.2.2.2.2.2.1)]; exact g1_a4
    have g2_a5 : k_2 a5 = some (.inl (0, pc, .inl f5)) := by rw [e_k_2, av_up_ne (Ne.symm D.2.2.2.2.2.2.2.2.1)]; exact g1_a5
    have g2_im : k_2 im = some (.inr (2, [.ref a0, .ref a1, .ref a2, .ref a3, .ref a4, .ref a5, .int (nI us), .int (nI (n + 1)), .int (nI iw), .int (nI wp), .int (nI cp)])) := by rw [e_k_2, av_up_ne (av_apart' g1_im g1_a1)]; exact g1_im
    have g2_a1 : k_2 a1 = some (.inl (0, cc, .inl (upd f1 (n + 1) (nI x)))) := by rw [e_k_2]; exact av_up_self _ _ _
    refine aw_aload_n d_I_addObject_93 rfl ?_
    refine aw_get fl_I_18 d_I_addObject_94 g2_im rfl ?_
    refine aw_aload_n d_I_addObject_97 rfl ?_
    refine aw_get fl_I_34 d_I_addObject_98 g2_im rfl ?_
    refine aw_iload_n d_I_addObject_101 rfl ?_
    refine aw_iast (f' := upd f2 (n + 1) (nI kk)) d_I_addObject_102 g2_a2 (vp_in_nI (by omega) (by omega)) (by rw [nI_clamp (by omega)]) ?_
    obtain ⟨k_3, e_k_3⟩ : ∃ z, z = av_up k_2 a2 (.inl (0, cc, .inl (upd f2 (n + 1) (nI kk)))) := ⟨_, rfl⟩
    refine aw_heap (h' := k_3) e_k_3.symm ?_
    have g3_a0 : k_3 a0 = some (.inl (0, 50, .inl f0)) := by rw [e_k_3, av_up_ne D.2.1]; exact g2_a0
    have g3_a3 : k_3 a3 = some (.inl (0, cc, .inl f3)) := by rw [e_k_3, av_up_ne (Ne.symm D.2.2.2.2.2.2.2.2.2.1)]; exact g2_a3
    have g3_a4 : k_3 a4 = some (.inl (0, cc, .inl f4)) := by rw [e_k_3, av_up_ne (Ne.symm D.2.2.2.2.2.2.2.2.2.2.1)]; exact g2_a4
    have g3_a5 : k_3 a5 = some (.inl (0, pc, .inl f5)) := by rw [e_k_3, av_up_ne (Ne.symm D.2.2.2.2.2.2.2.2.2.2.2.1)]; exact g2_a5
    have g3_im : k_3 im = some (.inr (2, [.ref a0, .ref a1, .ref a2, .ref a3, .ref a4, .ref a5, .int (nI us), .int (nI (n + 1)), .int (nI iw), .int (nI wp), .int (nI cp)])) := by rw [e_k_3, av_up_ne (av_apart' g2_im g2_a2)]; exact g2_im
    have g3_a1 : k_3 a1 = some (.inl (0, cc, .inl (upd f1 (n + 1) (nI x)))) := by rw [e_k_3, av_up_ne D.2.2.2.2.2.1]; exact g2_a1
    have g3_a2 : k_3 a2 = some (.inl (0, cc, .inl (upd f2 (n + 1) (nI kk)))) := by rw [e_k_3]; exact av_up_self _ _ _
    refine aw_aload_n d_I_addObject_103 rfl ?_
    refine aw_get fl_I_21 d_I_addObject_104 g3_im rfl ?_
    refine aw_aload_n d_I_addObject_107 rfl ?_
    refine aw_get fl_I_34 d_I_addObject_108 g3_im rfl ?_
    refine aw_iload_n d_I_addObject_111 rfl ?_
    refine aw_iast (f' := upd f3 (n + 1) (nI s)) d_I_addObject_112 g3_a3 (vp_in_nI (by omega) (by omega)) (by rw [nI_clamp (by omega)]) ?_
    obtain ⟨k_4, e_k_4⟩ : ∃ z, z = av_up k_3 a3 (.inl (0, cc, .inl (upd f3 (n + 1) (nI s)))) := ⟨_, rfl⟩
    refine aw_heap (h' := k_4) e_k_4.symm ?_
    have g4_a0 : k_4 a0 = some (.inl (0, 50, .inl f0)) := by rw [e_k_4, av_up_ne D.2.2.1]; exact g3_a0
    have g4_a4 : k_4 a4 = some (.inl (0, cc, .inl f4)) := by rw [e_k_4, av_up_ne (Ne.symm D.2.2.2.2.2.2.2.2.2.2.2.2.1)]; exact g3_a4
    have g4_a5 : k_4 a5 = some (.inl (0, pc, .inl f5)) := by rw [e_k_4, av_up_ne (Ne.symm D.2.2.2.2.2.2.2.2.2.2.2.2.2.1)]; exact g3_a5
    have g4_im : k_4 im = some (.inr (2, [.ref a0, .ref a1, .ref a2, .ref a3, .ref a4, .ref a5, .int (nI us), .int (nI (n + 1)), .int (nI iw), .int (nI wp), .int (nI cp)])) := by rw [e_k_4, av_up_ne (av_apart' g3_im g3_a3)]; exact g3_im
    have g4_a1 : k_4 a1 = some (.inl (0, cc, .inl (upd f1 (n + 1) (nI x)))) := by rw [e_k_4, av_up_ne D.2.2.2.2.2.2.1]; exact g3_a1
    have g4_a2 : k_4 a2 = some (.inl (0, cc, .inl (upd f2 (n + 1) (nI kk)))) := by rw [e_k_4, av_up_ne D.2.2.2.2.2.2.2.2.2.1]; exact g3_a2
    have g4_a3 : k_4 a3 = some (.inl (0, cc, .inl (upd f3 (n + 1) (nI s)))) := by rw [e_k_4]; exact av_up_self _ _ _
    refine aw_aload_n d_I_addObject_113 rfl ?_
    refine aw_get fl_I_24 d_I_addObject_114 g4_im rfl ?_
    refine aw_aload_n d_I_addObject_117 rfl ?_
    refine aw_get fl_I_34 d_I_addObject_118 g4_im rfl ?_
    refine aw_aload_n d_I_addObject_121 rfl ?_
    refine aw_get fl_I_30 d_I_addObject_122 g4_im rfl ?_
    refine aw_iast (f' := upd f4 (n + 1) (nI us)) d_I_addObject_125 g4_a4 (vp_in_nI (by omega) (by omega)) (by rw [nI_clamp (by omega)]) ?_
    obtain ⟨k_5, e_k_5⟩ : ∃ z, z = av_up k_4 a4 (.inl (0, cc, .inl (upd f4 (n + 1) (nI us)))) := ⟨_, rfl⟩
    refine aw_heap (h' := k_5) e_k_5.symm ?_
    have g5_a0 : k_5 a0 = some (.inl (0, 50, .inl f0)) := by rw [e_k_5, av_up_ne D.2.2.2.1]; exact g4_a0
    have g5_a5 : k_5 a5 = some (.inl (0, pc, .inl f5)) := by rw [e_k_5, av_up_ne (Ne.symm D.2.2.2.2.2.2.2.2.2.2.2.2.2.2)]; exact g4_a5
    have g5_im : k_5 im = some (.inr (2, [.ref a0, .ref a1, .ref a2, .ref a3, .ref a4, .ref a5, .int (nI us), .int (nI (n + 1)), .int (nI iw), .int (nI wp), .int (nI cp)])) := by rw [e_k_5, av_up_ne (av_apart' g4_im g4_a4)]; exact g4_im
    have g5_a1 : k_5 a1 = some (.inl (0, cc, .inl (upd f1 (n + 1) (nI x)))) := by rw [e_k_5, av_up_ne D.2.2.2.2.2.2.2.1]; exact g4_a1
    have g5_a2 : k_5 a2 = some (.inl (0, cc, .inl (upd f2 (n + 1) (nI kk)))) := by rw [e_k_5, av_up_ne D.2.2.2.2.2.2.2.2.2.2.1]; exact g4_a2
    have g5_a3 : k_5 a3 = some (.inl (0, cc, .inl (upd f3 (n + 1) (nI s)))) := by rw [e_k_5, av_up_ne D.2.2.2.2.2.2.2.2.2.2.2.2.1]; exact g4_a3
    have g5_a4 : k_5 a4 = some (.inl (0, cc, .inl (upd f4 (n + 1) (nI us)))) := by rw [e_k_5]; exact av_up_self _ _ _
    refine aw_aload_n d_I_addObject_126 rfl ?_
    refine aw_dup d_I_addObject_127 rfl ?_
    refine aw_get fl_I_37 d_I_addObject_128 g5_im rfl ?_
    refine aw_iconst (v := nI 4) d_I_addObject_131 (by decide) ?_
    refine aw_iload_n d_I_addObject_132 rfl ?_
    refine aw_iconst (v := nI 1) d_I_addObject_133 (by decide) ?_
    refine aw_icmp_ne (tgt := 145) d_I_addObject_134 (by decide) (fun c_134 => ?_) (fun c_134 => ?_)
    · rw [w_eq (by omega) (by omega)] at c_134
      have he : (4 + (if kk = 1 then (s + 3) / 4 else s)) = 4 + s := by rw [if_neg c_134]
      refine aw_iload_n d_I_addObject_145 rfl ?_
      refine aw_iadd (v := nI (4 + s)) d_I_addObject_146 (nI_add _ _) ?_
      refine aw_iadd (v := nI (iw + (4 + s))) d_I_addObject_147 (nI_add _ _) ?_
      refine aw_put (fs' := [.ref a0, .ref a1, .ref a2, .ref a3, .ref a4, .ref a5, .int (nI us), .int (nI (n + 1)), .int (nI (iw + (4 + s))), .int (nI wp), .int (nI cp)]) (pt_I_37 _) d_I_addObject_148 g5_im rfl rfl (by simp) rfl ?_
      obtain ⟨k_6, e_k_6⟩ : ∃ z, z = av_up k_5 im (.inr (2, [.ref a0, .ref a1, .ref a2, .ref a3, .ref a4, .ref a5, .int (nI us), .int (nI (n + 1)), .int (nI (iw + (4 + s))), .int (nI wp), .int (nI cp)])) := ⟨_, rfl⟩
      refine aw_heap (h' := k_6) e_k_6.symm ?_
      have g6_a0 : k_6 a0 = some (.inl (0, 50, .inl f0)) := by rw [e_k_6, av_up_ne (av_apart g5_a0 g5_im)]; exact g5_a0
      have g6_a5 : k_6 a5 = some (.inl (0, pc, .inl f5)) := by rw [e_k_6, av_up_ne (av_apart g5_a5 g5_im)]; exact g5_a5
      have g6_a1 : k_6 a1 = some (.inl (0, cc, .inl (upd f1 (n + 1) (nI x)))) := by rw [e_k_6, av_up_ne (av_apart g5_a1 g5_im)]; exact g5_a1
      have g6_a2 : k_6 a2 = some (.inl (0, cc, .inl (upd f2 (n + 1) (nI kk)))) := by rw [e_k_6, av_up_ne (av_apart g5_a2 g5_im)]; exact g5_a2
      have g6_a3 : k_6 a3 = some (.inl (0, cc, .inl (upd f3 (n + 1) (nI s)))) := by rw [e_k_6, av_up_ne (av_apart g5_a3 g5_im)]; exact g5_a3
      have g6_a4 : k_6 a4 = some (.inl (0, cc, .inl (upd f4 (n + 1) (nI us)))) := by rw [e_k_6, av_up_ne (av_apart g5_a4 g5_im)]; exact g5_a4
      have g6_im : k_6 im = some (.inr (2, [.ref a0, .ref a1, .ref a2, .ref a3, .ref a4, .ref a5, .int (nI us), .int (nI (n + 1)), .int (nI (iw + (4 + s))), .int (nI wp), .int (nI cp)])) := by rw [e_k_6]; exact av_up_self _ _ _
      exact aw_vret d_I_addObject_151 rfl ⟨rfl, _, _, _, _, _, _, _, _, ⟨(by rw [he]; exact g6_im), g6_a0, (by rw [hg]; exact g6_a1), (by rw [hg]; exact g6_a2), (by rw [hg]; exact g6_a3), (by rw [hg]; exact g6_a4), g6_a5⟩, ⟨D.1, D.2.1, D.2.2.1, D.2.2.2.1, D.2.2.2.2.1, D.2.2.2.2.2.1, D.2.2.2.2.2.2.1, D.2.2.2.2.2.2.2.1, D.2.2.2.2.2.2.2.2.1, D.2.2.2.2.2.2.2.2.2.1, D.2.2.2.2.2.2.2.2.2.2.1, D.2.2.2.2.2.2.2.2.2.2.2.1, D.2.2.2.2.2.2.2.2.2.2.2.2.1, D.2.2.2.2.2.2.2.2.2.2.2.2.2.1, D.2.2.2.2.2.2.2.2.2.2.2.2.2.2⟩, ⟨by unfold upd; rw [if_pos rfl], by unfold upd; rw [if_pos rfl], by unfold upd; rw [if_pos rfl], by unfold upd; rw [if_pos rfl]⟩, fun k hk => ⟨by unfold upd; rw [if_neg (by omega)], by unfold upd; rw [if_neg (by omega)], by unfold upd; rw [if_neg (by omega)], by unfold upd; rw [if_neg (by omega)]⟩, (((((((frm.refl [im, a0, a1, a2, a3, a4, a5]).up e_k_1 (by simp)).up e_k_2 (by simp)).up e_k_3 (by simp)).up e_k_4 (by simp)).up e_k_5 (by simp)).up e_k_6 (by simp)).sub (by intro x hx; simp only [List.mem_cons, List.not_mem_nil, or_false] at hx ⊢; omega)⟩
    · rw [w_eq (by omega) (by omega)] at c_134
      have he : (4 + (if kk = 1 then (s + 3) / 4 else s)) = 4 + (s + 3) / 4 := by rw [if_pos c_134]
      refine aw_iload_n d_I_addObject_137 rfl ?_
      refine aw_iconst (v := nI 3) d_I_addObject_138 (by decide) ?_
      refine aw_iadd (v := nI (s + 3)) d_I_addObject_139 (nI_add _ _) ?_
      refine aw_iconst (v := nI 4) d_I_addObject_140 (by decide) ?_
      refine aw_idiv (v := nI ((s + 3) / 4)) d_I_addObject_141 (by decide) (pk_div (by omega) (by decide) (by decide)) ?_
      refine aw_goto (tgt := 146) d_I_addObject_142 (by decide) ?_
      refine aw_iadd (v := nI (4 + ((s + 3) / 4))) d_I_addObject_146 (nI_add _ _) ?_
      refine aw_iadd (v := nI (iw + (4 + ((s + 3) / 4)))) d_I_addObject_147 (nI_add _ _) ?_
      refine aw_put (fs' := [.ref a0, .ref a1, .ref a2, .ref a3, .ref a4, .ref a5, .int (nI us), .int (nI (n + 1)), .int (nI (iw + (4 + ((s + 3) / 4)))), .int (nI wp), .int (nI cp)]) (pt_I_37 _) d_I_addObject_148 g5_im rfl rfl (by simp) rfl ?_
      obtain ⟨k_7, e_k_7⟩ : ∃ z, z = av_up k_5 im (.inr (2, [.ref a0, .ref a1, .ref a2, .ref a3, .ref a4, .ref a5, .int (nI us), .int (nI (n + 1)), .int (nI (iw + (4 + ((s + 3) / 4)))), .int (nI wp), .int (nI cp)])) := ⟨_, rfl⟩
      refine aw_heap (h' := k_7) e_k_7.symm ?_
      have g7_a0 : k_7 a0 = some (.inl (0, 50, .inl f0)) := by rw [e_k_7, av_up_ne (av_apart g5_a0 g5_im)]; exact g5_a0
      have g7_a5 : k_7 a5 = some (.inl (0, pc, .inl f5)) := by rw [e_k_7, av_up_ne (av_apart g5_a5 g5_im)]; exact g5_a5
      have g7_a1 : k_7 a1 = some (.inl (0, cc, .inl (upd f1 (n + 1) (nI x)))) := by rw [e_k_7, av_up_ne (av_apart g5_a1 g5_im)]; exact g5_a1
      have g7_a2 : k_7 a2 = some (.inl (0, cc, .inl (upd f2 (n + 1) (nI kk)))) := by rw [e_k_7, av_up_ne (av_apart g5_a2 g5_im)]; exact g5_a2
      have g7_a3 : k_7 a3 = some (.inl (0, cc, .inl (upd f3 (n + 1) (nI s)))) := by rw [e_k_7, av_up_ne (av_apart g5_a3 g5_im)]; exact g5_a3
      have g7_a4 : k_7 a4 = some (.inl (0, cc, .inl (upd f4 (n + 1) (nI us)))) := by rw [e_k_7, av_up_ne (av_apart g5_a4 g5_im)]; exact g5_a4
      have g7_im : k_7 im = some (.inr (2, [.ref a0, .ref a1, .ref a2, .ref a3, .ref a4, .ref a5, .int (nI us), .int (nI (n + 1)), .int (nI (iw + (4 + ((s + 3) / 4)))), .int (nI wp), .int (nI cp)])) := by rw [e_k_7]; exact av_up_self _ _ _
      exact aw_vret d_I_addObject_151 rfl ⟨rfl, _, _, _, _, _, _, _, _, ⟨(by rw [he]; exact g7_im), g7_a0, (by rw [hg]; exact g7_a1), (by rw [hg]; exact g7_a2), (by rw [hg]; exact g7_a3), (by rw [hg]; exact g7_a4), g7_a5⟩, ⟨D.1, D.2.1, D.2.2.1, D.2.2.2.1, D.2.2.2.2.1, D.2.2.2.2.2.1, D.2.2.2.2.2.2.1, D.2.2.2.2.2.2.2.1, D.2.2.2.2.2.2.2.2.1, D.2.2.2.2.2.2.2.2.2.1, D.2.2.2.2.2.2.2.2.2.2.1, D.2.2.2.2.2.2.2.2.2.2.2.1, D.2.2.2.2.2.2.2.2.2.2.2.2.1, D.2.2.2.2.2.2.2.2.2.2.2.2.2.1, D.2.2.2.2.2.2.2.2.2.2.2.2.2.2⟩, ⟨by unfold upd; rw [if_pos rfl], by unfold upd; rw [if_pos rfl], by unfold upd; rw [if_pos rfl], by unfold upd; rw [if_pos rfl]⟩, fun k hk => ⟨by unfold upd; rw [if_neg (by omega)], by unfold upd; rw [if_neg (by omega)], by unfold upd; rw [if_neg (by omega)], by unfold upd; rw [if_neg (by omega)]⟩, (((((((frm.refl [im, a0, a1, a2, a3, a4, a5]).up e_k_1 (by simp)).up e_k_2 (by simp)).up e_k_3 (by simp)).up e_k_4 (by simp)).up e_k_5 (by simp)).up e_k_7 (by simp)).sub (by intro x hx; simp only [List.mem_cons, List.not_mem_nil, or_false] at hx ⊢; omega)⟩
  · rw [nI_ltI (by omega) (by omega)] at c_19
    have hg : gN cc (n + 2) = 2 * cc := by rw [gN_gt (by omega) (by omega), gN_le (by omega)]
    refine aw_iconst (v := nI 2) d_I_addObject_22 (by decide) ?_
    refine aw_aload_n d_I_addObject_23 rfl ?_
    refine aw_get fl_I_15 d_I_addObject_24 g1_im rfl ?_
    refine aw_alen (v := nI cc) d_I_addObject_27 g1_a1 (fun _ => rfl) rfl ?_
    refine aw_imul (v := nI (2 * cc)) d_I_addObject_28 (pk_mul _ _) ?_
    refine aw_istore (L' := [some (.ref im), some (.int (nI x)), some (.int (nI kk)), some (.int (nI s)), some (.int (nI (2 * cc)))]) d_I_addObject_29 (by decide) rfl rfl ?_
    refine aw_aload_n d_I_addObject_31 rfl ?_
    refine aw_aload_n d_I_addObject_32 rfl ?_
    refine aw_get fl_I_15 d_I_addObject_33 g1_im rfl ?_
    refine aw_iload d_I_addObject_36 rfl ?_
    refine aw_callS (mc2 := 3) (ms2 := 6 * cc) (As := [.ref a1, .int (nI (2 * cc))]) (rest := [.ref im]) (c_A_copyOf_aII (n := 2 * cc) g1_a1 (by omega) rfl (by omega)) cs_I_40 d_I_addObject_38 rfl rfl (Nat.le_of_ble_eq_true rfl) (by decide) (by decide) (by omega) (by omega) (fun v_38 k_38c q_38 => ?_)
    obtain ⟨n1, y1_n1, f_n1, y3_n1⟩ := q_38
    refine aw_st (st' := [.ref n1, .ref im]) (by rw [y1_n1]; rfl) ?_
    have ne_a0_n1 : a0 ≠ n1 := (fun z => by have z1 := g1_a0; rw [z, f_n1] at z1; cases z1)
    have gn1_a0 : k_38c a0 = some (.inl (0, 50, .inl f0)) := by rw [y3_n1, av_up_ne ne_a0_n1]; exact g1_a0
    have ne_a1_n1 : a1 ≠ n1 := (fun z => by have z1 := g1_a1; rw [z, f_n1] at z1; cases z1)
    have gn1_a1 : k_38c a1 = some (.inl (0, cc, .inl f1)) := by rw [y3_n1, av_up_ne ne_a1_n1]; exact g1_a1
    have ne_a2_n1 : a2 ≠ n1 := (fun z => by have z1 := g1_a2; rw [z, f_n1] at z1; cases z1)
    have gn1_a2 : k_38c a2 = some (.inl (0, cc, .inl f2)) := by rw [y3_n1, av_up_ne ne_a2_n1]; exact g1_a2
    have ne_a3_n1 : a3 ≠ n1 := (fun z => by have z1 := g1_a3; rw [z, f_n1] at z1; cases z1)
    have gn1_a3 : k_38c a3 = some (.inl (0, cc, .inl f3)) := by rw [y3_n1, av_up_ne ne_a3_n1]; exact g1_a3
    have ne_a4_n1 : a4 ≠ n1 := (fun z => by have z1 := g1_a4; rw [z, f_n1] at z1; cases z1)
    have gn1_a4 : k_38c a4 = some (.inl (0, cc, .inl f4)) := by rw [y3_n1, av_up_ne ne_a4_n1]; exact g1_a4
    have ne_a5_n1 : a5 ≠ n1 := (fun z => by have z1 := g1_a5; rw [z, f_n1] at z1; cases z1)
    have gn1_a5 : k_38c a5 = some (.inl (0, pc, .inl f5)) := by rw [y3_n1, av_up_ne ne_a5_n1]; exact g1_a5
    have ne_im_n1 : im ≠ n1 := (fun z => by have z1 := g1_im; rw [z, f_n1] at z1; cases z1)
    have gn1_im : k_38c im = some (.inr (2, [.ref a0, .ref a1, .ref a2, .ref a3, .ref a4, .ref a5, .int (nI us), .int (nI (n + 1)), .int (nI iw), .int (nI wp), .int (nI cp)])) := by rw [y3_n1, av_up_ne ne_im_n1]; exact g1_im
    have gn1_n1 : k_38c n1 = some (.inl (0, 2 * cc, .inl (va_cpy f1 (fun _ => 0) 0 0 cc))) := by rw [y3_n1]; exact av_up_self _ _ _
    refine aw_put (fs' := [.ref a0, .ref n1, .ref a2, .ref a3, .ref a4, .ref a5, .int (nI us), .int (nI (n + 1)), .int (nI iw), .int (nI wp), .int (nI cp)]) (pt_I_15 _) d_I_addObject_41 gn1_im rfl rfl (by simp) rfl ?_
    obtain ⟨k_8, e_k_8⟩ : ∃ z, z = av_up k_38c im (.inr (2, [.ref a0, .ref n1, .ref a2, .ref a3, .ref a4, .ref a5, .int (nI us), .int (nI (n + 1)), .int (nI iw), .int (nI wp), .int (nI cp)])) := ⟨_, rfl⟩
    refine aw_heap (h' := k_8) e_k_8.symm ?_
    have g8_a0 : k_8 a0 = some (.inl (0, 50, .inl f0)) := by rw [e_k_8, av_up_ne (av_apart gn1_a0 gn1_im)]; exact gn1_a0
    have g8_a1 : k_8 a1 = some (.inl (0, cc, .inl f1)) := by rw [e_k_8, av_up_ne (av_apart gn1_a1 gn1_im)]; exact gn1_a1
    have g8_a2 : k_8 a2 = some (.inl (0, cc, .inl f2)) := by rw [e_k_8, av_up_ne (av_apart gn1_a2 gn1_im)]; exact gn1_a2
    have g8_a3 : k_8 a3 = some (.inl (0, cc, .inl f3)) := by rw [e_k_8, av_up_ne (av_apart gn1_a3 gn1_im)]; exact gn1_a3
    have g8_a4 : k_8 a4 = some (.inl (0, cc, .inl f4)) := by rw [e_k_8, av_up_ne (av_apart gn1_a4 gn1_im)]; exact gn1_a4
    have g8_a5 : k_8 a5 = some (.inl (0, pc, .inl f5)) := by rw [e_k_8, av_up_ne (av_apart gn1_a5 gn1_im)]; exact gn1_a5
    have g8_n1 : k_8 n1 = some (.inl (0, 2 * cc, .inl (va_cpy f1 (fun _ => 0) 0 0 cc))) := by rw [e_k_8, av_up_ne (Ne.symm ne_im_n1)]; exact gn1_n1
    have g8_im : k_8 im = some (.inr (2, [.ref a0, .ref n1, .ref a2, .ref a3, .ref a4, .ref a5, .int (nI us), .int (nI (n + 1)), .int (nI iw), .int (nI wp), .int (nI cp)])) := by rw [e_k_8]; exact av_up_self _ _ _
    refine aw_aload_n d_I_addObject_44 rfl ?_
    refine aw_aload_n d_I_addObject_45 rfl ?_
    refine aw_get fl_I_18 d_I_addObject_46 g8_im rfl ?_
    refine aw_iload d_I_addObject_49 rfl ?_
    refine aw_callS (mc2 := 2) (ms2 := 4 * cc) (As := [.ref a2, .int (nI (2 * cc))]) (rest := [.ref im]) (c_A_copyOf_aII (n := 2 * cc) g8_a2 (by omega) rfl (by omega)) cs_I_40 d_I_addObject_51 rfl rfl (Nat.le_of_ble_eq_true rfl) (by decide) (by decide) (by omega) (by omega) (fun v_51 k_51c q_51 => ?_)
    obtain ⟨n2, y1_n2, f_n2, y3_n2⟩ := q_51
    refine aw_st (st' := [.ref n2, .ref im]) (by rw [y1_n2]; rfl) ?_
    have ne_a0_n2 : a0 ≠ n2 := (fun z => by have z1 := g8_a0; rw [z, f_n2] at z1; cases z1)
    have gn2_a0 : k_51c a0 = some (.inl (0, 50, .inl f0)) := by rw [y3_n2, av_up_ne ne_a0_n2]; exact g8_a0
    have ne_a1_n2 : a1 ≠ n2 := (fun z => by have z1 := g8_a1; rw [z, f_n2] at z1; cases z1)
    have gn2_a1 : k_51c a1 = some (.inl (0, cc, .inl f1)) := by rw [y3_n2, av_up_ne ne_a1_n2]; exact g8_a1
    have ne_a2_n2 : a2 ≠ n2 := (fun z => by have z1 := g8_a2; rw [z, f_n2] at z1; cases z1)
    have gn2_a2 : k_51c a2 = some (.inl (0, cc, .inl f2)) := by rw [y3_n2, av_up_ne ne_a2_n2]; exact g8_a2
    have ne_a3_n2 : a3 ≠ n2 := (fun z => by have z1 := g8_a3; rw [z, f_n2] at z1; cases z1)
    have gn2_a3 : k_51c a3 = some (.inl (0, cc, .inl f3)) := by rw [y3_n2, av_up_ne ne_a3_n2]; exact g8_a3
    have ne_a4_n2 : a4 ≠ n2 := (fun z => by have z1 := g8_a4; rw [z, f_n2] at z1; cases z1)
    have gn2_a4 : k_51c a4 = some (.inl (0, cc, .inl f4)) := by rw [y3_n2, av_up_ne ne_a4_n2]; exact g8_a4
    have ne_a5_n2 : a5 ≠ n2 := (fun z => by have z1 := g8_a5; rw [z, f_n2] at z1; cases z1)
    have gn2_a5 : k_51c a5 = some (.inl (0, pc, .inl f5)) := by rw [y3_n2, av_up_ne ne_a5_n2]; exact g8_a5
    have ne_n1_n2 : n1 ≠ n2 := (fun z => by have z1 := g8_n1; rw [z, f_n2] at z1; cases z1)
    have gn2_n1 : k_51c n1 = some (.inl (0, 2 * cc, .inl (va_cpy f1 (fun _ => 0) 0 0 cc))) := by rw [y3_n2, av_up_ne ne_n1_n2]; exact g8_n1
    have ne_im_n2 : im ≠ n2 := (fun z => by have z1 := g8_im; rw [z, f_n2] at z1; cases z1)
    have gn2_im : k_51c im = some (.inr (2, [.ref a0, .ref n1, .ref a2, .ref a3, .ref a4, .ref a5, .int (nI us), .int (nI (n + 1)), .int (nI iw), .int (nI wp), .int (nI cp)])) := by rw [y3_n2, av_up_ne ne_im_n2]; exact g8_im
    have gn2_n2 : k_51c n2 = some (.inl (0, 2 * cc, .inl (va_cpy f2 (fun _ => 0) 0 0 cc))) := by rw [y3_n2]; exact av_up_self _ _ _
    refine aw_put (fs' := [.ref a0, .ref n1, .ref n2, .ref a3, .ref a4, .ref a5, .int (nI us), .int (nI (n + 1)), .int (nI iw), .int (nI wp), .int (nI cp)]) (pt_I_18 _) d_I_addObject_54 gn2_im rfl rfl (by simp) rfl ?_
    obtain ⟨k_9, e_k_9⟩ : ∃ z, z = av_up k_51c im (.inr (2, [.ref a0, .ref n1, .ref n2, .ref a3, .ref a4, .ref a5, .int (nI us), .int (nI (n + 1)), .int (nI iw), .int (nI wp), .int (nI cp)])) := ⟨_, rfl⟩
    refine aw_heap (h' := k_9) e_k_9.symm ?_
    have g9_a0 : k_9 a0 = some (.inl (0, 50, .inl f0)) := by rw [e_k_9, av_up_ne (av_apart gn2_a0 gn2_im)]; exact gn2_a0
    have g9_a1 : k_9 a1 = some (.inl (0, cc, .inl f1)) := by rw [e_k_9, av_up_ne (av_apart gn2_a1 gn2_im)]; exact gn2_a1
    have g9_a2 : k_9 a2 = some (.inl (0, cc, .inl f2)) := by rw [e_k_9, av_up_ne (av_apart gn2_a2 gn2_im)]; exact gn2_a2
    have g9_a3 : k_9 a3 = some (.inl (0, cc, .inl f3)) := by rw [e_k_9, av_up_ne (av_apart gn2_a3 gn2_im)]; exact gn2_a3
    have g9_a4 : k_9 a4 = some (.inl (0, cc, .inl f4)) := by rw [e_k_9, av_up_ne (av_apart gn2_a4 gn2_im)]; exact gn2_a4
    have g9_a5 : k_9 a5 = some (.inl (0, pc, .inl f5)) := by rw [e_k_9, av_up_ne (av_apart gn2_a5 gn2_im)]; exact gn2_a5
    have g9_n1 : k_9 n1 = some (.inl (0, 2 * cc, .inl (va_cpy f1 (fun _ => 0) 0 0 cc))) := by rw [e_k_9, av_up_ne (Ne.symm ne_im_n1)]; exact gn2_n1
    have g9_n2 : k_9 n2 = some (.inl (0, 2 * cc, .inl (va_cpy f2 (fun _ => 0) 0 0 cc))) := by rw [e_k_9, av_up_ne (Ne.symm ne_im_n2)]; exact gn2_n2
    have g9_im : k_9 im = some (.inr (2, [.ref a0, .ref n1, .ref n2, .ref a3, .ref a4, .ref a5, .int (nI us), .int (nI (n + 1)), .int (nI iw), .int (nI wp), .int (nI cp)])) := by rw [e_k_9]; exact av_up_self _ _ _
    refine aw_aload_n d_I_addObject_57 rfl ?_
    refine aw_aload_n d_I_addObject_58 rfl ?_
    refine aw_get fl_I_21 d_I_addObject_59 g9_im rfl ?_
    refine aw_iload d_I_addObject_62 rfl ?_
    refine aw_callS (mc2 := 1) (ms2 := 2 * cc) (As := [.ref a3, .int (nI (2 * cc))]) (rest := [.ref im]) (c_A_copyOf_aII (n := 2 * cc) g9_a3 (by omega) rfl (by omega)) cs_I_40 d_I_addObject_64 rfl rfl (Nat.le_of_ble_eq_true rfl) (by decide) (by decide) (by omega) (by omega) (fun v_64 k_64c q_64 => ?_)
    obtain ⟨n3, y1_n3, f_n3, y3_n3⟩ := q_64
    refine aw_st (st' := [.ref n3, .ref im]) (by rw [y1_n3]; rfl) ?_
    have ne_a0_n3 : a0 ≠ n3 := (fun z => by have z1 := g9_a0; rw [z, f_n3] at z1; cases z1)
    have gn3_a0 : k_64c a0 = some (.inl (0, 50, .inl f0)) := by rw [y3_n3, av_up_ne ne_a0_n3]; exact g9_a0
    have ne_a1_n3 : a1 ≠ n3 := (fun z => by have z1 := g9_a1; rw [z, f_n3] at z1; cases z1)
    have gn3_a1 : k_64c a1 = some (.inl (0, cc, .inl f1)) := by rw [y3_n3, av_up_ne ne_a1_n3]; exact g9_a1
    have ne_a2_n3 : a2 ≠ n3 := (fun z => by have z1 := g9_a2; rw [z, f_n3] at z1; cases z1)
    have gn3_a2 : k_64c a2 = some (.inl (0, cc, .inl f2)) := by rw [y3_n3, av_up_ne ne_a2_n3]; exact g9_a2
    have ne_a3_n3 : a3 ≠ n3 := (fun z => by have z1 := g9_a3; rw [z, f_n3] at z1; cases z1)
    have gn3_a3 : k_64c a3 = some (.inl (0, cc, .inl f3)) := by rw [y3_n3, av_up_ne ne_a3_n3]; exact g9_a3
    have ne_a4_n3 : a4 ≠ n3 := (fun z => by have z1 := g9_a4; rw [z, f_n3] at z1; cases z1)
    have gn3_a4 : k_64c a4 = some (.inl (0, cc, .inl f4)) := by rw [y3_n3, av_up_ne ne_a4_n3]; exact g9_a4
    have ne_a5_n3 : a5 ≠ n3 := (fun z => by have z1 := g9_a5; rw [z, f_n3] at z1; cases z1)
    have gn3_a5 : k_64c a5 = some (.inl (0, pc, .inl f5)) := by rw [y3_n3, av_up_ne ne_a5_n3]; exact g9_a5
    have ne_n1_n3 : n1 ≠ n3 := (fun z => by have z1 := g9_n1; rw [z, f_n3] at z1; cases z1)
    have gn3_n1 : k_64c n1 = some (.inl (0, 2 * cc, .inl (va_cpy f1 (fun _ => 0) 0 0 cc))) := by rw [y3_n3, av_up_ne ne_n1_n3]; exact g9_n1
    have ne_n2_n3 : n2 ≠ n3 := (fun z => by have z1 := g9_n2; rw [z, f_n3] at z1; cases z1)
    have gn3_n2 : k_64c n2 = some (.inl (0, 2 * cc, .inl (va_cpy f2 (fun _ => 0) 0 0 cc))) := by rw [y3_n3, av_up_ne ne_n2_n3]; exact g9_n2
    have ne_im_n3 : im ≠ n3 := (fun z => by have z1 := g9_im; rw [z, f_n3] at z1; cases z1)
    have gn3_im : k_64c im = some (.inr (2, [.ref a0, .ref n1, .ref n2, .ref a3, .ref a4, .ref a5, .int (nI us), .int (nI (n + 1)), .int (nI iw), .int (nI wp), .int (nI cp)])) := by rw [y3_n3, av_up_ne ne_im_n3]; exact g9_im
    have gn3_n3 : k_64c n3 = some (.inl (0, 2 * cc, .inl (va_cpy f3 (fun _ => 0) 0 0 cc))) := by rw [y3_n3]; exact av_up_self _ _ _
    refine aw_put (fs' := [.ref a0, .ref n1, .ref n2, .ref n3, .ref a4, .ref a5, .int (nI us), .int (nI (n + 1)), .int (nI iw), .int (nI wp), .int (nI cp)]) (pt_I_21 _) d_I_addObject_67 gn3_im rfl rfl (by simp) rfl ?_
    obtain ⟨k_10, e_k_10⟩ : ∃ z, z = av_up k_64c im (.inr (2, [.ref a0, .ref n1, .ref n2, .ref n3, .ref a4, .ref a5, .int (nI us), .int (nI (n + 1)), .int (nI iw), .int (nI wp), .int (nI cp)])) := ⟨_, rfl⟩
    refine aw_heap (h' := k_10) e_k_10.symm ?_
    have g10_a0 : k_10 a0 = some (.inl (0, 50, .inl f0)) := by rw [e_k_10, av_up_ne (av_apart gn3_a0 gn3_im)]; exact gn3_a0
    have g10_a1 : k_10 a1 = some (.inl (0, cc, .inl f1)) := by rw [e_k_10, av_up_ne (av_apart gn3_a1 gn3_im)]; exact gn3_a1
    have g10_a2 : k_10 a2 = some (.inl (0, cc, .inl f2)) := by rw [e_k_10, av_up_ne (av_apart gn3_a2 gn3_im)]; exact gn3_a2
    have g10_a3 : k_10 a3 = some (.inl (0, cc, .inl f3)) := by rw [e_k_10, av_up_ne (av_apart gn3_a3 gn3_im)]; exact gn3_a3
    have g10_a4 : k_10 a4 = some (.inl (0, cc, .inl f4)) := by rw [e_k_10, av_up_ne (av_apart gn3_a4 gn3_im)]; exact gn3_a4
    have g10_a5 : k_10 a5 = some (.inl (0, pc, .inl f5)) := by rw [e_k_10, av_up_ne (av_apart gn3_a5 gn3_im)]; exact gn3_a5
    have g10_n1 : k_10 n1 = some (.inl (0, 2 * cc, .inl (va_cpy f1 (fun _ => 0) 0 0 cc))) := by rw [e_k_10, av_up_ne (Ne.symm ne_im_n1)]; exact gn3_n1
    have g10_n2 : k_10 n2 = some (.inl (0, 2 * cc, .inl (va_cpy f2 (fun _ => 0) 0 0 cc))) := by rw [e_k_10, av_up_ne (Ne.symm ne_im_n2)]; exact gn3_n2
    have g10_n3 : k_10 n3 = some (.inl (0, 2 * cc, .inl (va_cpy f3 (fun _ => 0) 0 0 cc))) := by rw [e_k_10, av_up_ne (Ne.symm ne_im_n3)]; exact gn3_n3
    have g10_im : k_10 im = some (.inr (2, [.ref a0, .ref n1, .ref n2, .ref n3, .ref a4, .ref a5, .int (nI us), .int (nI (n + 1)), .int (nI iw), .int (nI wp), .int (nI cp)])) := by rw [e_k_10]; exact av_up_self _ _ _
    refine aw_aload_n d_I_addObject_70 rfl ?_
    refine aw_aload_n d_I_addObject_71 rfl ?_
    refine aw_get fl_I_24 d_I_addObject_72 g10_im rfl ?_
    refine aw_iload d_I_addObject_75 rfl ?_
    refine aw_callS (mc2 := 0) (ms2 := 0) (As := [.ref a4, .int (nI (2 * cc))]) (rest := [.ref im]) (c_A_copyOf_aII (n := 2 * cc) g10_a4 (by omega) rfl (by omega)) cs_I_40 d_I_addObject_77 rfl rfl (Nat.le_of_ble_eq_true rfl) (by decide) (by decide) (by omega) (by omega) (fun v_77 k_77c q_77 => ?_)
    obtain ⟨n4, y1_n4, f_n4, y3_n4⟩ := q_77
    refine aw_st (st' := [.ref n4, .ref im]) (by rw [y1_n4]; rfl) ?_
    have ne_a0_n4 : a0 ≠ n4 := (fun z => by have z1 := g10_a0; rw [z, f_n4] at z1; cases z1)
    have gn4_a0 : k_77c a0 = some (.inl (0, 50, .inl f0)) := by rw [y3_n4, av_up_ne ne_a0_n4]; exact g10_a0
    have ne_a1_n4 : a1 ≠ n4 := (fun z => by have z1 := g10_a1; rw [z, f_n4] at z1; cases z1)
    have gn4_a1 : k_77c a1 = some (.inl (0, cc, .inl f1)) := by rw [y3_n4, av_up_ne ne_a1_n4]; exact g10_a1
    have ne_a2_n4 : a2 ≠ n4 := (fun z => by have z1 := g10_a2; rw [z, f_n4] at z1; cases z1)
    have gn4_a2 : k_77c a2 = some (.inl (0, cc, .inl f2)) := by rw [y3_n4, av_up_ne ne_a2_n4]; exact g10_a2
    have ne_a3_n4 : a3 ≠ n4 := (fun z => by have z1 := g10_a3; rw [z, f_n4] at z1; cases z1)
    have gn4_a3 : k_77c a3 = some (.inl (0, cc, .inl f3)) := by rw [y3_n4, av_up_ne ne_a3_n4]; exact g10_a3
    have ne_a4_n4 : a4 ≠ n4 := (fun z => by have z1 := g10_a4; rw [z, f_n4] at z1; cases z1)
    have gn4_a4 : k_77c a4 = some (.inl (0, cc, .inl f4)) := by rw [y3_n4, av_up_ne ne_a4_n4]; exact g10_a4
    have ne_a5_n4 : a5 ≠ n4 := (fun z => by have z1 := g10_a5; rw [z, f_n4] at z1; cases z1)
    have gn4_a5 : k_77c a5 = some (.inl (0, pc, .inl f5)) := by rw [y3_n4, av_up_ne ne_a5_n4]; exact g10_a5
    have ne_n1_n4 : n1 ≠ n4 := (fun z => by have z1 := g10_n1; rw [z, f_n4] at z1; cases z1)
    have gn4_n1 : k_77c n1 = some (.inl (0, 2 * cc, .inl (va_cpy f1 (fun _ => 0) 0 0 cc))) := by rw [y3_n4, av_up_ne ne_n1_n4]; exact g10_n1
    have ne_n2_n4 : n2 ≠ n4 := (fun z => by have z1 := g10_n2; rw [z, f_n4] at z1; cases z1)
    have gn4_n2 : k_77c n2 = some (.inl (0, 2 * cc, .inl (va_cpy f2 (fun _ => 0) 0 0 cc))) := by rw [y3_n4, av_up_ne ne_n2_n4]; exact g10_n2
    have ne_n3_n4 : n3 ≠ n4 := (fun z => by have z1 := g10_n3; rw [z, f_n4] at z1; cases z1)
    have gn4_n3 : k_77c n3 = some (.inl (0, 2 * cc, .inl (va_cpy f3 (fun _ => 0) 0 0 cc))) := by rw [y3_n4, av_up_ne ne_n3_n4]; exact g10_n3
    have ne_im_n4 : im ≠ n4 := (fun z => by have z1 := g10_im; rw [z, f_n4] at z1; cases z1)
    have gn4_im : k_77c im = some (.inr (2, [.ref a0, .ref n1, .ref n2, .ref n3, .ref a4, .ref a5, .int (nI us), .int (nI (n + 1)), .int (nI iw), .int (nI wp), .int (nI cp)])) := by rw [y3_n4, av_up_ne ne_im_n4]; exact g10_im
    have gn4_n4 : k_77c n4 = some (.inl (0, 2 * cc, .inl (va_cpy f4 (fun _ => 0) 0 0 cc))) := by rw [y3_n4]; exact av_up_self _ _ _
    refine aw_put (fs' := [.ref a0, .ref n1, .ref n2, .ref n3, .ref n4, .ref a5, .int (nI us), .int (nI (n + 1)), .int (nI iw), .int (nI wp), .int (nI cp)]) (pt_I_24 _) d_I_addObject_80 gn4_im rfl rfl (by simp) rfl ?_
    obtain ⟨k_11, e_k_11⟩ : ∃ z, z = av_up k_77c im (.inr (2, [.ref a0, .ref n1, .ref n2, .ref n3, .ref n4, .ref a5, .int (nI us), .int (nI (n + 1)), .int (nI iw), .int (nI wp), .int (nI cp)])) := ⟨_, rfl⟩
    refine aw_heap (h' := k_11) e_k_11.symm ?_
    have g11_a0 : k_11 a0 = some (.inl (0, 50, .inl f0)) := by rw [e_k_11, av_up_ne (av_apart gn4_a0 gn4_im)]; exact gn4_a0
    have g11_a1 : k_11 a1 = some (.inl (0, cc, .inl f1)) := by rw [e_k_11, av_up_ne (av_apart gn4_a1 gn4_im)]; exact gn4_a1
    have g11_a2 : k_11 a2 = some (.inl (0, cc, .inl f2)) := by rw [e_k_11, av_up_ne (av_apart gn4_a2 gn4_im)]; exact gn4_a2
    have g11_a3 : k_11 a3 = some (.inl (0, cc, .inl f3)) := by rw [e_k_11, av_up_ne (av_apart gn4_a3 gn4_im)]; exact gn4_a3
    have g11_a4 : k_11 a4 = some (.inl (0, cc, .inl f4)) := by rw [e_k_11, av_up_ne (av_apart gn4_a4 gn4_im)]; exact gn4_a4
    have g11_a5 : k_11 a5 = some (.inl (0, pc, .inl f5)) := by rw [e_k_11, av_up_ne (av_apart gn4_a5 gn4_im)]; exact gn4_a5
    have g11_n1 : k_11 n1 = some (.inl (0, 2 * cc, .inl (va_cpy f1 (fun _ => 0) 0 0 cc))) := by rw [e_k_11, av_up_ne (Ne.symm ne_im_n1)]; exact gn4_n1
    have g11_n2 : k_11 n2 = some (.inl (0, 2 * cc, .inl (va_cpy f2 (fun _ => 0) 0 0 cc))) := by rw [e_k_11, av_up_ne (Ne.symm ne_im_n2)]; exact gn4_n2
    have g11_n3 : k_11 n3 = some (.inl (0, 2 * cc, .inl (va_cpy f3 (fun _ => 0) 0 0 cc))) := by rw [e_k_11, av_up_ne (Ne.symm ne_im_n3)]; exact gn4_n3
    have g11_n4 : k_11 n4 = some (.inl (0, 2 * cc, .inl (va_cpy f4 (fun _ => 0) 0 0 cc))) := by rw [e_k_11, av_up_ne (Ne.symm ne_im_n4)]; exact gn4_n4
    have g11_im : k_11 im = some (.inr (2, [.ref a0, .ref n1, .ref n2, .ref n3, .ref n4, .ref a5, .int (nI us), .int (nI (n + 1)), .int (nI iw), .int (nI wp), .int (nI cp)])) := by rw [e_k_11]; exact av_up_self _ _ _
    refine aw_aload_n d_I_addObject_83 rfl ?_
    refine aw_get fl_I_15 d_I_addObject_84 g11_im rfl ?_
    refine aw_aload_n d_I_addObject_87 rfl ?_
    refine aw_get fl_I_34 d_I_addObject_88 g11_im rfl ?_
    refine aw_iload_n d_I_addObject_91 rfl ?_
    refine aw_iast (f' := upd (va_cpy f1 (fun _ => 0) 0 0 cc) (n + 1) (nI x)) d_I_addObject_92 g11_n1 (vp_in_nI (by omega) (by omega)) (by rw [nI_clamp (by omega)]) ?_
    obtain ⟨k_12, e_k_12⟩ : ∃ z, z = av_up k_11 n1 (.inl (0, 2 * cc, .inl (upd (va_cpy f1 (fun _ => 0) 0 0 cc) (n + 1) (nI x)))) := ⟨_, rfl⟩
    refine aw_heap (h' := k_12) e_k_12.symm ?_
    have g12_a0 : k_12 a0 = some (.inl (0, 50, .inl f0)) := by rw [e_k_12, av_up_ne ne_a0_n1]; exact g11_a0
    have g12_a1 : k_12 a1 = some (.inl (0, cc, .inl f1)) := by rw [e_k_12, av_up_ne ne_a1_n1]; exact g11_a1
    have g12_a2 : k_12 a2 = some (.inl (0, cc, .inl f2)) := by rw [e_k_12, av_up_ne ne_a2_n1]; exact g11_a2
    have g12_a3 : k_12 a3 = some (.inl (0, cc, .inl f3)) := by rw [e_k_12, av_up_ne ne_a3_n1]; exact g11_a3
    have g12_a4 : k_12 a4 = some (.inl (0, cc, .inl f4)) := by rw [e_k_12, av_up_ne ne_a4_n1]; exact g11_a4
    have g12_a5 : k_12 a5 = some (.inl (0, pc, .inl f5)) := by rw [e_k_12, av_up_ne ne_a5_n1]; exact g11_a5
    have g12_n2 : k_12 n2 = some (.inl (0, 2 * cc, .inl (va_cpy f2 (fun _ => 0) 0 0 cc))) := by rw [e_k_12, av_up_ne (Ne.symm ne_n1_n2)]; exact g11_n2
    have g12_n3 : k_12 n3 = some (.inl (0, 2 * cc, .inl (va_cpy f3 (fun _ => 0) 0 0 cc))) := by rw [e_k_12, av_up_ne (Ne.symm ne_n1_n3)]; exact g11_n3
    have g12_n4 : k_12 n4 = some (.inl (0, 2 * cc, .inl (va_cpy f4 (fun _ => 0) 0 0 cc))) := by rw [e_k_12, av_up_ne (Ne.symm ne_n1_n4)]; exact g11_n4
    have g12_im : k_12 im = some (.inr (2, [.ref a0, .ref n1, .ref n2, .ref n3, .ref n4, .ref a5, .int (nI us), .int (nI (n + 1)), .int (nI iw), .int (nI wp), .int (nI cp)])) := by rw [e_k_12, av_up_ne ne_im_n1]; exact g11_im
    have g12_n1 : k_12 n1 = some (.inl (0, 2 * cc, .inl (upd (va_cpy f1 (fun _ => 0) 0 0 cc) (n + 1) (nI x)))) := by rw [e_k_12]; exact av_up_self _ _ _
    refine aw_aload_n d_I_addObject_93 rfl ?_
    refine aw_get fl_I_18 d_I_addObject_94 g12_im rfl ?_
    refine aw_aload_n d_I_addObject_97 rfl ?_
    refine aw_get fl_I_34 d_I_addObject_98 g12_im rfl ?_
    refine aw_iload_n d_I_addObject_101 rfl ?_
    refine aw_iast (f' := upd (va_cpy f2 (fun _ => 0) 0 0 cc) (n + 1) (nI kk)) d_I_addObject_102 g12_n2 (vp_in_nI (by omega) (by omega)) (by rw [nI_clamp (by omega)]) ?_
    obtain ⟨k_13, e_k_13⟩ : ∃ z, z = av_up k_12 n2 (.inl (0, 2 * cc, .inl (upd (va_cpy f2 (fun _ => 0) 0 0 cc) (n + 1) (nI kk)))) := ⟨_, rfl⟩
    refine aw_heap (h' := k_13) e_k_13.symm ?_
    have g13_a0 : k_13 a0 = some (.inl (0, 50, .inl f0)) := by rw [e_k_13, av_up_ne ne_a0_n2]; exact g12_a0
    have g13_a1 : k_13 a1 = some (.inl (0, cc, .inl f1)) := by rw [e_k_13, av_up_ne ne_a1_n2]; exact g12_a1
    have g13_a2 : k_13 a2 = some (.inl (0, cc, .inl f2)) := by rw [e_k_13, av_up_ne ne_a2_n2]; exact g12_a2
    have g13_a3 : k_13 a3 = some (.inl (0, cc, .inl f3)) := by rw [e_k_13, av_up_ne ne_a3_n2]; exact g12_a3
    have g13_a4 : k_13 a4 = some (.inl (0, cc, .inl f4)) := by rw [e_k_13, av_up_ne ne_a4_n2]; exact g12_a4
    have g13_a5 : k_13 a5 = some (.inl (0, pc, .inl f5)) := by rw [e_k_13, av_up_ne ne_a5_n2]; exact g12_a5
    have g13_n3 : k_13 n3 = some (.inl (0, 2 * cc, .inl (va_cpy f3 (fun _ => 0) 0 0 cc))) := by rw [e_k_13, av_up_ne (Ne.symm ne_n2_n3)]; exact g12_n3
    have g13_n4 : k_13 n4 = some (.inl (0, 2 * cc, .inl (va_cpy f4 (fun _ => 0) 0 0 cc))) := by rw [e_k_13, av_up_ne (Ne.symm ne_n2_n4)]; exact g12_n4
    have g13_im : k_13 im = some (.inr (2, [.ref a0, .ref n1, .ref n2, .ref n3, .ref n4, .ref a5, .int (nI us), .int (nI (n + 1)), .int (nI iw), .int (nI wp), .int (nI cp)])) := by rw [e_k_13, av_up_ne ne_im_n2]; exact g12_im
    have g13_n1 : k_13 n1 = some (.inl (0, 2 * cc, .inl (upd (va_cpy f1 (fun _ => 0) 0 0 cc) (n + 1) (nI x)))) := by rw [e_k_13, av_up_ne ne_n1_n2]; exact g12_n1
    have g13_n2 : k_13 n2 = some (.inl (0, 2 * cc, .inl (upd (va_cpy f2 (fun _ => 0) 0 0 cc) (n + 1) (nI kk)))) := by rw [e_k_13]; exact av_up_self _ _ _
    refine aw_aload_n d_I_addObject_103 rfl ?_
    refine aw_get fl_I_21 d_I_addObject_104 g13_im rfl ?_
    refine aw_aload_n d_I_addObject_107 rfl ?_
    refine aw_get fl_I_34 d_I_addObject_108 g13_im rfl ?_
    refine aw_iload_n d_I_addObject_111 rfl ?_
    refine aw_iast (f' := upd (va_cpy f3 (fun _ => 0) 0 0 cc) (n + 1) (nI s)) d_I_addObject_112 g13_n3 (vp_in_nI (by omega) (by omega)) (by rw [nI_clamp (by omega)]) ?_
    obtain ⟨k_14, e_k_14⟩ : ∃ z, z = av_up k_13 n3 (.inl (0, 2 * cc, .inl (upd (va_cpy f3 (fun _ => 0) 0 0 cc) (n + 1) (nI s)))) := ⟨_, rfl⟩
    refine aw_heap (h' := k_14) e_k_14.symm ?_
    have g14_a0 : k_14 a0 = some (.inl (0, 50, .inl f0)) := by rw [e_k_14, av_up_ne ne_a0_n3]; exact g13_a0
    have g14_a1 : k_14 a1 = some (.inl (0, cc, .inl f1)) := by rw [e_k_14, av_up_ne ne_a1_n3]; exact g13_a1
    have g14_a2 : k_14 a2 = some (.inl (0, cc, .inl f2)) := by rw [e_k_14, av_up_ne ne_a2_n3]; exact g13_a2
    have g14_a3 : k_14 a3 = some (.inl (0, cc, .inl f3)) := by rw [e_k_14, av_up_ne ne_a3_n3]; exact g13_a3
    have g14_a4 : k_14 a4 = some (.inl (0, cc, .inl f4)) := by rw [e_k_14, av_up_ne ne_a4_n3]; exact g13_a4
    have g14_a5 : k_14 a5 = some (.inl (0, pc, .inl f5)) := by rw [e_k_14, av_up_ne ne_a5_n3]; exact g13_a5
    have g14_n4 : k_14 n4 = some (.inl (0, 2 * cc, .inl (va_cpy f4 (fun _ => 0) 0 0 cc))) := by rw [e_k_14, av_up_ne (Ne.symm ne_n3_n4)]; exact g13_n4
    have g14_im : k_14 im = some (.inr (2, [.ref a0, .ref n1, .ref n2, .ref n3, .ref n4, .ref a5, .int (nI us), .int (nI (n + 1)), .int (nI iw), .int (nI wp), .int (nI cp)])) := by rw [e_k_14, av_up_ne ne_im_n3]; exact g13_im
    have g14_n1 : k_14 n1 = some (.inl (0, 2 * cc, .inl (upd (va_cpy f1 (fun _ => 0) 0 0 cc) (n + 1) (nI x)))) := by rw [e_k_14, av_up_ne ne_n1_n3]; exact g13_n1
    have g14_n2 : k_14 n2 = some (.inl (0, 2 * cc, .inl (upd (va_cpy f2 (fun _ => 0) 0 0 cc) (n + 1) (nI kk)))) := by rw [e_k_14, av_up_ne ne_n2_n3]; exact g13_n2
    have g14_n3 : k_14 n3 = some (.inl (0, 2 * cc, .inl (upd (va_cpy f3 (fun _ => 0) 0 0 cc) (n + 1) (nI s)))) := by rw [e_k_14]; exact av_up_self _ _ _
    refine aw_aload_n d_I_addObject_113 rfl ?_
    refine aw_get fl_I_24 d_I_addObject_114 g14_im rfl ?_
    refine aw_aload_n d_I_addObject_117 rfl ?_
    refine aw_get fl_I_34 d_I_addObject_118 g14_im rfl ?_
    refine aw_aload_n d_I_addObject_121 rfl ?_
    refine aw_get fl_I_30 d_I_addObject_122 g14_im rfl ?_
    refine aw_iast (f' := upd (va_cpy f4 (fun _ => 0) 0 0 cc) (n + 1) (nI us)) d_I_addObject_125 g14_n4 (vp_in_nI (by omega) (by omega)) (by rw [nI_clamp (by omega)]) ?_
    obtain ⟨k_15, e_k_15⟩ : ∃ z, z = av_up k_14 n4 (.inl (0, 2 * cc, .inl (upd (va_cpy f4 (fun _ => 0) 0 0 cc) (n + 1) (nI us)))) := ⟨_, rfl⟩
    refine aw_heap (h' := k_15) e_k_15.symm ?_
    have g15_a0 : k_15 a0 = some (.inl (0, 50, .inl f0)) := by rw [e_k_15, av_up_ne ne_a0_n4]; exact g14_a0
    have g15_a1 : k_15 a1 = some (.inl (0, cc, .inl f1)) := by rw [e_k_15, av_up_ne ne_a1_n4]; exact g14_a1
    have g15_a2 : k_15 a2 = some (.inl (0, cc, .inl f2)) := by rw [e_k_15, av_up_ne ne_a2_n4]; exact g14_a2
    have g15_a3 : k_15 a3 = some (.inl (0, cc, .inl f3)) := by rw [e_k_15, av_up_ne ne_a3_n4]; exact g14_a3
    have g15_a4 : k_15 a4 = some (.inl (0, cc, .inl f4)) := by rw [e_k_15, av_up_ne ne_a4_n4]; exact g14_a4
    have g15_a5 : k_15 a5 = some (.inl (0, pc, .inl f5)) := by rw [e_k_15, av_up_ne ne_a5_n4]; exact g14_a5
    have g15_im : k_15 im = some (.inr (2, [.ref a0, .ref n1, .ref n2, .ref n3, .ref n4, .ref a5, .int (nI us), .int (nI (n + 1)), .int (nI iw), .int (nI wp), .int (nI cp)])) := by rw [e_k_15, av_up_ne ne_im_n4]; exact g14_im
    have g15_n1 : k_15 n1 = some (.inl (0, 2 * cc, .inl (upd (va_cpy f1 (fun _ => 0) 0 0 cc) (n + 1) (nI x)))) := by rw [e_k_15, av_up_ne ne_n1_n4]; exact g14_n1
    have g15_n2 : k_15 n2 = some (.inl (0, 2 * cc, .inl (upd (va_cpy f2 (fun _ => 0) 0 0 cc) (n + 1) (nI kk)))) := by rw [e_k_15, av_up_ne ne_n2_n4]; exact g14_n2
    have g15_n3 : k_15 n3 = some (.inl (0, 2 * cc, .inl (upd (va_cpy f3 (fun _ => 0) 0 0 cc) (n + 1) (nI s)))) := by rw [e_k_15, av_up_ne ne_n3_n4]; exact g14_n3
    have g15_n4 : k_15 n4 = some (.inl (0, 2 * cc, .inl (upd (va_cpy f4 (fun _ => 0) 0 0 cc) (n + 1) (nI us)))) := by rw [e_k_15]; exact av_up_self _ _ _
    refine aw_aload_n d_I_addObject_126 rfl ?_
    refine aw_dup d_I_addObject_127 rfl ?_
    refine aw_get fl_I_37 d_I_addObject_128 g15_im rfl ?_
    refine aw_iconst (v := nI 4) d_I_addObject_131 (by decide) ?_
    refine aw_iload_n d_I_addObject_132 rfl ?_
    refine aw_iconst (v := nI 1) d_I_addObject_133 (by decide) ?_
    refine aw_icmp_ne (tgt := 145) d_I_addObject_134 (by decide) (fun c_134 => ?_) (fun c_134 => ?_)
    · rw [w_eq (by omega) (by omega)] at c_134
      have he : (4 + (if kk = 1 then (s + 3) / 4 else s)) = 4 + s := by rw [if_neg c_134]
      refine aw_iload_n d_I_addObject_145 rfl ?_
      refine aw_iadd (v := nI (4 + s)) d_I_addObject_146 (nI_add _ _) ?_
      refine aw_iadd (v := nI (iw + (4 + s))) d_I_addObject_147 (nI_add _ _) ?_
      refine aw_put (fs' := [.ref a0, .ref n1, .ref n2, .ref n3, .ref n4, .ref a5, .int (nI us), .int (nI (n + 1)), .int (nI (iw + (4 + s))), .int (nI wp), .int (nI cp)]) (pt_I_37 _) d_I_addObject_148 g15_im rfl rfl (by simp) rfl ?_
      obtain ⟨k_16, e_k_16⟩ : ∃ z, z = av_up k_15 im (.inr (2, [.ref a0, .ref n1, .ref n2, .ref n3, .ref n4, .ref a5, .int (nI us), .int (nI (n + 1)), .int (nI (iw + (4 + s))), .int (nI wp), .int (nI cp)])) := ⟨_, rfl⟩
      refine aw_heap (h' := k_16) e_k_16.symm ?_
      have g16_a0 : k_16 a0 = some (.inl (0, 50, .inl f0)) := by rw [e_k_16, av_up_ne (av_apart g15_a0 g15_im)]; exact g15_a0
      have g16_a1 : k_16 a1 = some (.inl (0, cc, .inl f1)) := by rw [e_k_16, av_up_ne (av_apart g15_a1 g15_im)]; exact g15_a1
      have g16_a2 : k_16 a2 = some (.inl (0, cc, .inl f2)) := by rw [e_k_16, av_up_ne (av_apart g15_a2 g15_im)]; exact g15_a2
      have g16_a3 : k_16 a3 = some (.inl (0, cc, .inl f3)) := by rw [e_k_16, av_up_ne (av_apart g15_a3 g15_im)]; exact g15_a3
      have g16_a4 : k_16 a4 = some (.inl (0, cc, .inl f4)) := by rw [e_k_16, av_up_ne (av_apart g15_a4 g15_im)]; exact g15_a4
      have g16_a5 : k_16 a5 = some (.inl (0, pc, .inl f5)) := by rw [e_k_16, av_up_ne (av_apart g15_a5 g15_im)]; exact g15_a5
      have g16_n1 : k_16 n1 = some (.inl (0, 2 * cc, .inl (upd (va_cpy f1 (fun _ => 0) 0 0 cc) (n + 1) (nI x)))) := by rw [e_k_16, av_up_ne (Ne.symm ne_im_n1)]; exact g15_n1
      have g16_n2 : k_16 n2 = some (.inl (0, 2 * cc, .inl (upd (va_cpy f2 (fun _ => 0) 0 0 cc) (n + 1) (nI kk)))) := by rw [e_k_16, av_up_ne (Ne.symm ne_im_n2)]; exact g15_n2
      have g16_n3 : k_16 n3 = some (.inl (0, 2 * cc, .inl (upd (va_cpy f3 (fun _ => 0) 0 0 cc) (n + 1) (nI s)))) := by rw [e_k_16, av_up_ne (Ne.symm ne_im_n3)]; exact g15_n3
      have g16_n4 : k_16 n4 = some (.inl (0, 2 * cc, .inl (upd (va_cpy f4 (fun _ => 0) 0 0 cc) (n + 1) (nI us)))) := by rw [e_k_16, av_up_ne (Ne.symm ne_im_n4)]; exact g15_n4
      have g16_im : k_16 im = some (.inr (2, [.ref a0, .ref n1, .ref n2, .ref n3, .ref n4, .ref a5, .int (nI us), .int (nI (n + 1)), .int (nI (iw + (4 + s))), .int (nI wp), .int (nI cp)])) := by rw [e_k_16]; exact av_up_self _ _ _
      exact aw_vret d_I_addObject_151 rfl ⟨rfl, _, _, _, _, _, _, _, _, ⟨(by rw [he]; exact g16_im), g16_a0, (by rw [hg]; exact g16_n1), (by rw [hg]; exact g16_n2), (by rw [hg]; exact g16_n3), (by rw [hg]; exact g16_n4), g16_a5⟩, ⟨ne_a0_n1, ne_a0_n2, ne_a0_n3, ne_a0_n4, D.2.2.2.2.1, ne_n1_n2, ne_n1_n3, ne_n1_n4, (Ne.symm ne_a5_n1), ne_n2_n3, ne_n2_n4, (Ne.symm ne_a5_n2), ne_n3_n4, (Ne.symm ne_a5_n3), (Ne.symm ne_a5_n4)⟩, ⟨by unfold upd; rw [if_pos rfl], by unfold upd; rw [if_pos rfl], by unfold upd; rw [if_pos rfl], by unfold upd; rw [if_pos rfl]⟩, fun k hk => ⟨by unfold upd; rw [if_neg (by omega)]; exact cpy_lt (by omega), by unfold upd; rw [if_neg (by omega)]; exact cpy_lt (by omega), by unfold upd; rw [if_neg (by omega)]; exact cpy_lt (by omega), by unfold upd; rw [if_neg (by omega)]; exact cpy_lt (by omega)⟩, (((((((((((((((frm.refl [im, a0, a1, a2, a3, a4, a5]).up e_k_1 (by simp)).nw y3_n1 f_n1).up e_k_8 (by simp)).nw y3_n2 f_n2).up e_k_9 (by simp)).nw y3_n3 f_n3).up e_k_10 (by simp)).nw y3_n4 f_n4).up e_k_11 (by simp)).up e_k_12 (by simp)).up e_k_13 (by simp)).up e_k_14 (by simp)).up e_k_15 (by simp)).up e_k_16 (by simp)).sub (by intro x hx; simp only [List.mem_cons, List.not_mem_nil, or_false] at hx ⊢; omega)⟩
    · rw [w_eq (by omega) (by omega)] at c_134
      have he : (4 + (if kk = 1 then (s + 3) / 4 else s)) = 4 + (s + 3) / 4 := by rw [if_pos c_134]
      refine aw_iload_n d_I_addObject_137 rfl ?_
      refine aw_iconst (v := nI 3) d_I_addObject_138 (by decide) ?_
      refine aw_iadd (v := nI (s + 3)) d_I_addObject_139 (nI_add _ _) ?_
      refine aw_iconst (v := nI 4) d_I_addObject_140 (by decide) ?_
      refine aw_idiv (v := nI ((s + 3) / 4)) d_I_addObject_141 (by decide) (pk_div (by omega) (by decide) (by decide)) ?_
      refine aw_goto (tgt := 146) d_I_addObject_142 (by decide) ?_
      refine aw_iadd (v := nI (4 + ((s + 3) / 4))) d_I_addObject_146 (nI_add _ _) ?_
      refine aw_iadd (v := nI (iw + (4 + ((s + 3) / 4)))) d_I_addObject_147 (nI_add _ _) ?_
      refine aw_put (fs' := [.ref a0, .ref n1, .ref n2, .ref n3, .ref n4, .ref a5, .int (nI us), .int (nI (n + 1)), .int (nI (iw + (4 + ((s + 3) / 4)))), .int (nI wp), .int (nI cp)]) (pt_I_37 _) d_I_addObject_148 g15_im rfl rfl (by simp) rfl ?_
      obtain ⟨k_17, e_k_17⟩ : ∃ z, z = av_up k_15 im (.inr (2, [.ref a0, .ref n1, .ref n2, .ref n3, .ref n4, .ref a5, .int (nI us), .int (nI (n + 1)), .int (nI (iw + (4 + ((s + 3) / 4)))), .int (nI wp), .int (nI cp)])) := ⟨_, rfl⟩
      refine aw_heap (h' := k_17) e_k_17.symm ?_
      have g17_a0 : k_17 a0 = some (.inl (0, 50, .inl f0)) := by rw [e_k_17, av_up_ne (av_apart g15_a0 g15_im)]; exact g15_a0
      have g17_a1 : k_17 a1 = some (.inl (0, cc, .inl f1)) := by rw [e_k_17, av_up_ne (av_apart g15_a1 g15_im)]; exact g15_a1
      have g17_a2 : k_17 a2 = some (.inl (0, cc, .inl f2)) := by rw [e_k_17, av_up_ne (av_apart g15_a2 g15_im)]; exact g15_a2
      have g17_a3 : k_17 a3 = some (.inl (0, cc, .inl f3)) := by rw [e_k_17, av_up_ne (av_apart g15_a3 g15_im)]; exact g15_a3
      have g17_a4 : k_17 a4 = some (.inl (0, cc, .inl f4)) := by rw [e_k_17, av_up_ne (av_apart g15_a4 g15_im)]; exact g15_a4
      have g17_a5 : k_17 a5 = some (.inl (0, pc, .inl f5)) := by rw [e_k_17, av_up_ne (av_apart g15_a5 g15_im)]; exact g15_a5
      have g17_n1 : k_17 n1 = some (.inl (0, 2 * cc, .inl (upd (va_cpy f1 (fun _ => 0) 0 0 cc) (n + 1) (nI x)))) := by rw [e_k_17, av_up_ne (Ne.symm ne_im_n1)]; exact g15_n1
      have g17_n2 : k_17 n2 = some (.inl (0, 2 * cc, .inl (upd (va_cpy f2 (fun _ => 0) 0 0 cc) (n + 1) (nI kk)))) := by rw [e_k_17, av_up_ne (Ne.symm ne_im_n2)]; exact g15_n2
      have g17_n3 : k_17 n3 = some (.inl (0, 2 * cc, .inl (upd (va_cpy f3 (fun _ => 0) 0 0 cc) (n + 1) (nI s)))) := by rw [e_k_17, av_up_ne (Ne.symm ne_im_n3)]; exact g15_n3
      have g17_n4 : k_17 n4 = some (.inl (0, 2 * cc, .inl (upd (va_cpy f4 (fun _ => 0) 0 0 cc) (n + 1) (nI us)))) := by rw [e_k_17, av_up_ne (Ne.symm ne_im_n4)]; exact g15_n4
      have g17_im : k_17 im = some (.inr (2, [.ref a0, .ref n1, .ref n2, .ref n3, .ref n4, .ref a5, .int (nI us), .int (nI (n + 1)), .int (nI (iw + (4 + ((s + 3) / 4)))), .int (nI wp), .int (nI cp)])) := by rw [e_k_17]; exact av_up_self _ _ _
      exact aw_vret d_I_addObject_151 rfl ⟨rfl, _, _, _, _, _, _, _, _, ⟨(by rw [he]; exact g17_im), g17_a0, (by rw [hg]; exact g17_n1), (by rw [hg]; exact g17_n2), (by rw [hg]; exact g17_n3), (by rw [hg]; exact g17_n4), g17_a5⟩, ⟨ne_a0_n1, ne_a0_n2, ne_a0_n3, ne_a0_n4, D.2.2.2.2.1, ne_n1_n2, ne_n1_n3, ne_n1_n4, (Ne.symm ne_a5_n1), ne_n2_n3, ne_n2_n4, (Ne.symm ne_a5_n2), ne_n3_n4, (Ne.symm ne_a5_n3), (Ne.symm ne_a5_n4)⟩, ⟨by unfold upd; rw [if_pos rfl], by unfold upd; rw [if_pos rfl], by unfold upd; rw [if_pos rfl], by unfold upd; rw [if_pos rfl]⟩, fun k hk => ⟨by unfold upd; rw [if_neg (by omega)]; exact cpy_lt (by omega), by unfold upd; rw [if_neg (by omega)]; exact cpy_lt (by omega), by unfold upd; rw [if_neg (by omega)]; exact cpy_lt (by omega), by unfold upd; rw [if_neg (by omega)]; exact cpy_lt (by omega)⟩, (((((((((((((((frm.refl [im, a0, a1, a2, a3, a4, a5]).up e_k_1 (by simp)).nw y3_n1 f_n1).up e_k_8 (by simp)).nw y3_n2 f_n2).up e_k_9 (by simp)).nw y3_n3 f_n3).up e_k_10 (by simp)).nw y3_n4 f_n4).up e_k_11 (by simp)).up e_k_12 (by simp)).up e_k_13 (by simp)).up e_k_14 (by simp)).up e_k_15 (by simp)).up e_k_17 (by simp)).sub (by intro x hx; simp only [List.mem_cons, List.not_mem_nil, or_false] at hx ⊢; omega)⟩

set_option maxHeartbeats 4000000 in
theorem c_L_isValueAt {tb : Nat → Nat} {h : AH} {b ro cap c : Nat} {G B : Nat → Nat} (hG : ∀ i, G i < 256) (hB_ : ∀ i, B i < 256) (hW : ∀ i, i < c → G i = B i) (hb : h b = some (.inr (1, [.ref ro, .int (nI c)]))) (hr : h ro = some (.inl (1, cap, .inl (bsf G)))) (hc : c ≤ cap) (hcap : cap ≤ 1048576) (a : Nat) (ha : a < 1073741824) : AM tb y_L_isValueAt b_L_isValueAt 4 (some .boolean) 2 42 [.ref b, .int (nI a), .int (nI (nn B))] h 0 0 (av_Pi (bP (vok B c a)) h) := by
  have hnn : nn B < 65536 := bh_lt hB_ 6
  refine am_of (ini := false) [some (.ref b), some (.int (nI a)), some (.int (nI (nn B))), none] (by decide) (fun z => by cases z) (Nat.le_of_ble_eq_true rfl) rfl ?_
  refine aw_aload_n d_L_isValueAt_0 rfl ?_
  refine aw_iload_n d_L_isValueAt_1 rfl ?_
  refine aw_iconst (v := nI 4) d_L_isValueAt_2 (by decide) ?_
  refine aw_callVi (mc2 := 0) (ms2 := 0) (r := bP (a + 4 ≤ c)) (As := [.int (nI a), .int (nI 4)]) (rest := []) (c_B_reaches hG hB_ hW hb hr hc hcap a 4 (by omega)) cv_L_22 d_L_isValueAt_3 hb rfl rfl rfl (Nat.le_of_ble_eq_true rfl) (by decide) (by decide) (by omega) (by omega) ?_
  refine aw_if_ne (tgt := 11) d_L_isValueAt_6 (by decide) (fun c_6 => ?_) (fun c_6 => ?_)
  · rw [bP_eq0, Classical.not_not] at c_6
    refine aw_aload_n d_L_isValueAt_11 rfl ?_
    refine aw_iload_n d_L_isValueAt_12 rfl ?_
    refine aw_callVi (mc2 := 0) (ms2 := 0) (r := nI (bw B a)) (As := [.int (nI a)]) (rest := []) (c_B_wordAt hG hB_ hW hb hr hc hcap a (by omega)) cv_L_53 d_L_isValueAt_13 hb rfl rfl rfl (Nat.le_of_ble_eq_true rfl) (by decide) (by decide) (by omega) (by omega) ?_
    have b_13 := bw_lt hB_ a
    refine aw_istore_n (L' := [some (.ref b), some (.int (nI a)), some (.int (nI (nn B))), some (.int (nI (bw B a)))]) d_L_isValueAt_16 (by decide) rfl rfl ?_
    refine aw_iload_n d_L_isValueAt_17 rfl ?_
    refine aw_callSi (mc2 := 0) (ms2 := 0) (r := bP ((bw B a) % 2 = 1)) (As := [.int (nI (bw B a))]) (rest := []) (c_R_isNumber (bw B a)) cs_L_80 d_L_isValueAt_18 rfl rfl (Nat.le_of_ble_eq_true rfl) (by decide) (by decide) (by omega) (by omega) ?_
    refine aw_if_ne (tgt := 35) d_L_isValueAt_21 (by decide) (fun c_21 => ?_) (fun c_21 => ?_)
    · rw [bP_eq0, Classical.not_not] at c_21
      refine aw_iconst (v := nI 1) d_L_isValueAt_35 (by decide) ?_
      refine aw_goto (tgt := 40) d_L_isValueAt_36 (by decide) ?_
      exact aw_iret d_L_isValueAt_40 rfl nar1 (rt_t (by unfold vok vl; omega))
    · rw [bP_eq0] at c_21
      refine aw_iload_n d_L_isValueAt_24 rfl ?_
      refine aw_if_lt (tgt := 39) d_L_isValueAt_25 (by decide) (fun c_25 => ?_) (fun c_25 => ?_)
      · rw [w_ltz b_13] at c_25
        refine aw_iconst (v := nI 0) d_L_isValueAt_39 (by decide) ?_
        exact aw_iret d_L_isValueAt_40 rfl nar0 (rt_f (by unfold vok vl; omega))
      · rw [w_ltz b_13] at c_25
        refine aw_iload_n d_L_isValueAt_28 rfl ?_
        refine aw_iconst (v := nI 2) d_L_isValueAt_29 (by decide) ?_
        refine aw_iload_n d_L_isValueAt_30 rfl ?_
        refine aw_imul (v := nI (2 * (nn B))) d_L_isValueAt_31 (pk_mul _ _) ?_
        refine aw_icmp_gt (tgt := 39) d_L_isValueAt_32 (by decide) (fun c_32 => ?_) (fun c_32 => ?_)
        · rw [nI_ltI (by omega) (by omega)] at c_32
          refine aw_iconst (v := nI 0) d_L_isValueAt_39 (by decide) ?_
          exact aw_iret d_L_isValueAt_40 rfl nar0 (rt_f (by unfold vok vl; omega))
        · rw [nI_ltI (by omega) (by omega)] at c_32
          refine aw_iconst (v := nI 1) d_L_isValueAt_35 (by decide) ?_
          refine aw_goto (tgt := 40) d_L_isValueAt_36 (by decide) ?_
          exact aw_iret d_L_isValueAt_40 rfl nar1 (rt_t (by unfold vok vl; omega))
  · rw [bP_eq0] at c_6
    refine aw_iconst (v := nI 0) d_L_isValueAt_9 (by decide) ?_
    exact aw_iret d_L_isValueAt_10 rfl nar0 (rt_f (by unfold vok vl; omega))

theorem plH_s {B : Nat → Nat} {c p : Nat} (h : ffst (fun i => i < c ∧ hdr i (B i)) (fun i => i) 8 0 = some p) : plH B c = some p := by unfold plH; rw [h]
theorem plH_n {B : Nat → Nat} {c : Nat} (h : ffst (fun i => i < c ∧ hdr i (B i)) (fun i => i) 8 0 = none) : plH B c = if nn B < 1 ∨ 8191 < nn B then some 6 else none := by unfold plH; rw [h]

set_option maxHeartbeats 4000000 in
theorem lp_L_headPlace {tb : Nat → Nat} {h : AH} {fr lo : Nat} {mc ms : Nat} (hfr : 2 ≤ fr) (hlo : 42 ≤ lo) {b ro cap c : Nat} {G B : Nat → Nat} (hG : ∀ i, G i < 256) (hB_ : ∀ i, B i < 256) (hW : ∀ i, i < c → G i = B i) (hb : h b = some (.inr (1, [.ref ro, .int (nI c)]))) (hr : h ro = some (.inl (1, cap, .inl (bsf G)))) (hc : c ≤ cap) (hcap : cap ≤ 1048576) : ∀ (d : Nat) (r i : Nat) (x2 : Option Value), r + i = 8 → i ≤ 6 → i ≤ c → (∀ v, x2 = some v → v.category = 1) → ffst (fun i => i < c ∧ hdr i (B i)) (fun i => i) r i = ffst (fun i => i < c ∧ hdr i (B i)) (fun i => i) 8 0 → r < d → AW tb "ImageReader$Layout" b_L_headPlace 3 (some .int) false none fr lo (av_Pi (pI (plH B c)) h) 2 [some (.ref b), some (.int (nI i)), none] [] h mc ms := by
  intro d
  induction d with
  | zero => intro r i x2 hri hi h6 hx hp hd; omega
  | succ d ih =>
    intro r i x2 hri hi h6 hx hp hd
    have hl := hL_lt i
    have hh := hH_lt i
    have hnn : nn B < 65536 := bh_lt hB_ 6
    refine aw_iload_n d_L_headPlace_2 rfl ?_
    refine aw_tab0 (Or.inr ⟨_, nw_196⟩) d_L_headPlace_3 ?_
    refine aw_tln0 d_L_headPlace_6 ?_
    refine aw_icmp_ge (tgt := 42) d_L_headPlace_7 (by decide) (fun c_7 => ?_) (fun c_7 => ?_)
    · rw [nI_leI (by omega) (by omega)] at c_7
      have e6 : i = 6 := by omega
      have er : r = 2 := by omega
      subst e6 er
      refine aw_aload_n d_L_headPlace_42 rfl ?_
      refine aw_bipush (v := nI 6) d_L_headPlace_43 (by decide) ?_
      refine aw_iconst (v := nI 2) d_L_headPlace_45 (by decide) ?_
      refine aw_callVi (mc2 := mc) (ms2 := ms) (r := bP (6 + 2 ≤ c)) (As := [.int (nI 6), .int (nI 2)]) (rest := []) (c_B_reaches hG hB_ hW hb hr hc hcap 6 2 (by omega)) cv_L_22 d_L_headPlace_46 hb rfl rfl rfl (Nat.le_of_ble_eq_true rfl) (by omega) (by omega) (by omega) (by omega) ?_
      refine aw_if_ne (tgt := 57) d_L_headPlace_49 (by decide) (fun c_49 => ?_) (fun c_49 => ?_)
      · rw [bP_eq0, Classical.not_not] at c_49
        refine aw_aload_n d_L_headPlace_57 rfl ?_
        refine aw_bipush (v := nI 6) d_L_headPlace_58 (by decide) ?_
        refine aw_callVi (mc2 := mc) (ms2 := ms) (r := nI (nn B)) (As := [.int (nI 6)]) (rest := []) (c_B_pairAt hG hB_ hW hb hr hc hcap 6 (by omega)) cv_L_30 d_L_headPlace_60 hb rfl rfl rfl (Nat.le_of_ble_eq_true rfl) (by omega) (by omega) (by omega) (by omega) ?_
        have b_60 : nn B < 65536 := bh_lt hB_ 6
        refine aw_istore_n (L' := [some (.ref b), some (.int (nI (nn B))), none]) d_L_headPlace_63 (by decide) rfl rfl ?_
        refine aw_iload_n d_L_headPlace_64 rfl ?_
        refine aw_iconst (v := nI 1) d_L_headPlace_65 (by decide) ?_
        refine aw_icmp_lt (tgt := 76) d_L_headPlace_66 (by decide) (fun c_66 => ?_) (fun c_66 => ?_)
        · rw [nI_ltI (by omega) (by omega)] at c_66
          refine aw_bipush (v := nI 6) d_L_headPlace_76 (by decide) ?_
          refine aw_goto (tgt := 82) d_L_headPlace_78 (by decide) ?_
          exact aw_iret d_L_headPlace_82 rfl rfl (rt_i (by rw [plH_n (by rw [← hp, ffst_s (P := fun i => i < c ∧ hdr i (B i)) ⟨by omega, hdr_67 (by omega)⟩, ffst_s (P := fun i => i < c ∧ hdr i (B i)) ⟨by omega, hdr_67 (by omega)⟩]; rfl)]; first | (rw [if_pos (by omega)]; rfl) | (rw [if_neg (by omega)]; rfl)))
        · rw [nI_ltI (by omega) (by omega)] at c_66
          refine aw_iload_n d_L_headPlace_69 rfl ?_
          refine aw_sipush (v := nI 8191) d_L_headPlace_70 (by decide) ?_
          refine aw_icmp_le (tgt := 81) d_L_headPlace_73 (by decide) (fun c_73 => ?_) (fun c_73 => ?_)
          · rw [nI_leI (by omega) (by omega)] at c_73
            refine aw_iconst (v := (-1)) d_L_headPlace_81 (by decide) ?_
            exact aw_iret d_L_headPlace_82 rfl rfl (rt_i (by rw [plH_n (by rw [← hp, ffst_s (P := fun i => i < c ∧ hdr i (B i)) ⟨by omega, hdr_67 (by omega)⟩, ffst_s (P := fun i => i < c ∧ hdr i (B i)) ⟨by omega, hdr_67 (by omega)⟩]; rfl)]; first | (rw [if_pos (by omega)]; rfl) | (rw [if_neg (by omega)]; rfl)))
          · rw [nI_leI (by omega) (by omega)] at c_73
            refine aw_bipush (v := nI 6) d_L_headPlace_76 (by decide) ?_
            refine aw_goto (tgt := 82) d_L_headPlace_78 (by decide) ?_
            exact aw_iret d_L_headPlace_82 rfl rfl (rt_i (by rw [plH_n (by rw [← hp, ffst_s (P := fun i => i < c ∧ hdr i (B i)) ⟨by omega, hdr_67 (by omega)⟩, ffst_s (P := fun i => i < c ∧ hdr i (B i)) ⟨by omega, hdr_67 (by omega)⟩]; rfl)]; first | (rw [if_pos (by omega)]; rfl) | (rw [if_neg (by omega)]; rfl)))
      · rw [bP_eq0] at c_49
        refine aw_aload_n d_L_headPlace_52 rfl ?_
        refine aw_get fl_L_26 d_L_headPlace_53 hb rfl ?_
        exact aw_iret d_L_headPlace_56 rfl rfl (rt_i (by by_cases z : 6 < c; (rw [plH_s (by rw [← hp, ffst_s (P := fun i => i < c ∧ hdr i (B i)) ⟨z, hdr_67 (by omega)⟩, ffst_n (P := fun i => i < c ∧ hdr i (B i)) (fun y => by have := y.1; omega)])]; show _ = nI 7; congr 1; omega); (rw [plH_s (by rw [← hp, ffst_n (P := fun i => i < c ∧ hdr i (B i)) (fun y => z y.1)])]; show _ = nI 6; congr 1; have := h6; omega)))
    · rw [nI_leI (by omega) (by omega)] at c_7
      by_cases hic : i < c
      · refine aw_aload_n d_L_headPlace_10 rfl ?_
        refine aw_iload_n d_L_headPlace_11 rfl ?_
        refine aw_callVi (mc2 := mc) (ms2 := ms) (r := nI (B i)) (As := [.int (nI i)]) (rest := []) (c_B_at hG hB_ hW hb hr hc hcap i (by omega)) cv_L_13 d_L_headPlace_12 hb rfl rfl rfl (Nat.le_of_ble_eq_true rfl) (by omega) (by omega) (by omega) (by omega) ?_
        have b_12 := hB_ i
        refine aw_istore_n (L' := [some (.ref b), some (.int (nI i)), some (.int (nI (B i)))]) d_L_headPlace_15 (by decide) rfl rfl ?_
        refine aw_iload_n d_L_headPlace_16 rfl ?_
        refine aw_tab0 (Or.inr ⟨_, nw_196⟩) d_L_headPlace_17 ?_
        refine aw_iload_n d_L_headPlace_20 rfl ?_
        refine aw_tld0 (x := nI (hL i)) d_L_headPlace_21 (vp_in_nI (by omega) (by omega)) (by rw [nI_clamp (by omega)]; exact hd_lo_eq i (by omega)) ?_
        refine aw_icmp_lt (tgt := 34) d_L_headPlace_22 (by decide) (fun c_22 => ?_) (fun c_22 => ?_)
        · rw [nI_ltI (by omega) (by omega)] at c_22
          refine aw_iload_n d_L_headPlace_34 rfl ?_
          exact aw_iret d_L_headPlace_35 rfl rfl (rt_i (by obtain ⟨r, rfl⟩ : ∃ q, r = q + 1 := ⟨r - 1, by omega⟩; rw [plH_s (by rw [← hp, ffst_n (P := fun i => i < c ∧ hdr i (B i)) (fun z => by first | exact hic z.1 | (have y := (hdr_iff (by omega)).mp z.2; omega))])]; rfl))
        · rw [nI_ltI (by omega) (by omega)] at c_22
          refine aw_iload_n d_L_headPlace_25 rfl ?_
          refine aw_tab1 (Or.inr ⟨_, nw_199⟩) d_L_headPlace_26 ?_
          refine aw_iload_n d_L_headPlace_29 rfl ?_
          refine aw_tld1 (x := nI (hH i)) d_L_headPlace_30 (vp_in_nI (by omega) (by omega)) (by rw [nI_clamp (by omega)]; exact hd_hi_eq i (by omega)) ?_
          refine aw_icmp_le (tgt := 36) d_L_headPlace_31 (by decide) (fun c_31 => ?_) (fun c_31 => ?_)
          · rw [nI_leI (by omega) (by omega)] at c_31
            refine aw_iinc (v := nI (i + 1)) (L' := [some (.ref b), some (.int (nI (i + 1))), some (.int (nI (B i)))]) d_L_headPlace_36 rfl (nI_add i 1) (by decide) rfl rfl ?_
            refine aw_goto (tgt := 2) d_L_headPlace_39 (by decide) ?_
            refine aw_loc (L' := [some (.ref b), some (.int (nI (i + 1))), none]) (by intro j v hv; match j, hv with | 0, hv => exact hv | 1, hv => exact hv | 2, hv => cases hv | j + 3, hv => cases hv) ?_
            exact ih (r - 1) (i + 1) none (by omega) (by omega) (by omega) (by intro v hv; cases hv) (by obtain ⟨r, rfl⟩ : ∃ q, r = q + 1 := ⟨r - 1, by omega⟩; rw [← hp, ffst_s (P := fun i => i < c ∧ hdr i (B i)) ⟨hic, (hdr_iff (by omega)).mpr (by omega)⟩]; rfl) (by omega)
          · rw [nI_leI (by omega) (by omega)] at c_31
            refine aw_iload_n d_L_headPlace_34 rfl ?_
            exact aw_iret d_L_headPlace_35 rfl rfl (rt_i (by obtain ⟨r, rfl⟩ : ∃ q, r = q + 1 := ⟨r - 1, by omega⟩; rw [plH_s (by rw [← hp, ffst_n (P := fun i => i < c ∧ hdr i (B i)) (fun z => by first | exact hic z.1 | (have y := (hdr_iff (by omega)).mp z.2; omega))])]; rfl))
      · refine aw_aload_n d_L_headPlace_10 rfl ?_
        refine aw_iload_n d_L_headPlace_11 rfl ?_
        refine aw_callVi (mc2 := mc) (ms2 := ms) (r := (-1)) (As := [.int (nI i)]) (rest := []) (c_B_at_out hG hB_ hW hb hr hc hcap i (by omega) (by omega)) cv_L_13 d_L_headPlace_12 hb rfl rfl rfl (Nat.le_of_ble_eq_true rfl) (by omega) (by omega) (by omega) (by omega) ?_
        refine aw_istore_n (L' := [some (.ref b), some (.int (nI i)), some (.int (-1))]) d_L_headPlace_15 (by decide) rfl rfl ?_
        refine aw_iload_n d_L_headPlace_16 rfl ?_
        refine aw_tab0 (Or.inr ⟨_, nw_196⟩) d_L_headPlace_17 ?_
        refine aw_iload_n d_L_headPlace_20 rfl ?_
        refine aw_tld0 (x := nI (hL i)) d_L_headPlace_21 (vp_in_nI (by omega) (by omega)) (by rw [nI_clamp (by omega)]; exact hd_lo_eq i (by omega)) ?_
        refine aw_icmp_lt (tgt := 34) d_L_headPlace_22 (by decide) (fun c_22 => ?_) (fun c_22 => absurd c_22 (by exact fun z => z (m1_lt (by omega))))
        refine aw_iload_n d_L_headPlace_34 rfl ?_
        exact aw_iret d_L_headPlace_35 rfl rfl (rt_i (by obtain ⟨r, rfl⟩ : ∃ q, r = q + 1 := ⟨r - 1, by omega⟩; rw [plH_s (by rw [← hp, ffst_n (P := fun i => i < c ∧ hdr i (B i)) (fun z => by first | exact hic z.1 | (have y := (hdr_iff (by omega)).mp z.2; omega))])]; rfl))
