/-! ===== the class: Walk ===== -/
theorem vspx_good {B : Nat → Nat} (hl : LX B) : ∀ k, k ≤ 50 → vgood (nn B) (vsp B k)
  | 0, _ => v0_good _
  | k + 1, h => vis_good (vspx_good hl k (by omega)) (ob_le (hl.s (by omega)))
theorem vfdx_good {B : Nat → Nat} (hl : LX B) {s : BS} (hs : vgood (nn B) s) {k : Nat} (h1 : 1 ≤ k) (h2 : k ≤ nn B) : ∀ i, i ≤ (if kd B k = 1 then 0 else sz B k) → vgood (nn B) (vfd B s k i)
  | 0, _ => vis_good hs (ob_le (hl.2.2 k h1 h2).1)
  | i + 1, h => by
    have a := hl.2.2 k h1 h2
    by_cases z : kd B k = 1
    · rw [if_pos z] at h; omega
    · have z0 : kd B k = 0 := by omega
      rw [if_neg z] at h
      exact vis_good (vfdx_good hl hs h1 h2 i (by rw [if_neg z]; omega)) (ob_le (a.2.2 z0 i (by omega)))
theorem vstx_good {B : Nat → Nat} (hl : LX B) : ∀ j, vgood (nn B) (vst B j)
  | 0 => vspx_good hl 50 (Nat.le_refl 50)
  | j + 1 => by
    have g := vstx_good hl j
    rw [vst]
    by_cases z : j < (vst B j).2.2
    · rw [if_pos z]
      have q := g.2.2.2 j z
      exact vfdx_good hl g q.1 q.2 _ (Nat.le_refl _)
    · rw [if_neg z]; exact g
def wkS (h : AH) (w nu qu wl mn : Nat) (fn fq : Nat → Int32) : Prop := h w = some (.inr (3, [.ref nu, .ref qu, .int (nI mn)])) ∧ h nu = some (.inl (0, wl, .inl fn)) ∧ h qu = some (.inl (0, wl, .inl fq))
/-- the marks are the objects' own numbers -/
def RX (N : Nat) (s : BS) (fn fq : Nat → Int32) (mn : Nat) : Prop := mn = s.2.2 ∧ (∀ k, k ≤ N → fn k = nI (if s.1 k = 0 then 0 else k)) ∧ ∀ j, j < s.2.2 → fq j = nI (s.2.1 j)
theorem RX.y {N : Nat} {s : BS} {fn fq : Nat → Int32} {mn k : Nat} (h : RX N s fn fq mn) (hk : k ≠ 0 ∧ s.1 k = 0) : RX N (vis s k) (upd fn k (nI k)) (upd fq mn (nI k)) (mn + 1) := by
  rw [vis_y hk]
  refine ⟨by show mn + 1 = s.2.2 + 1; rw [h.1], fun j hj => ?_, fun j hj => ?_⟩
  · show upd fn k (nI k) j = nI (if uB s.1 k 1 j = 0 then 0 else j)
    unfold upd uB
    by_cases z : j = k
    · rw [if_pos z, if_pos z, if_neg (by decide), z]
    · rw [if_neg z, if_neg z]; exact h.2.1 j hj
  · show upd fq mn (nI k) j = nI (uB s.2.1 s.2.2 k j)
    have hj : j < s.2.2 + 1 := hj
    unfold upd uB
    rw [h.1]
    split
    · rfl
    · exact h.2.2 j (by omega)
theorem RX_0 {N : Nat} {fn fq : Nat → Int32} (h : ∀ k, k ≤ N → fn k = nI 0) : RX N ((fun _ => 0, fun _ => 0, 0) : BS) fn fq 0 := ⟨rfl, fun k hk => by rw [h k hk, if_pos rfl], fun j hj => absurd hj (Nat.not_lt_zero j)⟩
theorem nuZ {M : Nat → Nat} {k j : Nat} (h : j ≠ k ∨ M k = 0) : (if j < k then nuM M j else if M j = 0 then 0 else j) = (if j < k + 1 then nuM M j else if M j = 0 then 0 else j) := by
  by_cases z : j < k
  · rw [if_pos z, if_pos (show j < k + 1 by omega)]
  · by_cases y : j = k
    · subst y
      have e : M j = 0 := h.elim (fun q => absurd rfl q) id
      rw [if_neg z, if_pos e, if_pos (show j < j + 1 by omega)]
      unfold nuM
      rw [if_pos e]
    · rw [if_neg z, if_neg (show ¬ j < k + 1 by omega)]
theorem iS.fr {h h' : AH} {im a0 a1 a2 a3 a4 a5 cc pc us n iw wp cp : Nat} {f0 f1 f2 f3 f4 f5 : Nat → Int32} {l l' : List Nat} (M : iS h im a0 a1 a2 a3 a4 a5 cc pc us n iw wp cp f0 f1 f2 f3 f4 f5) (T : frm l l' h h') (N : ∀ x ∈ l, x ∉ [im, a0, a1, a2, a3, a4, a5]) : iS h' im a0 a1 a2 a3 a4 a5 cc pc us n iw wp cp f0 f1 f2 f3 f4 f5 :=
  ⟨T.at (fun z => N _ z (by simp)) M.1, T.at (fun z => N _ z (by simp)) M.2.1, T.at (fun z => N _ z (by simp)) M.2.2.1, T.at (fun z => N _ z (by simp)) M.2.2.2.1, T.at (fun z => N _ z (by simp)) M.2.2.2.2.1, T.at (fun z => N _ z (by simp)) M.2.2.2.2.2.1, T.at (fun z => N _ z (by simp)) M.2.2.2.2.2.2⟩
/-- what is of l or new stays apart from what is there -/
theorem dj_fr {l l' m : List Nat} {h h' : AH} (T : frm l l' h h') (N : ∀ x ∈ l, x ∉ m) (hm : ∀ x ∈ m, h x ≠ none) : ∀ x ∈ l', x ∉ m := fun x hx hy => by
  rcases T.2.2 x hx with z | z
  · exact N x z hy
  · exact hm x hy z
theorem iS.ex {h : AH} {im a0 a1 a2 a3 a4 a5 cc pc us n iw wp cp : Nat} {f0 f1 f2 f3 f4 f5 : Nat → Int32} (M : iS h im a0 a1 a2 a3 a4 a5 cc pc us n iw wp cp f0 f1 f2 f3 f4 f5) : ∀ x ∈ [im, a0, a1, a2, a3, a4, a5], h x ≠ none := by
  intro x hx
  obtain ⟨m0, m1, m2, m3, m4, m5, m6⟩ := M
  simp only [List.mem_cons, List.not_mem_nil, or_false] at hx
  rcases hx with z | z | z | z | z | z | z <;> subst z
  · rw [m0]; exact Option.some_ne_none _
  · rw [m1]; exact Option.some_ne_none _
  · rw [m2]; exact Option.some_ne_none _
  · rw [m3]; exact Option.some_ne_none _
  · rw [m4]; exact Option.some_ne_none _
  · rw [m5]; exact Option.some_ne_none _
  · rw [m6]; exact Option.some_ne_none _

set_option maxHeartbeats 4000000 in
theorem c_W_visit {tb : Nat → Nat} {h : AH} {w nu qu wl mn : Nat} {fn fq : Nat → Int32} (Mw : wkS h w nu qu wl mn fn fq) (hnq : nu ≠ qu) {s : BS} {N : Nat} (hN : N < wl) (hwl : wl ≤ 1048576) (hg : vgood N s) (hR : RX N s fn fq mn) (k : Nat) (hk : k ≤ N) : AM tb y_W_visit b_W_visit 2 none 0 0 [.ref w, .int (nI k)] h 0 0 (fun v h' => v = none ∧ ∃ fn' fq' mn', wkS h' w nu qu wl mn' fn' fq' ∧ RX N (vis s k) fn' fq' mn' ∧ frm [w, nu, qu] [w, nu, qu] h h') := by
  refine am_of (ini := false) [some (.ref w), some (.int (nI k))] (by decide) (fun z => by cases z) (Nat.le_of_ble_eq_true rfl) rfl ?_
  refine aw_iload_n d_W_visit_0 rfl ?_
  refine aw_if_eq (tgt := 40) d_W_visit_1 (by decide) (fun c_1 => ?_) (fun c_1 => ?_)
  · rw [w_eq0 (by omega)] at c_1
    exact aw_vret d_W_visit_40 rfl ⟨rfl, fn, fq, mn, Mw, by rw [vis_n (by first | exact fun z => z.1 c_1 | exact fun z => e_s z.2)]; exact hR, frm.refl _⟩
  · rw [w_eq0 (by omega)] at c_1
    refine aw_aload_n d_W_visit_4 rfl ?_
    refine aw_get fl_W_9 d_W_visit_5 Mw.1 rfl ?_
    refine aw_iload_n d_W_visit_8 rfl ?_
    refine aw_iald (x := nI (if s.1 k = 0 then 0 else k)) d_W_visit_9 Mw.2.1 (vp_in_nI (by omega) (by omega)) (by rw [nI_clamp (by omega)]; exact hR.2.1 k hk) ?_
    refine aw_if_ne (tgt := 40) d_W_visit_10 (by decide) (fun c_10 => ?_) (fun c_10 => ?_)
    · rw [w_eq0 (by split <;> omega)] at c_10
      have e_s : ¬ s.1 k = 0 := fun z => by rw [if_pos z] at c_10; exact c_10 rfl
      exact aw_vret d_W_visit_40 rfl ⟨rfl, fn, fq, mn, Mw, by rw [vis_n (by first | exact fun z => z.1 c_1 | exact fun z => e_s z.2)]; exact hR, frm.refl _⟩
    · rw [w_eq0 (by split <;> omega)] at c_10
      have e_s : s.1 k = 0 := Classical.byContradiction (fun z => by rw [if_neg z] at c_10; exact c_1 c_10)
      have hlt := hg.lt e_s (by omega) hk
      have hmn := hR.1
      refine aw_aload_n d_W_visit_13 rfl ?_
      refine aw_get fl_W_9 d_W_visit_14 Mw.1 rfl ?_
      refine aw_iload_n d_W_visit_17 rfl ?_
      refine aw_iload_n d_W_visit_18 rfl ?_
      refine aw_iast (f' := upd fn k (nI k)) d_W_visit_19 Mw.2.1 (vp_in_nI (by omega) (by omega)) (by rw [nI_clamp (by omega)]) ?_
      obtain ⟨k_1, e_k_1⟩ : ∃ z, z = av_up h nu (.inl (0, wl, .inl (upd fn k (nI k)))) := ⟨_, rfl⟩
      refine aw_heap (h' := k_1) e_k_1.symm ?_
      have g1_w : k_1 w = some (.inr (3, [.ref nu, .ref qu, .int (nI mn)])) := by rw [e_k_1, av_up_ne (av_apart' Mw.1 Mw.2.1)]; exact Mw.1
      have g1_qu : k_1 qu = some (.inl (0, wl, .inl fq)) := by rw [e_k_1, av_up_ne (Ne.symm hnq)]; exact Mw.2.2
      have g1_nu : k_1 nu = some (.inl (0, wl, .inl (upd fn k (nI k)))) := by rw [e_k_1]; exact av_up_self _ _ _
      refine aw_aload_n d_W_visit_20 rfl ?_
      refine aw_get fl_W_15 d_W_visit_21 g1_w rfl ?_
      refine aw_aload_n d_W_visit_24 rfl ?_
      refine aw_get fl_W_35 d_W_visit_25 g1_w rfl ?_
      refine aw_iload_n d_W_visit_28 rfl ?_
      refine aw_iast (f' := upd fq mn (nI k)) d_W_visit_29 g1_qu (vp_in_nI (by omega) (by omega)) (by rw [nI_clamp (by omega)]) ?_
      obtain ⟨k_2, e_k_2⟩ : ∃ z, z = av_up k_1 qu (.inl (0, wl, .inl (upd fq mn (nI k)))) := ⟨_, rfl⟩
      refine aw_heap (h' := k_2) e_k_2.symm ?_
      have g2_w : k_2 w = some (.inr (3, [.ref nu, .ref qu, .int (nI mn)])) := by rw [e_k_2, av_up_ne (av_apart' g1_w g1_qu)]; exact g1_w
      have g2_nu : k_2 nu = some (.inl (0, wl, .inl (upd fn k (nI k)))) := by rw [e_k_2, av_up_ne hnq]; exact g1_nu
      have g2_qu : k_2 qu = some (.inl (0, wl, .inl (upd fq mn (nI k)))) := by rw [e_k_2]; exact av_up_self _ _ _
      refine aw_aload_n d_W_visit_30 rfl ?_
      refine aw_dup d_W_visit_31 rfl ?_
      refine aw_get fl_W_35 d_W_visit_32 g2_w rfl ?_
      refine aw_iconst (v := nI 1) d_W_visit_35 (by decide) ?_
      refine aw_iadd (v := nI (mn + 1)) d_W_visit_36 (nI_add _ _) ?_
      refine aw_put (fs' := [.ref nu, .ref qu, .int (nI (mn + 1))]) (pt_W_35 _) d_W_visit_37 g2_w rfl rfl (by simp) rfl ?_
      obtain ⟨k_3, e_k_3⟩ : ∃ z, z = av_up k_2 w (.inr (3, [.ref nu, .ref qu, .int (nI (mn + 1))])) := ⟨_, rfl⟩
      refine aw_heap (h' := k_3) e_k_3.symm ?_
      have g3_nu : k_3 nu = some (.inl (0, wl, .inl (upd fn k (nI k)))) := by rw [e_k_3, av_up_ne (av_apart g2_nu g2_w)]; exact g2_nu
      have g3_qu : k_3 qu = some (.inl (0, wl, .inl (upd fq mn (nI k)))) := by rw [e_k_3, av_up_ne (av_apart g2_qu g2_w)]; exact g2_qu
      have g3_w : k_3 w = some (.inr (3, [.ref nu, .ref qu, .int (nI (mn + 1))])) := by rw [e_k_3]; exact av_up_self _ _ _
      exact aw_vret d_W_visit_40 rfl ⟨rfl, _, _, _, ⟨g3_w, g3_nu, g3_qu⟩, hR.y ⟨c_1, e_s⟩, ((((frm.refl [w, nu, qu]).up e_k_1 (by simp)).up e_k_2 (by simp)).up e_k_3 (by simp))⟩

set_option maxHeartbeats 4000000 in
theorem c_W_clear {tb : Nat → Nat} {h : AH} {w nu qu wl mn : Nat} {fn fq : Nat → Int32} (Mw : wkS h w nu qu wl mn fn fq) (hnq : nu ≠ qu) {im a0 a1 a2 a3 a4 a5 cc pc us n iw wp cp : Nat} {f0 f1 f2 f3 f4 f5 : Nat → Int32} (M : iS h im a0 a1 a2 a3 a4 a5 cc pc us n iw wp cp f0 f1 f2 f3 f4 f5) (NW : ∀ x ∈ [w, nu, qu], x ∉ [im, a0, a1, a2, a3, a4, a5]) (h64 : P64 wl) (hc64 : P64 cc) (hcc : cc ≤ 524288) (hwl : wl ≤ 524288) : AM tb y_W_clear b_W_clear 2 none 1 23 [.ref w, .ref im] h (max wl cc - wl) (4 * (max wl cc - wl)) (fun v h' => v = none ∧ ∃ nu' qu' fn' fq', wkS h' w nu' qu' (max wl cc) 0 fn' fq' ∧ (∀ k, k < (max wl cc) → fn' k = nI 0) ∧ nu' ≠ qu' ∧ frm [w, nu, qu] [w, nu', qu'] h h') := by
  have hge := h64.ge
  refine am_of (ini := false) [some (.ref w), some (.ref im)] (by decide) (fun z => by cases z) (Nat.le_of_ble_eq_true rfl) rfl ?_
  refine aw_aload_n d_W_clear_0 rfl ?_
  refine aw_iconst (v := nI 0) d_W_clear_1 (by decide) ?_
  refine aw_put (fs' := [.ref nu, .ref qu, .int (nI 0)]) (pt_W_35 _) d_W_clear_2 Mw.1 rfl rfl (by simp) rfl ?_
  obtain ⟨k_1, e_k_1⟩ : ∃ z, z = av_up h w (.inr (3, [.ref nu, .ref qu, .int (nI 0)])) := ⟨_, rfl⟩
  refine aw_heap (h' := k_1) e_k_1.symm ?_
  have g1_nu : k_1 nu = some (.inl (0, wl, .inl fn)) := by rw [e_k_1, av_up_ne (av_apart Mw.2.1 Mw.1)]; exact Mw.2.1
  have g1_qu : k_1 qu = some (.inl (0, wl, .inl fq)) := by rw [e_k_1, av_up_ne (av_apart Mw.2.2 Mw.1)]; exact Mw.2.2
  have g1_im : k_1 im = some (.inr (2, [.ref a0, .ref a1, .ref a2, .ref a3, .ref a4, .ref a5, .int (nI us), .int (nI n), .int (nI iw), .int (nI wp), .int (nI cp)])) := by rw [e_k_1, av_up_ne (fun z => NW w (by simp) (by rw [← z]; simp))]; exact M.1
  have g1_a0 : k_1 a0 = some (.inl (0, 50, .inl f0)) := by rw [e_k_1, av_up_ne (fun z => NW w (by simp) (by rw [← z]; simp))]; exact M.2.1
  have g1_a1 : k_1 a1 = some (.inl (0, cc, .inl f1)) := by rw [e_k_1, av_up_ne (fun z => NW w (by simp) (by rw [← z]; simp))]; exact M.2.2.1
  have g1_a2 : k_1 a2 = some (.inl (0, cc, .inl f2)) := by rw [e_k_1, av_up_ne (fun z => NW w (by simp) (by rw [← z]; simp))]; exact M.2.2.2.1
  have g1_a3 : k_1 a3 = some (.inl (0, cc, .inl f3)) := by rw [e_k_1, av_up_ne (fun z => NW w (by simp) (by rw [← z]; simp))]; exact M.2.2.2.2.1
  have g1_a4 : k_1 a4 = some (.inl (0, cc, .inl f4)) := by rw [e_k_1, av_up_ne (fun z => NW w (by simp) (by rw [← z]; simp))]; exact M.2.2.2.2.2.1
  have g1_a5 : k_1 a5 = some (.inl (0, pc, .inl f5)) := by rw [e_k_1, av_up_ne (fun z => NW w (by simp) (by rw [← z]; simp))]; exact M.2.2.2.2.2.2
  have g1_w : k_1 w = some (.inr (3, [.ref nu, .ref qu, .int (nI 0)])) := by rw [e_k_1]; exact av_up_self _ _ _
  refine aw_aload_n d_W_clear_5 rfl ?_
  refine aw_get fl_W_9 d_W_clear_6 g1_w rfl ?_
  refine aw_alen (v := nI wl) d_W_clear_9 g1_nu (fun _ => rfl) rfl ?_
  refine aw_aload_n d_W_clear_10 rfl ?_
  refine aw_get fl_W_52 d_W_clear_11 g1_im rfl ?_
  refine aw_alen (v := nI cc) d_W_clear_14 g1_a1 (fun _ => rfl) rfl ?_
  refine aw_icmp_ge (tgt := 40) d_W_clear_15 (by decide) (fun c_15 => ?_) (fun c_15 => ?_)
  · rw [nI_leI (by omega) (by omega)] at c_15
    have hmx : max wl cc = wl := by omega
    refine aw_aload_n d_W_clear_40 rfl ?_
    refine aw_get fl_W_9 d_W_clear_41 g1_w rfl ?_
    refine aw_iconst (v := nI 0) d_W_clear_44 (by decide) ?_
    refine aw_callS (mc2 := max wl cc - wl) (ms2 := 4 * (max wl cc - wl)) (As := [.ref nu, .int (nI 0)]) (rest := []) (c_A_fill g1_nu (by omega)) cs_W_55 d_W_clear_45 rfl rfl (Nat.le_of_ble_eq_true rfl) (by decide) (by decide) (by omega) (by omega) (fun v_45 k_45c q_45 => ?_)
    obtain ⟨z1_45, fz_45, z2_45, z3_45⟩ := q_45
    refine aw_st (st' := []) (by rw [z1_45]; rfl) ?_
    have gf45_qu : k_45c qu = some (.inl (0, wl, .inl fq)) := by rw [z2_45, av_up_ne (Ne.symm hnq)]; exact g1_qu
    have gf45_im : k_45c im = some (.inr (2, [.ref a0, .ref a1, .ref a2, .ref a3, .ref a4, .ref a5, .int (nI us), .int (nI n), .int (nI iw), .int (nI wp), .int (nI cp)])) := by rw [z2_45, av_up_ne (fun z => NW nu (by simp) (by rw [← z]; simp))]; exact g1_im
    have gf45_a0 : k_45c a0 = some (.inl (0, 50, .inl f0)) := by rw [z2_45, av_up_ne (fun z => NW nu (by simp) (by rw [← z]; simp))]; exact g1_a0
    have gf45_a1 : k_45c a1 = some (.inl (0, cc, .inl f1)) := by rw [z2_45, av_up_ne (fun z => NW nu (by simp) (by rw [← z]; simp))]; exact g1_a1
    have gf45_a2 : k_45c a2 = some (.inl (0, cc, .inl f2)) := by rw [z2_45, av_up_ne (fun z => NW nu (by simp) (by rw [← z]; simp))]; exact g1_a2
    have gf45_a3 : k_45c a3 = some (.inl (0, cc, .inl f3)) := by rw [z2_45, av_up_ne (fun z => NW nu (by simp) (by rw [← z]; simp))]; exact g1_a3
    have gf45_a4 : k_45c a4 = some (.inl (0, cc, .inl f4)) := by rw [z2_45, av_up_ne (fun z => NW nu (by simp) (by rw [← z]; simp))]; exact g1_a4
    have gf45_a5 : k_45c a5 = some (.inl (0, pc, .inl f5)) := by rw [z2_45, av_up_ne (fun z => NW nu (by simp) (by rw [← z]; simp))]; exact g1_a5
    have gf45_w : k_45c w = some (.inr (3, [.ref nu, .ref qu, .int (nI 0)])) := by rw [z2_45, av_up_ne (av_apart' g1_w g1_nu)]; exact g1_w
    have gf45_nu : k_45c nu = some (.inl (0, wl, .inl fz_45)) := by rw [z2_45]; exact av_up_self _ _ _
    exact aw_vret d_W_clear_48 rfl ⟨rfl, _, _, _, _, ⟨gf45_w, (by rw [hmx]; exact gf45_nu), (by rw [hmx]; exact gf45_qu)⟩, fun k hk => z3_45 k (by omega), hnq, (((frm.refl [w, nu, qu]).up e_k_1 (by simp)).up z2_45 (by simp)).sub (by intro x hx; simp only [List.mem_cons, List.not_mem_nil, or_false] at hx ⊢; omega)⟩
  · rw [nI_leI (by omega) (by omega)] at c_15
    have hmx : max wl cc = cc := by omega
    have h2 := h64.lt hc64 (by omega)
    refine aw_aload_n d_W_clear_18 rfl ?_
    refine aw_aload_n d_W_clear_19 rfl ?_
    refine aw_get fl_W_52 d_W_clear_20 g1_im rfl ?_
    refine aw_alen (v := nI cc) d_W_clear_23 g1_a1 (fun _ => rfl) rfl ?_
    refine aw_newa (t := 0) (N := cc) (z := (cc, .inl (fun _ => 0))) (mc2 := 1) (ms2 := cc) d_W_clear_24 tw_111 (fun _ => rfl) (fun _ _ z => z) (fun _ => rfl) (nI_pos (by omega)) (nI_clamp (by omega)) (by simp only [newarray.typeOf, componentBytes]; omega) (by omega) (by omega) (fun q_24 f_q_24 => ?_)
    obtain ⟨k_2, e_k_2⟩ : ∃ z, z = av_up k_1 q_24 (.inl (0, cc, .inl (fun _ => 0))) := ⟨_, rfl⟩
    refine aw_heap (h' := k_2) e_k_2.symm ?_
    have ne_nu_q_24 : nu ≠ q_24 := (fun z => by have z1 := g1_nu; rw [z, f_q_24] at z1; cases z1)
    have g2_nu : k_2 nu = some (.inl (0, wl, .inl fn)) := by rw [e_k_2, av_up_ne ne_nu_q_24]; exact g1_nu
    have ne_qu_q_24 : qu ≠ q_24 := (fun z => by have z1 := g1_qu; rw [z, f_q_24] at z1; cases z1)
    have g2_qu : k_2 qu = some (.inl (0, wl, .inl fq)) := by rw [e_k_2, av_up_ne ne_qu_q_24]; exact g1_qu
    have ne_im_q_24 : im ≠ q_24 := (fun z => by have z1 := g1_im; rw [z, f_q_24] at z1; cases z1)
    have g2_im : k_2 im = some (.inr (2, [.ref a0, .ref a1, .ref a2, .ref a3, .ref a4, .ref a5, .int (nI us), .int (nI n), .int (nI iw), .int (nI wp), .int (nI cp)])) := by rw [e_k_2, av_up_ne ne_im_q_24]; exact g1_im
    have ne_a0_q_24 : a0 ≠ q_24 := (fun z => by have z1 := g1_a0; rw [z, f_q_24] at z1; cases z1)
    have g2_a0 : k_2 a0 = some (.inl (0, 50, .inl f0)) := by rw [e_k_2, av_up_ne ne_a0_q_24]; exact g1_a0
    have ne_a1_q_24 : a1 ≠ q_24 := (fun z => by have z1 := g1_a1; rw [z, f_q_24] at z1; cases z1)
    have g2_a1 : k_2 a1 = some (.inl (0, cc, .inl f1)) := by rw [e_k_2, av_up_ne ne_a1_q_24]; exact g1_a1
    have ne_a2_q_24 : a2 ≠ q_24 := (fun z => by have z1 := g1_a2; rw [z, f_q_24] at z1; cases z1)
    have g2_a2 : k_2 a2 = some (.inl (0, cc, .inl f2)) := by rw [e_k_2, av_up_ne ne_a2_q_24]; exact g1_a2
    have ne_a3_q_24 : a3 ≠ q_24 := (fun z => by have z1 := g1_a3; rw [z, f_q_24] at z1; cases z1)
    have g2_a3 : k_2 a3 = some (.inl (0, cc, .inl f3)) := by rw [e_k_2, av_up_ne ne_a3_q_24]; exact g1_a3
    have ne_a4_q_24 : a4 ≠ q_24 := (fun z => by have z1 := g1_a4; rw [z, f_q_24] at z1; cases z1)
    have g2_a4 : k_2 a4 = some (.inl (0, cc, .inl f4)) := by rw [e_k_2, av_up_ne ne_a4_q_24]; exact g1_a4
    have ne_a5_q_24 : a5 ≠ q_24 := (fun z => by have z1 := g1_a5; rw [z, f_q_24] at z1; cases z1)
    have g2_a5 : k_2 a5 = some (.inl (0, pc, .inl f5)) := by rw [e_k_2, av_up_ne ne_a5_q_24]; exact g1_a5
    have ne_w_q_24 : w ≠ q_24 := (fun z => by have z1 := g1_w; rw [z, f_q_24] at z1; cases z1)
    have g2_w : k_2 w = some (.inr (3, [.ref nu, .ref qu, .int (nI 0)])) := by rw [e_k_2, av_up_ne ne_w_q_24]; exact g1_w
    have g2_q_24 : k_2 q_24 = some (.inl (0, cc, .inl (fun _ => 0))) := by rw [e_k_2]; exact av_up_self _ _ _
    refine aw_put (fs' := [.ref q_24, .ref qu, .int (nI 0)]) (pt_W_9 _) d_W_clear_26 g2_w rfl rfl (by simp) rfl ?_
    obtain ⟨k_3, e_k_3⟩ : ∃ z, z = av_up k_2 w (.inr (3, [.ref q_24, .ref qu, .int (nI 0)])) := ⟨_, rfl⟩
    refine aw_heap (h' := k_3) e_k_3.symm ?_
    have g3_nu : k_3 nu = some (.inl (0, wl, .inl fn)) := by rw [e_k_3, av_up_ne (av_apart g2_nu g2_w)]; exact g2_nu
    have g3_qu : k_3 qu = some (.inl (0, wl, .inl fq)) := by rw [e_k_3, av_up_ne (av_apart g2_qu g2_w)]; exact g2_qu
    have g3_im : k_3 im = some (.inr (2, [.ref a0, .ref a1, .ref a2, .ref a3, .ref a4, .ref a5, .int (nI us), .int (nI n), .int (nI iw), .int (nI wp), .int (nI cp)])) := by rw [e_k_3, av_up_ne (fun z => NW w (by simp) (by rw [← z]; simp))]; exact g2_im
    have g3_a0 : k_3 a0 = some (.inl (0, 50, .inl f0)) := by rw [e_k_3, av_up_ne (fun z => NW w (by simp) (by rw [← z]; simp))]; exact g2_a0
    have g3_a1 : k_3 a1 = some (.inl (0, cc, .inl f1)) := by rw [e_k_3, av_up_ne (fun z => NW w (by simp) (by rw [← z]; simp))]; exact g2_a1
    have g3_a2 : k_3 a2 = some (.inl (0, cc, .inl f2)) := by rw [e_k_3, av_up_ne (fun z => NW w (by simp) (by rw [← z]; simp))]; exact g2_a2
    have g3_a3 : k_3 a3 = some (.inl (0, cc, .inl f3)) := by rw [e_k_3, av_up_ne (fun z => NW w (by simp) (by rw [← z]; simp))]; exact g2_a3
    have g3_a4 : k_3 a4 = some (.inl (0, cc, .inl f4)) := by rw [e_k_3, av_up_ne (fun z => NW w (by simp) (by rw [← z]; simp))]; exact g2_a4
    have g3_a5 : k_3 a5 = some (.inl (0, pc, .inl f5)) := by rw [e_k_3, av_up_ne (fun z => NW w (by simp) (by rw [← z]; simp))]; exact g2_a5
    have g3_q_24 : k_3 q_24 = some (.inl (0, cc, .inl (fun _ => 0))) := by rw [e_k_3, av_up_ne (Ne.symm ne_w_q_24)]; exact g2_q_24
    have g3_w : k_3 w = some (.inr (3, [.ref q_24, .ref qu, .int (nI 0)])) := by rw [e_k_3]; exact av_up_self _ _ _
    refine aw_aload_n d_W_clear_29 rfl ?_
    refine aw_aload_n d_W_clear_30 rfl ?_
    refine aw_get fl_W_52 d_W_clear_31 g3_im rfl ?_
    refine aw_alen (v := nI cc) d_W_clear_34 g3_a1 (fun _ => rfl) rfl ?_
    refine aw_newa (t := 0) (N := cc) (z := (cc, .inl (fun _ => 0))) (mc2 := 0) (ms2 := 0) d_W_clear_35 tw_111 (fun _ => rfl) (fun _ _ z => z) (fun _ => rfl) (nI_pos (by omega)) (nI_clamp (by omega)) (by simp only [newarray.typeOf, componentBytes]; omega) (by omega) (by omega) (fun q_35 f_q_35 => ?_)
    obtain ⟨k_4, e_k_4⟩ : ∃ z, z = av_up k_3 q_35 (.inl (0, cc, .inl (fun _ => 0))) := ⟨_, rfl⟩
    refine aw_heap (h' := k_4) e_k_4.symm ?_
    have ne_nu_q_35 : nu ≠ q_35 := (fun z => by have z1 := g3_nu; rw [z, f_q_35] at z1; cases z1)
    have g4_nu : k_4 nu = some (.inl (0, wl, .inl fn)) := by rw [e_k_4, av_up_ne ne_nu_q_35]; exact g3_nu
    have ne_qu_q_35 : qu ≠ q_35 := (fun z => by have z1 := g3_qu; rw [z, f_q_35] at z1; cases z1)
    have g4_qu : k_4 qu = some (.inl (0, wl, .inl fq)) := by rw [e_k_4, av_up_ne ne_qu_q_35]; exact g3_qu
    have ne_im_q_35 : im ≠ q_35 := (fun z => by have z1 := g3_im; rw [z, f_q_35] at z1; cases z1)
    have g4_im : k_4 im = some (.inr (2, [.ref a0, .ref a1, .ref a2, .ref a3, .ref a4, .ref a5, .int (nI us), .int (nI n), .int (nI iw), .int (nI wp), .int (nI cp)])) := by rw [e_k_4, av_up_ne ne_im_q_35]; exact g3_im
    have ne_a0_q_35 : a0 ≠ q_35 := (fun z => by have z1 := g3_a0; rw [z, f_q_35] at z1; cases z1)
    have g4_a0 : k_4 a0 = some (.inl (0, 50, .inl f0)) := by rw [e_k_4, av_up_ne ne_a0_q_35]; exact g3_a0
    have ne_a1_q_35 : a1 ≠ q_35 := (fun z => by have z1 := g3_a1; rw [z, f_q_35] at z1; cases z1)
    have g4_a1 : k_4 a1 = some (.inl (0, cc, .inl f1)) := by rw [e_k_4, av_up_ne ne_a1_q_35]; exact g3_a1
    have ne_a2_q_35 : a2 ≠ q_35 := (fun z => by have z1 := g3_a2; rw [z, f_q_35] at z1; cases z1)
    have g4_a2 : k_4 a2 = some (.inl (0, cc, .inl f2)) := by rw [e_k_4, av_up_ne ne_a2_q_35]; exact g3_a2
    have ne_a3_q_35 : a3 ≠ q_35 := (fun z => by have z1 := g3_a3; rw [z, f_q_35] at z1; cases z1)
    have g4_a3 : k_4 a3 = some (.inl (0, cc, .inl f3)) := by rw [e_k_4, av_up_ne ne_a3_q_35]; exact g3_a3
    have ne_a4_q_35 : a4 ≠ q_35 := (fun z => by have z1 := g3_a4; rw [z, f_q_35] at z1; cases z1)
    have g4_a4 : k_4 a4 = some (.inl (0, cc, .inl f4)) := by rw [e_k_4, av_up_ne ne_a4_q_35]; exact g3_a4
    have ne_a5_q_35 : a5 ≠ q_35 := (fun z => by have z1 := g3_a5; rw [z, f_q_35] at z1; cases z1)
    have g4_a5 : k_4 a5 = some (.inl (0, pc, .inl f5)) := by rw [e_k_4, av_up_ne ne_a5_q_35]; exact g3_a5
    have ne_q_24_q_35 : q_24 ≠ q_35 := (fun z => by have z1 := g3_q_24; rw [z, f_q_35] at z1; cases z1)
    have g4_q_24 : k_4 q_24 = some (.inl (0, cc, .inl (fun _ => 0))) := by rw [e_k_4, av_up_ne ne_q_24_q_35]; exact g3_q_24
    have ne_w_q_35 : w ≠ q_35 := (fun z => by have z1 := g3_w; rw [z, f_q_35] at z1; cases z1)
    have g4_w : k_4 w = some (.inr (3, [.ref q_24, .ref qu, .int (nI 0)])) := by rw [e_k_4, av_up_ne ne_w_q_35]; exact g3_w
    have g4_q_35 : k_4 q_35 = some (.inl (0, cc, .inl (fun _ => 0))) := by rw [e_k_4]; exact av_up_self _ _ _
    refine aw_put (fs' := [.ref q_24, .ref q_35, .int (nI 0)]) (pt_W_15 _) d_W_clear_37 g4_w rfl rfl (by simp) rfl ?_
    obtain ⟨k_5, e_k_5⟩ : ∃ z, z = av_up k_4 w (.inr (3, [.ref q_24, .ref q_35, .int (nI 0)])) := ⟨_, rfl⟩
    refine aw_heap (h' := k_5) e_k_5.symm ?_
    have g5_nu : k_5 nu = some (.inl (0, wl, .inl fn)) := by rw [e_k_5, av_up_ne (av_apart g4_nu g4_w)]; exact g4_nu
    have g5_qu : k_5 qu = some (.inl (0, wl, .inl fq)) := by rw [e_k_5, av_up_ne (av_apart g4_qu g4_w)]; exact g4_qu
    have g5_im : k_5 im = some (.inr (2, [.ref a0, .ref a1, .ref a2, .ref a3, .ref a4, .ref a5, .int (nI us), .int (nI n), .int (nI iw), .int (nI wp), .int (nI cp)])) := by rw [e_k_5, av_up_ne (fun z => NW w (by simp) (by rw [← z]; simp))]; exact g4_im
    have g5_a0 : k_5 a0 = some (.inl (0, 50, .inl f0)) := by rw [e_k_5, av_up_ne (fun z => NW w (by simp) (by rw [← z]; simp))]; exact g4_a0
    have g5_a1 : k_5 a1 = some (.inl (0, cc, .inl f1)) := by rw [e_k_5, av_up_ne (fun z => NW w (by simp) (by rw [← z]; simp))]; exact g4_a1
    have g5_a2 : k_5 a2 = some (.inl (0, cc, .inl f2)) := by rw [e_k_5, av_up_ne (fun z => NW w (by simp) (by rw [← z]; simp))]; exact g4_a2
    have g5_a3 : k_5 a3 = some (.inl (0, cc, .inl f3)) := by rw [e_k_5, av_up_ne (fun z => NW w (by simp) (by rw [← z]; simp))]; exact g4_a3
    have g5_a4 : k_5 a4 = some (.inl (0, cc, .inl f4)) := by rw [e_k_5, av_up_ne (fun z => NW w (by simp) (by rw [← z]; simp))]; exact g4_a4
    have g5_a5 : k_5 a5 = some (.inl (0, pc, .inl f5)) := by rw [e_k_5, av_up_ne (fun z => NW w (by simp) (by rw [← z]; simp))]; exact g4_a5
    have g5_q_24 : k_5 q_24 = some (.inl (0, cc, .inl (fun _ => 0))) := by rw [e_k_5, av_up_ne (Ne.symm ne_w_q_24)]; exact g4_q_24
    have g5_q_35 : k_5 q_35 = some (.inl (0, cc, .inl (fun _ => 0))) := by rw [e_k_5, av_up_ne (Ne.symm ne_w_q_35)]; exact g4_q_35
    have g5_w : k_5 w = some (.inr (3, [.ref q_24, .ref q_35, .int (nI 0)])) := by rw [e_k_5]; exact av_up_self _ _ _
    refine aw_aload_n d_W_clear_40 rfl ?_
    refine aw_get fl_W_9 d_W_clear_41 g5_w rfl ?_
    refine aw_iconst (v := nI 0) d_W_clear_44 (by decide) ?_
    refine aw_callS (mc2 := 0) (ms2 := 0) (As := [.ref q_24, .int (nI 0)]) (rest := []) (c_A_fill g5_q_24 (by omega)) cs_W_55 d_W_clear_45 rfl rfl (Nat.le_of_ble_eq_true rfl) (by decide) (by decide) (by omega) (by omega) (fun v_45 k_45c q_45 => ?_)
    obtain ⟨z1_45, fz_45, z2_45, z3_45⟩ := q_45
    refine aw_st (st' := []) (by rw [z1_45]; rfl) ?_
    have gf45_nu : k_45c nu = some (.inl (0, wl, .inl fn)) := by rw [z2_45, av_up_ne ne_nu_q_24]; exact g5_nu
    have gf45_qu : k_45c qu = some (.inl (0, wl, .inl fq)) := by rw [z2_45, av_up_ne ne_qu_q_24]; exact g5_qu
    have gf45_im : k_45c im = some (.inr (2, [.ref a0, .ref a1, .ref a2, .ref a3, .ref a4, .ref a5, .int (nI us), .int (nI n), .int (nI iw), .int (nI wp), .int (nI cp)])) := by rw [z2_45, av_up_ne ne_im_q_24]; exact g5_im
    have gf45_a0 : k_45c a0 = some (.inl (0, 50, .inl f0)) := by rw [z2_45, av_up_ne ne_a0_q_24]; exact g5_a0
    have gf45_a1 : k_45c a1 = some (.inl (0, cc, .inl f1)) := by rw [z2_45, av_up_ne ne_a1_q_24]; exact g5_a1
    have gf45_a2 : k_45c a2 = some (.inl (0, cc, .inl f2)) := by rw [z2_45, av_up_ne ne_a2_q_24]; exact g5_a2
    have gf45_a3 : k_45c a3 = some (.inl (0, cc, .inl f3)) := by rw [z2_45, av_up_ne ne_a3_q_24]; exact g5_a3
    have gf45_a4 : k_45c a4 = some (.inl (0, cc, .inl f4)) := by rw [z2_45, av_up_ne ne_a4_q_24]; exact g5_a4
    have gf45_a5 : k_45c a5 = some (.inl (0, pc, .inl f5)) := by rw [z2_45, av_up_ne ne_a5_q_24]; exact g5_a5
    have gf45_q_35 : k_45c q_35 = some (.inl (0, cc, .inl (fun _ => 0))) := by rw [z2_45, av_up_ne (Ne.symm ne_q_24_q_35)]; exact g5_q_35
    have gf45_w : k_45c w = some (.inr (3, [.ref q_24, .ref q_35, .int (nI 0)])) := by rw [z2_45, av_up_ne ne_w_q_24]; exact g5_w
    have gf45_q_24 : k_45c q_24 = some (.inl (0, cc, .inl fz_45)) := by rw [z2_45]; exact av_up_self _ _ _
    exact aw_vret d_W_clear_48 rfl ⟨rfl, _, _, _, _, ⟨gf45_w, (by rw [hmx]; exact gf45_q_24), (by rw [hmx]; exact gf45_q_35)⟩, fun k hk => z3_45 k (by omega), ne_q_24_q_35, (((((((frm.refl [w, nu, qu]).up e_k_1 (by simp)).nw e_k_2 f_q_24).up e_k_3 (by simp)).nw e_k_4 f_q_35).up e_k_5 (by simp)).up z2_45 (by simp)).sub (by intro x hx; simp only [List.mem_cons, List.not_mem_nil, or_false] at hx ⊢; omega)⟩

set_option maxHeartbeats 4000000 in
theorem lp_W_reachF {tb : Nat → Nat} {h : AH} {fr lo : Nat} {mc ms : Nat} (hfr : 2 ≤ fr) (hlo : 44 ≤ lo) {im a0 a1 a2 a3 a4 a5 cc pc us iw wp cp : Nat} {B : Nat → Nat} {f0 f1 f2 f3 f4 f5 : Nat → Int32} (V : IV B f0 f1 f2 f3 f4 f5 cc pc) (L : LX B) (hB_ : ∀ i, B i < 256) (hcc : cc ≤ 1048576) (hpc : pc ≤ 1048576) {w nu qu wl : Nat} (hnq : nu ≠ qu) (NW : ∀ x ∈ [w, nu, qu], x ∉ [im, a0, a1, a2, a3, a4, a5]) (hN : nn B < wl) (hwl : wl ≤ 1048576) (s : BS) (hs : vgood (nn B) s) (j vj : Nat) (q1 : 1 ≤ vj) (q2 : vj ≤ nn B) (kx : ∀ (g : AH) (fn fq : Nat → Int32) (mn : Nat), wkS g w nu qu wl mn fn fq → iS g im a0 a1 a2 a3 a4 a5 cc pc us (nn B) iw wp cp f0 f1 f2 f3 f4 f5 → frm [w, nu, qu] [w, nu, qu] h g → RX (nn B) (vob B s vj) fn fq mn → AW tb "ImageReader$Walk" b_W_reach 6 (some .int) false none fr lo (fun v h' => v = some (.int (nI (vfin B).2.2)) ∧ ∃ fn' fq', wkS h' w nu qu wl (vfin B).2.2 fn' fq' ∧ RX (nn B) (vfin B) fn' fq' (vfin B).2.2 ∧ frm [w, nu, qu] [w, nu, qu] h h') 109 [some (.ref w), some (.ref im), some (.int (nI j)), none, none, none] [] g mc ms) : ∀ (d : Nat) (i : Nat) (g : AH) (fn fq : Nat → Int32) (mn : Nat), wkS g w nu qu wl mn fn fq → iS g im a0 a1 a2 a3 a4 a5 cc pc us (nn B) iw wp cp f0 f1 f2 f3 f4 f5 → frm [w, nu, qu] [w, nu, qu] h g → i ≤ (if kd B vj = 1 then 0 else sz B vj) → RX (nn B) (vfd B s vj i) fn fq mn → (if kd B vj = 1 then 0 else sz B vj) < i + d → AW tb "ImageReader$Walk" b_W_reach 6 (some .int) false none fr lo (fun v h' => v = some (.int (nI (vfin B).2.2)) ∧ ∃ fn' fq', wkS h' w nu qu wl (vfin B).2.2 fn' fq' ∧ RX (nn B) (vfin B) fn' fq' (vfin B).2.2 ∧ frm [w, nu, qu] [w, nu, qu] h h') 81 [some (.ref w), some (.ref im), some (.int (nI j)), some (.int (nI vj)), some (.int (nI (FC B vj))), some (.int (nI i))] [] g mc ms := by
  intro d
  induction d with
  | zero => intro i g fn fq mn gW gM gT hi hR hd; omega
  | succ d ih =>
    intro i g fn fq mn gW gM gT hi hR hd
    have nV_im := V.1
    have nL_im := L.1
    have hfc := FC_lt hB_ vj
    have efc : FC B vj = (if kd B vj = 1 then 0 else sz B vj) := by unfold FC; by_cases y : kd B vj = 1; (rw [if_pos y, if_neg (fun z => z.2.2 y)]); (rw [if_neg y, if_pos ⟨q1, q2, y⟩])
    refine aw_iload d_W_reach_81 rfl ?_
    refine aw_iload d_W_reach_83 rfl ?_
    refine aw_icmp_ge (tgt := 109) d_W_reach_85 (by decide) (fun c_85 => ?_) (fun c_85 => ?_)
    · rw [nI_leI (by omega) (by omega)] at c_85
      refine aw_loc (L' := [some (.ref w), some (.ref im), some (.int (nI j)), none, none, none]) (by intro i v hv; match i, hv with | 0, hv => exact hv | 1, hv => exact hv | 2, hv => exact hv | 3, hv => cases hv | 4, hv => cases hv | 5, hv => cases hv | i + 6, hv => cases hv) ?_
      have e9 : i = (if kd B vj = 1 then 0 else sz B vj) := by omega
      exact kx g fn fq mn gW gM gT (by unfold vob; rw [← e9]; exact hR)
    · rw [nI_leI (by omega) (by omega)] at c_85
      have ck : ¬ kd B vj = 1 := fun y => by rw [if_pos y] at efc hi hd; omega
      rw [if_neg ck] at efc
      have efa : FA B vj i = fd B vj i := FA_ok q1 q2 ck (by omega)
      refine aw_aload_n d_W_reach_88 rfl ?_
      refine aw_aload_n d_W_reach_89 rfl ?_
      refine aw_aload_n d_W_reach_90 rfl ?_
      refine aw_iload_n d_W_reach_91 rfl ?_
      refine aw_iload d_W_reach_92 rfl ?_
      refine aw_callVi (mc2 := mc) (ms2 := ms) (r := nI (FA B vj i)) (As := [.int (nI vj), .int (nI i)]) (rest := [.ref im, .ref w]) (c_I_fieldAt ⟨gM.1, gM.2.1, gM.2.2.1, gM.2.2.2.1, gM.2.2.2.2.1, gM.2.2.2.2.2.1, gM.2.2.2.2.2.2⟩ V L hB_ hcc hpc vj (by omega) i (by omega)) cv_W_48 d_W_reach_94 gM.1 rfl rfl rfl (Nat.le_of_ble_eq_true rfl) (Nat.le_trans (by decide) hfr) (Nat.le_trans (by decide) hlo) (by omega) (by omega) ?_
      have b_94 := FA_lt hB_ vj i
      refine aw_callVi (mc2 := mc) (ms2 := ms) (r := nI (ob (FA B vj i))) (As := [.int (nI (FA B vj i))]) (rest := [.ref w]) (c_I_objectOf ⟨gM.1, gM.2.1, gM.2.2.1, gM.2.2.2.1, gM.2.2.2.2.1, gM.2.2.2.2.2.1, gM.2.2.2.2.2.2⟩ V L hB_ hcc hpc (FA B vj i) (by omega) (L.fa _ _)) cv_W_27 d_W_reach_97 gM.1 rfl rfl rfl (Nat.le_of_ble_eq_true rfl) (Nat.le_trans (by decide) hfr) (Nat.le_trans (by decide) hlo) (by omega) (by omega) ?_
      have ol_97 : ob (FA B vj i) ≤ nn B := ob_le (L.fa _ _)
      refine aw_callV (mc2 := mc) (ms2 := ms) (As := [.int (nI (ob (FA B vj i)))]) (rest := []) (c_W_visit ⟨gW.1, gW.2.1, gW.2.2⟩ hnq hN hwl (vfdx_good L hs q1 q2 i hi) hR (ob (FA B vj i)) (by omega)) cv_W_31 d_W_reach_100 gW.1 rfl rfl rfl (Nat.le_of_ble_eq_true rfl) (Nat.le_trans (by decide) hfr) (Nat.le_trans (by decide) hlo) (by omega) (by omega) (fun v_100 k_100c q_100 => ?_)
      obtain ⟨y1_100, fn_100, fq_100, mn_100, y2_100, y3_100, y4_100⟩ := q_100
      refine aw_st (st' := []) (by rw [y1_100]; rfl) ?_
      have MI_100 := gM.fr y4_100 NW
      refine aw_iinc (v := nI (i + 1)) (L' := [some (.ref w), some (.ref im), some (.int (nI j)), some (.int (nI vj)), some (.int (nI (FC B vj))), some (.int (nI (i + 1)))]) d_W_reach_103 rfl (nI_add i 1) (by decide) rfl rfl ?_
      refine aw_goto (tgt := 81) d_W_reach_106 (by decide) ?_
      exact ih (i + 1) _ _ _ _ ⟨y2_100.1, y2_100.2.1, y2_100.2.2⟩ MI_100 (gT.tr y4_100) (by rw [if_neg ck]; omega) (by rw [vfd, ← efa]; exact y3_100) (by rw [if_neg ck] at hd ⊢; omega)

set_option maxHeartbeats 4000000 in
theorem lp_W_reachQ {tb : Nat → Nat} {h : AH} {fr lo : Nat} {mc ms : Nat} (hfr : 2 ≤ fr) (hlo : 44 ≤ lo) {im a0 a1 a2 a3 a4 a5 cc pc us iw wp cp : Nat} {B : Nat → Nat} {f0 f1 f2 f3 f4 f5 : Nat → Int32} (V : IV B f0 f1 f2 f3 f4 f5 cc pc) (L : LX B) (hB_ : ∀ i, B i < 256) (hcc : cc ≤ 1048576) (hpc : pc ≤ 1048576) {w nu qu wl : Nat} (hnq : nu ≠ qu) (NW : ∀ x ∈ [w, nu, qu], x ∉ [im, a0, a1, a2, a3, a4, a5]) (hN : nn B < wl) (hwl : wl ≤ 1048576) : ∀ (d : Nat) (j : Nat) (g : AH) (fn fq : Nat → Int32) (mn : Nat), wkS g w nu qu wl mn fn fq → iS g im a0 a1 a2 a3 a4 a5 cc pc us (nn B) iw wp cp f0 f1 f2 f3 f4 f5 → frm [w, nu, qu] [w, nu, qu] h g → j ≤ nn B → RX (nn B) (vst B j) fn fq mn → nn B < j + d → AW tb "ImageReader$Walk" b_W_reach 6 (some .int) false none fr lo (fun v h' => v = some (.int (nI (vfin B).2.2)) ∧ ∃ fn' fq', wkS h' w nu qu wl (vfin B).2.2 fn' fq' ∧ RX (nn B) (vfin B) fn' fq' (vfin B).2.2 ∧ frm [w, nu, qu] [w, nu, qu] h h') 35 [some (.ref w), some (.ref im), some (.int (nI j)), none, none, none] [] g mc ms := by
  intro d
  induction d with
  | zero => intro j g fn fq mn gW gM gT hj hR hd; omega
  | succ d ih =>
    intro j g fn fq mn gW gM gT hj hR hd
    have nV_im := V.1
    have nL_im := L.1
    have hmn := hR.1
    have hle := (vstx_good L j).le
    refine aw_iload_n d_W_reach_35 rfl ?_
    refine aw_aload_n d_W_reach_36 rfl ?_
    refine aw_get fl_W_35 d_W_reach_37 gW.1 rfl ?_
    refine aw_icmp_ge (tgt := 115) d_W_reach_40 (by decide) (fun c_40 => ?_) (fun c_40 => ?_)
    · rw [nI_leI (by omega) (by omega)] at c_40
      have e9 : vfin B = vst B j := vfin_at (by omega) hj
      refine aw_aload_n d_W_reach_115 rfl ?_
      refine aw_get fl_W_35 d_W_reach_116 gW.1 rfl ?_
      rw [← e9] at hR
      have e10 := hR.1
      subst e10
      exact aw_iret d_W_reach_119 rfl rfl ⟨rfl, fn, fq, gW, hR, gT⟩
    · rw [nI_leI (by omega) (by omega)] at c_40
      obtain ⟨q1, q2⟩ := (vstx_good L j).2.2.2 j (by omega)
      have eca : CA B ((vst B j).2.1 j) = cl B ((vst B j).2.1 j) := CA_ok q1 q2
      refine aw_iload_n d_W_reach_43 rfl ?_
      refine aw_aload_n d_W_reach_44 rfl ?_
      refine aw_get fl_W_39 d_W_reach_45 gM.1 rfl ?_
      refine aw_icmp_ge (tgt := 115) d_W_reach_48 (by decide) (fun c_48 => ?_) (fun c_48 => ?_)
      · rw [nI_leI (by omega) (by omega)] at c_48
        have e9 : vfin B = vst B j := by unfold vfin; rw [show nn B = j by omega]
        refine aw_aload_n d_W_reach_115 rfl ?_
        refine aw_get fl_W_35 d_W_reach_116 gW.1 rfl ?_
        rw [← e9] at hR
        have e10 := hR.1
        subst e10
        exact aw_iret d_W_reach_119 rfl rfl ⟨rfl, fn, fq, gW, hR, gT⟩
      · rw [nI_leI (by omega) (by omega)] at c_48
        refine aw_aload_n d_W_reach_51 rfl ?_
        refine aw_get fl_W_15 d_W_reach_52 gW.1 rfl ?_
        refine aw_iload_n d_W_reach_55 rfl ?_
        refine aw_iald (x := nI ((vst B j).2.1 j)) d_W_reach_56 gW.2.2 (vp_in_nI (by omega) (by omega)) (by rw [nI_clamp (by omega)]; exact hR.2.2 j (by omega)) ?_
        refine aw_istore_n (L' := [some (.ref w), some (.ref im), some (.int (nI j)), some (.int (nI ((vst B j).2.1 j))), none, none]) d_W_reach_57 (by decide) rfl rfl ?_
        refine aw_aload_n d_W_reach_58 rfl ?_
        refine aw_aload_n d_W_reach_59 rfl ?_
        refine aw_aload_n d_W_reach_60 rfl ?_
        refine aw_iload_n d_W_reach_61 rfl ?_
        refine aw_callVi (mc2 := mc) (ms2 := ms) (r := nI (CA B ((vst B j).2.1 j))) (As := [.int (nI ((vst B j).2.1 j))]) (rest := [.ref im, .ref w]) (c_I_classAt ⟨gM.1, gM.2.1, gM.2.2.1, gM.2.2.2.1, gM.2.2.2.2.1, gM.2.2.2.2.2.1, gM.2.2.2.2.2.2⟩ V L hB_ hcc hpc ((vst B j).2.1 j) (by omega)) cv_W_42 d_W_reach_62 gM.1 rfl rfl rfl (Nat.le_of_ble_eq_true rfl) (Nat.le_trans (by decide) hfr) (Nat.le_trans (by decide) hlo) (by omega) (by omega) ?_
        have b_62 := CA_lt hB_ ((vst B j).2.1 j)
        refine aw_callVi (mc2 := mc) (ms2 := ms) (r := nI (ob (CA B ((vst B j).2.1 j)))) (As := [.int (nI (CA B ((vst B j).2.1 j)))]) (rest := [.ref w]) (c_I_objectOf ⟨gM.1, gM.2.1, gM.2.2.1, gM.2.2.2.1, gM.2.2.2.2.1, gM.2.2.2.2.2.1, gM.2.2.2.2.2.2⟩ V L hB_ hcc hpc (CA B ((vst B j).2.1 j)) (by omega) (L.ca _)) cv_W_27 d_W_reach_65 gM.1 rfl rfl rfl (Nat.le_of_ble_eq_true rfl) (Nat.le_trans (by decide) hfr) (Nat.le_trans (by decide) hlo) (by omega) (by omega) ?_
        have ol_65 : ob (CA B ((vst B j).2.1 j)) ≤ nn B := ob_le (L.ca _)
        refine aw_callV (mc2 := mc) (ms2 := ms) (As := [.int (nI (ob (CA B ((vst B j).2.1 j))))]) (rest := []) (c_W_visit ⟨gW.1, gW.2.1, gW.2.2⟩ hnq hN hwl (vstx_good L j) hR (ob (CA B ((vst B j).2.1 j))) (by omega)) cv_W_31 d_W_reach_68 gW.1 rfl rfl rfl (Nat.le_of_ble_eq_true rfl) (Nat.le_trans (by decide) hfr) (Nat.le_trans (by decide) hlo) (by omega) (by omega) (fun v_68 k_68c q_68 => ?_)
        obtain ⟨y1_68, fn_68, fq_68, mn_68, y2_68, y3_68, y4_68⟩ := q_68
        refine aw_st (st' := []) (by rw [y1_68]; rfl) ?_
        have MI_68 := gM.fr y4_68 NW
        refine aw_aload_n d_W_reach_71 rfl ?_
        refine aw_iload_n d_W_reach_72 rfl ?_
        refine aw_callVi (mc2 := mc) (ms2 := ms) (r := nI (FC B ((vst B j).2.1 j))) (As := [.int (nI ((vst B j).2.1 j))]) (rest := []) (c_I_fieldCount ⟨MI_68.1, MI_68.2.1, MI_68.2.2.1, MI_68.2.2.2.1, MI_68.2.2.2.2.1, MI_68.2.2.2.2.2.1, MI_68.2.2.2.2.2.2⟩ V L hB_ hcc hpc ((vst B j).2.1 j) (by omega)) cv_W_45 d_W_reach_73 MI_68.1 rfl rfl rfl (Nat.le_of_ble_eq_true rfl) (Nat.le_trans (by decide) hfr) (Nat.le_trans (by decide) hlo) (by omega) (by omega) ?_
        have b_73 := FC_lt hB_ ((vst B j).2.1 j)
        refine aw_istore (L' := [some (.ref w), some (.ref im), some (.int (nI j)), some (.int (nI ((vst B j).2.1 j))), some (.int (nI (FC B ((vst B j).2.1 j)))), none]) d_W_reach_76 (by decide) rfl rfl ?_
        refine aw_iconst (v := nI 0) d_W_reach_78 (by decide) ?_
        refine aw_istore (L' := [some (.ref w), some (.ref im), some (.int (nI j)), some (.int (nI ((vst B j).2.1 j))), some (.int (nI (FC B ((vst B j).2.1 j)))), some (.int (nI 0))]) d_W_reach_79 (by decide) rfl rfl ?_
        refine lp_W_reachF hfr hlo V L hB_ hcc hpc hnq NW hN hwl (vst B j) (vstx_good L j) j ((vst B j).2.1 j) q1 q2 (fun g2 fn2 fq2 mn2 a1 a2 a3 a4 => ?_) (((if kd B ((vst B j).2.1 j) = 1 then 0 else sz B ((vst B j).2.1 j))) + 1) 0 _ _ _ _ ⟨y2_68.1, y2_68.2.1, y2_68.2.2⟩ MI_68 (gT.tr y4_68) (Nat.zero_le _) (by rw [vfd, ← eca]; exact y3_68) (by omega)
        refine aw_iinc (v := nI (j + 1)) (L' := [some (.ref w), some (.ref im), some (.int (nI (j + 1))), none, none, none]) d_W_reach_109 rfl (nI_add j 1) (by decide) rfl rfl ?_
        refine aw_goto (tgt := 35) d_W_reach_112 (by decide) ?_
        exact ih (j + 1) g2 fn2 fq2 mn2 a1 a2 a3 (by omega) (by rw [vst, if_pos (by omega)]; exact a4) (by omega)

set_option maxHeartbeats 4000000 in
theorem lp_W_reachS {tb : Nat → Nat} {h : AH} {fr lo : Nat} {mc ms : Nat} (hfr : 2 ≤ fr) (hlo : 44 ≤ lo) {im a0 a1 a2 a3 a4 a5 cc pc us iw wp cp : Nat} {B : Nat → Nat} {f0 f1 f2 f3 f4 f5 : Nat → Int32} (V : IV B f0 f1 f2 f3 f4 f5 cc pc) (L : LX B) (hB_ : ∀ i, B i < 256) (hcc : cc ≤ 1048576) (hpc : pc ≤ 1048576) {w nu qu wl : Nat} (hnq : nu ≠ qu) (NW : ∀ x ∈ [w, nu, qu], x ∉ [im, a0, a1, a2, a3, a4, a5]) (hN : nn B < wl) (hwl : wl ≤ 1048576) : ∀ (d : Nat) (k : Nat) (g : AH) (fn fq : Nat → Int32) (mn : Nat), wkS g w nu qu wl mn fn fq → iS g im a0 a1 a2 a3 a4 a5 cc pc us (nn B) iw wp cp f0 f1 f2 f3 f4 f5 → frm [w, nu, qu] [w, nu, qu] h g → k ≤ 50 → RX (nn B) (vsp B k) fn fq mn → 50 < k + d → AW tb "ImageReader$Walk" b_W_reach 6 (some .int) false none fr lo (fun v h' => v = some (.int (nI (vfin B).2.2)) ∧ ∃ fn' fq', wkS h' w nu qu wl (vfin B).2.2 fn' fq' ∧ RX (nn B) (vfin B) fn' fq' (vfin B).2.2 ∧ frm [w, nu, qu] [w, nu, qu] h h') 7 [some (.ref w), some (.ref im), some (.int (nI k)), none, none, none] [] g mc ms := by
  intro d
  induction d with
  | zero => intro k g fn fq mn gW gM gT hk hR hd; omega
  | succ d ih =>
    intro k g fn fq mn gW gM gT hk hR hd
    have nV_im := V.1
    have nL_im := L.1
    refine aw_iload_n d_W_reach_7 rfl ?_
    refine aw_bipush (v := nI 50) d_W_reach_8 (by decide) ?_
    refine aw_icmp_ge (tgt := 33) d_W_reach_10 (by decide) (fun c_10 => ?_) (fun c_10 => ?_)
    · rw [nI_leI (by omega) (by omega)] at c_10
      refine aw_iconst (v := nI 0) d_W_reach_33 (by decide) ?_
      refine aw_istore_n (L' := [some (.ref w), some (.ref im), some (.int (nI 0)), none, none, none]) d_W_reach_34 (by decide) rfl rfl ?_
      exact lp_W_reachQ hfr hlo V L hB_ hcc hpc hnq NW hN hwl (nn B + 1) 0 g fn fq mn gW gM gT (by omega) (by rw [show vst B 0 = vsp B k by rw [vst, show k = 50 by omega]]; exact hR) (by omega)
    · rw [nI_leI (by omega) (by omega)] at c_10
      refine aw_aload_n d_W_reach_13 rfl ?_
      refine aw_aload_n d_W_reach_14 rfl ?_
      refine aw_aload_n d_W_reach_15 rfl ?_
      refine aw_get fl_W_22 d_W_reach_16 gM.1 rfl ?_
      refine aw_iload_n d_W_reach_19 rfl ?_
      refine aw_iald (x := nI (sp B k)) d_W_reach_20 gM.2.1 (vp_in_nI (by omega) (by omega)) (by rw [nI_clamp (by omega)]; exact V.2.1 k (by omega)) ?_
      have b_20 := sp_lt hB_ k
      refine aw_callVi (mc2 := mc) (ms2 := ms) (r := nI (ob (sp B k))) (As := [.int (nI (sp B k))]) (rest := [.ref w]) (c_I_objectOf ⟨gM.1, gM.2.1, gM.2.2.1, gM.2.2.2.1, gM.2.2.2.2.1, gM.2.2.2.2.2.1, gM.2.2.2.2.2.2⟩ V L hB_ hcc hpc (sp B k) (by omega) (L.s (by omega))) cv_W_27 d_W_reach_21 gM.1 rfl rfl rfl (Nat.le_of_ble_eq_true rfl) (Nat.le_trans (by decide) hfr) (Nat.le_trans (by decide) hlo) (by omega) (by omega) ?_
      have ol_21 : ob (sp B k) ≤ nn B := ob_le (L.s (by omega))
      refine aw_callV (mc2 := mc) (ms2 := ms) (As := [.int (nI (ob (sp B k)))]) (rest := []) (c_W_visit ⟨gW.1, gW.2.1, gW.2.2⟩ hnq hN hwl (vspx_good L k hk) hR (ob (sp B k)) (by omega)) cv_W_31 d_W_reach_24 gW.1 rfl rfl rfl (Nat.le_of_ble_eq_true rfl) (Nat.le_trans (by decide) hfr) (Nat.le_trans (by decide) hlo) (by omega) (by omega) (fun v_24 k_24c q_24 => ?_)
      obtain ⟨y1_24, fn_24, fq_24, mn_24, y2_24, y3_24, y4_24⟩ := q_24
      refine aw_st (st' := []) (by rw [y1_24]; rfl) ?_
      have MI_24 := gM.fr y4_24 NW
      refine aw_iinc (v := nI (k + 1)) (L' := [some (.ref w), some (.ref im), some (.int (nI (k + 1))), none, none, none]) d_W_reach_27 rfl (nI_add k 1) (by decide) rfl rfl ?_
      refine aw_goto (tgt := 7) d_W_reach_30 (by decide) ?_
      exact ih (k + 1) _ _ _ _ ⟨y2_24.1, y2_24.2.1, y2_24.2.2⟩ MI_24 (gT.tr y4_24) (by omega) y3_24 (by omega)

set_option maxHeartbeats 4000000 in
theorem c_W_reach {tb : Nat → Nat} {h : AH} {im a0 a1 a2 a3 a4 a5 cc pc us iw wp cp : Nat} {B : Nat → Nat} {f0 f1 f2 f3 f4 f5 : Nat → Int32} (M : iS h im a0 a1 a2 a3 a4 a5 cc pc us (nn B) iw wp cp f0 f1 f2 f3 f4 f5) (V : IV B f0 f1 f2 f3 f4 f5 cc pc) (L : LX B) (hB_ : ∀ i, B i < 256) (hcc : cc ≤ 1048576) (hpc : pc ≤ 1048576) {w nu0 qu0 wl mn0 : Nat} {fn0 fq0 : Nat → Int32} (Mw0 : wkS h w nu0 qu0 wl mn0 fn0 fq0) (hnq0 : nu0 ≠ qu0) (NW0 : ∀ x ∈ [w, nu0, qu0], x ∉ [im, a0, a1, a2, a3, a4, a5]) (h64 : P64 wl) (hc64 : P64 cc) (hcc2 : cc ≤ 524288) (hwl0 : wl ≤ 524288) : AM tb y_W_reach b_W_reach 6 (some .int) 2 44 [.ref w, .ref im] h (max wl cc - wl) (4 * (max wl cc - wl)) (fun v h' => v = some (.int (nI (vfin B).2.2)) ∧ ∃ nu qu fn' fq', wkS h' w nu qu (max wl cc) (vfin B).2.2 fn' fq' ∧ RX (nn B) (vfin B) fn' fq' (vfin B).2.2 ∧ nu ≠ qu ∧ frm [w, nu0, qu0] [w, nu, qu] h h') := by
  have nV_im := V.1
  have nL_im := L.1
  refine am_of (ini := false) [some (.ref w), some (.ref im), none, none, none, none] (by decide) (fun z => by cases z) (Nat.le_of_ble_eq_true rfl) rfl ?_
  refine aw_aload_n d_W_reach_0 rfl ?_
  refine aw_aload_n d_W_reach_1 rfl ?_
  refine aw_callV (mc2 := 0) (ms2 := 0) (As := [.ref im]) (rest := []) (c_W_clear Mw0 hnq0 M NW0 h64 hc64 (by omega) (by omega)) cv_W_18 d_W_reach_2 Mw0.1 rfl rfl rfl (Nat.le_of_ble_eq_true rfl) (by decide) (by decide) (by omega) (by omega) (fun v_2 k_2c q_2 => ?_)
  obtain ⟨y1, nu, qu, fn, fq, Mw, hfz, hnq, T0⟩ := q_2
  refine aw_st (st' := []) (by rw [y1]; rfl) ?_
  have MI := M.fr T0 NW0
  have NW : ∀ x ∈ [w, nu, qu], x ∉ [im, a0, a1, a2, a3, a4, a5] := dj_fr T0 NW0 M.ex
  have hN : nn B < max wl cc := by omega
  have hwl : max wl cc ≤ 1048576 := by omega
  refine aw_iconst (v := nI 0) d_W_reach_5 (by decide) ?_
  refine aw_istore_n (L' := [some (.ref w), some (.ref im), some (.int (nI 0)), none, none, none]) d_W_reach_6 (by decide) rfl rfl ?_
  refine aw_post (fun v g q => ?_) (lp_W_reachS (by decide) (by decide) V L hB_ hcc hpc hnq NW hN hwl 51 0 _ fn fq 0 Mw MI (frm.refl _) (by omega) (RX_0 (fun k hk => hfz k (by omega))) (by omega))
  obtain ⟨t1, fn2, fq2, t2, t3, t4⟩ := q
  exact ⟨t1, nu, qu, fn2, fq2, t2, t3, hnq, T0.tr t4⟩

set_option maxHeartbeats 4000000 in
theorem lp_W_numberAnew {tb : Nat → Nat} {h : AH} {fr lo : Nat} {mc ms : Nat} (hfr : 0 ≤ fr) (hlo : 0 ≤ lo) {im a0 a1 a2 a3 a4 a5 cc pc us iw wp cp : Nat} {B : Nat → Nat} {f0 f1 f2 f3 f4 f5 : Nat → Int32} (V : IV B f0 f1 f2 f3 f4 f5 cc pc) (L : LX B) (hB_ : ∀ i, B i < 256) (hcc : cc ≤ 1048576) (hpc : pc ≤ 1048576) {w nu qu wl mn : Nat} {fq : Nat → Int32} (hnq : nu ≠ qu) (NW : ∀ x ∈ [w, nu, qu], x ∉ [im, a0, a1, a2, a3, a4, a5]) (hN : nn B < wl) (hwl : wl ≤ 1048576) {s : BS} : ∀ (d : Nat) (k : Nat) (g : AH) (f : Nat → Int32), wkS g w nu qu wl mn f fq → iS g im a0 a1 a2 a3 a4 a5 cc pc us (nn B) iw wp cp f0 f1 f2 f3 f4 f5 → frm [w, nu, qu] [w, nu, qu] h g → 1 ≤ k → k ≤ nn B + 1 → (∀ j, j ≤ nn B → f j = nI (if j < k then nuM s.1 j else if s.1 j = 0 then 0 else j)) → nn B + 1 < k + d → AW tb "ImageReader$Walk" b_W_numberAnew 4 none false none fr lo (fun v h' => v = none ∧ ∃ f', wkS h' w nu qu wl mn f' fq ∧ (∀ j, 1 ≤ j → j ≤ nn B → f' j = nI (nuM s.1 j)) ∧ frm [w, nu, qu] [w, nu, qu] h h') 4 [some (.ref w), some (.ref im), some (.int (nI (cntM s.1 (k - 1)))), some (.int (nI k))] [] g mc ms := by
  intro d
  induction d with
  | zero => intro k g f gW gM gT hk1 hk hz hd; omega
  | succ d ih =>
    intro k g f gW gM gT hk1 hk hz hd
    have nV_im := V.1
    have nL_im := L.1
    have hck := cntM_le s.1 (k - 1)
    refine aw_iload_n d_W_numberAnew_4 rfl ?_
    refine aw_aload_n d_W_numberAnew_5 rfl ?_
    refine aw_get fl_W_39 d_W_numberAnew_6 gM.1 rfl ?_
    refine aw_icmp_gt (tgt := 37) d_W_numberAnew_9 (by decide) (fun c_9 => ?_) (fun c_9 => ?_)
    · rw [nI_ltI (by omega) (by omega)] at c_9
      exact aw_vret d_W_numberAnew_37 rfl ⟨rfl, f, gW, fun j h1 h2 => (by rw [hz j h2, if_pos (by omega)]), gT⟩
    · rw [nI_ltI (by omega) (by omega)] at c_9
      have eM : cntM s.1 k = cntM s.1 (k - 1) + (if s.1 k = 0 then 0 else 1) := by obtain ⟨j, rfl⟩ : ∃ q, k = q + 1 := ⟨k - 1, by omega⟩; rfl
      refine aw_aload_n d_W_numberAnew_12 rfl ?_
      refine aw_get fl_W_9 d_W_numberAnew_13 gW.1 rfl ?_
      refine aw_iload_n d_W_numberAnew_16 rfl ?_
      refine aw_iald (x := nI (if s.1 k = 0 then 0 else k)) d_W_numberAnew_17 gW.2.1 (vp_in_nI (by omega) (by omega)) (by rw [nI_clamp (by omega), hz k (by omega), if_neg (by omega)]) ?_
      refine aw_if_eq (tgt := 31) d_W_numberAnew_18 (by decide) (fun c_18 => ?_) (fun c_18 => ?_)
      · rw [w_eq0 (by split <;> omega)] at c_18
        have e0 : s.1 k = 0 := Classical.byContradiction (fun z => by rw [if_neg z] at c_18; omega)
        rw [if_pos e0] at eM
        refine aw_iinc (v := nI (k + 1)) (L' := [some (.ref w), some (.ref im), some (.int (nI (cntM s.1 (k - 1)))), some (.int (nI (k + 1)))]) d_W_numberAnew_31 rfl (nI_add k 1) (by decide) rfl rfl ?_
        refine aw_goto (tgt := 4) d_W_numberAnew_34 (by decide) ?_
        refine aw_loc (L' := [some (.ref w), some (.ref im), some (.int (nI (cntM s.1 (k + 1 - 1)))), some (.int (nI (k + 1)))]) (by intro i v hv; match i, hv with | 0, hv => exact hv | 1, hv => exact hv | 2, hv => (rw [show k + 1 - 1 = k by omega, eM] at hv; exact hv) | 3, hv => exact hv | i + 4, hv => cases hv) ?_
        exact ih (k + 1) _ _ ⟨gW.1, gW.2.1, gW.2.2⟩ ⟨gM.1, gM.2.1, gM.2.2.1, gM.2.2.2.1, gM.2.2.2.2.1, gM.2.2.2.2.2.1, gM.2.2.2.2.2.2⟩ gT (by omega) (by omega) (fun j hj => by
        rw [hz j hj, nuZ (Or.inr e0)]) (by omega)
      · rw [w_eq0 (by split <;> omega)] at c_18
        have e0 : ¬ s.1 k = 0 := fun z => by rw [if_pos z] at c_18; exact c_18 rfl
        rw [if_neg e0] at eM
        refine aw_iinc (v := nI (cntM s.1 (k - 1) + 1)) (L' := [some (.ref w), some (.ref im), some (.int (nI (cntM s.1 (k - 1) + 1))), some (.int (nI k))]) d_W_numberAnew_21 rfl (nI_add (cntM s.1 (k - 1)) 1) (by decide) rfl rfl ?_
        refine aw_aload_n d_W_numberAnew_24 rfl ?_
        refine aw_get fl_W_9 d_W_numberAnew_25 gW.1 rfl ?_
        refine aw_iload_n d_W_numberAnew_28 rfl ?_
        refine aw_iload_n d_W_numberAnew_29 rfl ?_
        refine aw_iast (f' := upd f k (nI (cntM s.1 (k - 1) + 1))) d_W_numberAnew_30 gW.2.1 (vp_in_nI (by omega) (by omega)) (by rw [nI_clamp (by omega)]) ?_
        obtain ⟨k_1, e_k_1⟩ : ∃ z, z = av_up g nu (.inl (0, wl, .inl (upd f k (nI (cntM s.1 (k - 1) + 1))))) := ⟨_, rfl⟩
        refine aw_heap (h' := k_1) e_k_1.symm ?_
        have g1_w : k_1 w = some (.inr (3, [.ref nu, .ref qu, .int (nI mn)])) := by rw [e_k_1, av_up_ne (av_apart' gW.1 gW.2.1)]; exact gW.1
        have g1_qu : k_1 qu = some (.inl (0, wl, .inl fq)) := by rw [e_k_1, av_up_ne (Ne.symm hnq)]; exact gW.2.2
        have g1_im : k_1 im = some (.inr (2, [.ref a0, .ref a1, .ref a2, .ref a3, .ref a4, .ref a5, .int (nI us), .int (nI (nn B)), .int (nI iw), .int (nI wp), .int (nI cp)])) := by rw [e_k_1, av_up_ne (fun z => NW nu (by simp) (by rw [← z]; simp))]; exact gM.1
        have g1_a0 : k_1 a0 = some (.inl (0, 50, .inl f0)) := by rw [e_k_1, av_up_ne (fun z => NW nu (by simp) (by rw [← z]; simp))]; exact gM.2.1
        have g1_a1 : k_1 a1 = some (.inl (0, cc, .inl f1)) := by rw [e_k_1, av_up_ne (fun z => NW nu (by simp) (by rw [← z]; simp))]; exact gM.2.2.1
        have g1_a2 : k_1 a2 = some (.inl (0, cc, .inl f2)) := by rw [e_k_1, av_up_ne (fun z => NW nu (by simp) (by rw [← z]; simp))]; exact gM.2.2.2.1
        have g1_a3 : k_1 a3 = some (.inl (0, cc, .inl f3)) := by rw [e_k_1, av_up_ne (fun z => NW nu (by simp) (by rw [← z]; simp))]; exact gM.2.2.2.2.1
        have g1_a4 : k_1 a4 = some (.inl (0, cc, .inl f4)) := by rw [e_k_1, av_up_ne (fun z => NW nu (by simp) (by rw [← z]; simp))]; exact gM.2.2.2.2.2.1
        have g1_a5 : k_1 a5 = some (.inl (0, pc, .inl f5)) := by rw [e_k_1, av_up_ne (fun z => NW nu (by simp) (by rw [← z]; simp))]; exact gM.2.2.2.2.2.2
        have g1_nu : k_1 nu = some (.inl (0, wl, .inl (upd f k (nI (cntM s.1 (k - 1) + 1))))) := by rw [e_k_1]; exact av_up_self _ _ _
        refine aw_iinc (v := nI (k + 1)) (L' := [some (.ref w), some (.ref im), some (.int (nI (cntM s.1 (k - 1) + 1))), some (.int (nI (k + 1)))]) d_W_numberAnew_31 rfl (nI_add k 1) (by decide) rfl rfl ?_
        refine aw_goto (tgt := 4) d_W_numberAnew_34 (by decide) ?_
        refine aw_loc (L' := [some (.ref w), some (.ref im), some (.int (nI (cntM s.1 (k + 1 - 1)))), some (.int (nI (k + 1)))]) (by intro i v hv; match i, hv with | 0, hv => exact hv | 1, hv => exact hv | 2, hv => (rw [show k + 1 - 1 = k by omega, eM] at hv; exact hv) | 3, hv => exact hv | i + 4, hv => cases hv) ?_
        exact ih (k + 1) _ _ ⟨g1_w, g1_nu, g1_qu⟩ ⟨g1_im, g1_a0, g1_a1, g1_a2, g1_a3, g1_a4, g1_a5⟩ (gT.up e_k_1 (by simp)) (by omega) (by omega) (fun j hj => by
        unfold upd
        by_cases z : j = k
        · rw [if_pos z, z, if_pos (show k < k + 1 by omega)]; unfold nuM; rw [if_neg e0, eM]
        · rw [if_neg z, hz j hj, nuZ (Or.inl z)]) (by omega)

set_option maxHeartbeats 4000000 in
theorem c_W_numberAnew {tb : Nat → Nat} {h : AH} {im a0 a1 a2 a3 a4 a5 cc pc us iw wp cp : Nat} {B : Nat → Nat} {f0 f1 f2 f3 f4 f5 : Nat → Int32} (M : iS h im a0 a1 a2 a3 a4 a5 cc pc us (nn B) iw wp cp f0 f1 f2 f3 f4 f5) (V : IV B f0 f1 f2 f3 f4 f5 cc pc) (L : LX B) (hB_ : ∀ i, B i < 256) (hcc : cc ≤ 1048576) (hpc : pc ≤ 1048576) {w nu qu wl mn : Nat} {fn fq : Nat → Int32} (Mw : wkS h w nu qu wl mn fn fq) (hnq : nu ≠ qu) (NW : ∀ x ∈ [w, nu, qu], x ∉ [im, a0, a1, a2, a3, a4, a5]) (hN : nn B < wl) (hwl : wl ≤ 1048576) {s : BS} (hg : vgood (nn B) s) (hR : RX (nn B) s fn fq mn) : AM tb y_W_numberAnew b_W_numberAnew 4 none 0 0 [.ref w, .ref im] h 0 0 (fun v h' => v = none ∧ ∃ f', wkS h' w nu qu wl mn f' fq ∧ (∀ j, 1 ≤ j → j ≤ nn B → f' j = nI (nuM s.1 j)) ∧ frm [w, nu, qu] [w, nu, qu] h h') := by
  refine am_of (ini := false) [some (.ref w), some (.ref im), none, none] (by decide) (fun z => by cases z) (Nat.le_of_ble_eq_true rfl) rfl ?_
  refine aw_iconst (v := nI 0) d_W_numberAnew_0 (by decide) ?_
  refine aw_istore_n (L' := [some (.ref w), some (.ref im), some (.int (nI 0)), none]) d_W_numberAnew_1 (by decide) rfl rfl ?_
  refine aw_iconst (v := nI 1) d_W_numberAnew_2 (by decide) ?_
  refine aw_istore_n (L' := [some (.ref w), some (.ref im), some (.int (nI 0)), some (.int (nI 1))]) d_W_numberAnew_3 (by decide) rfl rfl ?_
  exact lp_W_numberAnew (by decide) (by decide) V L hB_ hcc hpc hnq NW hN hwl (nn B + 1) 1 h fn Mw M (frm.refl _) (by omega) (by omega) (fun j hj => by rw [hR.2.1 j hj]; by_cases z : j < 1; (rw [if_pos z, show j = 0 by omega]; have z0 : s.1 0 = 0 := Classical.byContradiction (fun q => absurd (hg.2.2.1 0 q).1 (by decide)); unfold nuM; rw [if_pos z0, if_pos z0]); (rw [if_neg z])) (by omega)

set_option maxHeartbeats 4000000 in
theorem c_W_renumbered {tb : Nat → Nat} {h : AH} {im a0 a1 a2 a3 a4 a5 cc pc us iw wp cp : Nat} {B : Nat → Nat} {f0 f1 f2 f3 f4 f5 : Nat → Int32} (M : iS h im a0 a1 a2 a3 a4 a5 cc pc us (nn B) iw wp cp f0 f1 f2 f3 f4 f5) (V : IV B f0 f1 f2 f3 f4 f5 cc pc) (L : LX B) (hB_ : ∀ i, B i < 256) (hcc : cc ≤ 1048576) (hpc : pc ≤ 1048576) {w nu qu wl mn : Nat} {fn fq : Nat → Int32} (Mw : wkS h w nu qu wl mn fn fq) (hN : nn B < wl) (hwl : wl ≤ 1048576) {Mk : Nat → Nat} (hf : ∀ j, 1 ≤ j → j ≤ nn B → fn j = nI (nuM Mk j)) (u : Nat) (hu : u < 4294967296) (hv : vl (nn B) u) : AM tb y_W_renumbered b_W_renumbered 4 (some .int) 2 42 [.ref w, .ref im, .int (nI u)] h 0 0 (av_Pi (nI (rn Mk u)) h) := by
  have nV_im := V.1
  have nL_im := L.1
  refine am_of (ini := false) [some (.ref w), some (.ref im), some (.int (nI u)), none] (by decide) (fun z => by cases z) (Nat.le_of_ble_eq_true rfl) rfl ?_
  refine aw_aload_n d_W_renumbered_0 rfl ?_
  refine aw_iload_n d_W_renumbered_1 rfl ?_
  refine aw_callVi (mc2 := 0) (ms2 := 0) (r := nI (ob u)) (As := [.int (nI u)]) (rest := []) (c_I_objectOf ⟨M.1, M.2.1, M.2.2.1, M.2.2.2.1, M.2.2.2.2.1, M.2.2.2.2.2.1, M.2.2.2.2.2.2⟩ V L hB_ hcc hpc u (by omega) hv) cv_W_27 d_W_renumbered_2 M.1 rfl rfl rfl (Nat.le_of_ble_eq_true rfl) (by decide) (by decide) (by omega) (by omega) ?_
  have ol_2 : ob u ≤ nn B := ob_le (hv)
  refine aw_istore_n (L' := [some (.ref w), some (.ref im), some (.int (nI u)), some (.int (nI (ob u)))]) d_W_renumbered_5 (by decide) rfl rfl ?_
  refine aw_iload_n d_W_renumbered_6 rfl ?_
  refine aw_if_ne (tgt := 14) d_W_renumbered_7 (by decide) (fun c_7 => ?_) (fun c_7 => ?_)
  · rw [w_eq0 (by omega)] at c_7
    refine aw_iconst (v := nI 2) d_W_renumbered_14 (by decide) ?_
    refine aw_aload_n d_W_renumbered_15 rfl ?_
    refine aw_get fl_W_9 d_W_renumbered_16 Mw.1 rfl ?_
    refine aw_iload_n d_W_renumbered_19 rfl ?_
    refine aw_iald (x := nI (nuM Mk (ob u))) d_W_renumbered_20 Mw.2.1 (vp_in_nI (by omega) (by omega)) (by rw [nI_clamp (by omega)]; exact hf _ (by omega) (by omega)) ?_
    refine aw_imul (v := nI (2 * (nuM Mk (ob u)))) d_W_renumbered_21 (pk_mul _ _) ?_
    exact aw_iret d_W_renumbered_22 rfl rfl (rt_i (by unfold rn; first | rw [if_pos (by omega)] | rw [if_neg (by omega)]))
  · rw [w_eq0 (by omega)] at c_7
    refine aw_iload_n d_W_renumbered_10 rfl ?_
    refine aw_goto (tgt := 22) d_W_renumbered_11 (by decide) ?_
    exact aw_iret d_W_renumbered_22 rfl rfl (rt_i (by unfold rn; first | rw [if_pos (by omega)] | rw [if_neg (by omega)]))
