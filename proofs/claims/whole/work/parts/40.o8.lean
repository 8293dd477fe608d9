/-! ===== the class: Pairing ===== -/
theorem LX.f {B : Nat → Nat} (L : LX B) {k i : Nat} (h1 : 1 ≤ k) (h2 : k ≤ nn B) (hk : ¬ kd B k = 1) (hi : i < sz B k) : vl (nn B) (fd B k i) := by
  have a := L.2.2 k h1 h2
  exact a.2.2 (by have := a.2.1; omega) i hi
theorem gspx_gd {B C : Nat → Nat} (hB : LX B) (hC : LX C) : ∀ k, k ≤ 50 → pgd (nn B) (nn C) (gsp B C k).1
  | 0, _ => p0_gd _ _
  | k + 1, h => by
    have g := gspx_gd hB hC k (by omega)
    rw [gsp]
    split
    · exact pgo_gd g (ob_le (hB.s (by omega))) (ob_le (hC.s (by omega)))
    · exact g
theorem gfdx_gd {B C : Nat → Nat} (hB : LX B) (hC : LX C) {s : PS} (hs : pgd (nn B) (nn C) s) {k l : Nat} (h1 : 1 ≤ k) (h2 : k ≤ nn B) (h3 : 1 ≤ l) (h4 : l ≤ nn C) (i : Nat) (hi : i ≤ sz B k) : pgd (nn B) (nn C) (gfd B C s k l i).1 := by
  revert hi
  induction i with
  | zero =>
    intro _
    rw [gfd_z]
    exact pgo_gd hs (ob_le (hB.2.2 k h1 h2).1) (ob_le (hC.2.2 l h3 h4).1)
  | succ i ih =>
    intro h
    have g := ih (by omega)
    by_cases z : (gfd B C s k l i).2 = true
    · have e := gfd_t i z
      by_cases y : kd B k = 1
      · rw [gfd_b z y]; exact g
      · rw [gfd_f z y]
        exact pgo_gd g (ob_le (hB.f h1 h2 y h)) (ob_le (hC.f h3 h4 (by rw [← e.1]; exact y) (by rw [← e.2]; exact h)))
    · rw [gfd_n z]; exact g
theorem gstx_gd {B C : Nat → Nat} (hB : LX B) (hC : LX C) : ∀ j, pgd (nn B) (nn C) (gst B C j).1
  | 0 => gspx_gd hB hC 50 (Nat.le_refl 50)
  | j + 1 => by
    have g := gstx_gd hB hC j
    rw [gst]
    by_cases z : (gst B C j).2 = true ∧ j < (gst B C j).1.2.2.2
    · rw [if_pos z]
      obtain ⟨a, b, c⟩ := g.2.2.2 j z.2
      obtain ⟨_, _, d, _⟩ := g.2.1 _ c
      exact gfdx_gd hB hC g a b (by omega) d _ (Nat.le_refl _)
    · rw [if_neg z]; exact g
def isMx (r a b : Nat) : Prop := r = max a b
def pkS (h : AH) (p pa pb pq pl mn : Nat) (fn fb fq : Nat → Int32) : Prop := h p = some (.inr (4, [.ref pa, .ref pb, .ref pq, .int (nI mn)])) ∧ h pa = some (.inl (0, pl, .inl fn)) ∧ h pb = some (.inl (0, pl, .inl fb)) ∧ h pq = some (.inl (0, pl, .inl fq))
def pND (pa pb pq : Nat) : Prop := pa ≠ pb ∧ pa ≠ pq ∧ pb ≠ pq
def RPx (N K : Nat) (s : PS) (fn fb fq : Nat → Int32) (mn : Nat) : Prop := mn = s.2.2.2 ∧ (∀ k, k ≤ N → fn k = nI (s.1 k)) ∧ (∀ k, k ≤ K → fb k = nI (s.2.1 k)) ∧ ∀ j, j < s.2.2.2 → fq j = nI (s.2.2.1 j)
theorem RPx_0 {N K : Nat} {fn fb fq : Nat → Int32} (h : ∀ k, k ≤ N → fn k = nI 0) (h2 : ∀ k, k ≤ K → fb k = nI 0) : RPx N K ((fun _ => 0, fun _ => 0, fun _ => 0, 0) : PS) fn fb fq 0 := ⟨rfl, h, h2, fun j hj => absurd hj (Nat.not_lt_zero j)⟩
theorem RPx.y {N K : Nat} {s : PS} {fn fb fq : Nat → Int32} {mn u w : Nat} (h : RPx N K s fn fb fq mn) (h1 : ob u ≠ 0) (h2 : ob w ≠ 0) (hk : s.1 (ob u) = 0 ∧ s.2.1 (ob w) = 0) : RPx N K (pgo s u w).1 (upd fn (ob u) (nI (ob w))) (upd fb (ob w) (nI (ob u))) (upd fq mn (nI (ob u))) (mn + 1) := by
  rw [pgo_y h1 h2 hk]
  refine ⟨by show mn + 1 = s.2.2.2 + 1; rw [h.1], fun j hj => ?_, fun j hj => ?_, fun j hj => ?_⟩
  · show upd fn (ob u) (nI (ob w)) j = nI (uB s.1 (ob u) (ob w) j)
    unfold upd uB
    split
    · rfl
    · exact h.2.1 j hj
  · show upd fb (ob w) (nI (ob u)) j = nI (uB s.2.1 (ob w) (ob u) j)
    unfold upd uB
    split
    · rfl
    · exact h.2.2.1 j hj
  · show upd fq mn (nI (ob u)) j = nI (uB s.2.2.1 s.2.2.2 (ob u) j)
    have hj : j < s.2.2.2 + 1 := hj
    unfold upd uB
    rw [h.1]
    split
    · rfl
    · exact h.2.2.2 j (by omega)

set_option maxHeartbeats 4000000 in
theorem c_P_match {tb : Nat → Nat} {h : AH} {im a0 a1 a2 a3 a4 a5 cc pc us iw wp cp : Nat} {B : Nat → Nat} {f0 f1 f2 f3 f4 f5 : Nat → Int32} (M : iS h im a0 a1 a2 a3 a4 a5 cc pc us (nn B) iw wp cp f0 f1 f2 f3 f4 f5) (V : IV B f0 f1 f2 f3 f4 f5 cc pc) (L : LX B) (hB_ : ∀ i, B i < 256) (hcc : cc ≤ 1048576) (hpc : pc ≤ 1048576) {jm c0 c1 c2 c3 c4 c5 dc dq du jw wq cq : Nat} {D : Nat → Nat} {e0 e1 e2 e3 e4 e5 : Nat → Int32} (M2 : iS h jm c0 c1 c2 c3 c4 c5 dc dq du (nn D) jw wq cq e0 e1 e2 e3 e4 e5) (V2 : IV D e0 e1 e2 e3 e4 e5 dc dq) (L2 : LX D) (hD_ : ∀ i, D i < 256) (hdc : dc ≤ 1048576) (hdq : dq ≤ 1048576) {p pa pb pq pl mn : Nat} {fn fb fq : Nat → Int32} (Mp : pkS h p pa pb pq pl mn fn fb fq) (Dp : pND pa pb pq) (NI_ : ∀ x ∈ [p, pa, pb, pq], x ∉ [im, a0, a1, a2, a3, a4, a5]) (NJ_ : ∀ x ∈ [p, pa, pb, pq], x ∉ [jm, c0, c1, c2, c3, c4, c5]) {s : PS} (hNl : nn B < pl) (hKl : nn D < pl) (hpl : pl ≤ 1048576) (hg : pgd (nn B) (nn D) s) (hR : RPx (nn B) (nn D) s fn fb fq mn) (u w : Nat) (hu : u < 4294967296) (hu2 : vl (nn B) u) (hw : w < 4294967296) (hw2 : vl (nn D) w) : AM tb y_P_match b_P_match 7 (some .boolean) 2 42 [.ref p, .ref im, .int (nI u), .ref jm, .int (nI w)] h 0 0 (fun v h' => v = some (.int (bP ((pgo s u w).2 = true))) ∧ ∃ fn' fb' fq' mn', pkS h' p pa pb pq pl mn' fn' fb' fq' ∧ RPx (nn B) (nn D) (pgo s u w).1 fn' fb' fq' mn' ∧ frm [p, pa, pb, pq] [p, pa, pb, pq] h h') := by
  have nV_im := V.1
  have nL_im := L.1
  have nV_jm := V2.1
  have nL_jm := L2.1
  refine am_of (ini := false) [some (.ref p), some (.ref im), some (.int (nI u)), some (.ref jm), some (.int (nI w)), none, none] (by decide) (fun z => by cases z) (Nat.le_of_ble_eq_true rfl) rfl ?_
  refine aw_aload_n d_P_match_0 rfl ?_
  refine aw_iload_n d_P_match_1 rfl ?_
  refine aw_callVi (mc2 := 0) (ms2 := 0) (r := nI (ob u)) (As := [.int (nI u)]) (rest := []) (c_I_objectOf ⟨M.1, M.2.1, M.2.2.1, M.2.2.2.1, M.2.2.2.2.1, M.2.2.2.2.2.1, M.2.2.2.2.2.2⟩ V L hB_ hcc hpc u (by omega) hu2) cv_P_65 d_P_match_2 M.1 rfl rfl rfl (Nat.le_of_ble_eq_true rfl) (by decide) (by decide) (by omega) (by omega) ?_
  have ol_2 : ob u ≤ nn B := ob_le (hu2)
  refine aw_istore (L' := [some (.ref p), some (.ref im), some (.int (nI u)), some (.ref jm), some (.int (nI w)), some (.int (nI (ob u))), none]) d_P_match_5 (by decide) rfl rfl ?_
  refine aw_aload_n d_P_match_7 rfl ?_
  refine aw_iload d_P_match_8 rfl ?_
  refine aw_callVi (mc2 := 0) (ms2 := 0) (r := nI (ob w)) (As := [.int (nI w)]) (rest := []) (c_I_objectOf ⟨M2.1, M2.2.1, M2.2.2.1, M2.2.2.2.1, M2.2.2.2.2.1, M2.2.2.2.2.2.1, M2.2.2.2.2.2.2⟩ V2 L2 hD_ hdc hdq w (by omega) hw2) cv_P_65 d_P_match_10 M2.1 rfl rfl rfl (Nat.le_of_ble_eq_true rfl) (by decide) (by decide) (by omega) (by omega) ?_
  have ol_10 : ob w ≤ nn D := ob_le (hw2)
  refine aw_istore (L' := [some (.ref p), some (.ref im), some (.int (nI u)), some (.ref jm), some (.int (nI w)), some (.int (nI (ob u))), some (.int (nI (ob w)))]) d_P_match_13 (by decide) rfl rfl ?_
  refine aw_iload d_P_match_15 rfl ?_
  refine aw_if_eq (tgt := 25) d_P_match_17 (by decide) (fun c_17 => ?_) (fun c_17 => ?_)
  · rw [w_eq0 (by omega)] at c_17
    have z0 : ob u = 0 ∨ ob w = 0 := Or.inl c_17
    refine aw_iload d_P_match_25 rfl ?_
    refine aw_iload d_P_match_27 rfl ?_
    refine aw_icmp_ne (tgt := 42) d_P_match_29 (by decide) (fun c_29 => ?_) (fun c_29 => ?_)
    · rw [w_eq (by omega) (by omega)] at c_29
      refine aw_iconst (v := nI 0) d_P_match_42 (by decide) ?_
      exact aw_iret d_P_match_43 rfl nar0 ⟨by rw [pgo_0 z0]; exact congrArg (fun z => some (Value.int z)) (bP_f (by simp only [decide_eq_true_eq]; first | exact c_35 | (intro y; subst y; exact c_29 rfl))).symm, _, _, _, _, ⟨Mp.1, Mp.2.1, Mp.2.2.1, Mp.2.2.2⟩, by rw [pgo_0 z0]; exact hR, frm.refl _⟩
    · rw [w_eq (by omega) (by omega)] at c_29
      refine aw_iload_n d_P_match_32 rfl ?_
      refine aw_iload d_P_match_33 rfl ?_
      refine aw_icmp_ne (tgt := 42) d_P_match_35 (by decide) (fun c_35 => ?_) (fun c_35 => ?_)
      · rw [w_eq (by omega) (by omega)] at c_35
        refine aw_iconst (v := nI 0) d_P_match_42 (by decide) ?_
        exact aw_iret d_P_match_43 rfl nar0 ⟨by rw [pgo_0 z0]; exact congrArg (fun z => some (Value.int z)) (bP_f (by simp only [decide_eq_true_eq]; first | exact c_35 | (intro y; subst y; exact c_29 rfl))).symm, _, _, _, _, ⟨Mp.1, Mp.2.1, Mp.2.2.1, Mp.2.2.2⟩, by rw [pgo_0 z0]; exact hR, frm.refl _⟩
      · rw [w_eq (by omega) (by omega)] at c_35
        refine aw_iconst (v := nI 1) d_P_match_38 (by decide) ?_
        refine aw_goto (tgt := 43) d_P_match_39 (by decide) ?_
        exact aw_iret d_P_match_43 rfl nar1 ⟨by rw [pgo_0 z0]; exact congrArg (fun z => some (Value.int z)) (bP_t (by simp only [decide_eq_true_eq]; first | exact c_35 | (intro y; subst y; exact c_29 rfl))).symm, _, _, _, _, ⟨Mp.1, Mp.2.1, Mp.2.2.1, Mp.2.2.2⟩, by rw [pgo_0 z0]; exact hR, frm.refl _⟩
  · rw [w_eq0 (by omega)] at c_17
    refine aw_iload d_P_match_20 rfl ?_
    refine aw_if_ne (tgt := 44) d_P_match_22 (by decide) (fun c_22 => ?_) (fun c_22 => ?_)
    · rw [w_eq0 (by omega)] at c_22
      have n1 : ob u ≠ 0 := c_17
      have n2 : ob w ≠ 0 := c_22
      have hpl1 := hg.pl (ob u)
      have hbl1 := hg.bl (ob w)
      have hle := hg.le
      have hmn := hR.1
      refine aw_aload_n d_P_match_44 rfl ?_
      refine aw_get fl_P_9 d_P_match_45 Mp.1 rfl ?_
      refine aw_iload d_P_match_48 rfl ?_
      refine aw_iald (x := nI (s.1 (ob u))) d_P_match_50 Mp.2.1 (vp_in_nI (by omega) (by omega)) (by rw [nI_clamp (by omega)]; exact hR.2.1 _ (by omega)) ?_
      refine aw_if_ne (tgt := 103) d_P_match_51 (by decide) (fun c_51 => ?_) (fun c_51 => ?_)
      · rw [w_eq0 (by omega)] at c_51
        have nz : ¬ (s.1 (ob u) = 0 ∧ s.2.1 (ob w) = 0) := fun q => c_51 q.1
        refine aw_aload_n d_P_match_103 rfl ?_
        refine aw_get fl_P_9 d_P_match_104 Mp.1 rfl ?_
        refine aw_iload d_P_match_107 rfl ?_
        refine aw_iald (x := nI (s.1 (ob u))) d_P_match_109 Mp.2.1 (vp_in_nI (by omega) (by omega)) (by rw [nI_clamp (by omega)]; exact hR.2.1 _ (by omega)) ?_
        refine aw_iload d_P_match_110 rfl ?_
        refine aw_icmp_ne (tgt := 119) d_P_match_112 (by decide) (fun c_112 => ?_) (fun c_112 => ?_)
        · rw [w_eq (by omega) (by omega)] at c_112
          refine aw_iconst (v := nI 0) d_P_match_119 (by decide) ?_
          exact aw_iret d_P_match_120 rfl nar0 ⟨by rw [pgo_n n1 n2 nz]; exact congrArg (fun z => some (Value.int z)) (bP_f (by simp only [decide_eq_true_eq]; first | exact ⟨c_112, by have y := (hg.2.1 (ob u) (by rw [c_112]; exact n2)).2.2.2; rw [c_112] at y; exact y⟩ | exact fun y => c_112 y.1)).symm, _, _, _, _, ⟨Mp.1, Mp.2.1, Mp.2.2.1, Mp.2.2.2⟩, by rw [pgo_n n1 n2 nz]; exact hR, frm.refl _⟩
        · rw [w_eq (by omega) (by omega)] at c_112
          refine aw_iconst (v := nI 1) d_P_match_115 (by decide) ?_
          refine aw_goto (tgt := 120) d_P_match_116 (by decide) ?_
          exact aw_iret d_P_match_120 rfl nar1 ⟨by rw [pgo_n n1 n2 nz]; exact congrArg (fun z => some (Value.int z)) (bP_t (by simp only [decide_eq_true_eq]; first | exact ⟨c_112, by have y := (hg.2.1 (ob u) (by rw [c_112]; exact n2)).2.2.2; rw [c_112] at y; exact y⟩ | exact fun y => c_112 y.1)).symm, _, _, _, _, ⟨Mp.1, Mp.2.1, Mp.2.2.1, Mp.2.2.2⟩, by rw [pgo_n n1 n2 nz]; exact hR, frm.refl _⟩
      · rw [w_eq0 (by omega)] at c_51
        have u_0 := c_51
        refine aw_aload_n d_P_match_54 rfl ?_
        refine aw_get fl_P_15 d_P_match_55 Mp.1 rfl ?_
        refine aw_iload d_P_match_58 rfl ?_
        refine aw_iald (x := nI (s.2.1 (ob w))) d_P_match_60 Mp.2.2.1 (vp_in_nI (by omega) (by omega)) (by rw [nI_clamp (by omega)]; exact hR.2.2.1 _ (by omega)) ?_
        refine aw_if_ne (tgt := 103) d_P_match_61 (by decide) (fun c_61 => ?_) (fun c_61 => ?_)
        · rw [w_eq0 (by omega)] at c_61
          have nz : ¬ (s.1 (ob u) = 0 ∧ s.2.1 (ob w) = 0) := fun q => c_61 q.2
          refine aw_aload_n d_P_match_103 rfl ?_
          refine aw_get fl_P_9 d_P_match_104 Mp.1 rfl ?_
          refine aw_iload d_P_match_107 rfl ?_
          refine aw_iald (x := nI (s.1 (ob u))) d_P_match_109 Mp.2.1 (vp_in_nI (by omega) (by omega)) (by rw [nI_clamp (by omega)]; exact hR.2.1 _ (by omega)) ?_
          refine aw_iload d_P_match_110 rfl ?_
          refine aw_icmp_ne (tgt := 119) d_P_match_112 (by decide) (fun c_112 => ?_) (fun c_112 => ?_)
          · rw [w_eq (by omega) (by omega)] at c_112
            refine aw_iconst (v := nI 0) d_P_match_119 (by decide) ?_
            exact aw_iret d_P_match_120 rfl nar0 ⟨by rw [pgo_n n1 n2 nz]; exact congrArg (fun z => some (Value.int z)) (bP_f (by simp only [decide_eq_true_eq]; first | exact ⟨c_112, by have y := (hg.2.1 (ob u) (by rw [c_112]; exact n2)).2.2.2; rw [c_112] at y; exact y⟩ | exact fun y => c_112 y.1)).symm, _, _, _, _, ⟨Mp.1, Mp.2.1, Mp.2.2.1, Mp.2.2.2⟩, by rw [pgo_n n1 n2 nz]; exact hR, frm.refl _⟩
          · rw [w_eq (by omega) (by omega)] at c_112
            refine aw_iconst (v := nI 1) d_P_match_115 (by decide) ?_
            refine aw_goto (tgt := 120) d_P_match_116 (by decide) ?_
            exact aw_iret d_P_match_120 rfl nar1 ⟨by rw [pgo_n n1 n2 nz]; exact congrArg (fun z => some (Value.int z)) (bP_t (by simp only [decide_eq_true_eq]; first | exact ⟨c_112, by have y := (hg.2.1 (ob u) (by rw [c_112]; exact n2)).2.2.2; rw [c_112] at y; exact y⟩ | exact fun y => c_112 y.1)).symm, _, _, _, _, ⟨Mp.1, Mp.2.1, Mp.2.2.1, Mp.2.2.2⟩, by rw [pgo_n n1 n2 nz]; exact hR, frm.refl _⟩
        · rw [w_eq0 (by omega)] at c_61
          have w_0 := c_61
          have hlt := hg.lt u_0 (by omega) (by omega)
          refine aw_aload_n d_P_match_64 rfl ?_
          refine aw_get fl_P_9 d_P_match_65 Mp.1 rfl ?_
          refine aw_iload d_P_match_68 rfl ?_
          refine aw_iload d_P_match_70 rfl ?_
          refine aw_iast (f' := upd fn (ob u) (nI (ob w))) d_P_match_72 Mp.2.1 (vp_in_nI (by omega) (by omega)) (by rw [nI_clamp (by omega)]) ?_
          obtain ⟨k_1, e_k_1⟩ : ∃ z, z = av_up h pa (.inl (0, pl, .inl (upd fn (ob u) (nI (ob w))))) := ⟨_, rfl⟩
          refine aw_heap (h' := k_1) e_k_1.symm ?_
          have g1_im : k_1 im = some (.inr (2, [.ref a0, .ref a1, .ref a2, .ref a3, .ref a4, .ref a5, .int (nI us), .int (nI (nn B)), .int (nI iw), .int (nI wp), .int (nI cp)])) := by rw [e_k_1, av_up_ne (fun z => NI_ pa (by simp) (by rw [← z]; simp))]; exact M.1
          have g1_a0 : k_1 a0 = some (.inl (0, 50, .inl f0)) := by rw [e_k_1, av_up_ne (fun z => NI_ pa (by simp) (by rw [← z]; simp))]; exact M.2.1
          have g1_a1 : k_1 a1 = some (.inl (0, cc, .inl f1)) := by rw [e_k_1, av_up_ne (fun z => NI_ pa (by simp) (by rw [← z]; simp))]; exact M.2.2.1
          have g1_a2 : k_1 a2 = some (.inl (0, cc, .inl f2)) := by rw [e_k_1, av_up_ne (fun z => NI_ pa (by simp) (by rw [← z]; simp))]; exact M.2.2.2.1
          have g1_a3 : k_1 a3 = some (.inl (0, cc, .inl f3)) := by rw [e_k_1, av_up_ne (fun z => NI_ pa (by simp) (by rw [← z]; simp))]; exact M.2.2.2.2.1
          have g1_a4 : k_1 a4 = some (.inl (0, cc, .inl f4)) := by rw [e_k_1, av_up_ne (fun z => NI_ pa (by simp) (by rw [← z]; simp))]; exact M.2.2.2.2.2.1
          have g1_a5 : k_1 a5 = some (.inl (0, pc, .inl f5)) := by rw [e_k_1, av_up_ne (fun z => NI_ pa (by simp) (by rw [← z]; simp))]; exact M.2.2.2.2.2.2
          have g1_jm : k_1 jm = some (.inr (2, [.ref c0, .ref c1, .ref c2, .ref c3, .ref c4, .ref c5, .int (nI du), .int (nI (nn D)), .int (nI jw), .int (nI wq), .int (nI cq)])) := by rw [e_k_1, av_up_ne (fun z => NJ_ pa (by simp) (by rw [← z]; simp))]; exact M2.1
          have g1_c0 : k_1 c0 = some (.inl (0, 50, .inl e0)) := by rw [e_k_1, av_up_ne (fun z => NJ_ pa (by simp) (by rw [← z]; simp))]; exact M2.2.1
          have g1_c1 : k_1 c1 = some (.inl (0, dc, .inl e1)) := by rw [e_k_1, av_up_ne (fun z => NJ_ pa (by simp) (by rw [← z]; simp))]; exact M2.2.2.1
          have g1_c2 : k_1 c2 = some (.inl (0, dc, .inl e2)) := by rw [e_k_1, av_up_ne (fun z => NJ_ pa (by simp) (by rw [← z]; simp))]; exact M2.2.2.2.1
          have g1_c3 : k_1 c3 = some (.inl (0, dc, .inl e3)) := by rw [e_k_1, av_up_ne (fun z => NJ_ pa (by simp) (by rw [← z]; simp))]; exact M2.2.2.2.2.1
          have g1_c4 : k_1 c4 = some (.inl (0, dc, .inl e4)) := by rw [e_k_1, av_up_ne (fun z => NJ_ pa (by simp) (by rw [← z]; simp))]; exact M2.2.2.2.2.2.1
          have g1_c5 : k_1 c5 = some (.inl (0, dq, .inl e5)) := by rw [e_k_1, av_up_ne (fun z => NJ_ pa (by simp) (by rw [← z]; simp))]; exact M2.2.2.2.2.2.2
          have g1_p : k_1 p = some (.inr (4, [.ref pa, .ref pb, .ref pq, .int (nI mn)])) := by rw [e_k_1, av_up_ne (av_apart' Mp.1 Mp.2.1)]; exact Mp.1
          have g1_pb : k_1 pb = some (.inl (0, pl, .inl fb)) := by rw [e_k_1, av_up_ne (Ne.symm Dp.1)]; exact Mp.2.2.1
          have g1_pq : k_1 pq = some (.inl (0, pl, .inl fq)) := by rw [e_k_1, av_up_ne (Ne.symm Dp.2.1)]; exact Mp.2.2.2
          have g1_pa : k_1 pa = some (.inl (0, pl, .inl (upd fn (ob u) (nI (ob w))))) := by rw [e_k_1]; exact av_up_self _ _ _
          refine aw_aload_n d_P_match_73 rfl ?_
          refine aw_get fl_P_15 d_P_match_74 g1_p rfl ?_
          refine aw_iload d_P_match_77 rfl ?_
          refine aw_iload d_P_match_79 rfl ?_
          refine aw_iast (f' := upd fb (ob w) (nI (ob u))) d_P_match_81 g1_pb (vp_in_nI (by omega) (by omega)) (by rw [nI_clamp (by omega)]) ?_
          obtain ⟨k_2, e_k_2⟩ : ∃ z, z = av_up k_1 pb (.inl (0, pl, .inl (upd fb (ob w) (nI (ob u))))) := ⟨_, rfl⟩
          refine aw_heap (h' := k_2) e_k_2.symm ?_
          have g2_im : k_2 im = some (.inr (2, [.ref a0, .ref a1, .ref a2, .ref a3, .ref a4, .ref a5, .int (nI us), .int (nI (nn B)), .int (nI iw), .int (nI wp), .int (nI cp)])) := by rw [e_k_2, av_up_ne (fun z => NI_ pb (by simp) (by rw [← z]; simp))]; exact g1_im
          have g2_a0 : k_2 a0 = some (.inl (0, 50, .inl f0)) := by rw [e_k_2, av_up_ne (fun z => NI_ pb (by simp) (by rw [← z]; simp))]; exact g1_a0
          have g2_a1 : k_2 a1 = some (.inl (0, cc, .inl f1)) := by rw [e_k_2, av_up_ne (fun z => NI_ pb (by simp) (by rw [← z]; simp))]; exact g1_a1
          have g2_a2 : k_2 a2 = some (.inl (0, cc, .inl f2)) := by rw [e_k_2, av_up_ne (fun z => NI_ pb (by simp) (by rw [← z]; simp))]; exact g1_a2
          have g2_a3 : k_2 a3 = some (.inl (0, cc, .inl f3)) := by rw [e_k_2, av_up_ne (fun z => NI_ pb (by simp) (by rw [← z]; simp))]; exact g1_a3
          have g2_a4 : k_2 a4 = some (.inl (0, cc, .inl f4)) := by rw [e_k_2, av_up_ne (fun z => NI_ pb (by simp) (by rw [← z]; simp))]; exact g1_a4
          have g2_a5 : k_2 a5 = some (.inl (0, pc, .inl f5)) := by rw [e_k_2, av_up_ne (fun z => NI_ pb (by simp) (by rw [← z]; simp))]; exact g1_a5
          have g2_jm : k_2 jm = some (.inr (2, [.ref c0, .ref c1, .ref c2, .ref c3, .ref c4, .ref c5, .int (nI du), .int (nI (nn D)), .int (nI jw), .int (nI wq), .int (nI cq)])) := by rw [e_k_2, av_up_ne (fun z => NJ_ pb (by simp) (by rw [← z]; simp))]; exact g1_jm
          have g2_c0 : k_2 c0 = some (.inl (0, 50, .inl e0)) := by rw [e_k_2, av_up_ne (fun z => NJ_ pb (by simp) (by rw [← z]; simp))]; exact g1_c0
          have g2_c1 : k_2 c1 = some (.inl (0, dc, .inl e1)) := by rw [e_k_2, av_up_ne (fun z => NJ_ pb (by simp) (by rw [← z]; simp))]; exact g1_c1
          have g2_c2 : k_2 c2 = some (.inl (0, dc, .inl e2)) := by rw [e_k_2, av_up_ne (fun z => NJ_ pb (by simp) (by rw [← z]; simp))]; exact g1_c2
          have g2_c3 : k_2 c3 = some (.inl (0, dc, .inl e3)) := by rw [e_k_2, av_up_ne (fun z => NJ_ pb (by simp) (by rw [← z]; simp))]; exact g1_c3
          have g2_c4 : k_2 c4 = some (.inl (0, dc, .inl e4)) := by rw [e_k_2, av_up_ne (fun z => NJ_ pb (by simp) (by rw [← z]; simp))]; exact g1_c4
          have g2_c5 : k_2 c5 = some (.inl (0, dq, .inl e5)) := by rw [e_k_2, av_up_ne (fun z => NJ_ pb (by simp) (by rw [← z]; simp))]; exact g1_c5
          have g2_p : k_2 p = some (.inr (4, [.ref pa, .ref pb, .ref pq, .int (nI mn)])) := by rw [e_k_2, av_up_ne (av_apart' g1_p g1_pb)]; exact g1_p
          have g2_pq : k_2 pq = some (.inl (0, pl, .inl fq)) := by rw [e_k_2, av_up_ne (Ne.symm Dp.2.2)]; exact g1_pq
          have g2_pa : k_2 pa = some (.inl (0, pl, .inl (upd fn (ob u) (nI (ob w))))) := by rw [e_k_2, av_up_ne Dp.1]; exact g1_pa
          have g2_pb : k_2 pb = some (.inl (0, pl, .inl (upd fb (ob w) (nI (ob u))))) := by rw [e_k_2]; exact av_up_self _ _ _
          refine aw_aload_n d_P_match_82 rfl ?_
          refine aw_get fl_P_18 d_P_match_83 g2_p rfl ?_
          refine aw_aload_n d_P_match_86 rfl ?_
          refine aw_get fl_P_41 d_P_match_87 g2_p rfl ?_
          refine aw_iload d_P_match_90 rfl ?_
          refine aw_iast (f' := upd fq mn (nI (ob u))) d_P_match_92 g2_pq (vp_in_nI (by omega) (by omega)) (by rw [nI_clamp (by omega)]) ?_
          obtain ⟨k_3, e_k_3⟩ : ∃ z, z = av_up k_2 pq (.inl (0, pl, .inl (upd fq mn (nI (ob u))))) := ⟨_, rfl⟩
          refine aw_heap (h' := k_3) e_k_3.symm ?_
          have g3_im : k_3 im = some (.inr (2, [.ref a0, .ref a1, .ref a2, .ref a3, .ref a4, .ref a5, .int (nI us), .int (nI (nn B)), .int (nI iw), .int (nI wp), .int (nI cp)])) := by rw [e_k_3, av_up_ne (fun z => NI_ pq (by simp) (by rw [← z]; simp))]; exact g2_im
          have g3_a0 : k_3 a0 = some (.inl (0, 50, .inl f0)) := by rw [e_k_3, av_up_ne (fun z => NI_ pq (by simp) (by rw [← z]; simp))]; exact g2_a0
          have g3_a1 : k_3 a1 = some (.inl (0, cc, .inl f1)) := by rw [e_k_3, av_up_ne (fun z => NI_ pq (by simp) (by rw [← z]; simp))]; exact g2_a1
          have g3_a2 : k_3 a2 = some (.inl (0, cc, .inl f2)) := by rw [e_k_3, av_up_ne (fun z => NI_ pq (by simp) (by rw [← z]; simp))]; exact g2_a2
          have g3_a3 : k_3 a3 = some (.inl (0, cc, .inl f3)) := by rw [e_k_3, av_up_ne (fun z => NI_ pq (by simp) (by rw [← z]; simp))]; exact g2_a3
          have g3_a4 : k_3 a4 = some (.inl (0, cc, .inl f4)) := by rw [e_k_3, av_up_ne (fun z => NI_ pq (by simp) (by rw [← z]; simp))]; exact g2_a4
          have g3_a5 : k_3 a5 = some (.inl (0, pc, .inl f5)) := by rw [e_k_3, av_up_ne (fun z => NI_ pq (by simp) (by rw [← z]; simp))]; exact g2_a5
          have g3_jm : k_3 jm = some (.inr (2, [.ref c0, .ref c1, .ref c2, .ref c3, .ref c4, .ref c5, .int (nI du), .int (nI (nn D)), .int (nI jw), .int (nI wq), .int (nI cq)])) := by rw [e_k_3, av_up_ne (fun z => NJ_ pq (by simp) (by rw [← z]; simp))]; exact g2_jm
          have g3_c0 : k_3 c0 = some (.inl (0, 50, .inl e0)) := by rw [e_k_3, av_up_ne (fun z => NJ_ pq (by simp) (by rw [← z]; simp))]; exact g2_c0
          have g3_c1 : k_3 c1 = some (.inl (0, dc, .inl e1)) := by rw [e_k_3, av_up_ne (fun z => NJ_ pq (by simp) (by rw [← z]; simp))]; exact g2_c1
          have g3_c2 : k_3 c2 = some (.inl (0, dc, .inl e2)) := by rw [e_k_3, av_up_ne (fun z => NJ_ pq (by simp) (by rw [← z]; simp))]; exact g2_c2
          have g3_c3 : k_3 c3 = some (.inl (0, dc, .inl e3)) := by rw [e_k_3, av_up_ne (fun z => NJ_ pq (by simp) (by rw [← z]; simp))]; exact g2_c3
          have g3_c4 : k_3 c4 = some (.inl (0, dc, .inl e4)) := by rw [e_k_3, av_up_ne (fun z => NJ_ pq (by simp) (by rw [← z]; simp))]; exact g2_c4
          have g3_c5 : k_3 c5 = some (.inl (0, dq, .inl e5)) := by rw [e_k_3, av_up_ne (fun z => NJ_ pq (by simp) (by rw [← z]; simp))]; exact g2_c5
          have g3_p : k_3 p = some (.inr (4, [.ref pa, .ref pb, .ref pq, .int (nI mn)])) := by rw [e_k_3, av_up_ne (av_apart' g2_p g2_pq)]; exact g2_p
          have g3_pa : k_3 pa = some (.inl (0, pl, .inl (upd fn (ob u) (nI (ob w))))) := by rw [e_k_3, av_up_ne Dp.2.1]; exact g2_pa
          have g3_pb : k_3 pb = some (.inl (0, pl, .inl (upd fb (ob w) (nI (ob u))))) := by rw [e_k_3, av_up_ne Dp.2.2]; exact g2_pb
          have g3_pq : k_3 pq = some (.inl (0, pl, .inl (upd fq mn (nI (ob u))))) := by rw [e_k_3]; exact av_up_self _ _ _
          refine aw_aload_n d_P_match_93 rfl ?_
          refine aw_dup d_P_match_94 rfl ?_
          refine aw_get fl_P_41 d_P_match_95 g3_p rfl ?_
          refine aw_iconst (v := nI 1) d_P_match_98 (by decide) ?_
          refine aw_iadd (v := nI (mn + 1)) d_P_match_99 (nI_add _ _) ?_
          refine aw_put (fs' := [.ref pa, .ref pb, .ref pq, .int (nI (mn + 1))]) (pt_P_41 _) d_P_match_100 g3_p rfl rfl (by simp) rfl ?_
          obtain ⟨k_4, e_k_4⟩ : ∃ z, z = av_up k_3 p (.inr (4, [.ref pa, .ref pb, .ref pq, .int (nI (mn + 1))])) := ⟨_, rfl⟩
          refine aw_heap (h' := k_4) e_k_4.symm ?_
          have g4_im : k_4 im = some (.inr (2, [.ref a0, .ref a1, .ref a2, .ref a3, .ref a4, .ref a5, .int (nI us), .int (nI (nn B)), .int (nI iw), .int (nI wp), .int (nI cp)])) := by rw [e_k_4, av_up_ne (fun z => NI_ p (by simp) (by rw [← z]; simp))]; exact g3_im
          have g4_a0 : k_4 a0 = some (.inl (0, 50, .inl f0)) := by rw [e_k_4, av_up_ne (fun z => NI_ p (by simp) (by rw [← z]; simp))]; exact g3_a0
          have g4_a1 : k_4 a1 = some (.inl (0, cc, .inl f1)) := by rw [e_k_4, av_up_ne (fun z => NI_ p (by simp) (by rw [← z]; simp))]; exact g3_a1
          have g4_a2 : k_4 a2 = some (.inl (0, cc, .inl f2)) := by rw [e_k_4, av_up_ne (fun z => NI_ p (by simp) (by rw [← z]; simp))]; exact g3_a2
          have g4_a3 : k_4 a3 = some (.inl (0, cc, .inl f3)) := by rw [e_k_4, av_up_ne (fun z => NI_ p (by simp) (by rw [← z]; simp))]; exact g3_a3
          have g4_a4 : k_4 a4 = some (.inl (0, cc, .inl f4)) := by rw [e_k_4, av_up_ne (fun z => NI_ p (by simp) (by rw [← z]; simp))]; exact g3_a4
          have g4_a5 : k_4 a5 = some (.inl (0, pc, .inl f5)) := by rw [e_k_4, av_up_ne (fun z => NI_ p (by simp) (by rw [← z]; simp))]; exact g3_a5
          have g4_jm : k_4 jm = some (.inr (2, [.ref c0, .ref c1, .ref c2, .ref c3, .ref c4, .ref c5, .int (nI du), .int (nI (nn D)), .int (nI jw), .int (nI wq), .int (nI cq)])) := by rw [e_k_4, av_up_ne (fun z => NJ_ p (by simp) (by rw [← z]; simp))]; exact g3_jm
          have g4_c0 : k_4 c0 = some (.inl (0, 50, .inl e0)) := by rw [e_k_4, av_up_ne (fun z => NJ_ p (by simp) (by rw [← z]; simp))]; exact g3_c0
          have g4_c1 : k_4 c1 = some (.inl (0, dc, .inl e1)) := by rw [e_k_4, av_up_ne (fun z => NJ_ p (by simp) (by rw [← z]; simp))]; exact g3_c1
          have g4_c2 : k_4 c2 = some (.inl (0, dc, .inl e2)) := by rw [e_k_4, av_up_ne (fun z => NJ_ p (by simp) (by rw [← z]; simp))]; exact g3_c2
          have g4_c3 : k_4 c3 = some (.inl (0, dc, .inl e3)) := by rw [e_k_4, av_up_ne (fun z => NJ_ p (by simp) (by rw [← z]; simp))]; exact g3_c3
          have g4_c4 : k_4 c4 = some (.inl (0, dc, .inl e4)) := by rw [e_k_4, av_up_ne (fun z => NJ_ p (by simp) (by rw [← z]; simp))]; exact g3_c4
          have g4_c5 : k_4 c5 = some (.inl (0, dq, .inl e5)) := by rw [e_k_4, av_up_ne (fun z => NJ_ p (by simp) (by rw [← z]; simp))]; exact g3_c5
          have g4_pa : k_4 pa = some (.inl (0, pl, .inl (upd fn (ob u) (nI (ob w))))) := by rw [e_k_4, av_up_ne (av_apart g3_pa g3_p)]; exact g3_pa
          have g4_pb : k_4 pb = some (.inl (0, pl, .inl (upd fb (ob w) (nI (ob u))))) := by rw [e_k_4, av_up_ne (av_apart g3_pb g3_p)]; exact g3_pb
          have g4_pq : k_4 pq = some (.inl (0, pl, .inl (upd fq mn (nI (ob u))))) := by rw [e_k_4, av_up_ne (av_apart g3_pq g3_p)]; exact g3_pq
          have g4_p : k_4 p = some (.inr (4, [.ref pa, .ref pb, .ref pq, .int (nI (mn + 1))])) := by rw [e_k_4]; exact av_up_self _ _ _
          refine aw_aload_n d_P_match_103 rfl ?_
          refine aw_get fl_P_9 d_P_match_104 g4_p rfl ?_
          refine aw_iload d_P_match_107 rfl ?_
          refine aw_iald (x := nI (ob w)) d_P_match_109 g4_pa (vp_in_nI (by omega) (by omega)) (by rw [nI_clamp (by omega)]; unfold upd; rw [if_pos rfl]) ?_
          refine aw_iload d_P_match_110 rfl ?_
          refine aw_icmp_ne (tgt := 119) d_P_match_112 (by decide) (fun c_112 => absurd c_112 (by exact fun z => z rfl)) (fun c_112 => ?_)
          try rw [w_eq (by omega) (by omega)] at c_112
          refine aw_iconst (v := nI 1) d_P_match_115 (by decide) ?_
          refine aw_goto (tgt := 120) d_P_match_116 (by decide) ?_
          exact aw_iret d_P_match_120 rfl nar1 ⟨by rw [pgo_y n1 n2 ⟨u_0, w_0⟩]; exact congrArg (fun z => some (Value.int z)) (bP_t (rfl)).symm, _, _, _, _, ⟨g4_p, g4_pa, g4_pb, g4_pq⟩, hR.y n1 n2 ⟨u_0, w_0⟩, (((((frm.refl [p, pa, pb, pq]).up e_k_1 (by simp)).up e_k_2 (by simp)).up e_k_3 (by simp)).up e_k_4 (by simp))⟩
    · rw [w_eq0 (by omega)] at c_22
      have z0 : ob u = 0 ∨ ob w = 0 := Or.inr c_22
      refine aw_iload d_P_match_25 rfl ?_
      refine aw_iload d_P_match_27 rfl ?_
      refine aw_icmp_ne (tgt := 42) d_P_match_29 (by decide) (fun c_29 => ?_) (fun c_29 => ?_)
      · rw [w_eq (by omega) (by omega)] at c_29
        refine aw_iconst (v := nI 0) d_P_match_42 (by decide) ?_
        exact aw_iret d_P_match_43 rfl nar0 ⟨by rw [pgo_0 z0]; exact congrArg (fun z => some (Value.int z)) (bP_f (by simp only [decide_eq_true_eq]; first | exact c_35 | (intro y; subst y; exact c_29 rfl))).symm, _, _, _, _, ⟨Mp.1, Mp.2.1, Mp.2.2.1, Mp.2.2.2⟩, by rw [pgo_0 z0]; exact hR, frm.refl _⟩
      · rw [w_eq (by omega) (by omega)] at c_29
        refine aw_iload_n d_P_match_32 rfl ?_
        refine aw_iload d_P_match_33 rfl ?_
        refine aw_icmp_ne (tgt := 42) d_P_match_35 (by decide) (fun c_35 => ?_) (fun c_35 => ?_)
        · rw [w_eq (by omega) (by omega)] at c_35
          refine aw_iconst (v := nI 0) d_P_match_42 (by decide) ?_
          exact aw_iret d_P_match_43 rfl nar0 ⟨by rw [pgo_0 z0]; exact congrArg (fun z => some (Value.int z)) (bP_f (by simp only [decide_eq_true_eq]; first | exact c_35 | (intro y; subst y; exact c_29 rfl))).symm, _, _, _, _, ⟨Mp.1, Mp.2.1, Mp.2.2.1, Mp.2.2.2⟩, by rw [pgo_0 z0]; exact hR, frm.refl _⟩
        · rw [w_eq (by omega) (by omega)] at c_35
          refine aw_iconst (v := nI 1) d_P_match_38 (by decide) ?_
          refine aw_goto (tgt := 43) d_P_match_39 (by decide) ?_
          exact aw_iret d_P_match_43 rfl nar1 ⟨by rw [pgo_0 z0]; exact congrArg (fun z => some (Value.int z)) (bP_t (by simp only [decide_eq_true_eq]; first | exact c_35 | (intro y; subst y; exact c_29 rfl))).symm, _, _, _, _, ⟨Mp.1, Mp.2.1, Mp.2.2.1, Mp.2.2.2⟩, by rw [pgo_0 z0]; exact hR, frm.refl _⟩

set_option maxHeartbeats 4000000 in
theorem lp_P_matchBodies {tb : Nat → Nat} {h : AH} {fr lo : Nat} {mc ms : Nat} (hfr : 3 ≤ fr) (hlo : 68 ≤ lo) {im a0 a1 a2 a3 a4 a5 cc pc us iw wp cp : Nat} {B : Nat → Nat} {f0 f1 f2 f3 f4 f5 : Nat → Int32} (V : IV B f0 f1 f2 f3 f4 f5 cc pc) (L : LX B) (hB_ : ∀ i, B i < 256) (hcc : cc ≤ 1048576) (hpc : pc ≤ 1048576) {jm c0 c1 c2 c3 c4 c5 dc dq du jw wq cq : Nat} {D : Nat → Nat} {e0 e1 e2 e3 e4 e5 : Nat → Int32} (V2 : IV D e0 e1 e2 e3 e4 e5 dc dq) (L2 : LX D) (hD_ : ∀ i, D i < 256) (hdc : dc ≤ 1048576) (hdq : dq ≤ 1048576) {p pa pb pq pl : Nat} (Dp : pND pa pb pq) (NI_ : ∀ x ∈ [p, pa, pb, pq], x ∉ [im, a0, a1, a2, a3, a4, a5]) (NJ_ : ∀ x ∈ [p, pa, pb, pq], x ∉ [jm, c0, c1, c2, c3, c4, c5]) (hNl : nn B < pl) (hKl : nn D < pl) (hpl : pl ≤ 1048576) {s : PS} (hs : pgd (nn B) (nn D) s) (k l : Nat) (q1 : 1 ≤ k) (q2 : k ≤ nn B) (q3 : 1 ≤ l) (q4 : l ≤ nn D) (ekd : kd B k = kd D l) (esz : sz B k = sz D l) : ∀ (d : Nat) (i : Nat) (g : AH) (fn fb fq : Nat → Int32) (mn : Nat), pkS g p pa pb pq pl mn fn fb fq → iS g im a0 a1 a2 a3 a4 a5 cc pc us (nn B) iw wp cp f0 f1 f2 f3 f4 f5 → iS g jm c0 c1 c2 c3 c4 c5 dc dq du (nn D) jw wq cq e0 e1 e2 e3 e4 e5 → frm [p, pa, pb, pq] [p, pa, pb, pq] h g → i ≤ sz B k → (gfd B D s k l i).2 = true → RPx (nn B) (nn D) (gfd B D s k l i).1 fn fb fq mn → sz B k < i + d → AW tb "ImageReader$Pairing" b_P_matchBodies 9 (some .boolean) false none fr lo (fun v h' => v = some (.int (bP ((gbo B D s k l).2 = true))) ∧ ∃ fn' fb' fq' mn', pkS h' p pa pb pq pl mn' fn' fb' fq' ∧ ((gbo B D s k l).2 = true → RPx (nn B) (nn D) (gbo B D s k l).1 fn' fb' fq' mn') ∧ frm [p, pa, pb, pq] [p, pa, pb, pq] h h') 76 [some (.ref p), some (.ref im), some (.int (nI k)), some (.ref jm), some (.int (nI l)), some (.int (bP (kd B k = 1))), some (.int (nI i)), none, none] [] g mc ms := by
  intro d
  induction d with
  | zero => intro i g fn fb fq mn gP gM gN_ gT hi hok hR hd; omega
  | succ d ih =>
    intro i g fn fb fq mn gP gM gN_ gT hi hok hR hd
    have nV_im := V.1
    have nL_im := L.1
    have nV_jm := V2.1
    have nL_jm := L2.1
    have zk := sz_lt hB_ k
    refine aw_iload d_P_matchBodies_76 rfl ?_
    refine aw_aload_n d_P_matchBodies_78 rfl ?_
    refine aw_get fl_P_72 d_P_matchBodies_79 gM.1 rfl ?_
    refine aw_iload_n d_P_matchBodies_82 rfl ?_
    refine aw_iald (x := nI (sz B k)) d_P_matchBodies_83 gM.2.2.2.2.1 (vp_in_nI (by omega) (by omega)) (by rw [nI_clamp (by omega)]; exact (V.2.2 k (by omega) (by omega)).2.2.1) ?_
    have b_83 := sz_lt hB_ k
    refine aw_icmp_ge (tgt := 156) d_P_matchBodies_84 (by decide) (fun c_84 => ?_) (fun c_84 => ?_)
    · rw [nI_leI (by omega) (by omega)] at c_84
      refine aw_iconst (v := nI 1) d_P_matchBodies_156 (by decide) ?_
      exact aw_iret d_P_matchBodies_157 rfl nar1 ⟨by rw [bP_t (show (gbo B D s k l).2 = true from by unfold gbo; rw [show sz B k = i by omega]; exact hok)], fn, fb, fq, mn, gP, fun _ => (by unfold gbo; rw [show sz B k = i by omega]; exact hR), gT⟩
    · rw [nI_leI (by omega) (by omega)] at c_84
      by_cases ck : kd B k = 1
      · have ck2 : kd D l = 1 := by rw [← ekd]; exact ck
        refine aw_aload_n d_P_matchBodies_87 rfl ?_
        refine aw_get fl_P_75 d_P_matchBodies_88 gM.1 rfl ?_
        refine aw_aload_n d_P_matchBodies_91 rfl ?_
        refine aw_get fl_P_78 d_P_matchBodies_92 gM.1 rfl ?_
        refine aw_iload_n d_P_matchBodies_95 rfl ?_
        refine aw_iald (x := nI (ps B k)) d_P_matchBodies_96 gM.2.2.2.2.2.1 (vp_in_nI (by omega) (by omega)) (by rw [nI_clamp (by omega)]; exact (V.2.2 k (by omega) (by omega)).2.2.2.1) ?_
        have b_96 := (V.2.2 k (by omega) (by omega)).2.2.2.2.1
        have b2_96 := sz_lt hB_ k
        refine aw_iload d_P_matchBodies_97 rfl ?_
        refine aw_iadd (v := nI (ps B k + i)) d_P_matchBodies_99 (nI_add _ _) ?_
        refine aw_iald (x := nI (bt B k i)) d_P_matchBodies_100 gM.2.2.2.2.2.2 (vp_in_nI (by omega) (by omega)) (by rw [nI_clamp (by omega), (V.2.2 k (by omega) (by omega)).2.2.2.2.2 i (by omega)]; unfold prt; rw [if_pos ck]) ?_
        have b_100 := hB_ (oa B k + 7 + i)
        refine aw_istore (L' := [some (.ref p), some (.ref im), some (.int (nI k)), some (.ref jm), some (.int (nI l)), some (.int (bP (kd B k = 1))), some (.int (nI i)), some (.int (nI (bt B k i))), none]) d_P_matchBodies_101 (by decide) rfl rfl ?_
        refine aw_aload_n d_P_matchBodies_103 rfl ?_
        refine aw_get fl_P_75 d_P_matchBodies_104 gN_.1 rfl ?_
        refine aw_aload_n d_P_matchBodies_107 rfl ?_
        refine aw_get fl_P_78 d_P_matchBodies_108 gN_.1 rfl ?_
        refine aw_iload d_P_matchBodies_111 rfl ?_
        refine aw_iald (x := nI (ps D l)) d_P_matchBodies_113 gN_.2.2.2.2.2.1 (vp_in_nI (by omega) (by omega)) (by rw [nI_clamp (by omega)]; exact (V2.2.2 l (by omega) (by omega)).2.2.2.1) ?_
        have b_113 := (V2.2.2 l (by omega) (by omega)).2.2.2.2.1
        have b2_113 := sz_lt hD_ l
        refine aw_iload d_P_matchBodies_114 rfl ?_
        refine aw_iadd (v := nI (ps D l + i)) d_P_matchBodies_116 (nI_add _ _) ?_
        refine aw_iald (x := nI (bt D l i)) d_P_matchBodies_117 gN_.2.2.2.2.2.2 (vp_in_nI (by omega) (by omega)) (by rw [nI_clamp (by omega), (V2.2.2 l (by omega) (by omega)).2.2.2.2.2 i (by omega)]; unfold prt; rw [if_pos ck2]) ?_
        have b_117 := hD_ (oa D l + 7 + i)
        refine aw_istore (L' := [some (.ref p), some (.ref im), some (.int (nI k)), some (.ref jm), some (.int (nI l)), some (.int (bP (kd B k = 1))), some (.int (nI i)), some (.int (nI (bt B k i))), some (.int (nI (bt D l i)))]) d_P_matchBodies_118 (by decide) rfl rfl ?_
        refine aw_iload d_P_matchBodies_120 rfl ?_
        refine aw_if_eq (tgt := 135) d_P_matchBodies_122 (by decide) (fun c_122 => absurd c_122 (by rw [bP_eq0]; exact fun z => z ck)) (fun c_122 => ?_)
        try rw [bP_eq0, Classical.not_not] at c_122
        refine aw_iload d_P_matchBodies_125 rfl ?_
        refine aw_iload d_P_matchBodies_127 rfl ?_
        refine aw_icmp_eq (tgt := 150) d_P_matchBodies_129 (by decide) (fun c_129 => ?_) (fun c_129 => ?_)
        · rw [w_eq (show bt B k i < 4294967296 from Nat.lt_trans (hB_ _) (by decide)) (show bt D l i < 4294967296 from Nat.lt_trans (hD_ _) (by decide))] at c_129
          refine aw_iinc (v := nI (i + 1)) (L' := [some (.ref p), some (.ref im), some (.int (nI k)), some (.ref jm), some (.int (nI l)), some (.int (bP (kd B k = 1))), some (.int (nI (i + 1))), some (.int (nI (bt B k i))), some (.int (nI (bt D l i)))]) d_P_matchBodies_150 rfl (nI_add i 1) (by decide) rfl rfl ?_
          refine aw_goto (tgt := 76) d_P_matchBodies_153 (by decide) ?_
          refine aw_loc (L' := [some (.ref p), some (.ref im), some (.int (nI k)), some (.ref jm), some (.int (nI l)), some (.int (bP (kd B k = 1))), some (.int (nI (i + 1))), none, none]) (by intro j v hv; match j, hv with | 0, hv => exact hv | 1, hv => exact hv | 2, hv => exact hv | 3, hv => exact hv | 4, hv => exact hv | 5, hv => exact hv | 6, hv => exact hv | 7, hv => cases hv | 8, hv => cases hv | j + 9, hv => cases hv) ?_
          exact ih (i + 1) _ _ _ _ _ ⟨gP.1, gP.2.1, gP.2.2.1, gP.2.2.2⟩ gM gN_ gT (by omega) (by rw [gfd_b hok ck]; simp only [decide_eq_true_eq]; exact c_129) (by rw [gfd_b hok ck]; exact hR) (by omega)
        · rw [w_eq (show bt B k i < 4294967296 from Nat.lt_trans (hB_ _) (by decide)) (show bt D l i < 4294967296 from Nat.lt_trans (hD_ _) (by decide))] at c_129
          refine aw_goto (tgt := 148) d_P_matchBodies_132 (by decide) ?_
          refine aw_iconst (v := nI 0) d_P_matchBodies_148 (by decide) ?_
          exact aw_iret d_P_matchBodies_149 rfl nar0 ⟨by rw [bP_f (show ¬ (gbo B D s k l).2 = true from by unfold gbo; rw [show sz B k = (i + 1) + (sz B k - (i + 1)) by omega, gfd_stop (by rw [gfd_b hok ck]; simp only [decide_eq_true_eq]; exact c_129)]; rw [gfd_b hok ck]; simp only [decide_eq_true_eq]; exact c_129)], _, _, _, _, ⟨gP.1, gP.2.1, gP.2.2.1, gP.2.2.2⟩, fun y => absurd y (by unfold gbo; rw [show sz B k = (i + 1) + (sz B k - (i + 1)) by omega, gfd_stop (by rw [gfd_b hok ck]; simp only [decide_eq_true_eq]; exact c_129)]; rw [gfd_b hok ck]; simp only [decide_eq_true_eq]; exact c_129), gT⟩
      · have ck2 : ¬ kd D l = 1 := by rw [← ekd]; exact ck
        refine aw_aload_n d_P_matchBodies_87 rfl ?_
        refine aw_get fl_P_75 d_P_matchBodies_88 gM.1 rfl ?_
        refine aw_aload_n d_P_matchBodies_91 rfl ?_
        refine aw_get fl_P_78 d_P_matchBodies_92 gM.1 rfl ?_
        refine aw_iload_n d_P_matchBodies_95 rfl ?_
        refine aw_iald (x := nI (ps B k)) d_P_matchBodies_96 gM.2.2.2.2.2.1 (vp_in_nI (by omega) (by omega)) (by rw [nI_clamp (by omega)]; exact (V.2.2 k (by omega) (by omega)).2.2.2.1) ?_
        have b_96 := (V.2.2 k (by omega) (by omega)).2.2.2.2.1
        have b2_96 := sz_lt hB_ k
        refine aw_iload d_P_matchBodies_97 rfl ?_
        refine aw_iadd (v := nI (ps B k + i)) d_P_matchBodies_99 (nI_add _ _) ?_
        refine aw_iald (x := nI (fd B k i)) d_P_matchBodies_100 gM.2.2.2.2.2.2 (vp_in_nI (by omega) (by omega)) (by rw [nI_clamp (by omega), (V.2.2 k (by omega) (by omega)).2.2.2.2.2 i (by omega)]; unfold prt; rw [if_neg ck]) ?_
        have b_100 := fd_lt hB_ k i
        refine aw_istore (L' := [some (.ref p), some (.ref im), some (.int (nI k)), some (.ref jm), some (.int (nI l)), some (.int (bP (kd B k = 1))), some (.int (nI i)), some (.int (nI (fd B k i))), none]) d_P_matchBodies_101 (by decide) rfl rfl ?_
        refine aw_aload_n d_P_matchBodies_103 rfl ?_
        refine aw_get fl_P_75 d_P_matchBodies_104 gN_.1 rfl ?_
        refine aw_aload_n d_P_matchBodies_107 rfl ?_
        refine aw_get fl_P_78 d_P_matchBodies_108 gN_.1 rfl ?_
        refine aw_iload d_P_matchBodies_111 rfl ?_
        refine aw_iald (x := nI (ps D l)) d_P_matchBodies_113 gN_.2.2.2.2.2.1 (vp_in_nI (by omega) (by omega)) (by rw [nI_clamp (by omega)]; exact (V2.2.2 l (by omega) (by omega)).2.2.2.1) ?_
        have b_113 := (V2.2.2 l (by omega) (by omega)).2.2.2.2.1
        have b2_113 := sz_lt hD_ l
        refine aw_iload d_P_matchBodies_114 rfl ?_
        refine aw_iadd (v := nI (ps D l + i)) d_P_matchBodies_116 (nI_add _ _) ?_
        refine aw_iald (x := nI (fd D l i)) d_P_matchBodies_117 gN_.2.2.2.2.2.2 (vp_in_nI (by omega) (by omega)) (by rw [nI_clamp (by omega), (V2.2.2 l (by omega) (by omega)).2.2.2.2.2 i (by omega)]; unfold prt; rw [if_neg ck2]) ?_
        have b_117 := fd_lt hD_ l i
        refine aw_istore (L' := [some (.ref p), some (.ref im), some (.int (nI k)), some (.ref jm), some (.int (nI l)), some (.int (bP (kd B k = 1))), some (.int (nI i)), some (.int (nI (fd B k i))), some (.int (nI (fd D l i)))]) d_P_matchBodies_118 (by decide) rfl rfl ?_
        refine aw_iload d_P_matchBodies_120 rfl ?_
        refine aw_if_eq (tgt := 135) d_P_matchBodies_122 (by decide) (fun c_122 => ?_) (fun c_122 => absurd c_122 (by rw [bP_eq0, Classical.not_not]; exact ck))
        try rw [bP_eq0] at c_122
        refine aw_aload_n d_P_matchBodies_135 rfl ?_
        refine aw_aload_n d_P_matchBodies_136 rfl ?_
        refine aw_iload d_P_matchBodies_137 rfl ?_
        refine aw_aload_n d_P_matchBodies_139 rfl ?_
        refine aw_iload d_P_matchBodies_140 rfl ?_
        refine aw_callV (mc2 := mc) (ms2 := ms) (As := [.ref im, .int (nI (fd B k i)), .ref jm, .int (nI (fd D l i))]) (rest := []) (c_P_match ⟨gM.1, gM.2.1, gM.2.2.1, gM.2.2.2.1, gM.2.2.2.2.1, gM.2.2.2.2.2.1, gM.2.2.2.2.2.2⟩ V L hB_ hcc hpc ⟨gN_.1, gN_.2.1, gN_.2.2.1, gN_.2.2.2.1, gN_.2.2.2.2.1, gN_.2.2.2.2.2.1, gN_.2.2.2.2.2.2⟩ V2 L2 hD_ hdc hdq ⟨gP.1, gP.2.1, gP.2.2.1, gP.2.2.2⟩ Dp NI_ NJ_ hNl hKl hpl (gfdx_gd L L2 hs q1 q2 q3 q4 i hi) hR (fd B k i) (fd D l i) (by omega) (L.f q1 q2 ck (by omega)) (by omega) (L2.f q3 q4 ck2 (by omega))) cv_P_37 d_P_matchBodies_142 gP.1 rfl rfl rfl (Nat.le_of_ble_eq_true rfl) (Nat.le_trans (by decide) hfr) (Nat.le_trans (by decide) hlo) (by omega) (by omega) (fun v_142 k_142c q_142 => ?_)
        obtain ⟨y1_142, fn_142, fb_142, fq_142, mn_142, y2_142, y3_142, y4_142⟩ := q_142
        refine aw_st (st' := .int (bP ((pgo ((gfd B D s k l i).1) (fd B k i) (fd D l i)).2 = true)) :: []) (by rw [y1_142]; rfl) ?_
        have MI_142 := gM.fr y4_142 NI_
        have MJ_142 := gN_.fr y4_142 NJ_
        refine aw_if_ne (tgt := 150) d_P_matchBodies_145 (by decide) (fun c_145 => ?_) (fun c_145 => ?_)
        · rw [bP_eq0, Classical.not_not] at c_145
          refine aw_iinc (v := nI (i + 1)) (L' := [some (.ref p), some (.ref im), some (.int (nI k)), some (.ref jm), some (.int (nI l)), some (.int (bP (kd B k = 1))), some (.int (nI (i + 1))), some (.int (nI (fd B k i))), some (.int (nI (fd D l i)))]) d_P_matchBodies_150 rfl (nI_add i 1) (by decide) rfl rfl ?_
          refine aw_goto (tgt := 76) d_P_matchBodies_153 (by decide) ?_
          refine aw_loc (L' := [some (.ref p), some (.ref im), some (.int (nI k)), some (.ref jm), some (.int (nI l)), some (.int (bP (kd B k = 1))), some (.int (nI (i + 1))), none, none]) (by intro j v hv; match j, hv with | 0, hv => exact hv | 1, hv => exact hv | 2, hv => exact hv | 3, hv => exact hv | 4, hv => exact hv | 5, hv => exact hv | 6, hv => exact hv | 7, hv => cases hv | 8, hv => cases hv | j + 9, hv => cases hv) ?_
          exact ih (i + 1) _ _ _ _ _ ⟨y2_142.1, y2_142.2.1, y2_142.2.2.1, y2_142.2.2.2⟩ MI_142 MJ_142 (gT.tr y4_142) (by omega) (by rw [gfd_f hok ck]; exact c_145) (by rw [gfd_f hok ck]; exact y3_142) (by omega)
        · rw [bP_eq0] at c_145
          refine aw_iconst (v := nI 0) d_P_matchBodies_148 (by decide) ?_
          exact aw_iret d_P_matchBodies_149 rfl nar0 ⟨by rw [bP_f (show ¬ (gbo B D s k l).2 = true from by unfold gbo; rw [show sz B k = (i + 1) + (sz B k - (i + 1)) by omega, gfd_stop (by rw [gfd_f hok ck]; exact c_145)]; rw [gfd_f hok ck]; exact c_145)], _, _, _, _, ⟨y2_142.1, y2_142.2.1, y2_142.2.2.1, y2_142.2.2.2⟩, fun y => absurd y (by unfold gbo; rw [show sz B k = (i + 1) + (sz B k - (i + 1)) by omega, gfd_stop (by rw [gfd_f hok ck]; exact c_145)]; rw [gfd_f hok ck]; exact c_145), (gT.tr y4_142)⟩

set_option maxHeartbeats 4000000 in
theorem c_P_matchBodies {tb : Nat → Nat} {h : AH} {im a0 a1 a2 a3 a4 a5 cc pc us iw wp cp : Nat} {B : Nat → Nat} {f0 f1 f2 f3 f4 f5 : Nat → Int32} (M : iS h im a0 a1 a2 a3 a4 a5 cc pc us (nn B) iw wp cp f0 f1 f2 f3 f4 f5) (V : IV B f0 f1 f2 f3 f4 f5 cc pc) (L : LX B) (hB_ : ∀ i, B i < 256) (hcc : cc ≤ 1048576) (hpc : pc ≤ 1048576) {jm c0 c1 c2 c3 c4 c5 dc dq du jw wq cq : Nat} {D : Nat → Nat} {e0 e1 e2 e3 e4 e5 : Nat → Int32} (M2 : iS h jm c0 c1 c2 c3 c4 c5 dc dq du (nn D) jw wq cq e0 e1 e2 e3 e4 e5) (V2 : IV D e0 e1 e2 e3 e4 e5 dc dq) (L2 : LX D) (hD_ : ∀ i, D i < 256) (hdc : dc ≤ 1048576) (hdq : dq ≤ 1048576) {p pa pb pq pl mn : Nat} {fn fb fq : Nat → Int32} (Mp : pkS h p pa pb pq pl mn fn fb fq) (Dp : pND pa pb pq) (NI_ : ∀ x ∈ [p, pa, pb, pq], x ∉ [im, a0, a1, a2, a3, a4, a5]) (NJ_ : ∀ x ∈ [p, pa, pb, pq], x ∉ [jm, c0, c1, c2, c3, c4, c5]) {s : PS} (hNl : nn B < pl) (hKl : nn D < pl) (hpl : pl ≤ 1048576) (hs : pgd (nn B) (nn D) s) (hR : RPx (nn B) (nn D) s fn fb fq mn) (k l : Nat) (q1 : 1 ≤ k) (q2 : k ≤ nn B) (q3 : 1 ≤ l) (q4 : l ≤ nn D) : AM tb y_P_matchBodies b_P_matchBodies 9 (some .boolean) 3 68 [.ref p, .ref im, .int (nI k), .ref jm, .int (nI l)] h 0 0 (fun v h' => v = some (.int (bP ((gbo B D s k l).2 = true))) ∧ ∃ fn' fb' fq' mn', pkS h' p pa pb pq pl mn' fn' fb' fq' ∧ ((gbo B D s k l).2 = true → RPx (nn B) (nn D) (gbo B D s k l).1 fn' fb' fq' mn') ∧ frm [p, pa, pb, pq] [p, pa, pb, pq] h h') := by
  have nV_im := V.1
  have nL_im := L.1
  have nV_jm := V2.1
  have nL_jm := L2.1
  refine am_of (ini := false) [some (.ref p), some (.ref im), some (.int (nI k)), some (.ref jm), some (.int (nI l)), none, none, none, none] (by decide) (fun z => by cases z) (Nat.le_of_ble_eq_true rfl) rfl ?_
  refine aw_aload_n d_P_matchBodies_0 rfl ?_
  refine aw_get fl_P_69 d_P_matchBodies_1 M.1 rfl ?_
  refine aw_iload_n d_P_matchBodies_4 rfl ?_
  refine aw_iald (x := nI (kd B k)) d_P_matchBodies_5 M.2.2.2.1 (vp_in_nI (by omega) (by omega)) (by rw [nI_clamp (by omega)]; exact (V.2.2 k (by omega) (by omega)).2.1) ?_
  have b_5 := L.k2 (k := k) (by omega) (by omega)
  refine aw_aload_n d_P_matchBodies_6 rfl ?_
  refine aw_get fl_P_69 d_P_matchBodies_7 M2.1 rfl ?_
  refine aw_iload d_P_matchBodies_10 rfl ?_
  refine aw_iald (x := nI (kd D l)) d_P_matchBodies_12 M2.2.2.2.1 (vp_in_nI (by omega) (by omega)) (by rw [nI_clamp (by omega)]; exact (V2.2.2 l (by omega) (by omega)).2.1) ?_
  have b_12 := L2.k2 (k := l) (by omega) (by omega)
  refine aw_icmp_ne (tgt := 54) d_P_matchBodies_13 (by decide) (fun c_13 => ?_) (fun c_13 => ?_)
  · rw [w_eq (by omega) (by omega)] at c_13
    refine aw_iconst (v := nI 0) d_P_matchBodies_54 (by decide) ?_
    exact aw_iret d_P_matchBodies_55 rfl nar0 ⟨by rw [bP_f (show ¬ (gbo B D s k l).2 = true from by have y0 : ¬ (gfd B D s k l 0).2 = true := (by rw [gfd_0t]; intro y; first | exact c_13 y.2.1 | exact c_29 y.2.2 | exact c_51 y.1); unfold gbo; rw [show sz B k = 0 + sz B k by omega, gfd_stop y0]; exact y0)], _, _, _, _, ⟨Mp.1, Mp.2.1, Mp.2.2.1, Mp.2.2.2⟩, fun y => absurd y (by have y0 : ¬ (gfd B D s k l 0).2 = true := (by rw [gfd_0t]; intro y; first | exact c_13 y.2.1 | exact c_29 y.2.2 | exact c_51 y.1); unfold gbo; rw [show sz B k = 0 + sz B k by omega, gfd_stop y0]; exact y0), (frm.refl [p, pa, pb, pq])⟩
  · rw [w_eq (by omega) (by omega)] at c_13
    refine aw_aload_n d_P_matchBodies_16 rfl ?_
    refine aw_get fl_P_72 d_P_matchBodies_17 M.1 rfl ?_
    refine aw_iload_n d_P_matchBodies_20 rfl ?_
    refine aw_iald (x := nI (sz B k)) d_P_matchBodies_21 M.2.2.2.2.1 (vp_in_nI (by omega) (by omega)) (by rw [nI_clamp (by omega)]; exact (V.2.2 k (by omega) (by omega)).2.2.1) ?_
    have b_21 := sz_lt hB_ k
    refine aw_aload_n d_P_matchBodies_22 rfl ?_
    refine aw_get fl_P_72 d_P_matchBodies_23 M2.1 rfl ?_
    refine aw_iload d_P_matchBodies_26 rfl ?_
    refine aw_iald (x := nI (sz D l)) d_P_matchBodies_28 M2.2.2.2.2.1 (vp_in_nI (by omega) (by omega)) (by rw [nI_clamp (by omega)]; exact (V2.2.2 l (by omega) (by omega)).2.2.1) ?_
    have b_28 := sz_lt hD_ l
    refine aw_icmp_ne (tgt := 54) d_P_matchBodies_29 (by decide) (fun c_29 => ?_) (fun c_29 => ?_)
    · rw [w_eq (by omega) (by omega)] at c_29
      refine aw_iconst (v := nI 0) d_P_matchBodies_54 (by decide) ?_
      exact aw_iret d_P_matchBodies_55 rfl nar0 ⟨by rw [bP_f (show ¬ (gbo B D s k l).2 = true from by have y0 : ¬ (gfd B D s k l 0).2 = true := (by rw [gfd_0t]; intro y; first | exact c_13 y.2.1 | exact c_29 y.2.2 | exact c_51 y.1); unfold gbo; rw [show sz B k = 0 + sz B k by omega, gfd_stop y0]; exact y0)], _, _, _, _, ⟨Mp.1, Mp.2.1, Mp.2.2.1, Mp.2.2.2⟩, fun y => absurd y (by have y0 : ¬ (gfd B D s k l 0).2 = true := (by rw [gfd_0t]; intro y; first | exact c_13 y.2.1 | exact c_29 y.2.2 | exact c_51 y.1); unfold gbo; rw [show sz B k = 0 + sz B k by omega, gfd_stop y0]; exact y0), (frm.refl [p, pa, pb, pq])⟩
    · rw [w_eq (by omega) (by omega)] at c_29
      refine aw_aload_n d_P_matchBodies_32 rfl ?_
      refine aw_aload_n d_P_matchBodies_33 rfl ?_
      refine aw_aload_n d_P_matchBodies_34 rfl ?_
      refine aw_get fl_P_50 d_P_matchBodies_35 M.1 rfl ?_
      refine aw_iload_n d_P_matchBodies_38 rfl ?_
      refine aw_iald (x := nI (cl B k)) d_P_matchBodies_39 M.2.2.1 (vp_in_nI (by omega) (by omega)) (by rw [nI_clamp (by omega)]; exact (V.2.2 k (by omega) (by omega)).1) ?_
      have b_39 := cl_lt hB_ k
      refine aw_aload_n d_P_matchBodies_40 rfl ?_
      refine aw_aload_n d_P_matchBodies_41 rfl ?_
      refine aw_get fl_P_50 d_P_matchBodies_42 M2.1 rfl ?_
      refine aw_iload d_P_matchBodies_45 rfl ?_
      refine aw_iald (x := nI (cl D l)) d_P_matchBodies_47 M2.2.2.1 (vp_in_nI (by omega) (by omega)) (by rw [nI_clamp (by omega)]; exact (V2.2.2 l (by omega) (by omega)).1) ?_
      have b_47 := cl_lt hD_ l
      refine aw_callV (mc2 := 0) (ms2 := 0) (As := [.ref im, .int (nI (cl B k)), .ref jm, .int (nI (cl D l))]) (rest := []) (c_P_match ⟨M.1, M.2.1, M.2.2.1, M.2.2.2.1, M.2.2.2.2.1, M.2.2.2.2.2.1, M.2.2.2.2.2.2⟩ V L hB_ hcc hpc ⟨M2.1, M2.2.1, M2.2.2.1, M2.2.2.2.1, M2.2.2.2.2.1, M2.2.2.2.2.2.1, M2.2.2.2.2.2.2⟩ V2 L2 hD_ hdc hdq ⟨Mp.1, Mp.2.1, Mp.2.2.1, Mp.2.2.2⟩ Dp NI_ NJ_ hNl hKl hpl hs hR (cl B k) (cl D l) (by omega) ((L.2.2 _ q1 q2).1) (by omega) ((L2.2.2 _ q3 q4).1)) cv_P_37 d_P_matchBodies_48 Mp.1 rfl rfl rfl (Nat.le_of_ble_eq_true rfl) (by decide) (by decide) (by omega) (by omega) (fun v_48 k_48c q_48 => ?_)
      obtain ⟨y1_48, fn_48, fb_48, fq_48, mn_48, y2_48, y3_48, y4_48⟩ := q_48
      refine aw_st (st' := .int (bP ((pgo (s) (cl B k) (cl D l)).2 = true)) :: []) (by rw [y1_48]; rfl) ?_
      have MI_48 := M.fr y4_48 NI_
      have MJ_48 := M2.fr y4_48 NJ_
      refine aw_if_ne (tgt := 56) d_P_matchBodies_51 (by decide) (fun c_51 => ?_) (fun c_51 => ?_)
      · rw [bP_eq0, Classical.not_not] at c_51
        refine aw_aload_n d_P_matchBodies_56 rfl ?_
        refine aw_get fl_P_69 d_P_matchBodies_57 MI_48.1 rfl ?_
        refine aw_iload_n d_P_matchBodies_60 rfl ?_
        refine aw_iald (x := nI (kd B k)) d_P_matchBodies_61 MI_48.2.2.2.1 (vp_in_nI (by omega) (by omega)) (by rw [nI_clamp (by omega)]; exact (V.2.2 k (by omega) (by omega)).2.1) ?_
        have b_61 := L.k2 (k := k) (by omega) (by omega)
        refine aw_iconst (v := nI 1) d_P_matchBodies_62 (by decide) ?_
        refine aw_icmp_ne (tgt := 70) d_P_matchBodies_63 (by decide) (fun c_63 => ?_) (fun c_63 => ?_)
        · rw [w_eq (by omega) (by omega)] at c_63
          refine aw_iconst (v := nI 0) d_P_matchBodies_70 (by decide) ?_
          refine aw_istore (L' := [some (.ref p), some (.ref im), some (.int (nI k)), some (.ref jm), some (.int (nI l)), some (.int (nI 0)), none, none, none]) d_P_matchBodies_71 (by decide) rfl rfl ?_
          refine aw_iconst (v := nI 0) d_P_matchBodies_73 (by decide) ?_
          refine aw_istore (L' := [some (.ref p), some (.ref im), some (.int (nI k)), some (.ref jm), some (.int (nI l)), some (.int (nI 0)), some (.int (nI 0)), none, none]) d_P_matchBodies_74 (by decide) rfl rfl ?_
          refine aw_loc (L' := [some (.ref p), some (.ref im), some (.int (nI k)), some (.ref jm), some (.int (nI l)), some (.int (bP (kd B k = 1))), some (.int (nI 0)), none, none]) (by intro j v hv; match j, hv with | 0, hv => exact hv | 1, hv => exact hv | 2, hv => exact hv | 3, hv => exact hv | 4, hv => exact hv | 5, hv => (rw [bP_f (by omega)] at hv; exact hv) | 6, hv => exact hv | 7, hv => cases hv | 8, hv => cases hv | j + 9, hv => cases hv) ?_
          exact lp_P_matchBodies (by decide) (by decide) V L hB_ hcc hpc V2 L2 hD_ hdc hdq Dp NI_ NJ_ hNl hKl hpl hs k l q1 q2 q3 q4 c_13 c_29 (sz B k + 1) 0 _ _ _ _ _ ⟨y2_48.1, y2_48.2.1, y2_48.2.2.1, y2_48.2.2.2⟩ MI_48 MJ_48 ((frm.refl [p, pa, pb, pq]).tr y4_48) (Nat.zero_le _) (by rw [gfd_0t]; exact ⟨c_51, c_13, c_29⟩) (by rw [gfd_z]; exact y3_48) (by omega)
        · rw [w_eq (by omega) (by omega)] at c_63
          refine aw_iconst (v := nI 1) d_P_matchBodies_66 (by decide) ?_
          refine aw_goto (tgt := 71) d_P_matchBodies_67 (by decide) ?_
          refine aw_istore (L' := [some (.ref p), some (.ref im), some (.int (nI k)), some (.ref jm), some (.int (nI l)), some (.int (nI 1)), none, none, none]) d_P_matchBodies_71 (by decide) rfl rfl ?_
          refine aw_iconst (v := nI 0) d_P_matchBodies_73 (by decide) ?_
          refine aw_istore (L' := [some (.ref p), some (.ref im), some (.int (nI k)), some (.ref jm), some (.int (nI l)), some (.int (nI 1)), some (.int (nI 0)), none, none]) d_P_matchBodies_74 (by decide) rfl rfl ?_
          refine aw_loc (L' := [some (.ref p), some (.ref im), some (.int (nI k)), some (.ref jm), some (.int (nI l)), some (.int (bP (kd B k = 1))), some (.int (nI 0)), none, none]) (by intro j v hv; match j, hv with | 0, hv => exact hv | 1, hv => exact hv | 2, hv => exact hv | 3, hv => exact hv | 4, hv => exact hv | 5, hv => (rw [bP_t (by omega)] at hv; exact hv) | 6, hv => exact hv | 7, hv => cases hv | 8, hv => cases hv | j + 9, hv => cases hv) ?_
          exact lp_P_matchBodies (by decide) (by decide) V L hB_ hcc hpc V2 L2 hD_ hdc hdq Dp NI_ NJ_ hNl hKl hpl hs k l q1 q2 q3 q4 c_13 c_29 (sz B k + 1) 0 _ _ _ _ _ ⟨y2_48.1, y2_48.2.1, y2_48.2.2.1, y2_48.2.2.2⟩ MI_48 MJ_48 ((frm.refl [p, pa, pb, pq]).tr y4_48) (Nat.zero_le _) (by rw [gfd_0t]; exact ⟨c_51, c_13, c_29⟩) (by rw [gfd_z]; exact y3_48) (by omega)
      · rw [bP_eq0] at c_51
        refine aw_iconst (v := nI 0) d_P_matchBodies_54 (by decide) ?_
        exact aw_iret d_P_matchBodies_55 rfl nar0 ⟨by rw [bP_f (show ¬ (gbo B D s k l).2 = true from by have y0 : ¬ (gfd B D s k l 0).2 = true := (by rw [gfd_0t]; intro y; first | exact c_13 y.2.1 | exact c_29 y.2.2 | exact c_51 y.1); unfold gbo; rw [show sz B k = 0 + sz B k by omega, gfd_stop y0]; exact y0)], _, _, _, _, ⟨y2_48.1, y2_48.2.1, y2_48.2.2.1, y2_48.2.2.2⟩, fun y => absurd y (by have y0 : ¬ (gfd B D s k l 0).2 = true := (by rw [gfd_0t]; intro y; first | exact c_13 y.2.1 | exact c_29 y.2.2 | exact c_51 y.1); unfold gbo; rw [show sz B k = 0 + sz B k by omega, gfd_stop y0]; exact y0), ((frm.refl [p, pa, pb, pq]).tr y4_48)⟩

set_option maxHeartbeats 4000000 in
theorem c_P_clear {tb : Nat → Nat} {h : AH} {p pa pb pq pl mn : Nat} {fn fb fq : Nat → Int32} (Mp : pkS h p pa pb pq pl mn fn fb fq) (Dp : pND pa pb pq) {im a0 a1 a2 a3 a4 a5 cc pc us n iw wp cp : Nat} {f0 f1 f2 f3 f4 f5 : Nat → Int32} (M : iS h im a0 a1 a2 a3 a4 a5 cc pc us n iw wp cp f0 f1 f2 f3 f4 f5) {jm c0 c1 c2 c3 c4 c5 dc dq du n2 jw wq cq : Nat} {e0 e1 e2 e3 e4 e5 : Nat → Int32} (M2 : iS h jm c0 c1 c2 c3 c4 c5 dc dq du n2 jw wq cq e0 e1 e2 e3 e4 e5) (NI_ : ∀ x ∈ [p, pa, pb, pq], x ∉ [im, a0, a1, a2, a3, a4, a5]) (NJ_ : ∀ x ∈ [p, pa, pb, pq], x ∉ [jm, c0, c1, c2, c3, c4, c5]) (h64 : P64 pl) (hc64 : P64 cc) (hd64 : P64 dc) (hcc : cc ≤ 524288) (hdc : dc ≤ 524288) (hpl : pl ≤ 524288) (rm : Nat) (hrm : isMx rm cc dc) (hr64 : P64 rm) (hrb : rm ≤ 524288) : AM tb y_P_clear b_P_clear 4 none 1 23 [.ref p, .ref im, .ref jm] h (max pl rm - pl) (6 * (max pl rm - pl)) (fun v h' => v = none ∧ ∃ pa' pb' pq' fn' fb' fq', pkS h' p pa' pb' pq' (max pl rm) 0 fn' fb' fq' ∧ (∀ k, k < (max pl rm) → fn' k = nI 0) ∧ (∀ k, k < (max pl rm) → fb' k = nI 0) ∧ pND pa' pb' pq' ∧ frm [p, pa, pb, pq] [p, pa', pb', pq'] h h') := by
  have hge := h64.ge
  refine am_of (ini := false) [some (.ref p), some (.ref im), some (.ref jm), none] (by decide) (fun z => by cases z) (Nat.le_of_ble_eq_true rfl) rfl ?_
  refine aw_aload_n d_P_clear_0 rfl ?_
  refine aw_iconst (v := nI 0) d_P_clear_1 (by decide) ?_
  refine aw_put (fs' := [.ref pa, .ref pb, .ref pq, .int (nI 0)]) (pt_P_41 _) d_P_clear_2 Mp.1 rfl rfl (by simp) rfl ?_
  obtain ⟨k_1, e_k_1⟩ : ∃ z, z = av_up h p (.inr (4, [.ref pa, .ref pb, .ref pq, .int (nI 0)])) := ⟨_, rfl⟩
  refine aw_heap (h' := k_1) e_k_1.symm ?_
  have g1_pa : k_1 pa = some (.inl (0, pl, .inl fn)) := by rw [e_k_1, av_up_ne (av_apart Mp.2.1 Mp.1)]; exact Mp.2.1
  have g1_pb : k_1 pb = some (.inl (0, pl, .inl fb)) := by rw [e_k_1, av_up_ne (av_apart Mp.2.2.1 Mp.1)]; exact Mp.2.2.1
  have g1_pq : k_1 pq = some (.inl (0, pl, .inl fq)) := by rw [e_k_1, av_up_ne (av_apart Mp.2.2.2 Mp.1)]; exact Mp.2.2.2
  have g1_im : k_1 im = some (.inr (2, [.ref a0, .ref a1, .ref a2, .ref a3, .ref a4, .ref a5, .int (nI us), .int (nI n), .int (nI iw), .int (nI wp), .int (nI cp)])) := by rw [e_k_1, av_up_ne (fun z => NI_ p (by simp) (by rw [← z]; simp))]; exact M.1
  have g1_a0 : k_1 a0 = some (.inl (0, 50, .inl f0)) := by rw [e_k_1, av_up_ne (fun z => NI_ p (by simp) (by rw [← z]; simp))]; exact M.2.1
  have g1_a1 : k_1 a1 = some (.inl (0, cc, .inl f1)) := by rw [e_k_1, av_up_ne (fun z => NI_ p (by simp) (by rw [← z]; simp))]; exact M.2.2.1
  have g1_a2 : k_1 a2 = some (.inl (0, cc, .inl f2)) := by rw [e_k_1, av_up_ne (fun z => NI_ p (by simp) (by rw [← z]; simp))]; exact M.2.2.2.1
  have g1_a3 : k_1 a3 = some (.inl (0, cc, .inl f3)) := by rw [e_k_1, av_up_ne (fun z => NI_ p (by simp) (by rw [← z]; simp))]; exact M.2.2.2.2.1
  have g1_a4 : k_1 a4 = some (.inl (0, cc, .inl f4)) := by rw [e_k_1, av_up_ne (fun z => NI_ p (by simp) (by rw [← z]; simp))]; exact M.2.2.2.2.2.1
  have g1_a5 : k_1 a5 = some (.inl (0, pc, .inl f5)) := by rw [e_k_1, av_up_ne (fun z => NI_ p (by simp) (by rw [← z]; simp))]; exact M.2.2.2.2.2.2
  have g1_jm : k_1 jm = some (.inr (2, [.ref c0, .ref c1, .ref c2, .ref c3, .ref c4, .ref c5, .int (nI du), .int (nI n2), .int (nI jw), .int (nI wq), .int (nI cq)])) := by rw [e_k_1, av_up_ne (fun z => NJ_ p (by simp) (by rw [← z]; simp))]; exact M2.1
  have g1_c0 : k_1 c0 = some (.inl (0, 50, .inl e0)) := by rw [e_k_1, av_up_ne (fun z => NJ_ p (by simp) (by rw [← z]; simp))]; exact M2.2.1
  have g1_c1 : k_1 c1 = some (.inl (0, dc, .inl e1)) := by rw [e_k_1, av_up_ne (fun z => NJ_ p (by simp) (by rw [← z]; simp))]; exact M2.2.2.1
  have g1_c2 : k_1 c2 = some (.inl (0, dc, .inl e2)) := by rw [e_k_1, av_up_ne (fun z => NJ_ p (by simp) (by rw [← z]; simp))]; exact M2.2.2.2.1
  have g1_c3 : k_1 c3 = some (.inl (0, dc, .inl e3)) := by rw [e_k_1, av_up_ne (fun z => NJ_ p (by simp) (by rw [← z]; simp))]; exact M2.2.2.2.2.1
  have g1_c4 : k_1 c4 = some (.inl (0, dc, .inl e4)) := by rw [e_k_1, av_up_ne (fun z => NJ_ p (by simp) (by rw [← z]; simp))]; exact M2.2.2.2.2.2.1
  have g1_c5 : k_1 c5 = some (.inl (0, dq, .inl e5)) := by rw [e_k_1, av_up_ne (fun z => NJ_ p (by simp) (by rw [← z]; simp))]; exact M2.2.2.2.2.2.2
  have g1_p : k_1 p = some (.inr (4, [.ref pa, .ref pb, .ref pq, .int (nI 0)])) := by rw [e_k_1]; exact av_up_self _ _ _
  refine aw_aload_n d_P_clear_5 rfl ?_
  refine aw_get fl_P_50 d_P_clear_6 g1_im rfl ?_
  refine aw_alen (v := nI cc) d_P_clear_9 g1_a1 (fun _ => rfl) rfl ?_
  refine aw_aload_n d_P_clear_10 rfl ?_
  refine aw_get fl_P_50 d_P_clear_11 g1_jm rfl ?_
  refine aw_alen (v := nI dc) d_P_clear_14 g1_c1 (fun _ => rfl) rfl ?_
  refine aw_mmax (r := nI rm) d_P_clear_15 tw_506 (by rw [show rm = max cc dc from hrm]; exact nI_max (by omega) (by omega)) (by decide) (by decide) (Nat.le_of_ble_eq_true rfl) ?_
  refine aw_istore_n (L' := [some (.ref p), some (.ref im), some (.ref jm), some (.int (nI rm))]) d_P_clear_18 (by decide) rfl rfl ?_
  refine aw_aload_n d_P_clear_19 rfl ?_
  refine aw_get fl_P_9 d_P_clear_20 g1_p rfl ?_
  refine aw_alen (v := nI pl) d_P_clear_23 g1_pa (fun _ => rfl) rfl ?_
  refine aw_iload_n d_P_clear_24 rfl ?_
  refine aw_icmp_ge (tgt := 49) d_P_clear_25 (by decide) (fun c_25 => ?_) (fun c_25 => ?_)
  · rw [nI_leI (by omega) (by omega)] at c_25
    have hmx : max pl rm = pl := by omega
    refine aw_aload_n d_P_clear_49 rfl ?_
    refine aw_get fl_P_9 d_P_clear_50 g1_p rfl ?_
    refine aw_iconst (v := nI 0) d_P_clear_53 (by decide) ?_
    refine aw_callS (mc2 := max pl rm - pl) (ms2 := 6 * (max pl rm - pl)) (As := [.ref pa, .int (nI 0)]) (rest := []) (c_A_fill g1_pa (by omega)) cs_P_59 d_P_clear_54 rfl rfl (Nat.le_of_ble_eq_true rfl) (by decide) (by decide) (by omega) (by omega) (fun v_54 k_54c q_54 => ?_)
    obtain ⟨z1_54, fz_54, z2_54, z3_54⟩ := q_54
    refine aw_st (st' := []) (by rw [z1_54]; rfl) ?_
    have gf54_pb : k_54c pb = some (.inl (0, pl, .inl fb)) := by rw [z2_54, av_up_ne (Ne.symm Dp.1)]; exact g1_pb
    have gf54_pq : k_54c pq = some (.inl (0, pl, .inl fq)) := by rw [z2_54, av_up_ne (Ne.symm Dp.2.1)]; exact g1_pq
    have gf54_im : k_54c im = some (.inr (2, [.ref a0, .ref a1, .ref a2, .ref a3, .ref a4, .ref a5, .int (nI us), .int (nI n), .int (nI iw), .int (nI wp), .int (nI cp)])) := by rw [z2_54, av_up_ne (fun z => NI_ pa (by simp) (by rw [← z]; simp))]; exact g1_im
    have gf54_a0 : k_54c a0 = some (.inl (0, 50, .inl f0)) := by rw [z2_54, av_up_ne (fun z => NI_ pa (by simp) (by rw [← z]; simp))]; exact g1_a0
    have gf54_a1 : k_54c a1 = some (.inl (0, cc, .inl f1)) := by rw [z2_54, av_up_ne (fun z => NI_ pa (by simp) (by rw [← z]; simp))]; exact g1_a1
    have gf54_a2 : k_54c a2 = some (.inl (0, cc, .inl f2)) := by rw [z2_54, av_up_ne (fun z => NI_ pa (by simp) (by rw [← z]; simp))]; exact g1_a2
    have gf54_a3 : k_54c a3 = some (.inl (0, cc, .inl f3)) := by rw [z2_54, av_up_ne (fun z => NI_ pa (by simp) (by rw [← z]; simp))]; exact g1_a3
    have gf54_a4 : k_54c a4 = some (.inl (0, cc, .inl f4)) := by rw [z2_54, av_up_ne (fun z => NI_ pa (by simp) (by rw [← z]; simp))]; exact g1_a4
    have gf54_a5 : k_54c a5 = some (.inl (0, pc, .inl f5)) := by rw [z2_54, av_up_ne (fun z => NI_ pa (by simp) (by rw [← z]; simp))]; exact g1_a5
    have gf54_jm : k_54c jm = some (.inr (2, [.ref c0, .ref c1, .ref c2, .ref c3, .ref c4, .ref c5, .int (nI du), .int (nI n2), .int (nI jw), .int (nI wq), .int (nI cq)])) := by rw [z2_54, av_up_ne (fun z => NJ_ pa (by simp) (by rw [← z]; simp))]; exact g1_jm
    have gf54_c0 : k_54c c0 = some (.inl (0, 50, .inl e0)) := by rw [z2_54, av_up_ne (fun z => NJ_ pa (by simp) (by rw [← z]; simp))]; exact g1_c0
    have gf54_c1 : k_54c c1 = some (.inl (0, dc, .inl e1)) := by rw [z2_54, av_up_ne (fun z => NJ_ pa (by simp) (by rw [← z]; simp))]; exact g1_c1
    have gf54_c2 : k_54c c2 = some (.inl (0, dc, .inl e2)) := by rw [z2_54, av_up_ne (fun z => NJ_ pa (by simp) (by rw [← z]; simp))]; exact g1_c2
    have gf54_c3 : k_54c c3 = some (.inl (0, dc, .inl e3)) := by rw [z2_54, av_up_ne (fun z => NJ_ pa (by simp) (by rw [← z]; simp))]; exact g1_c3
    have gf54_c4 : k_54c c4 = some (.inl (0, dc, .inl e4)) := by rw [z2_54, av_up_ne (fun z => NJ_ pa (by simp) (by rw [← z]; simp))]; exact g1_c4
    have gf54_c5 : k_54c c5 = some (.inl (0, dq, .inl e5)) := by rw [z2_54, av_up_ne (fun z => NJ_ pa (by simp) (by rw [← z]; simp))]; exact g1_c5
    have gf54_p : k_54c p = some (.inr (4, [.ref pa, .ref pb, .ref pq, .int (nI 0)])) := by rw [z2_54, av_up_ne (av_apart' g1_p g1_pa)]; exact g1_p
    have gf54_pa : k_54c pa = some (.inl (0, pl, .inl fz_54)) := by rw [z2_54]; exact av_up_self _ _ _
    refine aw_aload_n d_P_clear_57 rfl ?_
    refine aw_get fl_P_15 d_P_clear_58 gf54_p rfl ?_
    refine aw_iconst (v := nI 0) d_P_clear_61 (by decide) ?_
    refine aw_callS (mc2 := max pl rm - pl) (ms2 := 6 * (max pl rm - pl)) (As := [.ref pb, .int (nI 0)]) (rest := []) (c_A_fill gf54_pb (by omega)) cs_P_59 d_P_clear_62 rfl rfl (Nat.le_of_ble_eq_true rfl) (by decide) (by decide) (by omega) (by omega) (fun v_62 k_62c q_62 => ?_)
    obtain ⟨z1_62, fz_62, z2_62, z3_62⟩ := q_62
    refine aw_st (st' := []) (by rw [z1_62]; rfl) ?_
    have gf62_pq : k_62c pq = some (.inl (0, pl, .inl fq)) := by rw [z2_62, av_up_ne (Ne.symm Dp.2.2)]; exact gf54_pq
    have gf62_im : k_62c im = some (.inr (2, [.ref a0, .ref a1, .ref a2, .ref a3, .ref a4, .ref a5, .int (nI us), .int (nI n), .int (nI iw), .int (nI wp), .int (nI cp)])) := by rw [z2_62, av_up_ne (fun z => NI_ pb (by simp) (by rw [← z]; simp))]; exact gf54_im
    have gf62_a0 : k_62c a0 = some (.inl (0, 50, .inl f0)) := by rw [z2_62, av_up_ne (fun z => NI_ pb (by simp) (by rw [← z]; simp))]; exact gf54_a0
    have gf62_a1 : k_62c a1 = some (.inl (0, cc, .inl f1)) := by rw [z2_62, av_up_ne (fun z => NI_ pb (by simp) (by rw [← z]; simp))]; exact gf54_a1
    have gf62_a2 : k_62c a2 = some (.inl (0, cc, .inl f2)) := by rw [z2_62, av_up_ne (fun z => NI_ pb (by simp) (by rw [← z]; simp))]; exact gf54_a2
    have gf62_a3 : k_62c a3 = some (.inl (0, cc, .inl f3)) := by rw [z2_62, av_up_ne (fun z => NI_ pb (by simp) (by rw [← z]; simp))]; exact gf54_a3
    have gf62_a4 : k_62c a4 = some (.inl (0, cc, .inl f4)) := by rw [z2_62, av_up_ne (fun z => NI_ pb (by simp) (by rw [← z]; simp))]; exact gf54_a4
    have gf62_a5 : k_62c a5 = some (.inl (0, pc, .inl f5)) := by rw [z2_62, av_up_ne (fun z => NI_ pb (by simp) (by rw [← z]; simp))]; exact gf54_a5
    have gf62_jm : k_62c jm = some (.inr (2, [.ref c0, .ref c1, .ref c2, .ref c3, .ref c4, .ref c5, .int (nI du), .int (nI n2), .int (nI jw), .int (nI wq), .int (nI cq)])) := by rw [z2_62, av_up_ne (fun z => NJ_ pb (by simp) (by rw [← z]; simp))]; exact gf54_jm
    have gf62_c0 : k_62c c0 = some (.inl (0, 50, .inl e0)) := by rw [z2_62, av_up_ne (fun z => NJ_ pb (by simp) (by rw [← z]; simp))]; exact gf54_c0
    have gf62_c1 : k_62c c1 = some (.inl (0, dc, .inl e1)) := by rw [z2_62, av_up_ne (fun z => NJ_ pb (by simp) (by rw [← z]; simp))]; exact gf54_c1
    have gf62_c2 : k_62c c2 = some (.inl (0, dc, .inl e2)) := by rw [z2_62, av_up_ne (fun z => NJ_ pb (by simp) (by rw [← z]; simp))]; exact gf54_c2
    have gf62_c3 : k_62c c3 = some (.inl (0, dc, .inl e3)) := by rw [z2_62, av_up_ne (fun z => NJ_ pb (by simp) (by rw [← z]; simp))]; exact gf54_c3
    have gf62_c4 : k_62c c4 = some (.inl (0, dc, .inl e4)) := by rw [z2_62, av_up_ne (fun z => NJ_ pb (by simp) (by rw [← z]; simp))]; exact gf54_c4
    have gf62_c5 : k_62c c5 = some (.inl (0, dq, .inl e5)) := by rw [z2_62, av_up_ne (fun z => NJ_ pb (by simp) (by rw [← z]; simp))]; exact gf54_c5
    have gf62_p : k_62c p = some (.inr (4, [.ref pa, .ref pb, .ref pq, .int (nI 0)])) := by rw [z2_62, av_up_ne (av_apart' gf54_p gf54_pb)]; exact gf54_p
    have gf62_pa : k_62c pa = some (.inl (0, pl, .inl fz_54)) := by rw [z2_62, av_up_ne Dp.1]; exact gf54_pa
    have gf62_pb : k_62c pb = some (.inl (0, pl, .inl fz_62)) := by rw [z2_62]; exact av_up_self _ _ _
    exact aw_vret d_P_clear_65 rfl ⟨rfl, _, _, _, _, _, _, ⟨gf62_p, (by rw [hmx]; exact gf62_pa), (by rw [hmx]; exact gf62_pb), (by rw [hmx]; exact gf62_pq)⟩, fun k hk => z3_54 k (by omega), fun k hk => z3_62 k (by omega), ⟨Dp.1, Dp.2.1, Dp.2.2⟩, ((((frm.refl [p, pa, pb, pq]).up e_k_1 (by simp)).up z2_54 (by simp)).up z2_62 (by simp)).sub (by intro x hx; simp only [List.mem_cons, List.not_mem_nil, or_false] at hx ⊢; omega)⟩
  · rw [nI_leI (by omega) (by omega)] at c_25
    have hmx : max pl rm = rm := by omega
    have h2 := h64.lt hr64 (by omega)
    refine aw_aload_n d_P_clear_28 rfl ?_
    refine aw_iload_n d_P_clear_29 rfl ?_
    refine aw_newa (t := 0) (N := rm) (z := (rm, .inl (fun _ => 0))) (mc2 := 2) (ms2 := 2 * rm) d_P_clear_30 tw_111 (fun _ => rfl) (fun _ _ z => z) (fun _ => rfl) (nI_pos (by omega)) (nI_clamp (by omega)) (by simp only [newarray.typeOf, componentBytes]; omega) (by omega) (by omega) (fun q_30 f_q_30 => ?_)
    obtain ⟨k_2, e_k_2⟩ : ∃ z, z = av_up k_1 q_30 (.inl (0, rm, .inl (fun _ => 0))) := ⟨_, rfl⟩
    refine aw_heap (h' := k_2) e_k_2.symm ?_
    have ne_pa_q_30 : pa ≠ q_30 := (fun z => by have z1 := g1_pa; rw [z, f_q_30] at z1; cases z1)
    have g2_pa : k_2 pa = some (.inl (0, pl, .inl fn)) := by rw [e_k_2, av_up_ne ne_pa_q_30]; exact g1_pa
    have ne_pb_q_30 : pb ≠ q_30 := (fun z => by have z1 := g1_pb; rw [z, f_q_30] at z1; cases z1)
    have g2_pb : k_2 pb = some (.inl (0, pl, .inl fb)) := by rw [e_k_2, av_up_ne ne_pb_q_30]; exact g1_pb
    have ne_pq_q_30 : pq ≠ q_30 := (fun z => by have z1 := g1_pq; rw [z, f_q_30] at z1; cases z1)
    have g2_pq : k_2 pq = some (.inl (0, pl, .inl fq)) := by rw [e_k_2, av_up_ne ne_pq_q_30]; exact g1_pq
    have ne_im_q_30 : im ≠ q_30 := (fun z => by have z1 := g1_im; rw [z, f_q_30] at z1; cases z1)
    have g2_im : k_2 im = some (.inr (2, [.ref a0, .ref a1, .ref a2, .ref a3, .ref a4, .ref a5, .int (nI us), .int (nI n), .int (nI iw), .int (nI wp), .int (nI cp)])) := by rw [e_k_2, av_up_ne ne_im_q_30]; exact g1_im
    have ne_a0_q_30 : a0 ≠ q_30 := (fun z => by have z1 := g1_a0; rw [z, f_q_30] at z1; cases z1)
    have g2_a0 : k_2 a0 = some (.inl (0, 50, .inl f0)) := by rw [e_k_2, av_up_ne ne_a0_q_30]; exact g1_a0
    have ne_a1_q_30 : a1 ≠ q_30 := (fun z => by have z1 := g1_a1; rw [z, f_q_30] at z1; cases z1)
    have g2_a1 : k_2 a1 = some (.inl (0, cc, .inl f1)) := by rw [e_k_2, av_up_ne ne_a1_q_30]; exact g1_a1
    have ne_a2_q_30 : a2 ≠ q_30 := (fun z => by have z1 := g1_a2; rw [z, f_q_30] at z1; cases z1)
    have g2_a2 : k_2 a2 = some (.inl (0, cc, .inl f2)) := by rw [e_k_2, av_up_ne ne_a2_q_30]; exact g1_a2
    have ne_a3_q_30 : a3 ≠ q_30 := (fun z => by have z1 := g1_a3; rw [z, f_q_30] at z1; cases z1)
    have g2_a3 : k_2 a3 = some (.inl (0, cc, .inl f3)) := by rw [e_k_2, av_up_ne ne_a3_q_30]; exact g1_a3
    have ne_a4_q_30 : a4 ≠ q_30 := (fun z => by have z1 := g1_a4; rw [z, f_q_30] at z1; cases z1)
    have g2_a4 : k_2 a4 = some (.inl (0, cc, .inl f4)) := by rw [e_k_2, av_up_ne ne_a4_q_30]; exact g1_a4
    have ne_a5_q_30 : a5 ≠ q_30 := (fun z => by have z1 := g1_a5; rw [z, f_q_30] at z1; cases z1)
    have g2_a5 : k_2 a5 = some (.inl (0, pc, .inl f5)) := by rw [e_k_2, av_up_ne ne_a5_q_30]; exact g1_a5
    have ne_jm_q_30 : jm ≠ q_30 := (fun z => by have z1 := g1_jm; rw [z, f_q_30] at z1; cases z1)
    have g2_jm : k_2 jm = some (.inr (2, [.ref c0, .ref c1, .ref c2, .ref c3, .ref c4, .ref c5, .int (nI du), .int (nI n2), .int (nI jw), .int (nI wq), .int (nI cq)])) := by rw [e_k_2, av_up_ne ne_jm_q_30]; exact g1_jm
    have ne_c0_q_30 : c0 ≠ q_30 := (fun z => by have z1 := g1_c0; rw [z, f_q_30] at z1; cases z1)
    have g2_c0 : k_2 c0 = some (.inl (0, 50, .inl e0)) := by rw [e_k_2, av_up_ne ne_c0_q_30]; exact g1_c0
    have ne_c1_q_30 : c1 ≠ q_30 := (fun z => by have z1 := g1_c1; rw [z, f_q_30] at z1; cases z1)
    have g2_c1 : k_2 c1 = some (.inl (0, dc, .inl e1)) := by rw [e_k_2, av_up_ne ne_c1_q_30]; exact g1_c1
    have ne_c2_q_30 : c2 ≠ q_30 := (fun z => by have z1 := g1_c2; rw [z, f_q_30] at z1; cases z1)
    have g2_c2 : k_2 c2 = some (.inl (0, dc, .inl e2)) := by rw [e_k_2, av_up_ne ne_c2_q_30]; exact g1_c2
    have ne_c3_q_30 : c3 ≠ q_30 := (fun z => by have z1 := g1_c3; rw [z, f_q_30] at z1; cases z1)
    have g2_c3 : k_2 c3 = some (.inl (0, dc, .inl e3)) := by rw [e_k_2, av_up_ne ne_c3_q_30]; exact g1_c3
    have ne_c4_q_30 : c4 ≠ q_30 := (fun z => by have z1 := g1_c4; rw [z, f_q_30] at z1; cases z1)
    have g2_c4 : k_2 c4 = some (.inl (0, dc, .inl e4)) := by rw [e_k_2, av_up_ne ne_c4_q_30]; exact g1_c4
    have ne_c5_q_30 : c5 ≠ q_30 := (fun z => by have z1 := g1_c5; rw [z, f_q_30] at z1; cases z1)
    have g2_c5 : k_2 c5 = some (.inl (0, dq, .inl e5)) := by rw [e_k_2, av_up_ne ne_c5_q_30]; exact g1_c5
    have ne_p_q_30 : p ≠ q_30 := (fun z => by have z1 := g1_p; rw [z, f_q_30] at z1; cases z1)
    have g2_p : k_2 p = some (.inr (4, [.ref pa, .ref pb, .ref pq, .int (nI 0)])) := by rw [e_k_2, av_up_ne ne_p_q_30]; exact g1_p
    have g2_q_30 : k_2 q_30 = some (.inl (0, rm, .inl (fun _ => 0))) := by rw [e_k_2]; exact av_up_self _ _ _
    refine aw_put (fs' := [.ref q_30, .ref pb, .ref pq, .int (nI 0)]) (pt_P_9 _) d_P_clear_32 g2_p rfl rfl (by simp) rfl ?_
    obtain ⟨k_3, e_k_3⟩ : ∃ z, z = av_up k_2 p (.inr (4, [.ref q_30, .ref pb, .ref pq, .int (nI 0)])) := ⟨_, rfl⟩
    refine aw_heap (h' := k_3) e_k_3.symm ?_
    have g3_pa : k_3 pa = some (.inl (0, pl, .inl fn)) := by rw [e_k_3, av_up_ne (av_apart g2_pa g2_p)]; exact g2_pa
    have g3_pb : k_3 pb = some (.inl (0, pl, .inl fb)) := by rw [e_k_3, av_up_ne (av_apart g2_pb g2_p)]; exact g2_pb
    have g3_pq : k_3 pq = some (.inl (0, pl, .inl fq)) := by rw [e_k_3, av_up_ne (av_apart g2_pq g2_p)]; exact g2_pq
    have g3_im : k_3 im = some (.inr (2, [.ref a0, .ref a1, .ref a2, .ref a3, .ref a4, .ref a5, .int (nI us), .int (nI n), .int (nI iw), .int (nI wp), .int (nI cp)])) := by rw [e_k_3, av_up_ne (fun z => NI_ p (by simp) (by rw [← z]; simp))]; exact g2_im
    have g3_a0 : k_3 a0 = some (.inl (0, 50, .inl f0)) := by rw [e_k_3, av_up_ne (fun z => NI_ p (by simp) (by rw [← z]; simp))]; exact g2_a0
    have g3_a1 : k_3 a1 = some (.inl (0, cc, .inl f1)) := by rw [e_k_3, av_up_ne (fun z => NI_ p (by simp) (by rw [← z]; simp))]; exact g2_a1
    have g3_a2 : k_3 a2 = some (.inl (0, cc, .inl f2)) := by rw [e_k_3, av_up_ne (fun z => NI_ p (by simp) (by rw [← z]; simp))]; exact g2_a2
    have g3_a3 : k_3 a3 = some (.inl (0, cc, .inl f3)) := by rw [e_k_3, av_up_ne (fun z => NI_ p (by simp) (by rw [← z]; simp))]; exact g2_a3
    have g3_a4 : k_3 a4 = some (.inl (0, cc, .inl f4)) := by rw [e_k_3, av_up_ne (fun z => NI_ p (by simp) (by rw [← z]; simp))]; exact g2_a4
    have g3_a5 : k_3 a5 = some (.inl (0, pc, .inl f5)) := by rw [e_k_3, av_up_ne (fun z => NI_ p (by simp) (by rw [← z]; simp))]; exact g2_a5
    have g3_jm : k_3 jm = some (.inr (2, [.ref c0, .ref c1, .ref c2, .ref c3, .ref c4, .ref c5, .int (nI du), .int (nI n2), .int (nI jw), .int (nI wq), .int (nI cq)])) := by rw [e_k_3, av_up_ne (fun z => NJ_ p (by simp) (by rw [← z]; simp))]; exact g2_jm
    have g3_c0 : k_3 c0 = some (.inl (0, 50, .inl e0)) := by rw [e_k_3, av_up_ne (fun z => NJ_ p (by simp) (by rw [← z]; simp))]; exact g2_c0
    have g3_c1 : k_3 c1 = some (.inl (0, dc, .inl e1)) := by rw [e_k_3, av_up_ne (fun z => NJ_ p (by simp) (by rw [← z]; simp))]; exact g2_c1
    have g3_c2 : k_3 c2 = some (.inl (0, dc, .inl e2)) := by rw [e_k_3, av_up_ne (fun z => NJ_ p (by simp) (by rw [← z]; simp))]; exact g2_c2
    have g3_c3 : k_3 c3 = some (.inl (0, dc, .inl e3)) := by rw [e_k_3, av_up_ne (fun z => NJ_ p (by simp) (by rw [← z]; simp))]; exact g2_c3
    have g3_c4 : k_3 c4 = some (.inl (0, dc, .inl e4)) := by rw [e_k_3, av_up_ne (fun z => NJ_ p (by simp) (by rw [← z]; simp))]; exact g2_c4
    have g3_c5 : k_3 c5 = some (.inl (0, dq, .inl e5)) := by rw [e_k_3, av_up_ne (fun z => NJ_ p (by simp) (by rw [← z]; simp))]; exact g2_c5
    have g3_q_30 : k_3 q_30 = some (.inl (0, rm, .inl (fun _ => 0))) := by rw [e_k_3, av_up_ne (Ne.symm ne_p_q_30)]; exact g2_q_30
    have g3_p : k_3 p = some (.inr (4, [.ref q_30, .ref pb, .ref pq, .int (nI 0)])) := by rw [e_k_3]; exact av_up_self _ _ _
    refine aw_aload_n d_P_clear_35 rfl ?_
    refine aw_iload_n d_P_clear_36 rfl ?_
    refine aw_newa (t := 0) (N := rm) (z := (rm, .inl (fun _ => 0))) (mc2 := 1) (ms2 := rm) d_P_clear_37 tw_111 (fun _ => rfl) (fun _ _ z => z) (fun _ => rfl) (nI_pos (by omega)) (nI_clamp (by omega)) (by simp only [newarray.typeOf, componentBytes]; omega) (by omega) (by omega) (fun q_37 f_q_37 => ?_)
    obtain ⟨k_4, e_k_4⟩ : ∃ z, z = av_up k_3 q_37 (.inl (0, rm, .inl (fun _ => 0))) := ⟨_, rfl⟩
    refine aw_heap (h' := k_4) e_k_4.symm ?_
    have ne_pa_q_37 : pa ≠ q_37 := (fun z => by have z1 := g3_pa; rw [z, f_q_37] at z1; cases z1)
    have g4_pa : k_4 pa = some (.inl (0, pl, .inl fn)) := by rw [e_k_4, av_up_ne ne_pa_q_37]; exact g3_pa
    have ne_pb_q_37 : pb ≠ q_37 := (fun z => by have z1 := g3_pb; rw [z, f_q_37] at z1; cases z1)
    have g4_pb : k_4 pb = some (.inl (0, pl, .inl fb)) := by rw [e_k_4, av_up_ne ne_pb_q_37]; exact g3_pb
    have ne_pq_q_37 : pq ≠ q_37 := (fun z => by have z1 := g3_pq; rw [z, f_q_37] at z1; cases z1)
    have g4_pq : k_4 pq = some (.inl (0, pl, .inl fq)) := by rw [e_k_4, av_up_ne ne_pq_q_37]; exact g3_pq
    have ne_im_q_37 : im ≠ q_37 := (fun z => by have z1 := g3_im; rw [z, f_q_37] at z1; cases z1)
    have g4_im : k_4 im = some (.inr (2, [.ref a0, .ref a1, .ref a2, .ref a3, .ref a4, .ref a5, .int (nI us), .int (nI n), .int (nI iw), .int (nI wp), .int (nI cp)])) := by rw [e_k_4, av_up_ne ne_im_q_37]; exact g3_im
    have ne_a0_q_37 : a0 ≠ q_37 := (fun z => by have z1 := g3_a0; rw [z, f_q_37] at z1; cases z1)
    have g4_a0 : k_4 a0 = some (.inl (0, 50, .inl f0)) := by rw [e_k_4, av_up_ne ne_a0_q_37]; exact g3_a0
    have ne_a1_q_37 : a1 ≠ q_37 := (fun z => by have z1 := g3_a1; rw [z, f_q_37] at z1; cases z1)
    have g4_a1 : k_4 a1 = some (.inl (0, cc, .inl f1)) := by rw [e_k_4, av_up_ne ne_a1_q_37]; exact g3_a1
    have ne_a2_q_37 : a2 ≠ q_37 := (fun z => by have z1 := g3_a2; rw [z, f_q_37] at z1; cases z1)
    have g4_a2 : k_4 a2 = some (.inl (0, cc, .inl f2)) := by rw [e_k_4, av_up_ne ne_a2_q_37]; exact g3_a2
    have ne_a3_q_37 : a3 ≠ q_37 := (fun z => by have z1 := g3_a3; rw [z, f_q_37] at z1; cases z1)
    have g4_a3 : k_4 a3 = some (.inl (0, cc, .inl f3)) := by rw [e_k_4, av_up_ne ne_a3_q_37]; exact g3_a3
    have ne_a4_q_37 : a4 ≠ q_37 := (fun z => by have z1 := g3_a4; rw [z, f_q_37] at z1; cases z1)
    have g4_a4 : k_4 a4 = some (.inl (0, cc, .inl f4)) := by rw [e_k_4, av_up_ne ne_a4_q_37]; exact g3_a4
    have ne_a5_q_37 : a5 ≠ q_37 := (fun z => by have z1 := g3_a5; rw [z, f_q_37] at z1; cases z1)
    have g4_a5 : k_4 a5 = some (.inl (0, pc, .inl f5)) := by rw [e_k_4, av_up_ne ne_a5_q_37]; exact g3_a5
    have ne_jm_q_37 : jm ≠ q_37 := (fun z => by have z1 := g3_jm; rw [z, f_q_37] at z1; cases z1)
    have g4_jm : k_4 jm = some (.inr (2, [.ref c0, .ref c1, .ref c2, .ref c3, .ref c4, .ref c5, .int (nI du), .int (nI n2), .int (nI jw), .int (nI wq), .int (nI cq)])) := by rw [e_k_4, av_up_ne ne_jm_q_37]; exact g3_jm
    have ne_c0_q_37 : c0 ≠ q_37 := (fun z => by have z1 := g3_c0; rw [z, f_q_37] at z1; cases z1)
    have g4_c0 : k_4 c0 = some (.inl (0, 50, .inl e0)) := by rw [e_k_4, av_up_ne ne_c0_q_37]; exact g3_c0
    have ne_c1_q_37 : c1 ≠ q_37 := (fun z => by have z1 := g3_c1; rw [z, f_q_37] at z1; cases z1)
    have g4_c1 : k_4 c1 = some (.inl (0, dc, .inl e1)) := by rw [e_k_4, av_up_ne ne_c1_q_37]; exact g3_c1
    have ne_c2_q_37 : c2 ≠ q_37 := (fun z => by have z1 := g3_c2; rw [z, f_q_37] at z1; cases z1)
    have g4_c2 : k_4 c2 = some (.inl (0, dc, .inl e2)) := by rw [e_k_4, av_up_ne ne_c2_q_37]; exact g3_c2
    have ne_c3_q_37 : c3 ≠ q_37 := (fun z => by have z1 := g3_c3; rw [z, f_q_37] at z1; cases z1)
    have g4_c3 : k_4 c3 = some (.inl (0, dc, .inl e3)) := by rw [e_k_4, av_up_ne ne_c3_q_37]; exact g3_c3
    have ne_c4_q_37 : c4 ≠ q_37 := (fun z => by have z1 := g3_c4; rw [z, f_q_37] at z1; cases z1)
    have g4_c4 : k_4 c4 = some (.inl (0, dc, .inl e4)) := by rw [e_k_4, av_up_ne ne_c4_q_37]; exact g3_c4
    have ne_c5_q_37 : c5 ≠ q_37 := (fun z => by have z1 := g3_c5; rw [z, f_q_37] at z1; cases z1)
    have g4_c5 : k_4 c5 = some (.inl (0, dq, .inl e5)) := by rw [e_k_4, av_up_ne ne_c5_q_37]; exact g3_c5
    have ne_q_30_q_37 : q_30 ≠ q_37 := (fun z => by have z1 := g3_q_30; rw [z, f_q_37] at z1; cases z1)
    have g4_q_30 : k_4 q_30 = some (.inl (0, rm, .inl (fun _ => 0))) := by rw [e_k_4, av_up_ne ne_q_30_q_37]; exact g3_q_30
    have ne_p_q_37 : p ≠ q_37 := (fun z => by have z1 := g3_p; rw [z, f_q_37] at z1; cases z1)
    have g4_p : k_4 p = some (.inr (4, [.ref q_30, .ref pb, .ref pq, .int (nI 0)])) := by rw [e_k_4, av_up_ne ne_p_q_37]; exact g3_p
    have g4_q_37 : k_4 q_37 = some (.inl (0, rm, .inl (fun _ => 0))) := by rw [e_k_4]; exact av_up_self _ _ _
    refine aw_put (fs' := [.ref q_30, .ref q_37, .ref pq, .int (nI 0)]) (pt_P_15 _) d_P_clear_39 g4_p rfl rfl (by simp) rfl ?_
    obtain ⟨k_5, e_k_5⟩ : ∃ z, z = av_up k_4 p (.inr (4, [.ref q_30, .ref q_37, .ref pq, .int (nI 0)])) := ⟨_, rfl⟩
    refine aw_heap (h' := k_5) e_k_5.symm ?_
    have g5_pa : k_5 pa = some (.inl (0, pl, .inl fn)) := by rw [e_k_5, av_up_ne (av_apart g4_pa g4_p)]; exact g4_pa
    have g5_pb : k_5 pb = some (.inl (0, pl, .inl fb)) := by rw [e_k_5, av_up_ne (av_apart g4_pb g4_p)]; exact g4_pb
    have g5_pq : k_5 pq = some (.inl (0, pl, .inl fq)) := by rw [e_k_5, av_up_ne (av_apart g4_pq g4_p)]; exact g4_pq
    have g5_im : k_5 im = some (.inr (2, [.ref a0, .ref a1, .ref a2, .ref a3, .ref a4, .ref a5, .int (nI us), .int (nI n), .int (nI iw), .int (nI wp), .int (nI cp)])) := by rw [e_k_5, av_up_ne (fun z => NI_ p (by simp) (by rw [← z]; simp))]; exact g4_im
    have g5_a0 : k_5 a0 = some (.inl (0, 50, .inl f0)) := by rw [e_k_5, av_up_ne (fun z => NI_ p (by simp) (by rw [← z]; simp))]; exact g4_a0
    have g5_a1 : k_5 a1 = some (.inl (0, cc, .inl f1)) := by rw [e_k_5, av_up_ne (fun z => NI_ p (by simp) (by rw [← z]; simp))]; exact g4_a1
    have g5_a2 : k_5 a2 = some (.inl (0, cc, .inl f2)) := by rw [e_k_5, av_up_ne (fun z => NI_ p (by simp) (by rw [← z]; simp))]; exact g4_a2
    have g5_a3 : k_5 a3 = some (.inl (0, cc, .inl f3)) := by rw [e_k_5, av_up_ne (fun z => NI_ p (by simp) (by rw [← z]; simp))]; exact g4_a3
    have g5_a4 : k_5 a4 = some (.inl (0, cc, .inl f4)) := by rw [e_k_5, av_up_ne (fun z => NI_ p (by simp) (by rw [← z]; simp))]; exact g4_a4
    have g5_a5 : k_5 a5 = some (.inl (0, pc, .inl f5)) := by rw [e_k_5, av_up_ne (fun z => NI_ p (by simp) (by rw [← z]; simp))]; exact g4_a5
    have g5_jm : k_5 jm = some (.inr (2, [.ref c0, .ref c1, .ref c2, .ref c3, .ref c4, .ref c5, .int (nI du), .int (nI n2), .int (nI jw), .int (nI wq), .int (nI cq)])) := by rw [e_k_5, av_up_ne (fun z => NJ_ p (by simp) (by rw [← z]; simp))]; exact g4_jm
    have g5_c0 : k_5 c0 = some (.inl (0, 50, .inl e0)) := by rw [e_k_5, av_up_ne (fun z => NJ_ p (by simp) (by rw [← z]; simp))]; exact g4_c0
    have g5_c1 : k_5 c1 = some (.inl (0, dc, .inl e1)) := by rw [e_k_5, av_up_ne (fun z => NJ_ p (by simp) (by rw [← z]; simp))]; exact g4_c1
    have g5_c2 : k_5 c2 = some (.inl (0, dc, .inl e2)) := by rw [e_k_5, av_up_ne (fun z => NJ_ p (by simp) (by rw [← z]; simp))]; exact g4_c2
    have g5_c3 : k_5 c3 = some (.inl (0, dc, .inl e3)) := by rw [e_k_5, av_up_ne (fun z => NJ_ p (by simp) (by rw [← z]; simp))]; exact g4_c3
    have g5_c4 : k_5 c4 = some (.inl (0, dc, .inl e4)) := by rw [e_k_5, av_up_ne (fun z => NJ_ p (by simp) (by rw [← z]; simp))]; exact g4_c4
    have g5_c5 : k_5 c5 = some (.inl (0, dq, .inl e5)) := by rw [e_k_5, av_up_ne (fun z => NJ_ p (by simp) (by rw [← z]; simp))]; exact g4_c5
    have g5_q_30 : k_5 q_30 = some (.inl (0, rm, .inl (fun _ => 0))) := by rw [e_k_5, av_up_ne (Ne.symm ne_p_q_30)]; exact g4_q_30
    have g5_q_37 : k_5 q_37 = some (.inl (0, rm, .inl (fun _ => 0))) := by rw [e_k_5, av_up_ne (Ne.symm ne_p_q_37)]; exact g4_q_37
    have g5_p : k_5 p = some (.inr (4, [.ref q_30, .ref q_37, .ref pq, .int (nI 0)])) := by rw [e_k_5]; exact av_up_self _ _ _
    refine aw_aload_n d_P_clear_42 rfl ?_
    refine aw_iload_n d_P_clear_43 rfl ?_
    refine aw_newa (t := 0) (N := rm) (z := (rm, .inl (fun _ => 0))) (mc2 := 0) (ms2 := 0) d_P_clear_44 tw_111 (fun _ => rfl) (fun _ _ z => z) (fun _ => rfl) (nI_pos (by omega)) (nI_clamp (by omega)) (by simp only [newarray.typeOf, componentBytes]; omega) (by omega) (by omega) (fun q_44 f_q_44 => ?_)
    obtain ⟨k_6, e_k_6⟩ : ∃ z, z = av_up k_5 q_44 (.inl (0, rm, .inl (fun _ => 0))) := ⟨_, rfl⟩
    refine aw_heap (h' := k_6) e_k_6.symm ?_
    have ne_pa_q_44 : pa ≠ q_44 := (fun z => by have z1 := g5_pa; rw [z, f_q_44] at z1; cases z1)
    have g6_pa : k_6 pa = some (.inl (0, pl, .inl fn)) := by rw [e_k_6, av_up_ne ne_pa_q_44]; exact g5_pa
    have ne_pb_q_44 : pb ≠ q_44 := (fun z => by have z1 := g5_pb; rw [z, f_q_44] at z1; cases z1)
    have g6_pb : k_6 pb = some (.inl (0, pl, .inl fb)) := by rw [e_k_6, av_up_ne ne_pb_q_44]; exact g5_pb
    have ne_pq_q_44 : pq ≠ q_44 := (fun z => by have z1 := g5_pq; rw [z, f_q_44] at z1; cases z1)
    have g6_pq : k_6 pq = some (.inl (0, pl, .inl fq)) := by rw [e_k_6, av_up_ne ne_pq_q_44]; exact g5_pq
    have ne_im_q_44 : im ≠ q_44 := (fun z => by have z1 := g5_im; rw [z, f_q_44] at z1; cases z1)
    have g6_im : k_6 im = some (.inr (2, [.ref a0, .ref a1, .ref a2, .ref a3, .ref a4, .ref a5, .int (nI us), .int (nI n), .int (nI iw), .int (nI wp), .int (nI cp)])) := by rw [e_k_6, av_up_ne ne_im_q_44]; exact g5_im
    have ne_a0_q_44 : a0 ≠ q_44 := (fun z => by have z1 := g5_a0; rw [z, f_q_44] at z1; cases z1)
    have g6_a0 : k_6 a0 = some (.inl (0, 50, .inl f0)) := by rw [e_k_6, av_up_ne ne_a0_q_44]; exact g5_a0
    have ne_a1_q_44 : a1 ≠ q_44 := (fun z => by have z1 := g5_a1; rw [z, f_q_44] at z1; cases z1)
    have g6_a1 : k_6 a1 = some (.inl (0, cc, .inl f1)) := by rw [e_k_6, av_up_ne ne_a1_q_44]; exact g5_a1
    have ne_a2_q_44 : a2 ≠ q_44 := (fun z => by have z1 := g5_a2; rw [z, f_q_44] at z1; cases z1)
    have g6_a2 : k_6 a2 = some (.inl (0, cc, .inl f2)) := by rw [e_k_6, av_up_ne ne_a2_q_44]; exact g5_a2
    have ne_a3_q_44 : a3 ≠ q_44 := (fun z => by have z1 := g5_a3; rw [z, f_q_44] at z1; cases z1)
    have g6_a3 : k_6 a3 = some (.inl (0, cc, .inl f3)) := by rw [e_k_6, av_up_ne ne_a3_q_44]; exact g5_a3
    have ne_a4_q_44 : a4 ≠ q_44 := (fun z => by have z1 := g5_a4; rw [z, f_q_44] at z1; cases z1)
    have g6_a4 : k_6 a4 = some (.inl (0, cc, .inl f4)) := by rw [e_k_6, av_up_ne ne_a4_q_44]; exact g5_a4
    have ne_a5_q_44 : a5 ≠ q_44 := (fun z => by have z1 := g5_a5; rw [z, f_q_44] at z1; cases z1)
    have g6_a5 : k_6 a5 = some (.inl (0, pc, .inl f5)) := by rw [e_k_6, av_up_ne ne_a5_q_44]; exact g5_a5
    have ne_jm_q_44 : jm ≠ q_44 := (fun z => by have z1 := g5_jm; rw [z, f_q_44] at z1; cases z1)
    have g6_jm : k_6 jm = some (.inr (2, [.ref c0, .ref c1, .ref c2, .ref c3, .ref c4, .ref c5, .int (nI du), .int (nI n2), .int (nI jw), .int (nI wq), .int (nI cq)])) := by rw [e_k_6, av_up_ne ne_jm_q_44]; exact g5_jm
    have ne_c0_q_44 : c0 ≠ q_44 := (fun z => by have z1 := g5_c0; rw [z, f_q_44] at z1; cases z1)
    have g6_c0 : k_6 c0 = some (.inl (0, 50, .inl e0)) := by rw [e_k_6, av_up_ne ne_c0_q_44]; exact g5_c0
    have ne_c1_q_44 : c1 ≠ q_44 := (fun z => by have z1 := g5_c1; rw [z, f_q_44] at z1; cases z1)
    have g6_c1 : k_6 c1 = some (.inl (0, dc, .inl e1)) := by rw [e_k_6, av_up_ne ne_c1_q_44]; exact g5_c1
    have ne_c2_q_44 : c2 ≠ q_44 := (fun z => by have z1 := g5_c2; rw [z, f_q_44] at z1; cases z1)
    have g6_c2 : k_6 c2 = some (.inl (0, dc, .inl e2)) := by rw [e_k_6, av_up_ne ne_c2_q_44]; exact g5_c2
    have ne_c3_q_44 : c3 ≠ q_44 := (fun z => by have z1 := g5_c3; rw [z, f_q_44] at z1; cases z1)
    have g6_c3 : k_6 c3 = some (.inl (0, dc, .inl e3)) := by rw [e_k_6, av_up_ne ne_c3_q_44]; exact g5_c3
    have ne_c4_q_44 : c4 ≠ q_44 := (fun z => by have z1 := g5_c4; rw [z, f_q_44] at z1; cases z1)
    have g6_c4 : k_6 c4 = some (.inl (0, dc, .inl e4)) := by rw [e_k_6, av_up_ne ne_c4_q_44]; exact g5_c4
    have ne_c5_q_44 : c5 ≠ q_44 := (fun z => by have z1 := g5_c5; rw [z, f_q_44] at z1; cases z1)
    have g6_c5 : k_6 c5 = some (.inl (0, dq, .inl e5)) := by rw [e_k_6, av_up_ne ne_c5_q_44]; exact g5_c5
    have ne_q_30_q_44 : q_30 ≠ q_44 := (fun z => by have z1 := g5_q_30; rw [z, f_q_44] at z1; cases z1)
    have g6_q_30 : k_6 q_30 = some (.inl (0, rm, .inl (fun _ => 0))) := by rw [e_k_6, av_up_ne ne_q_30_q_44]; exact g5_q_30
    have ne_q_37_q_44 : q_37 ≠ q_44 := (fun z => by have z1 := g5_q_37; rw [z, f_q_44] at z1; cases z1)
    have g6_q_37 : k_6 q_37 = some (.inl (0, rm, .inl (fun _ => 0))) := by rw [e_k_6, av_up_ne ne_q_37_q_44]; exact g5_q_37
    have ne_p_q_44 : p ≠ q_44 := (fun z => by have z1 := g5_p; rw [z, f_q_44] at z1; cases z1)
    have g6_p : k_6 p = some (.inr (4, [.ref q_30, .ref q_37, .ref pq, .int (nI 0)])) := by rw [e_k_6, av_up_ne ne_p_q_44]; exact g5_p
    have g6_q_44 : k_6 q_44 = some (.inl (0, rm, .inl (fun _ => 0))) := by rw [e_k_6]; exact av_up_self _ _ _
    refine aw_put (fs' := [.ref q_30, .ref q_37, .ref q_44, .int (nI 0)]) (pt_P_18 _) d_P_clear_46 g6_p rfl rfl (by simp) rfl ?_
    obtain ⟨k_7, e_k_7⟩ : ∃ z, z = av_up k_6 p (.inr (4, [.ref q_30, .ref q_37, .ref q_44, .int (nI 0)])) := ⟨_, rfl⟩
    refine aw_heap (h' := k_7) e_k_7.symm ?_
    have g7_pa : k_7 pa = some (.inl (0, pl, .inl fn)) := by rw [e_k_7, av_up_ne (av_apart g6_pa g6_p)]; exact g6_pa
    have g7_pb : k_7 pb = some (.inl (0, pl, .inl fb)) := by rw [e_k_7, av_up_ne (av_apart g6_pb g6_p)]; exact g6_pb
    have g7_pq : k_7 pq = some (.inl (0, pl, .inl fq)) := by rw [e_k_7, av_up_ne (av_apart g6_pq g6_p)]; exact g6_pq
    have g7_im : k_7 im = some (.inr (2, [.ref a0, .ref a1, .ref a2, .ref a3, .ref a4, .ref a5, .int (nI us), .int (nI n), .int (nI iw), .int (nI wp), .int (nI cp)])) := by rw [e_k_7, av_up_ne (fun z => NI_ p (by simp) (by rw [← z]; simp))]; exact g6_im
    have g7_a0 : k_7 a0 = some (.inl (0, 50, .inl f0)) := by rw [e_k_7, av_up_ne (fun z => NI_ p (by simp) (by rw [← z]; simp))]; exact g6_a0
    have g7_a1 : k_7 a1 = some (.inl (0, cc, .inl f1)) := by rw [e_k_7, av_up_ne (fun z => NI_ p (by simp) (by rw [← z]; simp))]; exact g6_a1
    have g7_a2 : k_7 a2 = some (.inl (0, cc, .inl f2)) := by rw [e_k_7, av_up_ne (fun z => NI_ p (by simp) (by rw [← z]; simp))]; exact g6_a2
    have g7_a3 : k_7 a3 = some (.inl (0, cc, .inl f3)) := by rw [e_k_7, av_up_ne (fun z => NI_ p (by simp) (by rw [← z]; simp))]; exact g6_a3
    have g7_a4 : k_7 a4 = some (.inl (0, cc, .inl f4)) := by rw [e_k_7, av_up_ne (fun z => NI_ p (by simp) (by rw [← z]; simp))]; exact g6_a4
    have g7_a5 : k_7 a5 = some (.inl (0, pc, .inl f5)) := by rw [e_k_7, av_up_ne (fun z => NI_ p (by simp) (by rw [← z]; simp))]; exact g6_a5
    have g7_jm : k_7 jm = some (.inr (2, [.ref c0, .ref c1, .ref c2, .ref c3, .ref c4, .ref c5, .int (nI du), .int (nI n2), .int (nI jw), .int (nI wq), .int (nI cq)])) := by rw [e_k_7, av_up_ne (fun z => NJ_ p (by simp) (by rw [← z]; simp))]; exact g6_jm
    have g7_c0 : k_7 c0 = some (.inl (0, 50, .inl e0)) := by rw [e_k_7, av_up_ne (fun z => NJ_ p (by simp) (by rw [← z]; simp))]; exact g6_c0
    have g7_c1 : k_7 c1 = some (.inl (0, dc, .inl e1)) := by rw [e_k_7, av_up_ne (fun z => NJ_ p (by simp) (by rw [← z]; simp))]; exact g6_c1
    have g7_c2 : k_7 c2 = some (.inl (0, dc, .inl e2)) := by rw [e_k_7, av_up_ne (fun z => NJ_ p (by simp) (by rw [← z]; simp))]; exact g6_c2
    have g7_c3 : k_7 c3 = some (.inl (0, dc, .inl e3)) := by rw [e_k_7, av_up_ne (fun z => NJ_ p (by simp) (by rw [← z]; simp))]; exact g6_c3
    have g7_c4 : k_7 c4 = some (.inl (0, dc, .inl e4)) := by rw [e_k_7, av_up_ne (fun z => NJ_ p (by simp) (by rw [← z]; simp))]; exact g6_c4
    have g7_c5 : k_7 c5 = some (.inl (0, dq, .inl e5)) := by rw [e_k_7, av_up_ne (fun z => NJ_ p (by simp) (by rw [← z]; simp))]; exact g6_c5
    have g7_q_30 : k_7 q_30 = some (.inl (0, rm, .inl (fun _ => 0))) := by rw [e_k_7, av_up_ne (Ne.symm ne_p_q_30)]; exact g6_q_30
    have g7_q_37 : k_7 q_37 = some (.inl (0, rm, .inl (fun _ => 0))) := by rw [e_k_7, av_up_ne (Ne.symm ne_p_q_37)]; exact g6_q_37
    have g7_q_44 : k_7 q_44 = some (.inl (0, rm, .inl (fun _ => 0))) := by rw [e_k_7, av_up_ne (Ne.symm ne_p_q_44)]; exact g6_q_44
    have g7_p : k_7 p = some (.inr (4, [.ref q_30, .ref q_37, .ref q_44, .int (nI 0)])) := by rw [e_k_7]; exact av_up_self _ _ _
    refine aw_aload_n d_P_clear_49 rfl ?_
    refine aw_get fl_P_9 d_P_clear_50 g7_p rfl ?_
    refine aw_iconst (v := nI 0) d_P_clear_53 (by decide) ?_
    refine aw_callS (mc2 := 0) (ms2 := 0) (As := [.ref q_30, .int (nI 0)]) (rest := []) (c_A_fill g7_q_30 (by omega)) cs_P_59 d_P_clear_54 rfl rfl (Nat.le_of_ble_eq_true rfl) (by decide) (by decide) (by omega) (by omega) (fun v_54 k_54c q_54 => ?_)
    obtain ⟨z1_54, fz_54, z2_54, z3_54⟩ := q_54
    refine aw_st (st' := []) (by rw [z1_54]; rfl) ?_
    have gf54_pa : k_54c pa = some (.inl (0, pl, .inl fn)) := by rw [z2_54, av_up_ne ne_pa_q_30]; exact g7_pa
    have gf54_pb : k_54c pb = some (.inl (0, pl, .inl fb)) := by rw [z2_54, av_up_ne ne_pb_q_30]; exact g7_pb
    have gf54_pq : k_54c pq = some (.inl (0, pl, .inl fq)) := by rw [z2_54, av_up_ne ne_pq_q_30]; exact g7_pq
    have gf54_im : k_54c im = some (.inr (2, [.ref a0, .ref a1, .ref a2, .ref a3, .ref a4, .ref a5, .int (nI us), .int (nI n), .int (nI iw), .int (nI wp), .int (nI cp)])) := by rw [z2_54, av_up_ne ne_im_q_30]; exact g7_im
    have gf54_a0 : k_54c a0 = some (.inl (0, 50, .inl f0)) := by rw [z2_54, av_up_ne ne_a0_q_30]; exact g7_a0
    have gf54_a1 : k_54c a1 = some (.inl (0, cc, .inl f1)) := by rw [z2_54, av_up_ne ne_a1_q_30]; exact g7_a1
    have gf54_a2 : k_54c a2 = some (.inl (0, cc, .inl f2)) := by rw [z2_54, av_up_ne ne_a2_q_30]; exact g7_a2
    have gf54_a3 : k_54c a3 = some (.inl (0, cc, .inl f3)) := by rw [z2_54, av_up_ne ne_a3_q_30]; exact g7_a3
    have gf54_a4 : k_54c a4 = some (.inl (0, cc, .inl f4)) := by rw [z2_54, av_up_ne ne_a4_q_30]; exact g7_a4
    have gf54_a5 : k_54c a5 = some (.inl (0, pc, .inl f5)) := by rw [z2_54, av_up_ne ne_a5_q_30]; exact g7_a5
    have gf54_jm : k_54c jm = some (.inr (2, [.ref c0, .ref c1, .ref c2, .ref c3, .ref c4, .ref c5, .int (nI du), .int (nI n2), .int (nI jw), .int (nI wq), .int (nI cq)])) := by rw [z2_54, av_up_ne ne_jm_q_30]; exact g7_jm
    have gf54_c0 : k_54c c0 = some (.inl (0, 50, .inl e0)) := by rw [z2_54, av_up_ne ne_c0_q_30]; exact g7_c0
    have gf54_c1 : k_54c c1 = some (.inl (0, dc, .inl e1)) := by rw [z2_54, av_up_ne ne_c1_q_30]; exact g7_c1
    have gf54_c2 : k_54c c2 = some (.inl (0, dc, .inl e2)) := by rw [z2_54, av_up_ne ne_c2_q_30]; exact g7_c2
    have gf54_c3 : k_54c c3 = some (.inl (0, dc, .inl e3)) := by rw [z2_54, av_up_ne ne_c3_q_30]; exact g7_c3
    have gf54_c4 : k_54c c4 = some (.inl (0, dc, .inl e4)) := by rw [z2_54, av_up_ne ne_c4_q_30]; exact g7_c4
    have gf54_c5 : k_54c c5 = some (.inl (0, dq, .inl e5)) := by rw [z2_54, av_up_ne ne_c5_q_30]; exact g7_c5
    have gf54_q_37 : k_54c q_37 = some (.inl (0, rm, .inl (fun _ => 0))) := by rw [z2_54, av_up_ne (Ne.symm ne_q_30_q_37)]; exact g7_q_37
    have gf54_q_44 : k_54c q_44 = some (.inl (0, rm, .inl (fun _ => 0))) := by rw [z2_54, av_up_ne (Ne.symm ne_q_30_q_44)]; exact g7_q_44
    have gf54_p : k_54c p = some (.inr (4, [.ref q_30, .ref q_37, .ref q_44, .int (nI 0)])) := by rw [z2_54, av_up_ne ne_p_q_30]; exact g7_p
    have gf54_q_30 : k_54c q_30 = some (.inl (0, rm, .inl fz_54)) := by rw [z2_54]; exact av_up_self _ _ _
    refine aw_aload_n d_P_clear_57 rfl ?_
    refine aw_get fl_P_15 d_P_clear_58 gf54_p rfl ?_
    refine aw_iconst (v := nI 0) d_P_clear_61 (by decide) ?_
    refine aw_callS (mc2 := 0) (ms2 := 0) (As := [.ref q_37, .int (nI 0)]) (rest := []) (c_A_fill gf54_q_37 (by omega)) cs_P_59 d_P_clear_62 rfl rfl (Nat.le_of_ble_eq_true rfl) (by decide) (by decide) (by omega) (by omega) (fun v_62 k_62c q_62 => ?_)
    obtain ⟨z1_62, fz_62, z2_62, z3_62⟩ := q_62
    refine aw_st (st' := []) (by rw [z1_62]; rfl) ?_
    have gf62_pa : k_62c pa = some (.inl (0, pl, .inl fn)) := by rw [z2_62, av_up_ne ne_pa_q_37]; exact gf54_pa
    have gf62_pb : k_62c pb = some (.inl (0, pl, .inl fb)) := by rw [z2_62, av_up_ne ne_pb_q_37]; exact gf54_pb
    have gf62_pq : k_62c pq = some (.inl (0, pl, .inl fq)) := by rw [z2_62, av_up_ne ne_pq_q_37]; exact gf54_pq
    have gf62_im : k_62c im = some (.inr (2, [.ref a0, .ref a1, .ref a2, .ref a3, .ref a4, .ref a5, .int (nI us), .int (nI n), .int (nI iw), .int (nI wp), .int (nI cp)])) := by rw [z2_62, av_up_ne ne_im_q_37]; exact gf54_im
    have gf62_a0 : k_62c a0 = some (.inl (0, 50, .inl f0)) := by rw [z2_62, av_up_ne ne_a0_q_37]; exact gf54_a0
    have gf62_a1 : k_62c a1 = some (.inl (0, cc, .inl f1)) := by rw [z2_62, av_up_ne ne_a1_q_37]; exact gf54_a1
    have gf62_a2 : k_62c a2 = some (.inl (0, cc, .inl f2)) := by rw [z2_62, av_up_ne ne_a2_q_37]; exact gf54_a2
    have gf62_a3 : k_62c a3 = some (.inl (0, cc, .inl f3)) := by rw [z2_62, av_up_ne ne_a3_q_37]; exact gf54_a3
    have gf62_a4 : k_62c a4 = some (.inl (0, cc, .inl f4)) := by rw [z2_62, av_up_ne ne_a4_q_37]; exact gf54_a4
    have gf62_a5 : k_62c a5 = some (.inl (0, pc, .inl f5)) := by rw [z2_62, av_up_ne ne_a5_q_37]; exact gf54_a5
    have gf62_jm : k_62c jm = some (.inr (2, [.ref c0, .ref c1, .ref c2, .ref c3, .ref c4, .ref c5, .int (nI du), .int (nI n2), .int (nI jw), .int (nI wq), .int (nI cq)])) := by rw [z2_62, av_up_ne ne_jm_q_37]; exact gf54_jm
    have gf62_c0 : k_62c c0 = some (.inl (0, 50, .inl e0)) := by rw [z2_62, av_up_ne ne_c0_q_37]; exact gf54_c0
    have gf62_c1 : k_62c c1 = some (.inl (0, dc, .inl e1)) := by rw [z2_62, av_up_ne ne_c1_q_37]; exact gf54_c1
    have gf62_c2 : k_62c c2 = some (.inl (0, dc, .inl e2)) := by rw [z2_62, av_up_ne ne_c2_q_37]; exact gf54_c2
    have gf62_c3 : k_62c c3 = some (.inl (0, dc, .inl e3)) := by rw [z2_62, av_up_ne ne_c3_q_37]; exact gf54_c3
    have gf62_c4 : k_62c c4 = some (.inl (0, dc, .inl e4)) := by rw [z2_62, av_up_ne ne_c4_q_37]; exact gf54_c4
    have gf62_c5 : k_62c c5 = some (.inl (0, dq, .inl e5)) := by rw [z2_62, av_up_ne ne_c5_q_37]; exact gf54_c5
    have gf62_q_44 : k_62c q_44 = some (.inl (0, rm, .inl (fun _ => 0))) := by rw [z2_62, av_up_ne (Ne.symm ne_q_37_q_44)]; exact gf54_q_44
    have gf62_p : k_62c p = some (.inr (4, [.ref q_30, .ref q_37, .ref q_44, .int (nI 0)])) := by rw [z2_62, av_up_ne ne_p_q_37]; exact gf54_p
    have gf62_q_30 : k_62c q_30 = some (.inl (0, rm, .inl fz_54)) := by rw [z2_62, av_up_ne ne_q_30_q_37]; exact gf54_q_30
    have gf62_q_37 : k_62c q_37 = some (.inl (0, rm, .inl fz_62)) := by rw [z2_62]; exact av_up_self _ _ _
    exact aw_vret d_P_clear_65 rfl ⟨rfl, _, _, _, _, _, _, ⟨gf62_p, (by rw [hmx]; exact gf62_q_30), (by rw [hmx]; exact gf62_q_37), (by rw [hmx]; exact gf62_q_44)⟩, fun k hk => z3_54 k (by omega), fun k hk => z3_62 k (by omega), ⟨ne_q_30_q_37, ne_q_30_q_44, ne_q_37_q_44⟩, ((((((((((frm.refl [p, pa, pb, pq]).up e_k_1 (by simp)).nw e_k_2 f_q_30).up e_k_3 (by simp)).nw e_k_4 f_q_37).up e_k_5 (by simp)).nw e_k_6 f_q_44).up e_k_7 (by simp)).up z2_54 (by simp)).up z2_62 (by simp)).sub (by intro x hx; simp only [List.mem_cons, List.not_mem_nil, or_false] at hx ⊢; omega)⟩

set_option maxHeartbeats 4000000 in
theorem lp_P_pairsQ {tb : Nat → Nat} {h : AH} {fr lo : Nat} {mc ms : Nat} (hfr : 4 ≤ fr) (hlo : 96 ≤ lo) {im a0 a1 a2 a3 a4 a5 cc pc us iw wp cp : Nat} {B : Nat → Nat} {f0 f1 f2 f3 f4 f5 : Nat → Int32} (V : IV B f0 f1 f2 f3 f4 f5 cc pc) (L : LX B) (hB_ : ∀ i, B i < 256) (hcc : cc ≤ 1048576) (hpc : pc ≤ 1048576) {jm c0 c1 c2 c3 c4 c5 dc dq du jw wq cq : Nat} {D : Nat → Nat} {e0 e1 e2 e3 e4 e5 : Nat → Int32} (V2 : IV D e0 e1 e2 e3 e4 e5 dc dq) (L2 : LX D) (hD_ : ∀ i, D i < 256) (hdc : dc ≤ 1048576) (hdq : dq ≤ 1048576) {p pa pb pq pl : Nat} (Dp : pND pa pb pq) (NI_ : ∀ x ∈ [p, pa, pb, pq], x ∉ [im, a0, a1, a2, a3, a4, a5]) (NJ_ : ∀ x ∈ [p, pa, pb, pq], x ∉ [jm, c0, c1, c2, c3, c4, c5]) (hNl : nn B < pl) (hKl : nn D < pl) (hpl : pl ≤ 1048576) : ∀ (d : Nat) (j : Nat) (g : AH) (fn fb fq : Nat → Int32) (mn : Nat), pkS g p pa pb pq pl mn fn fb fq → iS g im a0 a1 a2 a3 a4 a5 cc pc us (nn B) iw wp cp f0 f1 f2 f3 f4 f5 → iS g jm c0 c1 c2 c3 c4 c5 dc dq du (nn D) jw wq cq e0 e1 e2 e3 e4 e5 → frm [p, pa, pb, pq] [p, pa, pb, pq] h g → j ≤ nn B → (gst B D j).2 = true → RPx (nn B) (nn D) (gst B D j).1 fn fb fq mn → nn B < j + d → AW tb "ImageReader$Pairing" b_P_pairs 4 (some .boolean) false none fr lo (fun v h' => v = some (.int (bP (gfin B D = true))) ∧ ∃ fn' fb' fq' mn', pkS h' p pa pb pq pl mn' fn' fb' fq' ∧ frm [p, pa, pb, pq] [p, pa, pb, pq] h h') 69 [some (.ref p), some (.ref im), some (.ref jm), some (.int (nI j))] [] g mc ms := by
  intro d
  induction d with
  | zero => intro j g fn fb fq mn gP gM gN_ gT hj hok hR hd; omega
  | succ d ih =>
    intro j g fn fb fq mn gP gM gN_ gT hj hok hR hd
    have nV_im := V.1
    have nL_im := L.1
    have nV_jm := V2.1
    have nL_jm := L2.1
    have hmn := hR.1
    have hle := (gstx_gd L L2 j).le
    refine aw_iload_n d_P_pairs_69 rfl ?_
    refine aw_aload_n d_P_pairs_70 rfl ?_
    refine aw_get fl_P_41 d_P_pairs_71 gP.1 rfl ?_
    refine aw_icmp_ge (tgt := 119) d_P_pairs_74 (by decide) (fun c_74 => ?_) (fun c_74 => ?_)
    · rw [nI_leI (by omega) (by omega)] at c_74
      refine aw_iconst (v := nI 1) d_P_pairs_119 (by decide) ?_
      exact aw_iret d_P_pairs_120 rfl nar1 (⟨by rw [bP_t (show gfin B D = true from by rw [gfin_at (fun y => by have := y.2; omega) hj]; exact hok)], fn, fb, fq, mn, gP, gT⟩)
    · rw [nI_leI (by omega) (by omega)] at c_74
      have hx : (gst B D j).2 = true ∧ j < (gst B D j).1.2.2.2 := ⟨hok, by omega⟩
      obtain ⟨q1, q2, u3⟩ := (gstx_gd L L2 j).2.2.2 j hx.2
      obtain ⟨_, _, q4, _⟩ := (gstx_gd L L2 j).2.1 _ u3
      have q3 : 1 ≤ (gst B D j).1.1 ((gst B D j).1.2.2.1 j) := by omega
      refine aw_iload_n d_P_pairs_77 rfl ?_
      refine aw_aload_n d_P_pairs_78 rfl ?_
      refine aw_get fl_P_44 d_P_pairs_79 gM.1 rfl ?_
      refine aw_icmp_ge (tgt := 119) d_P_pairs_82 (by decide) (fun c_82 => ?_) (fun c_82 => ?_)
      · rw [nI_leI (by omega) (by omega)] at c_82
        refine aw_iconst (v := nI 1) d_P_pairs_119 (by decide) ?_
        exact aw_iret d_P_pairs_120 rfl nar1 (⟨by rw [bP_t (show gfin B D = true from by unfold gfin; rw [show nn B = j by omega]; exact hok)], fn, fb, fq, mn, gP, gT⟩)
      · rw [nI_leI (by omega) (by omega)] at c_82
        refine aw_aload_n d_P_pairs_85 rfl ?_
        refine aw_aload_n d_P_pairs_86 rfl ?_
        refine aw_aload_n d_P_pairs_87 rfl ?_
        refine aw_get fl_P_18 d_P_pairs_88 gP.1 rfl ?_
        refine aw_iload_n d_P_pairs_91 rfl ?_
        refine aw_iald (x := nI ((gst B D j).1.2.2.1 j)) d_P_pairs_92 gP.2.2.2 (vp_in_nI (by omega) (by omega)) (by rw [nI_clamp (by omega)]; exact hR.2.2.2 j (by omega)) ?_
        refine aw_aload_n d_P_pairs_93 rfl ?_
        refine aw_aload_n d_P_pairs_94 rfl ?_
        refine aw_get fl_P_9 d_P_pairs_95 gP.1 rfl ?_
        refine aw_aload_n d_P_pairs_98 rfl ?_
        refine aw_get fl_P_18 d_P_pairs_99 gP.1 rfl ?_
        refine aw_iload_n d_P_pairs_102 rfl ?_
        refine aw_iald (x := nI ((gst B D j).1.2.2.1 j)) d_P_pairs_103 gP.2.2.2 (vp_in_nI (by omega) (by omega)) (by rw [nI_clamp (by omega)]; exact hR.2.2.2 j (by omega)) ?_
        refine aw_iald (x := nI ((gst B D j).1.1 ((gst B D j).1.2.2.1 j))) d_P_pairs_104 gP.2.1 (vp_in_nI (by omega) (by omega)) (by rw [nI_clamp (by omega)]; exact hR.2.1 _ (by omega)) ?_
        refine aw_callV (mc2 := mc) (ms2 := ms) (As := [.ref im, .int (nI ((gst B D j).1.2.2.1 j)), .ref jm, .int (nI ((gst B D j).1.1 ((gst B D j).1.2.2.1 j)))]) (rest := []) (c_P_matchBodies ⟨gM.1, gM.2.1, gM.2.2.1, gM.2.2.2.1, gM.2.2.2.2.1, gM.2.2.2.2.2.1, gM.2.2.2.2.2.2⟩ V L hB_ hcc hpc ⟨gN_.1, gN_.2.1, gN_.2.2.1, gN_.2.2.2.1, gN_.2.2.2.2.1, gN_.2.2.2.2.2.1, gN_.2.2.2.2.2.2⟩ V2 L2 hD_ hdc hdq ⟨gP.1, gP.2.1, gP.2.2.1, gP.2.2.2⟩ Dp NI_ NJ_ hNl hKl hpl (gstx_gd L L2 j) hR ((gst B D j).1.2.2.1 j) ((gst B D j).1.1 ((gst B D j).1.2.2.1 j)) q1 q2 q3 q4) cv_P_47 d_P_pairs_105 gP.1 rfl rfl rfl (Nat.le_of_ble_eq_true rfl) (Nat.le_trans (by decide) hfr) (Nat.le_trans (by decide) hlo) (by omega) (by omega) (fun v_105 k_105c q_105 => ?_)
        obtain ⟨y1, fn_1, fb_1, fq_1, mn_1, y2, y3, y4⟩ := q_105
        refine aw_st (st' := .int (bP ((gbo B D (gst B D j).1 ((gst B D j).1.2.2.1 j) ((gst B D j).1.1 ((gst B D j).1.2.2.1 j))).2 = true)) :: []) (by rw [y1]; rfl) ?_
        have MI_1 := gM.fr y4 NI_
        have MJ_1 := gN_.fr y4 NJ_
        refine aw_if_ne (tgt := 113) d_P_pairs_108 (by decide) (fun c_108 => ?_) (fun c_108 => ?_)
        · rw [bP_eq0, Classical.not_not] at c_108
          refine aw_iinc (v := nI (j + 1)) (L' := [some (.ref p), some (.ref im), some (.ref jm), some (.int (nI (j + 1)))]) d_P_pairs_113 rfl (nI_add j 1) (by decide) rfl rfl ?_
          refine aw_goto (tgt := 69) d_P_pairs_116 (by decide) ?_
          exact ih (j + 1) _ _ _ _ _ ⟨y2.1, y2.2.1, y2.2.2.1, y2.2.2.2⟩ MI_1 MJ_1 (gT.tr y4) (by omega) (by rw [gst_t hx]; exact c_108) (by rw [gst_t hx]; exact y3 c_108) (by omega)
        · rw [bP_eq0] at c_108
          refine aw_iconst (v := nI 0) d_P_pairs_111 (by decide) ?_
          exact aw_iret d_P_pairs_112 rfl nar0 ⟨by rw [bP_f (show ¬ gfin B D = true from by unfold gfin; rw [show nn B = (j + 1) + (nn B - (j + 1)) by omega, gst_stop (fun y => c_108 (by have y1 := y.1; rw [gst_t hx] at y1; exact y1)), gst_t hx]; exact c_108)], _, _, _, _, y2, gT.tr y4⟩

set_option maxHeartbeats 4000000 in
theorem lp_P_pairsS {tb : Nat → Nat} {h : AH} {fr lo : Nat} {mc ms : Nat} (hfr : 4 ≤ fr) (hlo : 96 ≤ lo) {im a0 a1 a2 a3 a4 a5 cc pc us iw wp cp : Nat} {B : Nat → Nat} {f0 f1 f2 f3 f4 f5 : Nat → Int32} (V : IV B f0 f1 f2 f3 f4 f5 cc pc) (L : LX B) (hB_ : ∀ i, B i < 256) (hcc : cc ≤ 1048576) (hpc : pc ≤ 1048576) {jm c0 c1 c2 c3 c4 c5 dc dq du jw wq cq : Nat} {D : Nat → Nat} {e0 e1 e2 e3 e4 e5 : Nat → Int32} (V2 : IV D e0 e1 e2 e3 e4 e5 dc dq) (L2 : LX D) (hD_ : ∀ i, D i < 256) (hdc : dc ≤ 1048576) (hdq : dq ≤ 1048576) {p pa pb pq pl : Nat} (Dp : pND pa pb pq) (NI_ : ∀ x ∈ [p, pa, pb, pq], x ∉ [im, a0, a1, a2, a3, a4, a5]) (NJ_ : ∀ x ∈ [p, pa, pb, pq], x ∉ [jm, c0, c1, c2, c3, c4, c5]) (hNl : nn B < pl) (hKl : nn D < pl) (hpl : pl ≤ 1048576) : ∀ (d : Nat) (k : Nat) (g : AH) (fn fb fq : Nat → Int32) (mn : Nat), pkS g p pa pb pq pl mn fn fb fq → iS g im a0 a1 a2 a3 a4 a5 cc pc us (nn B) iw wp cp f0 f1 f2 f3 f4 f5 → iS g jm c0 c1 c2 c3 c4 c5 dc dq du (nn D) jw wq cq e0 e1 e2 e3 e4 e5 → frm [p, pa, pb, pq] [p, pa, pb, pq] h g → k ≤ 50 → (gsp B D k).2 = true → RPx (nn B) (nn D) (gsp B D k).1 fn fb fq mn → 50 < k + d → AW tb "ImageReader$Pairing" b_P_pairs 4 (some .boolean) false none fr lo (fun v h' => v = some (.int (bP (gfin B D = true))) ∧ ∃ fn' fb' fq' mn', pkS h' p pa pb pq pl mn' fn' fb' fq' ∧ frm [p, pa, pb, pq] [p, pa, pb, pq] h h') 32 [some (.ref p), some (.ref im), some (.ref jm), some (.int (nI k))] [] g mc ms := by
  intro d
  induction d with
  | zero => intro k g fn fb fq mn gP gM gN_ gT hk hok hR hd; omega
  | succ d ih =>
    intro k g fn fb fq mn gP gM gN_ gT hk hok hR hd
    have nV_im := V.1
    have nL_im := L.1
    have nV_jm := V2.1
    have nL_jm := L2.1
    refine aw_iload_n d_P_pairs_32 rfl ?_
    refine aw_bipush (v := nI 50) d_P_pairs_33 (by decide) ?_
    refine aw_icmp_ge (tgt := 67) d_P_pairs_35 (by decide) (fun c_35 => ?_) (fun c_35 => ?_)
    · rw [nI_leI (by omega) (by omega)] at c_35
      refine aw_iconst (v := nI 0) d_P_pairs_67 (by decide) ?_
      refine aw_istore_n (L' := [some (.ref p), some (.ref im), some (.ref jm), some (.int (nI 0))]) d_P_pairs_68 (by decide) rfl rfl ?_
      have e0 : gst B D 0 = gsp B D k := by rw [gst, show k = 50 by omega]
      exact lp_P_pairsQ hfr hlo V L hB_ hcc hpc V2 L2 hD_ hdc hdq Dp NI_ NJ_ hNl hKl hpl (nn B + 1) 0 g fn fb fq mn gP gM gN_ gT (Nat.zero_le _) (by rw [e0]; exact hok) (by rw [e0]; exact hR) (by omega)
    · rw [nI_leI (by omega) (by omega)] at c_35
      refine aw_aload_n d_P_pairs_38 rfl ?_
      refine aw_aload_n d_P_pairs_39 rfl ?_
      refine aw_aload_n d_P_pairs_40 rfl ?_
      refine aw_get fl_P_34 d_P_pairs_41 gM.1 rfl ?_
      refine aw_iload_n d_P_pairs_44 rfl ?_
      refine aw_iald (x := nI (sp B k)) d_P_pairs_45 gM.2.1 (vp_in_nI (by omega) (by omega)) (by rw [nI_clamp (by omega)]; exact V.2.1 k (by omega)) ?_
      have b_45 := sp_lt hB_ k
      refine aw_aload_n d_P_pairs_46 rfl ?_
      refine aw_aload_n d_P_pairs_47 rfl ?_
      refine aw_get fl_P_34 d_P_pairs_48 gN_.1 rfl ?_
      refine aw_iload_n d_P_pairs_51 rfl ?_
      refine aw_iald (x := nI (sp D k)) d_P_pairs_52 gN_.2.1 (vp_in_nI (by omega) (by omega)) (by rw [nI_clamp (by omega)]; exact V2.2.1 k (by omega)) ?_
      have b_52 := sp_lt hD_ k
      refine aw_callV (mc2 := mc) (ms2 := ms) (As := [.ref im, .int (nI (sp B k)), .ref jm, .int (nI (sp D k))]) (rest := []) (c_P_match ⟨gM.1, gM.2.1, gM.2.2.1, gM.2.2.2.1, gM.2.2.2.2.1, gM.2.2.2.2.2.1, gM.2.2.2.2.2.2⟩ V L hB_ hcc hpc ⟨gN_.1, gN_.2.1, gN_.2.2.1, gN_.2.2.2.1, gN_.2.2.2.2.1, gN_.2.2.2.2.2.1, gN_.2.2.2.2.2.2⟩ V2 L2 hD_ hdc hdq ⟨gP.1, gP.2.1, gP.2.2.1, gP.2.2.2⟩ Dp NI_ NJ_ hNl hKl hpl (gspx_gd L L2 k hk) hR (sp B k) (sp D k) (by omega) (L.s (by omega)) (by omega) (L2.s (by omega))) cv_P_37 d_P_pairs_53 gP.1 rfl rfl rfl (Nat.le_of_ble_eq_true rfl) (Nat.le_trans (by decide) hfr) (Nat.le_trans (by decide) hlo) (by omega) (by omega) (fun v_53 k_53c q_53 => ?_)
      obtain ⟨y1_53, fn_53, fb_53, fq_53, mn_53, y2_53, y3_53, y4_53⟩ := q_53
      refine aw_st (st' := .int (bP ((pgo ((gsp B D k).1) (sp B k) (sp D k)).2 = true)) :: []) (by rw [y1_53]; rfl) ?_
      have MI_53 := gM.fr y4_53 NI_
      have MJ_53 := gN_.fr y4_53 NJ_
      refine aw_if_ne (tgt := 61) d_P_pairs_56 (by decide) (fun c_56 => ?_) (fun c_56 => ?_)
      · rw [bP_eq0, Classical.not_not] at c_56
        refine aw_iinc (v := nI (k + 1)) (L' := [some (.ref p), some (.ref im), some (.ref jm), some (.int (nI (k + 1)))]) d_P_pairs_61 rfl (nI_add k 1) (by decide) rfl rfl ?_
        refine aw_goto (tgt := 32) d_P_pairs_64 (by decide) ?_
        exact ih (k + 1) _ _ _ _ _ ⟨y2_53.1, y2_53.2.1, y2_53.2.2.1, y2_53.2.2.2⟩ MI_53 MJ_53 (gT.tr y4_53) (by omega) (by rw [gsp_t hok]; exact c_56) (by rw [gsp_t hok]; exact y3_53) (by omega)
      · rw [bP_eq0] at c_56
        refine aw_iconst (v := nI 0) d_P_pairs_59 (by decide) ?_
        exact aw_iret d_P_pairs_60 rfl nar0 ⟨by rw [bP_f (show ¬ gfin B D = true from by rw [gfin_at (j := 0) (fun y => c_56 (by have y1 : (gsp B D 50).2 = true := y.1; rw [show (50 : Nat) = (k + 1) + (50 - (k + 1)) by omega, gsp_stop (by rw [gsp_t hok]; exact c_56), gsp_t hok] at y1; exact y1)) (Nat.zero_le _)]; show ¬ (gsp B D 50).2 = true; rw [show (50 : Nat) = (k + 1) + (50 - (k + 1)) by omega, gsp_stop (by rw [gsp_t hok]; exact c_56), gsp_t hok]; exact c_56)], _, _, _, _, ⟨y2_53.1, y2_53.2.1, y2_53.2.2.1, y2_53.2.2.2⟩, (gT.tr y4_53)⟩

set_option maxHeartbeats 4000000 in
theorem c_P_pairs {tb : Nat → Nat} {h : AH} {im a0 a1 a2 a3 a4 a5 cc pc us iw wp cp : Nat} {B : Nat → Nat} {f0 f1 f2 f3 f4 f5 : Nat → Int32} (M : iS h im a0 a1 a2 a3 a4 a5 cc pc us (nn B) iw wp cp f0 f1 f2 f3 f4 f5) (V : IV B f0 f1 f2 f3 f4 f5 cc pc) (L : LX B) (hB_ : ∀ i, B i < 256) (hcc : cc ≤ 1048576) (hpc : pc ≤ 1048576) {jm c0 c1 c2 c3 c4 c5 dc dq du jw wq cq : Nat} {D : Nat → Nat} {e0 e1 e2 e3 e4 e5 : Nat → Int32} (M2 : iS h jm c0 c1 c2 c3 c4 c5 dc dq du (nn D) jw wq cq e0 e1 e2 e3 e4 e5) (V2 : IV D e0 e1 e2 e3 e4 e5 dc dq) (L2 : LX D) (hD_ : ∀ i, D i < 256) (hdc : dc ≤ 1048576) (hdq : dq ≤ 1048576) {p pa0 pb0 pq0 pl mn0 : Nat} {fn0 fb0 fq0 : Nat → Int32} (Mp0 : pkS h p pa0 pb0 pq0 pl mn0 fn0 fb0 fq0) (Dp0 : pND pa0 pb0 pq0) (NI0 : ∀ x ∈ [p, pa0, pb0, pq0], x ∉ [im, a0, a1, a2, a3, a4, a5]) (NJ0 : ∀ x ∈ [p, pa0, pb0, pq0], x ∉ [jm, c0, c1, c2, c3, c4, c5]) (h64 : P64 pl) (hc64 : P64 cc) (hd64 : P64 dc) (hcc2 : cc ≤ 524288) (hdc2 : dc ≤ 524288) (hpl0 : pl ≤ 524288) (hw1 : wp < 256) (hw2 : wq < 256) (hw3 : cp < 256) (hw4 : cq < 256) (rm : Nat) (hrm : isMx rm cc dc) (hr64 : P64 rm) (hrb : rm ≤ 524288) (hr1 : cc ≤ rm) (hr2 : dc ≤ rm) : AM tb y_P_pairs b_P_pairs 4 (some .boolean) 4 96 [.ref p, .ref im, .ref jm] h (max pl rm - pl) (6 * (max pl rm - pl)) (fun v h' => v = some (.int (bP (wp = wq ∧ cp = cq ∧ gfin B D = true))) ∧ ∃ pa pb pq fn' fb' fq' mn', pkS h' p pa pb pq (max pl rm) mn' fn' fb' fq' ∧ pND pa pb pq ∧ frm [p, pa0, pb0, pq0] [p, pa, pb, pq] h h') := by
  have nV_im := V.1
  have nL_im := L.1
  have nV_jm := V2.1
  have nL_jm := L2.1
  refine am_of (ini := false) [some (.ref p), some (.ref im), some (.ref jm), none] (by decide) (fun z => by cases z) (Nat.le_of_ble_eq_true rfl) rfl ?_
  refine aw_aload_n d_P_pairs_0 rfl ?_
  refine aw_aload_n d_P_pairs_1 rfl ?_
  refine aw_aload_n d_P_pairs_2 rfl ?_
  refine aw_callV (mc2 := 0) (ms2 := 0) (As := [.ref im, .ref jm]) (rest := []) (c_P_clear Mp0 Dp0 M M2 NI0 NJ0 h64 hc64 hd64 (by omega) (by omega) (by omega) rm hrm hr64 hrb) cv_P_21 d_P_pairs_3 Mp0.1 rfl rfl rfl (Nat.le_of_ble_eq_true rfl) (by decide) (by decide) (by omega) (by omega) (fun v_3 k_3c q_3 => ?_)
  obtain ⟨y1, pa, pb, pq, fn, fb, fq, Mp, hfz, hbz, Dp, T0⟩ := q_3
  refine aw_st (st' := []) (by rw [y1]; rfl) ?_
  have MI := M.fr T0 NI0
  have MJ := M2.fr T0 NJ0
  have NI_ : ∀ x ∈ [p, pa, pb, pq], x ∉ [im, a0, a1, a2, a3, a4, a5] := dj_fr T0 NI0 M.ex
  have NJ_ : ∀ x ∈ [p, pa, pb, pq], x ∉ [jm, c0, c1, c2, c3, c4, c5] := dj_fr T0 NJ0 M2.ex
  have hNl : nn B < (max pl rm) := by omega
  have hKl : nn D < (max pl rm) := by omega
  have hpl : (max pl rm) ≤ 1048576 := by omega
  refine aw_aload_n d_P_pairs_6 rfl ?_
  refine aw_get fl_P_25 d_P_pairs_7 MI.1 rfl ?_
  refine aw_aload_n d_P_pairs_10 rfl ?_
  refine aw_get fl_P_25 d_P_pairs_11 MJ.1 rfl ?_
  refine aw_icmp_ne (tgt := 28) d_P_pairs_14 (by decide) (fun c_14 => ?_) (fun c_14 => ?_)
  · rw [w_eq (by omega) (by omega)] at c_14
    refine aw_iconst (v := nI 0) d_P_pairs_28 (by decide) ?_
    exact aw_iret d_P_pairs_29 rfl nar0 ⟨by rw [bP_f (fun y => by first | exact c_14 y.1 | exact c_25 y.2.1)], pa, pb, pq, fn, fb, fq, 0, Mp, Dp, T0⟩
  · rw [w_eq (by omega) (by omega)] at c_14
    refine aw_aload_n d_P_pairs_17 rfl ?_
    refine aw_get fl_P_31 d_P_pairs_18 MI.1 rfl ?_
    refine aw_aload_n d_P_pairs_21 rfl ?_
    refine aw_get fl_P_31 d_P_pairs_22 MJ.1 rfl ?_
    refine aw_icmp_eq (tgt := 30) d_P_pairs_25 (by decide) (fun c_25 => ?_) (fun c_25 => ?_)
    · rw [w_eq (by omega) (by omega)] at c_25
      refine aw_iconst (v := nI 0) d_P_pairs_30 (by decide) ?_
      refine aw_istore_n (L' := [some (.ref p), some (.ref im), some (.ref jm), some (.int (nI 0))]) d_P_pairs_31 (by decide) rfl rfl ?_
      refine aw_post (fun v g q => ?_) (lp_P_pairsS (by decide) (by decide) V L hB_ hcc hpc V2 L2 hD_ hdc hdq Dp NI_ NJ_ hNl hKl hpl 51 0 _ fn fb fq 0 Mp MI MJ (frm.refl _) (by omega) rfl (RPx_0 (fun k hk => hfz k (by omega)) (fun k hk => hbz k (by omega))) (by omega))
      obtain ⟨t1, fn2, fb2, fq2, mn2, t2, t3⟩ := q
      exact ⟨by rw [t1, bP_congr (show gfin B D = true ↔ (wp = wq ∧ cp = cq ∧ gfin B D = true) from ⟨fun y => ⟨c_14, c_25, y⟩, fun y => y.2.2⟩)], pa, pb, pq, fn2, fb2, fq2, mn2, t2, Dp, T0.tr t3⟩
    · rw [w_eq (by omega) (by omega)] at c_25
      refine aw_iconst (v := nI 0) d_P_pairs_28 (by decide) ?_
      exact aw_iret d_P_pairs_29 rfl nar0 ⟨by rw [bP_f (fun y => by first | exact c_14 y.1 | exact c_25 y.2.1)], pa, pb, pq, fn, fb, fq, 0, Mp, Dp, T0⟩
