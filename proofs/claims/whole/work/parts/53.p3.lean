/-! ===== the class: its parts, apart from one another; the constructors ===== -/
def bC (h : AH) (b : Nat) (l : List Nat) (cap c : Nat) (B : Nat → Nat) : Prop := ∃ ro G, l = [b, ro] ∧ h b = some (.inr (1, [.ref ro, .int (nI c)])) ∧ h ro = some (.inl (1, cap, .inl (bsf G))) ∧ (∀ i, i < c → G i = B i) ∧ ∀ i, G i < 256
def wC (h : AH) (w : Nat) (l : List Nat) (wl : Nat) : Prop := ∃ nu qu mn fn fq, l = [w, nu, qu] ∧ wkS h w nu qu wl mn fn fq ∧ nu ≠ qu
def pC (h : AH) (p : Nat) (l : List Nat) (pl : Nat) : Prop := ∃ pa pb pq mn fn fb fq, l = [p, pa, pb, pq] ∧ pkS h p pa pb pq pl mn fn fb fq ∧ pND pa pb pq
def LV (h : AH) (l : List Nat) : Prop := ∀ x ∈ l, h x ≠ none
theorem eqS {h h' : AH} {l : List Nat} (e : ∀ x ∈ l, h' x = h x) {q : Nat} {v : AE} (hq : q ∈ l) (h0 : h q = some v) : h' q = some v := (e q hq).trans h0
theorem bC.lo {h h' : AH} {b : Nat} {l : List Nat} {cap c : Nat} {B : Nat → Nat} (H : bC h b l cap c B) (e : ∀ x ∈ l, h' x = h x) : bC h' b l cap c B := by
  obtain ⟨ro, G, rfl, q1, q2, q3⟩ := H
  exact ⟨ro, G, rfl, eqS e (by simp) q1, eqS e (by simp) q2, q3⟩
theorem bC.ex {h : AH} {b : Nat} {l : List Nat} {cap c : Nat} {B : Nat → Nat} (H : bC h b l cap c B) : LV h l := by
  obtain ⟨ro, G, rfl, q1, q2, q3⟩ := H
  intro x hx
  simp only [List.mem_cons, List.not_mem_nil, or_false] at hx
  rcases hx with z | z <;> subst z
  · rw [q1]; exact Option.some_ne_none _
  · rw [q2]; exact Option.some_ne_none _
theorem wC.lo {h h' : AH} {w : Nat} {l : List Nat} {wl : Nat} (H : wC h w l wl) (e : ∀ x ∈ l, h' x = h x) : wC h' w l wl := by
  obtain ⟨nu, qu, mn, fn, fq, rfl, q1, q2⟩ := H
  exact ⟨nu, qu, mn, fn, fq, rfl, ⟨eqS e (by simp) q1.1, eqS e (by simp) q1.2.1, eqS e (by simp) q1.2.2⟩, q2⟩
theorem wC.ex {h : AH} {w : Nat} {l : List Nat} {wl : Nat} (H : wC h w l wl) : LV h l := by
  obtain ⟨nu, qu, mn, fn, fq, rfl, ⟨q1, q2, q3⟩, _⟩ := H
  intro x hx
  simp only [List.mem_cons, List.not_mem_nil, or_false] at hx
  rcases hx with z | z | z <;> subst z
  · rw [q1]; exact Option.some_ne_none _
  · rw [q2]; exact Option.some_ne_none _
  · rw [q3]; exact Option.some_ne_none _
theorem pC.lo {h h' : AH} {p : Nat} {l : List Nat} {pl : Nat} (H : pC h p l pl) (e : ∀ x ∈ l, h' x = h x) : pC h' p l pl := by
  obtain ⟨pa, pb, pq, mn, fn, fb, fq, rfl, q1, q2⟩ := H
  exact ⟨pa, pb, pq, mn, fn, fb, fq, rfl, ⟨eqS e (by simp) q1.1, eqS e (by simp) q1.2.1, eqS e (by simp) q1.2.2.1, eqS e (by simp) q1.2.2.2⟩, q2⟩
theorem pC.ex {h : AH} {p : Nat} {l : List Nat} {pl : Nat} (H : pC h p l pl) : LV h l := by
  obtain ⟨pa, pb, pq, mn, fn, fb, fq, rfl, ⟨q1, q2, q3, q4⟩, _⟩ := H
  intro x hx
  simp only [List.mem_cons, List.not_mem_nil, or_false] at hx
  rcases hx with z | z | z | z <;> subst z
  · rw [q1]; exact Option.some_ne_none _
  · rw [q2]; exact Option.some_ne_none _
  · rw [q3]; exact Option.some_ne_none _
  · rw [q4]; exact Option.some_ne_none _
theorem iS.lo {h h' : AH} {im a0 a1 a2 a3 a4 a5 cc pc us n iw wp cp : Nat} {f0 f1 f2 f3 f4 f5 : Nat → Int32} (M : iS h im a0 a1 a2 a3 a4 a5 cc pc us n iw wp cp f0 f1 f2 f3 f4 f5) (e : ∀ x ∈ [im, a0, a1, a2, a3, a4, a5], h' x = h x) : iS h' im a0 a1 a2 a3 a4 a5 cc pc us n iw wp cp f0 f1 f2 f3 f4 f5 :=
  ⟨eqS e (by simp) M.1, eqS e (by simp) M.2.1, eqS e (by simp) M.2.2.1, eqS e (by simp) M.2.2.2.1, eqS e (by simp) M.2.2.2.2.1, eqS e (by simp) M.2.2.2.2.2.1, eqS e (by simp) M.2.2.2.2.2.2⟩
theorem iE.lo {h h' : AH} {K im : Nat} {l : List Nat} (H : iE h K im l) (e : ∀ x ∈ l, h' x = h x) : iE h' K im l := by
  obtain ⟨a0, a1, a2, a3, a4, a5, cc, pc, us, n, iw, wp, cp, f0, f1, f2, f3, f4, f5, rfl, M, q⟩ := H
  exact ⟨a0, a1, a2, a3, a4, a5, cc, pc, us, n, iw, wp, cp, f0, f1, f2, f3, f4, f5, rfl, M.lo e, q⟩
theorem iE.ex {h : AH} {K im : Nat} {l : List Nat} (H : iE h K im l) : LV h l := by
  obtain ⟨a0, a1, a2, a3, a4, a5, cc, pc, us, n, iw, wp, cp, f0, f1, f2, f3, f4, f5, rfl, M, q⟩ := H
  exact M.ex
theorem iA.lo {h h' : AH} {K im : Nat} {l : List Nat} {C : Nat → Nat} (H : iA h K im l C) (e : ∀ x ∈ l, h' x = h x) : iA h' K im l C := by
  obtain ⟨a0, a1, a2, a3, a4, a5, cc, pc, us, f0, f1, f2, f3, f4, f5, rfl, M, q⟩ := H
  exact ⟨a0, a1, a2, a3, a4, a5, cc, pc, us, f0, f1, f2, f3, f4, f5, rfl, M.lo e, q⟩
theorem iA.e {h : AH} {K im : Nat} {l : List Nat} {C : Nat → Nat} (H : iA h K im l C) : iE h K im l := by
  obtain ⟨a0, a1, a2, a3, a4, a5, cc, pc, us, f0, f1, f2, f3, f4, f5, e, M, q1, q2, q3, q4, q5, _⟩ := H
  exact ⟨a0, a1, a2, a3, a4, a5, cc, pc, us, _, _, _, _, f0, f1, f2, f3, f4, f5, e, M, q1, q2, q3, q4, q5⟩
/-- no image: no bytes -/
def C0 : Nat → Nat := fun _ => 0
theorem C0_nn : nn C0 = 0 := rfl
theorem C0_sp (k : Nat) : sp C0 k = 0 := by simp only [sp, bw, C0, Nat.zero_mul, Nat.add_zero]
theorem C0_lx : LX C0 := ⟨by decide, fun k _ => by rw [C0_sp]; exact vl_0 _, fun k h1 h2 => by rw [C0_nn] at h2; omega⟩
theorem P64_64 : P64 64 := ⟨0, by decide⟩

set_option maxHeartbeats 4000000 in
theorem c_B_init {tb : Nat → Nat} {h : AH} {b : Nat} (ho : h b = some (.inr (1, [.null, .int 0]))) : AM tb y_B_init b_B_init 1 none 1 20 [.ref b] h 1 256 (fun v h' => v = none ∧ ∃ l, bC h' b l 256 0 C0 ∧ frm [b] l h h') := by
  refine am_of (ini := true) [some (.ref b)] (by decide) (fun _ => rfl) (Nat.le_of_ble_eq_true rfl) rfl ?_
  refine aw_aload_n d_B_init_0 rfl ?_
  refine aw_objInit d_B_init_1 tw_30 tw_23 tw_24 (by omega) (by omega) (Nat.le_of_ble_eq_true rfl) ?_
  refine aw_aload_n d_B_init_4 rfl ?_
  refine aw_sipush (v := nI 256) d_B_init_5 (by decide) ?_
  refine aw_newa (t := 1) (N := 256) (z := (256, .inl (fun _ => 0))) (mc2 := 0) (ms2 := 0) d_B_init_8 tw_41 (fun _ => rfl) (fun _ _ z => z) (fun _ => rfl) (nI_pos (by omega)) (nI_clamp (by omega)) (by simp only [newarray.typeOf, componentBytes]; omega) (by omega) (by omega) (fun q_8 f_q_8 => ?_)
  obtain ⟨k_1, e_k_1⟩ : ∃ z, z = av_up h q_8 (.inl (1, 256, .inl (fun _ => 0))) := ⟨_, rfl⟩
  refine aw_heap (h' := k_1) e_k_1.symm ?_
  have ne_b_q_8 : b ≠ q_8 := (fun z => by have z1 := ho; rw [z, f_q_8] at z1; cases z1)
  have g1_b : k_1 b = some (.inr (1, [.null, .int 0])) := by rw [e_k_1, av_up_ne ne_b_q_8]; exact ho
  have g1_q_8 : k_1 q_8 = some (.inl (1, 256, .inl (fun _ => 0))) := by rw [e_k_1]; exact av_up_self _ _ _
  refine aw_put (fs' := [.ref q_8, .int 0]) (pt_B_9 _) d_B_init_10 g1_b rfl rfl (by simp) rfl ?_
  obtain ⟨k_2, e_k_2⟩ : ∃ z, z = av_up k_1 b (.inr (1, [.ref q_8, .int 0])) := ⟨_, rfl⟩
  refine aw_heap (h' := k_2) e_k_2.symm ?_
  have g2_q_8 : k_2 q_8 = some (.inl (1, 256, .inl (fun _ => 0))) := by rw [e_k_2, av_up_ne (Ne.symm ne_b_q_8)]; exact g1_q_8
  have g2_b : k_2 b = some (.inr (1, [.ref q_8, .int 0])) := by rw [e_k_2]; exact av_up_self _ _ _
  exact aw_vret d_B_init_13 rfl ⟨rfl, [b, q_8], ⟨q_8, C0, rfl, g2_b, (by rw [show bsf C0 = (fun _ => 0) from bsf_0]; exact g2_q_8), fun i hi => absurd hi (Nat.not_lt_zero i), fun _ => Nat.zero_lt_succ _⟩, (((frm.refl [b]).nw e_k_1 f_q_8).up e_k_2 (by simp)).sub (by intro x hx; simp only [List.mem_cons, List.not_mem_nil, or_false] at hx ⊢; omega)⟩

set_option maxHeartbeats 4000000 in
theorem c_I_init {tb : Nat → Nat} {h : AH} {im : Nat} (ho : h im = some (.inr (2, [.null, .null, .null, .null, .null, .null, .int 0, .int 0, .int 0, .int 0, .int 0]))) : AM tb y_I_init b_I_init 1 none 1 20 [.ref im] h 6 562 (fun v h' => v = none ∧ ∃ l, iA h' 256 im l C0 ∧ frm [im] l h h') := by
  refine am_of (ini := true) [some (.ref im)] (by decide) (fun _ => rfl) (Nat.le_of_ble_eq_true rfl) rfl ?_
  refine aw_aload_n d_I_init_0 rfl ?_
  refine aw_objInit d_I_init_1 tw_47 tw_23 tw_24 (by omega) (by omega) (Nat.le_of_ble_eq_true rfl) ?_
  refine aw_aload_n d_I_init_4 rfl ?_
  refine aw_bipush (v := nI 50) d_I_init_5 (by decide) ?_
  refine aw_newa (t := 0) (N := 50) (z := (50, .inl (fun _ => 0))) (mc2 := 5) (ms2 := 512) d_I_init_7 tw_111 (fun _ => rfl) (fun _ _ z => z) (fun _ => rfl) (nI_pos (by omega)) (nI_clamp (by omega)) (by simp only [newarray.typeOf, componentBytes]; omega) (by omega) (by omega) (fun q_7 f_q_7 => ?_)
  obtain ⟨k_1, e_k_1⟩ : ∃ z, z = av_up h q_7 (.inl (0, 50, .inl (fun _ => 0))) := ⟨_, rfl⟩
  refine aw_heap (h' := k_1) e_k_1.symm ?_
  have ne_im_q_7 : im ≠ q_7 := (fun z => by have z1 := ho; rw [z, f_q_7] at z1; cases z1)
  have g1_im : k_1 im = some (.inr (2, [.null, .null, .null, .null, .null, .null, .int 0, .int 0, .int 0, .int 0, .int 0])) := by rw [e_k_1, av_up_ne ne_im_q_7]; exact ho
  have g1_q_7 : k_1 q_7 = some (.inl (0, 50, .inl (fun _ => 0))) := by rw [e_k_1]; exact av_up_self _ _ _
  refine aw_put (fs' := [.ref q_7, .null, .null, .null, .null, .null, .int 0, .int 0, .int 0, .int 0, .int 0]) pt_I_9 d_I_init_9 g1_im rfl rfl (by simp) rfl ?_
  obtain ⟨k_2, e_k_2⟩ : ∃ z, z = av_up k_1 im (.inr (2, [.ref q_7, .null, .null, .null, .null, .null, .int 0, .int 0, .int 0, .int 0, .int 0])) := ⟨_, rfl⟩
  refine aw_heap (h' := k_2) e_k_2.symm ?_
  have g2_q_7 : k_2 q_7 = some (.inl (0, 50, .inl (fun _ => 0))) := by rw [e_k_2, av_up_ne (Ne.symm ne_im_q_7)]; exact g1_q_7
  have g2_im : k_2 im = some (.inr (2, [.ref q_7, .null, .null, .null, .null, .null, .int 0, .int 0, .int 0, .int 0, .int 0])) := by rw [e_k_2]; exact av_up_self _ _ _
  refine aw_aload_n d_I_init_12 rfl ?_
  refine aw_bipush (v := nI 64) d_I_init_13 (by decide) ?_
  refine aw_newa (t := 0) (N := 64) (z := (64, .inl (fun _ => 0))) (mc2 := 4) (ms2 := 448) d_I_init_15 tw_111 (fun _ => rfl) (fun _ _ z => z) (fun _ => rfl) (nI_pos (by omega)) (nI_clamp (by omega)) (by simp only [newarray.typeOf, componentBytes]; omega) (by omega) (by omega) (fun q_15 f_q_15 => ?_)
  obtain ⟨k_3, e_k_3⟩ : ∃ z, z = av_up k_2 q_15 (.inl (0, 64, .inl (fun _ => 0))) := ⟨_, rfl⟩
  refine aw_heap (h' := k_3) e_k_3.symm ?_
  have ne_q_7_q_15 : q_7 ≠ q_15 := (fun z => by have z1 := g2_q_7; rw [z, f_q_15] at z1; cases z1)
  have g3_q_7 : k_3 q_7 = some (.inl (0, 50, .inl (fun _ => 0))) := by rw [e_k_3, av_up_ne ne_q_7_q_15]; exact g2_q_7
  have ne_im_q_15 : im ≠ q_15 := (fun z => by have z1 := g2_im; rw [z, f_q_15] at z1; cases z1)
  have g3_im : k_3 im = some (.inr (2, [.ref q_7, .null, .null, .null, .null, .null, .int 0, .int 0, .int 0, .int 0, .int 0])) := by rw [e_k_3, av_up_ne ne_im_q_15]; exact g2_im
  have g3_q_15 : k_3 q_15 = some (.inl (0, 64, .inl (fun _ => 0))) := by rw [e_k_3]; exact av_up_self _ _ _
  refine aw_put (fs' := [.ref q_7, .ref q_15, .null, .null, .null, .null, .int 0, .int 0, .int 0, .int 0, .int 0]) (pt_I_15 _) d_I_init_17 g3_im rfl rfl (by simp) rfl ?_
  obtain ⟨k_4, e_k_4⟩ : ∃ z, z = av_up k_3 im (.inr (2, [.ref q_7, .ref q_15, .null, .null, .null, .null, .int 0, .int 0, .int 0, .int 0, .int 0])) := ⟨_, rfl⟩
  refine aw_heap (h' := k_4) e_k_4.symm ?_
  have g4_q_7 : k_4 q_7 = some (.inl (0, 50, .inl (fun _ => 0))) := by rw [e_k_4, av_up_ne (Ne.symm ne_im_q_7)]; exact g3_q_7
  have g4_q_15 : k_4 q_15 = some (.inl (0, 64, .inl (fun _ => 0))) := by rw [e_k_4, av_up_ne (Ne.symm ne_im_q_15)]; exact g3_q_15
  have g4_im : k_4 im = some (.inr (2, [.ref q_7, .ref q_15, .null, .null, .null, .null, .int 0, .int 0, .int 0, .int 0, .int 0])) := by rw [e_k_4]; exact av_up_self _ _ _
  refine aw_aload_n d_I_init_20 rfl ?_
  refine aw_bipush (v := nI 64) d_I_init_21 (by decide) ?_
  refine aw_newa (t := 0) (N := 64) (z := (64, .inl (fun _ => 0))) (mc2 := 3) (ms2 := 384) d_I_init_23 tw_111 (fun _ => rfl) (fun _ _ z => z) (fun _ => rfl) (nI_pos (by omega)) (nI_clamp (by omega)) (by simp only [newarray.typeOf, componentBytes]; omega) (by omega) (by omega) (fun q_23 f_q_23 => ?_)
  obtain ⟨k_5, e_k_5⟩ : ∃ z, z = av_up k_4 q_23 (.inl (0, 64, .inl (fun _ => 0))) := ⟨_, rfl⟩
  refine aw_heap (h' := k_5) e_k_5.symm ?_
  have ne_q_7_q_23 : q_7 ≠ q_23 := (fun z => by have z1 := g4_q_7; rw [z, f_q_23] at z1; cases z1)
  have g5_q_7 : k_5 q_7 = some (.inl (0, 50, .inl (fun _ => 0))) := by rw [e_k_5, av_up_ne ne_q_7_q_23]; exact g4_q_7
  have ne_q_15_q_23 : q_15 ≠ q_23 := (fun z => by have z1 := g4_q_15; rw [z, f_q_23] at z1; cases z1)
  have g5_q_15 : k_5 q_15 = some (.inl (0, 64, .inl (fun _ => 0))) := by rw [e_k_5, av_up_ne ne_q_15_q_23]; exact g4_q_15
  have ne_im_q_23 : im ≠ q_23 := (fun z => by have z1 := g4_im; rw [z, f_q_23] at z1; cases z1)
  have g5_im : k_5 im = some (.inr (2, [.ref q_7, .ref q_15, .null, .null, .null, .null, .int 0, .int 0, .int 0, .int 0, .int 0])) := by rw [e_k_5, av_up_ne ne_im_q_23]; exact g4_im
  have g5_q_23 : k_5 q_23 = some (.inl (0, 64, .inl (fun _ => 0))) := by rw [e_k_5]; exact av_up_self _ _ _
  refine aw_put (fs' := [.ref q_7, .ref q_15, .ref q_23, .null, .null, .null, .int 0, .int 0, .int 0, .int 0, .int 0]) (pt_I_18 _) d_I_init_25 g5_im rfl rfl (by simp) rfl ?_
  obtain ⟨k_6, e_k_6⟩ : ∃ z, z = av_up k_5 im (.inr (2, [.ref q_7, .ref q_15, .ref q_23, .null, .null, .null, .int 0, .int 0, .int 0, .int 0, .int 0])) := ⟨_, rfl⟩
  refine aw_heap (h' := k_6) e_k_6.symm ?_
  have g6_q_7 : k_6 q_7 = some (.inl (0, 50, .inl (fun _ => 0))) := by rw [e_k_6, av_up_ne (Ne.symm ne_im_q_7)]; exact g5_q_7
  have g6_q_15 : k_6 q_15 = some (.inl (0, 64, .inl (fun _ => 0))) := by rw [e_k_6, av_up_ne (Ne.symm ne_im_q_15)]; exact g5_q_15
  have g6_q_23 : k_6 q_23 = some (.inl (0, 64, .inl (fun _ => 0))) := by rw [e_k_6, av_up_ne (Ne.symm ne_im_q_23)]; exact g5_q_23
  have g6_im : k_6 im = some (.inr (2, [.ref q_7, .ref q_15, .ref q_23, .null, .null, .null, .int 0, .int 0, .int 0, .int 0, .int 0])) := by rw [e_k_6]; exact av_up_self _ _ _
  refine aw_aload_n d_I_init_28 rfl ?_
  refine aw_bipush (v := nI 64) d_I_init_29 (by decide) ?_
  refine aw_newa (t := 0) (N := 64) (z := (64, .inl (fun _ => 0))) (mc2 := 2) (ms2 := 320) d_I_init_31 tw_111 (fun _ => rfl) (fun _ _ z => z) (fun _ => rfl) (nI_pos (by omega)) (nI_clamp (by omega)) (by simp only [newarray.typeOf, componentBytes]; omega) (by omega) (by omega) (fun q_31 f_q_31 => ?_)
  obtain ⟨k_7, e_k_7⟩ : ∃ z, z = av_up k_6 q_31 (.inl (0, 64, .inl (fun _ => 0))) := ⟨_, rfl⟩
  refine aw_heap (h' := k_7) e_k_7.symm ?_
  have ne_q_7_q_31 : q_7 ≠ q_31 := (fun z => by have z1 := g6_q_7; rw [z, f_q_31] at z1; cases z1)
  have g7_q_7 : k_7 q_7 = some (.inl (0, 50, .inl (fun _ => 0))) := by rw [e_k_7, av_up_ne ne_q_7_q_31]; exact g6_q_7
  have ne_q_15_q_31 : q_15 ≠ q_31 := (fun z => by have z1 := g6_q_15; rw [z, f_q_31] at z1; cases z1)
  have g7_q_15 : k_7 q_15 = some (.inl (0, 64, .inl (fun _ => 0))) := by rw [e_k_7, av_up_ne ne_q_15_q_31]; exact g6_q_15
  have ne_q_23_q_31 : q_23 ≠ q_31 := (fun z => by have z1 := g6_q_23; rw [z, f_q_31] at z1; cases z1)
  have g7_q_23 : k_7 q_23 = some (.inl (0, 64, .inl (fun _ => 0))) := by rw [e_k_7, av_up_ne ne_q_23_q_31]; exact g6_q_23
  have ne_im_q_31 : im ≠ q_31 := (fun z => by have z1 := g6_im; rw [z, f_q_31] at z1; cases z1)
  have g7_im : k_7 im = some (.inr (2, [.ref q_7, .ref q_15, .ref q_23, .null, .null, .null, .int 0, .int 0, .int 0, .int 0, .int 0])) := by rw [e_k_7, av_up_ne ne_im_q_31]; exact g6_im
  have g7_q_31 : k_7 q_31 = some (.inl (0, 64, .inl (fun _ => 0))) := by rw [e_k_7]; exact av_up_self _ _ _
  refine aw_put (fs' := [.ref q_7, .ref q_15, .ref q_23, .ref q_31, .null, .null, .int 0, .int 0, .int 0, .int 0, .int 0]) (pt_I_21 _) d_I_init_33 g7_im rfl rfl (by simp) rfl ?_
  obtain ⟨k_8, e_k_8⟩ : ∃ z, z = av_up k_7 im (.inr (2, [.ref q_7, .ref q_15, .ref q_23, .ref q_31, .null, .null, .int 0, .int 0, .int 0, .int 0, .int 0])) := ⟨_, rfl⟩
  refine aw_heap (h' := k_8) e_k_8.symm ?_
  have g8_q_7 : k_8 q_7 = some (.inl (0, 50, .inl (fun _ => 0))) := by rw [e_k_8, av_up_ne (Ne.symm ne_im_q_7)]; exact g7_q_7
  have g8_q_15 : k_8 q_15 = some (.inl (0, 64, .inl (fun _ => 0))) := by rw [e_k_8, av_up_ne (Ne.symm ne_im_q_15)]; exact g7_q_15
  have g8_q_23 : k_8 q_23 = some (.inl (0, 64, .inl (fun _ => 0))) := by rw [e_k_8, av_up_ne (Ne.symm ne_im_q_23)]; exact g7_q_23
  have g8_q_31 : k_8 q_31 = some (.inl (0, 64, .inl (fun _ => 0))) := by rw [e_k_8, av_up_ne (Ne.symm ne_im_q_31)]; exact g7_q_31
  have g8_im : k_8 im = some (.inr (2, [.ref q_7, .ref q_15, .ref q_23, .ref q_31, .null, .null, .int 0, .int 0, .int 0, .int 0, .int 0])) := by rw [e_k_8]; exact av_up_self _ _ _
  refine aw_aload_n d_I_init_36 rfl ?_
  refine aw_bipush (v := nI 64) d_I_init_37 (by decide) ?_
  refine aw_newa (t := 0) (N := 64) (z := (64, .inl (fun _ => 0))) (mc2 := 1) (ms2 := 256) d_I_init_39 tw_111 (fun _ => rfl) (fun _ _ z => z) (fun _ => rfl) (nI_pos (by omega)) (nI_clamp (by omega)) (by simp only [newarray.typeOf, componentBytes]; omega) (by omega) (by omega) (fun q_39 f_q_39 => ?_)
  obtain ⟨k_9, e_k_9⟩ : ∃ z, z = av_up k_8 q_39 (.inl (0, 64, .inl (fun _ => 0))) := ⟨_, rfl⟩
  refine aw_heap (h' := k_9) e_k_9.symm ?_
  have ne_q_7_q_39 : q_7 ≠ q_39 := (fun z => by have z1 := g8_q_7; rw [z, f_q_39] at z1; cases z1)
  have g9_q_7 : k_9 q_7 = some (.inl (0, 50, .inl (fun _ => 0))) := by rw [e_k_9, av_up_ne ne_q_7_q_39]; exact g8_q_7
  have ne_q_15_q_39 : q_15 ≠ q_39 := (fun z => by have z1 := g8_q_15; rw [z, f_q_39] at z1; cases z1)
  have g9_q_15 : k_9 q_15 = some (.inl (0, 64, .inl (fun _ => 0))) := by rw [e_k_9, av_up_ne ne_q_15_q_39]; exact g8_q_15
  have ne_q_23_q_39 : q_23 ≠ q_39 := (fun z => by have z1 := g8_q_23; rw [z, f_q_39] at z1; cases z1)
  have g9_q_23 : k_9 q_23 = some (.inl (0, 64, .inl (fun _ => 0))) := by rw [e_k_9, av_up_ne ne_q_23_q_39]; exact g8_q_23
  have ne_q_31_q_39 : q_31 ≠ q_39 := (fun z => by have z1 := g8_q_31; rw [z, f_q_39] at z1; cases z1)
  have g9_q_31 : k_9 q_31 = some (.inl (0, 64, .inl (fun _ => 0))) := by rw [e_k_9, av_up_ne ne_q_31_q_39]; exact g8_q_31
  have ne_im_q_39 : im ≠ q_39 := (fun z => by have z1 := g8_im; rw [z, f_q_39] at z1; cases z1)
  have g9_im : k_9 im = some (.inr (2, [.ref q_7, .ref q_15, .ref q_23, .ref q_31, .null, .null, .int 0, .int 0, .int 0, .int 0, .int 0])) := by rw [e_k_9, av_up_ne ne_im_q_39]; exact g8_im
  have g9_q_39 : k_9 q_39 = some (.inl (0, 64, .inl (fun _ => 0))) := by rw [e_k_9]; exact av_up_self _ _ _
  refine aw_put (fs' := [.ref q_7, .ref q_15, .ref q_23, .ref q_31, .ref q_39, .null, .int 0, .int 0, .int 0, .int 0, .int 0]) (pt_I_24 _) d_I_init_41 g9_im rfl rfl (by simp) rfl ?_
  obtain ⟨k_10, e_k_10⟩ : ∃ z, z = av_up k_9 im (.inr (2, [.ref q_7, .ref q_15, .ref q_23, .ref q_31, .ref q_39, .null, .int 0, .int 0, .int 0, .int 0, .int 0])) := ⟨_, rfl⟩
  refine aw_heap (h' := k_10) e_k_10.symm ?_
  have g10_q_7 : k_10 q_7 = some (.inl (0, 50, .inl (fun _ => 0))) := by rw [e_k_10, av_up_ne (Ne.symm ne_im_q_7)]; exact g9_q_7
  have g10_q_15 : k_10 q_15 = some (.inl (0, 64, .inl (fun _ => 0))) := by rw [e_k_10, av_up_ne (Ne.symm ne_im_q_15)]; exact g9_q_15
  have g10_q_23 : k_10 q_23 = some (.inl (0, 64, .inl (fun _ => 0))) := by rw [e_k_10, av_up_ne (Ne.symm ne_im_q_23)]; exact g9_q_23
  have g10_q_31 : k_10 q_31 = some (.inl (0, 64, .inl (fun _ => 0))) := by rw [e_k_10, av_up_ne (Ne.symm ne_im_q_31)]; exact g9_q_31
  have g10_q_39 : k_10 q_39 = some (.inl (0, 64, .inl (fun _ => 0))) := by rw [e_k_10, av_up_ne (Ne.symm ne_im_q_39)]; exact g9_q_39
  have g10_im : k_10 im = some (.inr (2, [.ref q_7, .ref q_15, .ref q_23, .ref q_31, .ref q_39, .null, .int 0, .int 0, .int 0, .int 0, .int 0])) := by rw [e_k_10]; exact av_up_self _ _ _
  refine aw_aload_n d_I_init_44 rfl ?_
  refine aw_sipush (v := nI 256) d_I_init_45 (by decide) ?_
  refine aw_newa (t := 0) (N := 256) (z := (256, .inl (fun _ => 0))) (mc2 := 0) (ms2 := 0) d_I_init_48 tw_111 (fun _ => rfl) (fun _ _ z => z) (fun _ => rfl) (nI_pos (by omega)) (nI_clamp (by omega)) (by simp only [newarray.typeOf, componentBytes]; omega) (by omega) (by omega) (fun q_48 f_q_48 => ?_)
  obtain ⟨k_11, e_k_11⟩ : ∃ z, z = av_up k_10 q_48 (.inl (0, 256, .inl (fun _ => 0))) := ⟨_, rfl⟩
  refine aw_heap (h' := k_11) e_k_11.symm ?_
  have ne_q_7_q_48 : q_7 ≠ q_48 := (fun z => by have z1 := g10_q_7; rw [z, f_q_48] at z1; cases z1)
  have g11_q_7 : k_11 q_7 = some (.inl (0, 50, .inl (fun _ => 0))) := by rw [e_k_11, av_up_ne ne_q_7_q_48]; exact g10_q_7
  have ne_q_15_q_48 : q_15 ≠ q_48 := (fun z => by have z1 := g10_q_15; rw [z, f_q_48] at z1; cases z1)
  have g11_q_15 : k_11 q_15 = some (.inl (0, 64, .inl (fun _ => 0))) := by rw [e_k_11, av_up_ne ne_q_15_q_48]; exact g10_q_15
  have ne_q_23_q_48 : q_23 ≠ q_48 := (fun z => by have z1 := g10_q_23; rw [z, f_q_48] at z1; cases z1)
  have g11_q_23 : k_11 q_23 = some (.inl (0, 64, .inl (fun _ => 0))) := by rw [e_k_11, av_up_ne ne_q_23_q_48]; exact g10_q_23
  have ne_q_31_q_48 : q_31 ≠ q_48 := (fun z => by have z1 := g10_q_31; rw [z, f_q_48] at z1; cases z1)
  have g11_q_31 : k_11 q_31 = some (.inl (0, 64, .inl (fun _ => 0))) := by rw [e_k_11, av_up_ne ne_q_31_q_48]; exact g10_q_31
  have ne_q_39_q_48 : q_39 ≠ q_48 := (fun z => by have z1 := g10_q_39; rw [z, f_q_48] at z1; cases z1)
  have g11_q_39 : k_11 q_39 = some (.inl (0, 64, .inl (fun _ => 0))) := by rw [e_k_11, av_up_ne ne_q_39_q_48]; exact g10_q_39
  have ne_im_q_48 : im ≠ q_48 := (fun z => by have z1 := g10_im; rw [z, f_q_48] at z1; cases z1)
  have g11_im : k_11 im = some (.inr (2, [.ref q_7, .ref q_15, .ref q_23, .ref q_31, .ref q_39, .null, .int 0, .int 0, .int 0, .int 0, .int 0])) := by rw [e_k_11, av_up_ne ne_im_q_48]; exact g10_im
  have g11_q_48 : k_11 q_48 = some (.inl (0, 256, .inl (fun _ => 0))) := by rw [e_k_11]; exact av_up_self _ _ _
  refine aw_put (fs' := [.ref q_7, .ref q_15, .ref q_23, .ref q_31, .ref q_39, .ref q_48, .int 0, .int 0, .int 0, .int 0, .int 0]) (pt_I_27 _) d_I_init_50 g11_im rfl rfl (by simp) rfl ?_
  obtain ⟨k_12, e_k_12⟩ : ∃ z, z = av_up k_11 im (.inr (2, [.ref q_7, .ref q_15, .ref q_23, .ref q_31, .ref q_39, .ref q_48, .int 0, .int 0, .int 0, .int 0, .int 0])) := ⟨_, rfl⟩
  refine aw_heap (h' := k_12) e_k_12.symm ?_
  have g12_q_7 : k_12 q_7 = some (.inl (0, 50, .inl (fun _ => 0))) := by rw [e_k_12, av_up_ne (Ne.symm ne_im_q_7)]; exact g11_q_7
  have g12_q_15 : k_12 q_15 = some (.inl (0, 64, .inl (fun _ => 0))) := by rw [e_k_12, av_up_ne (Ne.symm ne_im_q_15)]; exact g11_q_15
  have g12_q_23 : k_12 q_23 = some (.inl (0, 64, .inl (fun _ => 0))) := by rw [e_k_12, av_up_ne (Ne.symm ne_im_q_23)]; exact g11_q_23
  have g12_q_31 : k_12 q_31 = some (.inl (0, 64, .inl (fun _ => 0))) := by rw [e_k_12, av_up_ne (Ne.symm ne_im_q_31)]; exact g11_q_31
  have g12_q_39 : k_12 q_39 = some (.inl (0, 64, .inl (fun _ => 0))) := by rw [e_k_12, av_up_ne (Ne.symm ne_im_q_39)]; exact g11_q_39
  have g12_q_48 : k_12 q_48 = some (.inl (0, 256, .inl (fun _ => 0))) := by rw [e_k_12, av_up_ne (Ne.symm ne_im_q_48)]; exact g11_q_48
  have g12_im : k_12 im = some (.inr (2, [.ref q_7, .ref q_15, .ref q_23, .ref q_31, .ref q_39, .ref q_48, .int 0, .int 0, .int 0, .int 0, .int 0])) := by rw [e_k_12]; exact av_up_self _ _ _
  exact aw_vret d_I_init_53 rfl ⟨rfl, [im, q_7, q_15, q_23, q_31, q_39, q_48], ⟨q_7, q_15, q_23, q_31, q_39, q_48, 64, 256, 0, _, _, _, _, _, _, rfl, ⟨g12_im, g12_q_7, g12_q_15, g12_q_23, g12_q_31, g12_q_39, g12_q_48⟩, ⟨ne_q_7_q_15, ne_q_7_q_23, ne_q_7_q_31, ne_q_7_q_39, ne_q_7_q_48, ne_q_15_q_23, ne_q_15_q_31, ne_q_15_q_39, ne_q_15_q_48, ne_q_23_q_31, ne_q_23_q_39, ne_q_23_q_48, ne_q_31_q_39, ne_q_31_q_48, ne_q_39_q_48⟩, P64_64, by decide, by decide, by decide, ⟨by decide, fun k _ => by rw [C0_sp]; rfl, fun k h1 h2 => by rw [C0_nn] at h2; omega⟩, C0_lx⟩, (((((((((((((frm.refl [im]).nw e_k_1 f_q_7).up e_k_2 (by simp)).nw e_k_3 f_q_15).up e_k_4 (by simp)).nw e_k_5 f_q_23).up e_k_6 (by simp)).nw e_k_7 f_q_31).up e_k_8 (by simp)).nw e_k_9 f_q_39).up e_k_10 (by simp)).nw e_k_11 f_q_48).up e_k_12 (by simp)).sub (by intro x hx; simp only [List.mem_cons, List.not_mem_nil, or_false] at hx ⊢; omega)⟩

set_option maxHeartbeats 4000000 in
theorem c_W_init {tb : Nat → Nat} {h : AH} {w : Nat} (ho : h w = some (.inr (3, [.null, .null, .int 0]))) : AM tb y_W_init b_W_init 1 none 1 20 [.ref w] h 2 128 (fun v h' => v = none ∧ ∃ l, wC h' w l 64 ∧ frm [w] l h h') := by
  refine am_of (ini := true) [some (.ref w)] (by decide) (fun _ => rfl) (Nat.le_of_ble_eq_true rfl) rfl ?_
  refine aw_aload_n d_W_init_0 rfl ?_
  refine aw_objInit d_W_init_1 tw_117 tw_23 tw_24 (by omega) (by omega) (Nat.le_of_ble_eq_true rfl) ?_
  refine aw_aload_n d_W_init_4 rfl ?_
  refine aw_bipush (v := nI 64) d_W_init_5 (by decide) ?_
  refine aw_newa (t := 0) (N := 64) (z := (64, .inl (fun _ => 0))) (mc2 := 1) (ms2 := 64) d_W_init_7 tw_111 (fun _ => rfl) (fun _ _ z => z) (fun _ => rfl) (nI_pos (by omega)) (nI_clamp (by omega)) (by simp only [newarray.typeOf, componentBytes]; omega) (by omega) (by omega) (fun q_7 f_q_7 => ?_)
  obtain ⟨k_1, e_k_1⟩ : ∃ z, z = av_up h q_7 (.inl (0, 64, .inl (fun _ => 0))) := ⟨_, rfl⟩
  refine aw_heap (h' := k_1) e_k_1.symm ?_
  have ne_w_q_7 : w ≠ q_7 := (fun z => by have z1 := ho; rw [z, f_q_7] at z1; cases z1)
  have g1_w : k_1 w = some (.inr (3, [.null, .null, .int 0])) := by rw [e_k_1, av_up_ne ne_w_q_7]; exact ho
  have g1_q_7 : k_1 q_7 = some (.inl (0, 64, .inl (fun _ => 0))) := by rw [e_k_1]; exact av_up_self _ _ _
  refine aw_put (fs' := [.ref q_7, .null, .int 0]) (pt_W_9 _) d_W_init_9 g1_w rfl rfl (by simp) rfl ?_
  obtain ⟨k_2, e_k_2⟩ : ∃ z, z = av_up k_1 w (.inr (3, [.ref q_7, .null, .int 0])) := ⟨_, rfl⟩
  refine aw_heap (h' := k_2) e_k_2.symm ?_
  have g2_q_7 : k_2 q_7 = some (.inl (0, 64, .inl (fun _ => 0))) := by rw [e_k_2, av_up_ne (Ne.symm ne_w_q_7)]; exact g1_q_7
  have g2_w : k_2 w = some (.inr (3, [.ref q_7, .null, .int 0])) := by rw [e_k_2]; exact av_up_self _ _ _
  refine aw_aload_n d_W_init_12 rfl ?_
  refine aw_bipush (v := nI 64) d_W_init_13 (by decide) ?_
  refine aw_newa (t := 0) (N := 64) (z := (64, .inl (fun _ => 0))) (mc2 := 0) (ms2 := 0) d_W_init_15 tw_111 (fun _ => rfl) (fun _ _ z => z) (fun _ => rfl) (nI_pos (by omega)) (nI_clamp (by omega)) (by simp only [newarray.typeOf, componentBytes]; omega) (by omega) (by omega) (fun q_15 f_q_15 => ?_)
  obtain ⟨k_3, e_k_3⟩ : ∃ z, z = av_up k_2 q_15 (.inl (0, 64, .inl (fun _ => 0))) := ⟨_, rfl⟩
  refine aw_heap (h' := k_3) e_k_3.symm ?_
  have ne_q_7_q_15 : q_7 ≠ q_15 := (fun z => by have z1 := g2_q_7; rw [z, f_q_15] at z1; cases z1)
  have g3_q_7 : k_3 q_7 = some (.inl (0, 64, .inl (fun _ => 0))) := by rw [e_k_3, av_up_ne ne_q_7_q_15]; exact g2_q_7
  have ne_w_q_15 : w ≠ q_15 := (fun z => by have z1 := g2_w; rw [z, f_q_15] at z1; cases z1)
  have g3_w : k_3 w = some (.inr (3, [.ref q_7, .null, .int 0])) := by rw [e_k_3, av_up_ne ne_w_q_15]; exact g2_w
  have g3_q_15 : k_3 q_15 = some (.inl (0, 64, .inl (fun _ => 0))) := by rw [e_k_3]; exact av_up_self _ _ _
  refine aw_put (fs' := [.ref q_7, .ref q_15, .int 0]) (pt_W_15 _) d_W_init_17 g3_w rfl rfl (by simp) rfl ?_
  obtain ⟨k_4, e_k_4⟩ : ∃ z, z = av_up k_3 w (.inr (3, [.ref q_7, .ref q_15, .int 0])) := ⟨_, rfl⟩
  refine aw_heap (h' := k_4) e_k_4.symm ?_
  have g4_q_7 : k_4 q_7 = some (.inl (0, 64, .inl (fun _ => 0))) := by rw [e_k_4, av_up_ne (Ne.symm ne_w_q_7)]; exact g3_q_7
  have g4_q_15 : k_4 q_15 = some (.inl (0, 64, .inl (fun _ => 0))) := by rw [e_k_4, av_up_ne (Ne.symm ne_w_q_15)]; exact g3_q_15
  have g4_w : k_4 w = some (.inr (3, [.ref q_7, .ref q_15, .int 0])) := by rw [e_k_4]; exact av_up_self _ _ _
  exact aw_vret d_W_init_20 rfl ⟨rfl, [w, q_7, q_15], ⟨q_7, q_15, 0, _, _, rfl, ⟨g4_w, g4_q_7, g4_q_15⟩, ne_q_7_q_15⟩, (((((frm.refl [w]).nw e_k_1 f_q_7).up e_k_2 (by simp)).nw e_k_3 f_q_15).up e_k_4 (by simp)).sub (by intro x hx; simp only [List.mem_cons, List.not_mem_nil, or_false] at hx ⊢; omega)⟩

set_option maxHeartbeats 4000000 in
theorem c_P_init {tb : Nat → Nat} {h : AH} {p : Nat} (ho : h p = some (.inr (4, [.null, .null, .null, .int 0]))) : AM tb y_P_init b_P_init 1 none 1 20 [.ref p] h 3 192 (fun v h' => v = none ∧ ∃ l, pC h' p l 64 ∧ frm [p] l h h') := by
  refine am_of (ini := true) [some (.ref p)] (by decide) (fun _ => rfl) (Nat.le_of_ble_eq_true rfl) rfl ?_
  refine aw_aload_n d_P_init_0 rfl ?_
  refine aw_objInit d_P_init_1 tw_134 tw_23 tw_24 (by omega) (by omega) (Nat.le_of_ble_eq_true rfl) ?_
  refine aw_aload_n d_P_init_4 rfl ?_
  refine aw_bipush (v := nI 64) d_P_init_5 (by decide) ?_
  refine aw_newa (t := 0) (N := 64) (z := (64, .inl (fun _ => 0))) (mc2 := 2) (ms2 := 128) d_P_init_7 tw_111 (fun _ => rfl) (fun _ _ z => z) (fun _ => rfl) (nI_pos (by omega)) (nI_clamp (by omega)) (by simp only [newarray.typeOf, componentBytes]; omega) (by omega) (by omega) (fun q_7 f_q_7 => ?_)
  obtain ⟨k_1, e_k_1⟩ : ∃ z, z = av_up h q_7 (.inl (0, 64, .inl (fun _ => 0))) := ⟨_, rfl⟩
  refine aw_heap (h' := k_1) e_k_1.symm ?_
  have ne_p_q_7 : p ≠ q_7 := (fun z => by have z1 := ho; rw [z, f_q_7] at z1; cases z1)
  have g1_p : k_1 p = some (.inr (4, [.null, .null, .null, .int 0])) := by rw [e_k_1, av_up_ne ne_p_q_7]; exact ho
  have g1_q_7 : k_1 q_7 = some (.inl (0, 64, .inl (fun _ => 0))) := by rw [e_k_1]; exact av_up_self _ _ _
  refine aw_put (fs' := [.ref q_7, .null, .null, .int 0]) (pt_P_9 _) d_P_init_9 g1_p rfl rfl (by simp) rfl ?_
  obtain ⟨k_2, e_k_2⟩ : ∃ z, z = av_up k_1 p (.inr (4, [.ref q_7, .null, .null, .int 0])) := ⟨_, rfl⟩
  refine aw_heap (h' := k_2) e_k_2.symm ?_
  have g2_q_7 : k_2 q_7 = some (.inl (0, 64, .inl (fun _ => 0))) := by rw [e_k_2, av_up_ne (Ne.symm ne_p_q_7)]; exact g1_q_7
  have g2_p : k_2 p = some (.inr (4, [.ref q_7, .null, .null, .int 0])) := by rw [e_k_2]; exact av_up_self _ _ _
  refine aw_aload_n d_P_init_12 rfl ?_
  refine aw_bipush (v := nI 64) d_P_init_13 (by decide) ?_
  refine aw_newa (t := 0) (N := 64) (z := (64, .inl (fun _ => 0))) (mc2 := 1) (ms2 := 64) d_P_init_15 tw_111 (fun _ => rfl) (fun _ _ z => z) (fun _ => rfl) (nI_pos (by omega)) (nI_clamp (by omega)) (by simp only [newarray.typeOf, componentBytes]; omega) (by omega) (by omega) (fun q_15 f_q_15 => ?_)
  obtain ⟨k_3, e_k_3⟩ : ∃ z, z = av_up k_2 q_15 (.inl (0, 64, .inl (fun _ => 0))) := ⟨_, rfl⟩
  refine aw_heap (h' := k_3) e_k_3.symm ?_
  have ne_q_7_q_15 : q_7 ≠ q_15 := (fun z => by have z1 := g2_q_7; rw [z, f_q_15] at z1; cases z1)
  have g3_q_7 : k_3 q_7 = some (.inl (0, 64, .inl (fun _ => 0))) := by rw [e_k_3, av_up_ne ne_q_7_q_15]; exact g2_q_7
  have ne_p_q_15 : p ≠ q_15 := (fun z => by have z1 := g2_p; rw [z, f_q_15] at z1; cases z1)
  have g3_p : k_3 p = some (.inr (4, [.ref q_7, .null, .null, .int 0])) := by rw [e_k_3, av_up_ne ne_p_q_15]; exact g2_p
  have g3_q_15 : k_3 q_15 = some (.inl (0, 64, .inl (fun _ => 0))) := by rw [e_k_3]; exact av_up_self _ _ _
  refine aw_put (fs' := [.ref q_7, .ref q_15, .null, .int 0]) (pt_P_15 _) d_P_init_17 g3_p rfl rfl (by simp) rfl ?_
  obtain ⟨k_4, e_k_4⟩ : ∃ z, z = av_up k_3 p (.inr (4, [.ref q_7, .ref q_15, .null, .int 0])) := ⟨_, rfl⟩
  refine aw_heap (h' := k_4) e_k_4.symm ?_
  have g4_q_7 : k_4 q_7 = some (.inl (0, 64, .inl (fun _ => 0))) := by rw [e_k_4, av_up_ne (Ne.symm ne_p_q_7)]; exact g3_q_7
  have g4_q_15 : k_4 q_15 = some (.inl (0, 64, .inl (fun _ => 0))) := by rw [e_k_4, av_up_ne (Ne.symm ne_p_q_15)]; exact g3_q_15
  have g4_p : k_4 p = some (.inr (4, [.ref q_7, .ref q_15, .null, .int 0])) := by rw [e_k_4]; exact av_up_self _ _ _
  refine aw_aload_n d_P_init_20 rfl ?_
  refine aw_bipush (v := nI 64) d_P_init_21 (by decide) ?_
  refine aw_newa (t := 0) (N := 64) (z := (64, .inl (fun _ => 0))) (mc2 := 0) (ms2 := 0) d_P_init_23 tw_111 (fun _ => rfl) (fun _ _ z => z) (fun _ => rfl) (nI_pos (by omega)) (nI_clamp (by omega)) (by simp only [newarray.typeOf, componentBytes]; omega) (by omega) (by omega) (fun q_23 f_q_23 => ?_)
  obtain ⟨k_5, e_k_5⟩ : ∃ z, z = av_up k_4 q_23 (.inl (0, 64, .inl (fun _ => 0))) := ⟨_, rfl⟩
  refine aw_heap (h' := k_5) e_k_5.symm ?_
  have ne_q_7_q_23 : q_7 ≠ q_23 := (fun z => by have z1 := g4_q_7; rw [z, f_q_23] at z1; cases z1)
  have g5_q_7 : k_5 q_7 = some (.inl (0, 64, .inl (fun _ => 0))) := by rw [e_k_5, av_up_ne ne_q_7_q_23]; exact g4_q_7
  have ne_q_15_q_23 : q_15 ≠ q_23 := (fun z => by have z1 := g4_q_15; rw [z, f_q_23] at z1; cases z1)
  have g5_q_15 : k_5 q_15 = some (.inl (0, 64, .inl (fun _ => 0))) := by rw [e_k_5, av_up_ne ne_q_15_q_23]; exact g4_q_15
  have ne_p_q_23 : p ≠ q_23 := (fun z => by have z1 := g4_p; rw [z, f_q_23] at z1; cases z1)
  have g5_p : k_5 p = some (.inr (4, [.ref q_7, .ref q_15, .null, .int 0])) := by rw [e_k_5, av_up_ne ne_p_q_23]; exact g4_p
  have g5_q_23 : k_5 q_23 = some (.inl (0, 64, .inl (fun _ => 0))) := by rw [e_k_5]; exact av_up_self _ _ _
  refine aw_put (fs' := [.ref q_7, .ref q_15, .ref q_23, .int 0]) (pt_P_18 _) d_P_init_25 g5_p rfl rfl (by simp) rfl ?_
  obtain ⟨k_6, e_k_6⟩ : ∃ z, z = av_up k_5 p (.inr (4, [.ref q_7, .ref q_15, .ref q_23, .int 0])) := ⟨_, rfl⟩
  refine aw_heap (h' := k_6) e_k_6.symm ?_
  have g6_q_7 : k_6 q_7 = some (.inl (0, 64, .inl (fun _ => 0))) := by rw [e_k_6, av_up_ne (Ne.symm ne_p_q_7)]; exact g5_q_7
  have g6_q_15 : k_6 q_15 = some (.inl (0, 64, .inl (fun _ => 0))) := by rw [e_k_6, av_up_ne (Ne.symm ne_p_q_15)]; exact g5_q_15
  have g6_q_23 : k_6 q_23 = some (.inl (0, 64, .inl (fun _ => 0))) := by rw [e_k_6, av_up_ne (Ne.symm ne_p_q_23)]; exact g5_q_23
  have g6_p : k_6 p = some (.inr (4, [.ref q_7, .ref q_15, .ref q_23, .int 0])) := by rw [e_k_6]; exact av_up_self _ _ _
  exact aw_vret d_P_init_28 rfl ⟨rfl, [p, q_7, q_15, q_23], ⟨q_7, q_15, q_23, 0, _, _, _, rfl, ⟨g6_p, g6_q_7, g6_q_15, g6_q_23⟩, ⟨ne_q_7_q_15, ne_q_7_q_23, ne_q_15_q_23⟩⟩, (((((((frm.refl [p]).nw e_k_1 f_q_7).up e_k_2 (by simp)).nw e_k_3 f_q_15).up e_k_4 (by simp)).nw e_k_5 f_q_23).up e_k_6 (by simp)).sub (by intro x hx; simp only [List.mem_cons, List.not_mem_nil, or_false] at hx ⊢; omega)⟩
