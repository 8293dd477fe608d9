/-! ===== the class: feed, write ===== -/
def uS (h : AH) (r b x0 x1 x2 w p kp im a0 a1 a2 a3 a4 a5 cc pc us : Nat) (B : Nat → Nat) (f0 f1 f2 f3 f4 f5 : Nat → Int32) (nu qu wl mn : Nat) (fn fq : Nat → Int32) : Prop :=
  h r = some (.inr (0, [.ref b, .ref x0, .ref x1, .ref x2, .ref w, .ref p, .ref im, .ref kp])) ∧ iS h im a0 a1 a2 a3 a4 a5 cc pc us (nn B) (wds B (nn B)) (B 4) (B 5) f0 f1 f2 f3 f4 f5 ∧ wkS h w nu qu wl mn fn fq
section
variable {h h' : AH} {r b x0 x1 x2 w p kp im a0 a1 a2 a3 a4 a5 cc pc us : Nat} {B : Nat → Nat} {f0 f1 f2 f3 f4 f5 : Nat → Int32} {nu qu wl mn : Nat} {fn fq : Nat → Int32}
theorem uS.fr {l l' : List Nat} (U : uS h r b x0 x1 x2 w p kp im a0 a1 a2 a3 a4 a5 cc pc us B f0 f1 f2 f3 f4 f5 nu qu wl mn fn fq) (T : frm l l' h h') (N : ∀ x ∈ l, x ∉ [r, im, a0, a1, a2, a3, a4, a5, w, nu, qu]) : uS h' r b x0 x1 x2 w p kp im a0 a1 a2 a3 a4 a5 cc pc us B f0 f1 f2 f3 f4 f5 nu qu wl mn fn fq :=
  ⟨T.at (fun z => N _ z (by simp)) U.1, U.2.1.fr T (fun x hx hy => N x hx (by simp only [List.mem_cons, List.not_mem_nil, or_false] at hy ⊢; rcases hy with z | z | z | z | z | z | z <;> simp [z])), T.at (fun z => N _ z (by simp)) U.2.2.1, T.at (fun z => N _ z (by simp)) U.2.2.2.1, T.at (fun z => N _ z (by simp)) U.2.2.2.2⟩
theorem uS.ex (U : uS h r b x0 x1 x2 w p kp im a0 a1 a2 a3 a4 a5 cc pc us B f0 f1 f2 f3 f4 f5 nu qu wl mn fn fq) : ∀ x ∈ [r, im, a0, a1, a2, a3, a4, a5, w, nu, qu], h x ≠ none := by
  intro x hx
  obtain ⟨m0, M, w0, w1, w2⟩ := U
  have e := M.ex
  simp only [List.mem_cons, List.not_mem_nil, or_false] at hx
  rcases hx with z | z | z | z | z | z | z | z | z | z | z
  · subst z; rw [m0]; exact Option.some_ne_none _
  · exact e x (by simp [z])
  · exact e x (by simp [z])
  · exact e x (by simp [z])
  · exact e x (by simp [z])
  · exact e x (by simp [z])
  · exact e x (by simp [z])
  · exact e x (by simp [z])
  · subst z; rw [w0]; exact Option.some_ne_none _
  · subst z; rw [w1]; exact Option.some_ne_none _
  · subst z; rw [w2]; exact Option.some_ne_none _
end
theorem N_W {b ro r im a0 a1 a2 a3 a4 a5 w nu0 qu0 : Nat} (N : ∀ x ∈ [b, ro], x ∉ [r, im, a0, a1, a2, a3, a4, a5, w, nu0, qu0]) : ∀ x ∈ [b, ro], x ∉ [w, nu0, qu0] := fun x hx hy => N x hx (by simp only [List.mem_cons, List.not_mem_nil, or_false] at hy ⊢; rcases hy with z | z | z <;> simp [z])
theorem N_N {b ro r im a0 a1 a2 a3 a4 a5 w nu0 qu0 nu qu : Nat} (N : ∀ x ∈ [b, ro], x ∉ [r, im, a0, a1, a2, a3, a4, a5, w, nu0, qu0]) (M : ∀ x ∈ [w, nu, qu], x ∉ [b, ro]) : ∀ x ∈ [b, ro], x ∉ [r, im, a0, a1, a2, a3, a4, a5, w, nu, qu] := fun x hx hy => by
  have e1 : x ∉ [w, nu, qu] := fun z => M x z hx
  have e2 := N x hx
  simp only [List.mem_cons, List.not_mem_nil, or_false, not_or] at hy e1 e2
  rcases hy with z | z | z | z | z | z | z | z | z | z | z
  · exact e2.1 z
  · exact e2.2.1 z
  · exact e2.2.2.1 z
  · exact e2.2.2.2.1 z
  · exact e2.2.2.2.2.1 z
  · exact e2.2.2.2.2.2.1 z
  · exact e2.2.2.2.2.2.2.1 z
  · exact e2.2.2.2.2.2.2.2.1 z
  · exact e1.1 z
  · exact e1.2.1 z
  · exact e1.2.2 z
theorem R_W {h : AH} {r w nu qu wl mn : Nat} {fn fq : Nat → Int32} {fs : List Value} (hr : h r = some (.inr (0, fs))) (M : wkS h w nu qu wl mn fn fq) : r ∉ [w, nu, qu] := fun z => by
  simp only [List.mem_cons, List.not_mem_nil, or_false] at z
  exact z.elim (av_apO hr M.1 (by decide)) (fun z => z.elim (av_apart' hr M.2.1) (av_apart' hr M.2.2))
theorem rn_lt2 {M : Nat → Nat} {n u : Nat} (hu : u < 4294967296) (hv : vl n u) (hn : n ≤ 8191) : rn M u < 4294967296 := by
  have a := nuM_le M (ob u)
  have e := ob_le hv
  unfold rn
  split <;> omega
theorem wO_mono1 (B M : Nat → Nat) (k : Nat) : (wO B M k).1 ≤ (wO B M (k + 1)).1 := by
  rw [wO]
  split
  · exact Nat.le_refl _
  · rw [wF_1]; omega
theorem wO_mono (B M : Nat → Nat) {k n : Nat} (h : k ≤ n) : (wO B M k).1 ≤ (wO B M n).1 := by
  induction n with
  | zero => rw [show k = 0 by omega]; exact Nat.le_refl _
  | succ n ih =>
    by_cases z : k = n + 1
    · rw [z]; exact Nat.le_refl _
    · exact Nat.le_trans (ih (by omega)) (wO_mono1 B M n)
theorem wF_mono (B M : Nat → Nat) (o : OS) (k : Nat) {i n : Nat} (h : i ≤ n) : (wF B M o k i).1 ≤ (wF B M o k n).1 := by
  rw [wF_1, wF_1]
  split <;> omega

set_option maxHeartbeats 4000000 in
theorem c_R_feed {tb : Nat → Nat} {h : AH} {r b x0 x1 x2 w p hd kp : Nat} (hrd : h r = some (.inr (0, [.ref b, .ref x0, .ref x1, .ref x2, .ref w, .ref p, .ref hd, .ref kp]))) {ro cap : Nat} {o : OS} {G : Nat → Nat} (Mb : bS h b ro cap o G) (h0 : 0 < cap) (hK : o.1 + 20 ≤ 65536) (hg : gN cap (o.1 + 20) ≤ 524288) (u1 u2 u3 u4 u5 : Nat) (hu1 : u1 < 4294967296) (hu2 : u2 < 4294967296) (hu3 : u3 < 4294967296) (hu4 : u4 < 4294967296) (hu5 : u5 < 4294967296) : AM tb y_R_feed b_R_feed 6 none 5 111 [.ref r, .int (nI u1), .int (nI u2), .int (nI u3), .int (nI u4), .int (nI u5)] h (gN cap (o.1 + 20) - gN cap o.1) (2 * (gN cap (o.1 + 20) - gN cap o.1)) (fun v h' => v = none ∧ ∃ ro' G', bS h' b ro' cap (o4 (o4 (o4 (o4 (o4 o u1) u2) u3) u4) u5) G' ∧ frm [b, ro] [b, ro'] h h') := by
  refine am_of (ini := false) [some (.ref r), some (.int (nI u1)), some (.int (nI u2)), some (.int (nI u3)), some (.int (nI u4)), some (.int (nI u5))] (by decide) (fun z => by cases z) (Nat.le_of_ble_eq_true rfl) rfl ?_
  refine aw_aload_n d_R_feed_0 rfl ?_
  refine aw_get fl_R_10 d_R_feed_1 hrd rfl ?_
  refine aw_get fl_R_49 d_R_feed_4 Mb.1 rfl ?_
  refine aw_bipush (v := nI 20) d_R_feed_7 (by decide) ?_
  refine aw_iadd (v := nI ((o).1 + 20)) d_R_feed_9 (nI_add _ _) ?_
  refine aw_ldc (v := nI 65536) d_R_feed_10 tw_527 ?_
  refine aw_icmp_le (tgt := 25) d_R_feed_12 (by decide) (fun c_12 => ?_) (fun c_12 => absurd c_12 (by rw [nI_leI (by omega) (by omega)]; omega))
  try rw [nI_leI (by omega) (by omega)] at c_12
  refine aw_aload_n d_R_feed_25 rfl ?_
  refine aw_get fl_R_10 d_R_feed_26 hrd rfl ?_
  refine aw_iload_n d_R_feed_29 rfl ?_
  have l_1 : (o4 (o) (u1)).1 = (o).1 + 4 := rfl
  have lE_1 : (o4 (o) (u1)).1 ≤ (o.1 + 20) := by omega
  have m1_1 : gN cap (o).1 ≤ gN cap (o4 (o) (u1)).1 := gN_mono h0 (Nat.le_add_right _ 4)
  have m2_1 : gN cap (o4 (o) (u1)).1 ≤ gN cap (o.1 + 20) := gN_mono h0 lE_1
  have e_1 : gN (gN cap (o).1) (o4 (o) (u1)).1 = gN cap (o4 (o) (u1)).1 := gN_gN h0 (Nat.le_add_right _ 4)
  have ge_1 := gN_ge (a := (o).1) h0
  have go_1 := (gN_b (n := (o).1) h0).1
  refine aw_callV (mc2 := gN cap (o.1 + 20) - gN cap (o4 (o) (u1)).1) (ms2 := 2 * (gN cap (o.1 + 20) - gN cap (o4 (o) (u1)).1)) (As := [.int (nI u1)]) (rest := []) (c_B_addWord Mb.1 Mb.2.1 Mb.2.2.1 Mb.2.2.2 go_1 (by omega) (by omega) (by omega) u1 (by omega)) cv_R_61 d_R_feed_30 Mb.1 rfl rfl rfl (Nat.le_of_ble_eq_true rfl) (by decide) (by decide) (by omega) (by omega) (fun v_30 k_30c q_30 => ?_)
  obtain ⟨z_1, ro_1, G_1, B_1, T_1⟩ := bS_add Mb h0 (o' := o4 (o) (u1)) (Nat.le_add_right _ 4) q_30
  refine aw_st (st' := []) (by rw [z_1]; rfl) ?_
  have rd_1 := T_1.at (nm2 (av_apO hrd Mb.1 (by decide)) (av_apart' hrd Mb.2.1)) hrd
  refine aw_aload_n d_R_feed_33 rfl ?_
  refine aw_get fl_R_10 d_R_feed_34 rd_1 rfl ?_
  refine aw_iload_n d_R_feed_37 rfl ?_
  have l_2 : (o4 (o4 (o) (u1)) (u2)).1 = (o4 (o) (u1)).1 + 4 := rfl
  have lE_2 : (o4 (o4 (o) (u1)) (u2)).1 ≤ (o.1 + 20) := by omega
  have m1_2 : gN cap (o4 (o) (u1)).1 ≤ gN cap (o4 (o4 (o) (u1)) (u2)).1 := gN_mono h0 (Nat.le_add_right _ 4)
  have m2_2 : gN cap (o4 (o4 (o) (u1)) (u2)).1 ≤ gN cap (o.1 + 20) := gN_mono h0 lE_2
  have e_2 : gN (gN cap (o4 (o) (u1)).1) (o4 (o4 (o) (u1)) (u2)).1 = gN cap (o4 (o4 (o) (u1)) (u2)).1 := gN_gN h0 (Nat.le_add_right _ 4)
  have ge_2 := gN_ge (a := (o4 (o) (u1)).1) h0
  have go_2 := (gN_b (n := (o4 (o) (u1)).1) h0).1
  refine aw_callV (mc2 := gN cap (o.1 + 20) - gN cap (o4 (o4 (o) (u1)) (u2)).1) (ms2 := 2 * (gN cap (o.1 + 20) - gN cap (o4 (o4 (o) (u1)) (u2)).1)) (As := [.int (nI u2)]) (rest := []) (c_B_addWord B_1.1 B_1.2.1 B_1.2.2.1 B_1.2.2.2 go_2 (by omega) (by omega) (by omega) u2 (by omega)) cv_R_61 d_R_feed_38 B_1.1 rfl rfl rfl (Nat.le_of_ble_eq_true rfl) (by decide) (by decide) (by omega) (by omega) (fun v_38 k_38c q_38 => ?_)
  obtain ⟨z_2, ro_2, G_2, B_2, T_2⟩ := bS_add B_1 h0 (o' := o4 (o4 (o) (u1)) (u2)) (Nat.le_add_right _ 4) q_38
  refine aw_st (st' := []) (by rw [z_2]; rfl) ?_
  have rd_2 := T_2.at (nm2 (av_apO rd_1 B_1.1 (by decide)) (av_apart' rd_1 B_1.2.1)) rd_1
  refine aw_aload_n d_R_feed_41 rfl ?_
  refine aw_get fl_R_10 d_R_feed_42 rd_2 rfl ?_
  refine aw_iload_n d_R_feed_45 rfl ?_
  have l_3 : (o4 (o4 (o4 (o) (u1)) (u2)) (u3)).1 = (o4 (o4 (o) (u1)) (u2)).1 + 4 := rfl
  have lE_3 : (o4 (o4 (o4 (o) (u1)) (u2)) (u3)).1 ≤ (o.1 + 20) := by omega
  have m1_3 : gN cap (o4 (o4 (o) (u1)) (u2)).1 ≤ gN cap (o4 (o4 (o4 (o) (u1)) (u2)) (u3)).1 := gN_mono h0 (Nat.le_add_right _ 4)
  have m2_3 : gN cap (o4 (o4 (o4 (o) (u1)) (u2)) (u3)).1 ≤ gN cap (o.1 + 20) := gN_mono h0 lE_3
  have e_3 : gN (gN cap (o4 (o4 (o) (u1)) (u2)).1) (o4 (o4 (o4 (o) (u1)) (u2)) (u3)).1 = gN cap (o4 (o4 (o4 (o) (u1)) (u2)) (u3)).1 := gN_gN h0 (Nat.le_add_right _ 4)
  have ge_3 := gN_ge (a := (o4 (o4 (o) (u1)) (u2)).1) h0
  have go_3 := (gN_b (n := (o4 (o4 (o) (u1)) (u2)).1) h0).1
  refine aw_callV (mc2 := gN cap (o.1 + 20) - gN cap (o4 (o4 (o4 (o) (u1)) (u2)) (u3)).1) (ms2 := 2 * (gN cap (o.1 + 20) - gN cap (o4 (o4 (o4 (o) (u1)) (u2)) (u3)).1)) (As := [.int (nI u3)]) (rest := []) (c_B_addWord B_2.1 B_2.2.1 B_2.2.2.1 B_2.2.2.2 go_3 (by omega) (by omega) (by omega) u3 (by omega)) cv_R_61 d_R_feed_46 B_2.1 rfl rfl rfl (Nat.le_of_ble_eq_true rfl) (by decide) (by decide) (by omega) (by omega) (fun v_46 k_46c q_46 => ?_)
  obtain ⟨z_3, ro_3, G_3, B_3, T_3⟩ := bS_add B_2 h0 (o' := o4 (o4 (o4 (o) (u1)) (u2)) (u3)) (Nat.le_add_right _ 4) q_46
  refine aw_st (st' := []) (by rw [z_3]; rfl) ?_
  have rd_3 := T_3.at (nm2 (av_apO rd_2 B_2.1 (by decide)) (av_apart' rd_2 B_2.2.1)) rd_2
  refine aw_aload_n d_R_feed_49 rfl ?_
  refine aw_get fl_R_10 d_R_feed_50 rd_3 rfl ?_
  refine aw_iload d_R_feed_53 rfl ?_
  have l_4 : (o4 (o4 (o4 (o4 (o) (u1)) (u2)) (u3)) (u4)).1 = (o4 (o4 (o4 (o) (u1)) (u2)) (u3)).1 + 4 := rfl
  have lE_4 : (o4 (o4 (o4 (o4 (o) (u1)) (u2)) (u3)) (u4)).1 ≤ (o.1 + 20) := by omega
  have m1_4 : gN cap (o4 (o4 (o4 (o) (u1)) (u2)) (u3)).1 ≤ gN cap (o4 (o4 (o4 (o4 (o) (u1)) (u2)) (u3)) (u4)).1 := gN_mono h0 (Nat.le_add_right _ 4)
  have m2_4 : gN cap (o4 (o4 (o4 (o4 (o) (u1)) (u2)) (u3)) (u4)).1 ≤ gN cap (o.1 + 20) := gN_mono h0 lE_4
  have e_4 : gN (gN cap (o4 (o4 (o4 (o) (u1)) (u2)) (u3)).1) (o4 (o4 (o4 (o4 (o) (u1)) (u2)) (u3)) (u4)).1 = gN cap (o4 (o4 (o4 (o4 (o) (u1)) (u2)) (u3)) (u4)).1 := gN_gN h0 (Nat.le_add_right _ 4)
  have ge_4 := gN_ge (a := (o4 (o4 (o4 (o) (u1)) (u2)) (u3)).1) h0
  have go_4 := (gN_b (n := (o4 (o4 (o4 (o) (u1)) (u2)) (u3)).1) h0).1
  refine aw_callV (mc2 := gN cap (o.1 + 20) - gN cap (o4 (o4 (o4 (o4 (o) (u1)) (u2)) (u3)) (u4)).1) (ms2 := 2 * (gN cap (o.1 + 20) - gN cap (o4 (o4 (o4 (o4 (o) (u1)) (u2)) (u3)) (u4)).1)) (As := [.int (nI u4)]) (rest := []) (c_B_addWord B_3.1 B_3.2.1 B_3.2.2.1 B_3.2.2.2 go_4 (by omega) (by omega) (by omega) u4 (by omega)) cv_R_61 d_R_feed_55 B_3.1 rfl rfl rfl (Nat.le_of_ble_eq_true rfl) (by decide) (by decide) (by omega) (by omega) (fun v_55 k_55c q_55 => ?_)
  obtain ⟨z_4, ro_4, G_4, B_4, T_4⟩ := bS_add B_3 h0 (o' := o4 (o4 (o4 (o4 (o) (u1)) (u2)) (u3)) (u4)) (Nat.le_add_right _ 4) q_55
  refine aw_st (st' := []) (by rw [z_4]; rfl) ?_
  have rd_4 := T_4.at (nm2 (av_apO rd_3 B_3.1 (by decide)) (av_apart' rd_3 B_3.2.1)) rd_3
  refine aw_aload_n d_R_feed_58 rfl ?_
  refine aw_get fl_R_10 d_R_feed_59 rd_4 rfl ?_
  refine aw_iload d_R_feed_62 rfl ?_
  have l_5 : (o4 (o4 (o4 (o4 (o4 (o) (u1)) (u2)) (u3)) (u4)) (u5)).1 = (o4 (o4 (o4 (o4 (o) (u1)) (u2)) (u3)) (u4)).1 + 4 := rfl
  have lE_5 : (o4 (o4 (o4 (o4 (o4 (o) (u1)) (u2)) (u3)) (u4)) (u5)).1 ≤ (o.1 + 20) := by omega
  have m1_5 : gN cap (o4 (o4 (o4 (o4 (o) (u1)) (u2)) (u3)) (u4)).1 ≤ gN cap (o4 (o4 (o4 (o4 (o4 (o) (u1)) (u2)) (u3)) (u4)) (u5)).1 := gN_mono h0 (Nat.le_add_right _ 4)
  have m2_5 : gN cap (o4 (o4 (o4 (o4 (o4 (o) (u1)) (u2)) (u3)) (u4)) (u5)).1 ≤ gN cap (o.1 + 20) := gN_mono h0 lE_5
  have e_5 : gN (gN cap (o4 (o4 (o4 (o4 (o) (u1)) (u2)) (u3)) (u4)).1) (o4 (o4 (o4 (o4 (o4 (o) (u1)) (u2)) (u3)) (u4)) (u5)).1 = gN cap (o4 (o4 (o4 (o4 (o4 (o) (u1)) (u2)) (u3)) (u4)) (u5)).1 := gN_gN h0 (Nat.le_add_right _ 4)
  have ge_5 := gN_ge (a := (o4 (o4 (o4 (o4 (o) (u1)) (u2)) (u3)) (u4)).1) h0
  have go_5 := (gN_b (n := (o4 (o4 (o4 (o4 (o) (u1)) (u2)) (u3)) (u4)).1) h0).1
  refine aw_callV (mc2 := gN cap (o.1 + 20) - gN cap (o4 (o4 (o4 (o4 (o4 (o) (u1)) (u2)) (u3)) (u4)) (u5)).1) (ms2 := 2 * (gN cap (o.1 + 20) - gN cap (o4 (o4 (o4 (o4 (o4 (o) (u1)) (u2)) (u3)) (u4)) (u5)).1)) (As := [.int (nI u5)]) (rest := []) (c_B_addWord B_4.1 B_4.2.1 B_4.2.2.1 B_4.2.2.2 go_5 (by omega) (by omega) (by omega) u5 (by omega)) cv_R_61 d_R_feed_64 B_4.1 rfl rfl rfl (Nat.le_of_ble_eq_true rfl) (by decide) (by decide) (by omega) (by omega) (fun v_64 k_64c q_64 => ?_)
  obtain ⟨z_5, ro_5, G_5, B_5, T_5⟩ := bS_add B_4 h0 (o' := o4 (o4 (o4 (o4 (o4 (o) (u1)) (u2)) (u3)) (u4)) (u5)) (Nat.le_add_right _ 4) q_64
  refine aw_st (st' := []) (by rw [z_5]; rfl) ?_
  have rd_5 := T_5.at (nm2 (av_apO rd_4 B_4.1 (by decide)) (av_apart' rd_4 B_4.2.1)) rd_4
  exact aw_vret d_R_feed_67 rfl ⟨rfl, _, _, B_5, ((((((frm.refl _).tr T_1).tr T_2).tr T_3).tr T_4).tr T_5)⟩

set_option maxHeartbeats 4000000 in
theorem c_R_writeHead {tb : Nat → Nat} {h : AH} {r b x0 x1 x2 w p kp im a0 a1 a2 a3 a4 a5 cc pc us nu qu wl mn : Nat} {B : Nat → Nat} {f0 f1 f2 f3 f4 f5 fn fq : Nat → Int32} (V : IV B f0 f1 f2 f3 f4 f5 cc pc) (L : LX B) (hB_ : ∀ i, B i < 256) (hcc : cc ≤ 1048576) (hpc : pc ≤ 1048576) (hN : nn B < wl) (hwl : wl ≤ 1048576) {Mk : Nat → Nat} (hf : ∀ j, 1 ≤ j → j ≤ nn B → fn j = nI (nuM Mk j)) {cap : Nat} (h0 : 0 < cap) (U : uS h r b x0 x1 x2 w p kp im a0 a1 a2 a3 a4 a5 cc pc us B f0 f1 f2 f3 f4 f5 nu qu wl mn fn fq) {ro : Nat} {o : OS} {G : Nat → Nat} (N : ∀ x ∈ [b, ro], x ∉ [r, im, a0, a1, a2, a3, a4, a5, w, nu, qu]) (Mb : bS h b ro cap o G) (hK : o.1 + 8 ≤ 65536) (hg : gN cap (o.1 + 8) ≤ 524288) (e0 : B 0 = 77) (e1 : B 1 = 77) (e2 : B 2 = 1) (e3 : B 3 = 0) (n : Nat) (hn : n < 65536) : AM tb y_R_writeHead b_R_writeHead 3 none 4 90 [.ref r, .int (nI n)] h (gN cap (o.1 + 8) - gN cap o.1) (2 * (gN cap (o.1 + 8) - gN cap o.1)) (fun v h' => v = none ∧ ∃ ro' G', bS h' b ro' cap (o2 (o1 (o1 (o1 (o1 (o1 (o1 o (B 0)) (B 1)) (B 2)) (B 3)) (B 4)) (B 5)) n) G' ∧ frm [b, ro] [b, ro'] h h') := by
  have nV_im := V.1
  have nL_im := L.1
  have b4 := hB_ 4
  have b5 := hB_ 5
  refine am_of (ini := false) [some (.ref r), some (.int (nI n)), none] (by decide) (fun z => by cases z) (Nat.le_of_ble_eq_true rfl) rfl ?_
  refine aw_iconst (v := nI 0) d_R_writeHead_0 (by decide) ?_
  refine aw_istore_n (L' := [some (.ref r), some (.int (nI n)), some (.int (nI 0))]) d_R_writeHead_1 (by decide) rfl rfl ?_
  refine aw_iload_n d_R_writeHead_2 rfl ?_
  refine aw_iconst (v := nI 4) d_R_writeHead_3 (by decide) ?_
  refine aw_icmp_ge (tgt := 25) d_R_writeHead_4 (by decide) (fun z => absurd z (by decide)) (fun _ => ?_)
  refine aw_aload_n d_R_writeHead_7 rfl ?_
  refine aw_get fl_R_10 d_R_writeHead_8 U.1 rfl ?_
  refine aw_tab0 (Or.inl tw_455) d_R_writeHead_11 ?_
  refine aw_iload_n d_R_writeHead_14 rfl ?_
  refine aw_tld0 (x := nI (B 0)) d_R_writeHead_15 (vp_in_nI (by omega) (by omega)) (by rw [nI_clamp (by decide), hd_lo_eq 0 (by decide), e0]; decide) ?_
  have bb_0 := hB_ 0
  have l_1 : (o1 (o) (B 0)).1 = (o).1 + 1 := rfl
  have lE_1 : (o1 (o) (B 0)).1 ≤ (o.1 + 8) := by omega
  have m1_1 : gN cap (o).1 ≤ gN cap (o1 (o) (B 0)).1 := gN_mono h0 (Nat.le_add_right _ 1)
  have m2_1 : gN cap (o1 (o) (B 0)).1 ≤ gN cap (o.1 + 8) := gN_mono h0 lE_1
  have e_1 : gN (gN cap (o).1) (o1 (o) (B 0)).1 = gN cap (o1 (o) (B 0)).1 := gN_gN h0 (Nat.le_add_right _ 1)
  have ge_1 := gN_ge (a := (o).1) h0
  have go_1 := (gN_b (n := (o).1) h0).1
  refine aw_callV (mc2 := gN cap (o.1 + 8) - gN cap (o1 (o) (B 0)).1) (ms2 := 2 * (gN cap (o.1 + 8) - gN cap (o1 (o) (B 0)).1)) (As := [.int (nI (B 0))]) (rest := []) (c_B_add Mb.1 Mb.2.1 Mb.2.2.1 Mb.2.2.2 go_1 (by omega) (by omega) (by omega) (B 0) (by omega)) cv_R_177 d_R_writeHead_16 Mb.1 rfl rfl rfl (Nat.le_of_ble_eq_true rfl) (by decide) (by decide) (by omega) (by omega) (fun v_16 k_16c q_16 => ?_)
  obtain ⟨z_1, ro_1, G_1, B_1, T_1⟩ := bS_add Mb h0 (o' := o1 (o) (B 0)) (Nat.le_add_right _ 1) q_16
  refine aw_st (st' := []) (by rw [z_1]; rfl) ?_
  have U_1 := U.fr T_1 N
  have N_1 := dj_fr T_1 N U.ex
  refine aw_iinc (v := nI 1) (L' := [some (.ref r), some (.int (nI n)), some (.int (nI 1))]) d_R_writeHead_19 rfl (by decide) (by decide) rfl rfl ?_
  refine aw_goto (tgt := 2) d_R_writeHead_22 (by decide) ?_
  refine aw_iload_n d_R_writeHead_2 rfl ?_
  refine aw_iconst (v := nI 4) d_R_writeHead_3 (by decide) ?_
  refine aw_icmp_ge (tgt := 25) d_R_writeHead_4 (by decide) (fun z => absurd z (by decide)) (fun _ => ?_)
  refine aw_aload_n d_R_writeHead_7 rfl ?_
  refine aw_get fl_R_10 d_R_writeHead_8 U_1.1 rfl ?_
  refine aw_tab0 (Or.inl tw_455) d_R_writeHead_11 ?_
  refine aw_iload_n d_R_writeHead_14 rfl ?_
  refine aw_tld0 (x := nI (B 1)) d_R_writeHead_15 (vp_in_nI (by omega) (by omega)) (by rw [nI_clamp (by decide), hd_lo_eq 1 (by decide), e1]; decide) ?_
  have bb_1 := hB_ 1
  have l_2 : (o1 (o1 (o) (B 0)) (B 1)).1 = (o1 (o) (B 0)).1 + 1 := rfl
  have lE_2 : (o1 (o1 (o) (B 0)) (B 1)).1 ≤ (o.1 + 8) := by omega
  have m1_2 : gN cap (o1 (o) (B 0)).1 ≤ gN cap (o1 (o1 (o) (B 0)) (B 1)).1 := gN_mono h0 (Nat.le_add_right _ 1)
  have m2_2 : gN cap (o1 (o1 (o) (B 0)) (B 1)).1 ≤ gN cap (o.1 + 8) := gN_mono h0 lE_2
  have e_2 : gN (gN cap (o1 (o) (B 0)).1) (o1 (o1 (o) (B 0)) (B 1)).1 = gN cap (o1 (o1 (o) (B 0)) (B 1)).1 := gN_gN h0 (Nat.le_add_right _ 1)
  have ge_2 := gN_ge (a := (o1 (o) (B 0)).1) h0
  have go_2 := (gN_b (n := (o1 (o) (B 0)).1) h0).1
  refine aw_callV (mc2 := gN cap (o.1 + 8) - gN cap (o1 (o1 (o) (B 0)) (B 1)).1) (ms2 := 2 * (gN cap (o.1 + 8) - gN cap (o1 (o1 (o) (B 0)) (B 1)).1)) (As := [.int (nI (B 1))]) (rest := []) (c_B_add B_1.1 B_1.2.1 B_1.2.2.1 B_1.2.2.2 go_2 (by omega) (by omega) (by omega) (B 1) (by omega)) cv_R_177 d_R_writeHead_16 B_1.1 rfl rfl rfl (Nat.le_of_ble_eq_true rfl) (by decide) (by decide) (by omega) (by omega) (fun v_16 k_16c q_16 => ?_)
  obtain ⟨z_2, ro_2, G_2, B_2, T_2⟩ := bS_add B_1 h0 (o' := o1 (o1 (o) (B 0)) (B 1)) (Nat.le_add_right _ 1) q_16
  refine aw_st (st' := []) (by rw [z_2]; rfl) ?_
  have U_2 := U_1.fr T_2 N_1
  have N_2 := dj_fr T_2 N_1 U_1.ex
  refine aw_iinc (v := nI 2) (L' := [some (.ref r), some (.int (nI n)), some (.int (nI 2))]) d_R_writeHead_19 rfl (by decide) (by decide) rfl rfl ?_
  refine aw_goto (tgt := 2) d_R_writeHead_22 (by decide) ?_
  refine aw_iload_n d_R_writeHead_2 rfl ?_
  refine aw_iconst (v := nI 4) d_R_writeHead_3 (by decide) ?_
  refine aw_icmp_ge (tgt := 25) d_R_writeHead_4 (by decide) (fun z => absurd z (by decide)) (fun _ => ?_)
  refine aw_aload_n d_R_writeHead_7 rfl ?_
  refine aw_get fl_R_10 d_R_writeHead_8 U_2.1 rfl ?_
  refine aw_tab0 (Or.inl tw_455) d_R_writeHead_11 ?_
  refine aw_iload_n d_R_writeHead_14 rfl ?_
  refine aw_tld0 (x := nI (B 2)) d_R_writeHead_15 (vp_in_nI (by omega) (by omega)) (by rw [nI_clamp (by decide), hd_lo_eq 2 (by decide), e2]; decide) ?_
  have bb_2 := hB_ 2
  have l_3 : (o1 (o1 (o1 (o) (B 0)) (B 1)) (B 2)).1 = (o1 (o1 (o) (B 0)) (B 1)).1 + 1 := rfl
  have lE_3 : (o1 (o1 (o1 (o) (B 0)) (B 1)) (B 2)).1 ≤ (o.1 + 8) := by omega
  have m1_3 : gN cap (o1 (o1 (o) (B 0)) (B 1)).1 ≤ gN cap (o1 (o1 (o1 (o) (B 0)) (B 1)) (B 2)).1 := gN_mono h0 (Nat.le_add_right _ 1)
  have m2_3 : gN cap (o1 (o1 (o1 (o) (B 0)) (B 1)) (B 2)).1 ≤ gN cap (o.1 + 8) := gN_mono h0 lE_3
  have e_3 : gN (gN cap (o1 (o1 (o) (B 0)) (B 1)).1) (o1 (o1 (o1 (o) (B 0)) (B 1)) (B 2)).1 = gN cap (o1 (o1 (o1 (o) (B 0)) (B 1)) (B 2)).1 := gN_gN h0 (Nat.le_add_right _ 1)
  have ge_3 := gN_ge (a := (o1 (o1 (o) (B 0)) (B 1)).1) h0
  have go_3 := (gN_b (n := (o1 (o1 (o) (B 0)) (B 1)).1) h0).1
  refine aw_callV (mc2 := gN cap (o.1 + 8) - gN cap (o1 (o1 (o1 (o) (B 0)) (B 1)) (B 2)).1) (ms2 := 2 * (gN cap (o.1 + 8) - gN cap (o1 (o1 (o1 (o) (B 0)) (B 1)) (B 2)).1)) (As := [.int (nI (B 2))]) (rest := []) (c_B_add B_2.1 B_2.2.1 B_2.2.2.1 B_2.2.2.2 go_3 (by omega) (by omega) (by omega) (B 2) (by omega)) cv_R_177 d_R_writeHead_16 B_2.1 rfl rfl rfl (Nat.le_of_ble_eq_true rfl) (by decide) (by decide) (by omega) (by omega) (fun v_16 k_16c q_16 => ?_)
  obtain ⟨z_3, ro_3, G_3, B_3, T_3⟩ := bS_add B_2 h0 (o' := o1 (o1 (o1 (o) (B 0)) (B 1)) (B 2)) (Nat.le_add_right _ 1) q_16
  refine aw_st (st' := []) (by rw [z_3]; rfl) ?_
  have U_3 := U_2.fr T_3 N_2
  have N_3 := dj_fr T_3 N_2 U_2.ex
  refine aw_iinc (v := nI 3) (L' := [some (.ref r), some (.int (nI n)), some (.int (nI 3))]) d_R_writeHead_19 rfl (by decide) (by decide) rfl rfl ?_
  refine aw_goto (tgt := 2) d_R_writeHead_22 (by decide) ?_
  refine aw_iload_n d_R_writeHead_2 rfl ?_
  refine aw_iconst (v := nI 4) d_R_writeHead_3 (by decide) ?_
  refine aw_icmp_ge (tgt := 25) d_R_writeHead_4 (by decide) (fun z => absurd z (by decide)) (fun _ => ?_)
  refine aw_aload_n d_R_writeHead_7 rfl ?_
  refine aw_get fl_R_10 d_R_writeHead_8 U_3.1 rfl ?_
  refine aw_tab0 (Or.inl tw_455) d_R_writeHead_11 ?_
  refine aw_iload_n d_R_writeHead_14 rfl ?_
  refine aw_tld0 (x := nI (B 3)) d_R_writeHead_15 (vp_in_nI (by omega) (by omega)) (by rw [nI_clamp (by decide), hd_lo_eq 3 (by decide), e3]; decide) ?_
  have bb_3 := hB_ 3
  have l_4 : (o1 (o1 (o1 (o1 (o) (B 0)) (B 1)) (B 2)) (B 3)).1 = (o1 (o1 (o1 (o) (B 0)) (B 1)) (B 2)).1 + 1 := rfl
  have lE_4 : (o1 (o1 (o1 (o1 (o) (B 0)) (B 1)) (B 2)) (B 3)).1 ≤ (o.1 + 8) := by omega
  have m1_4 : gN cap (o1 (o1 (o1 (o) (B 0)) (B 1)) (B 2)).1 ≤ gN cap (o1 (o1 (o1 (o1 (o) (B 0)) (B 1)) (B 2)) (B 3)).1 := gN_mono h0 (Nat.le_add_right _ 1)
  have m2_4 : gN cap (o1 (o1 (o1 (o1 (o) (B 0)) (B 1)) (B 2)) (B 3)).1 ≤ gN cap (o.1 + 8) := gN_mono h0 lE_4
  have e_4 : gN (gN cap (o1 (o1 (o1 (o) (B 0)) (B 1)) (B 2)).1) (o1 (o1 (o1 (o1 (o) (B 0)) (B 1)) (B 2)) (B 3)).1 = gN cap (o1 (o1 (o1 (o1 (o) (B 0)) (B 1)) (B 2)) (B 3)).1 := gN_gN h0 (Nat.le_add_right _ 1)
  have ge_4 := gN_ge (a := (o1 (o1 (o1 (o) (B 0)) (B 1)) (B 2)).1) h0
  have go_4 := (gN_b (n := (o1 (o1 (o1 (o) (B 0)) (B 1)) (B 2)).1) h0).1
  refine aw_callV (mc2 := gN cap (o.1 + 8) - gN cap (o1 (o1 (o1 (o1 (o) (B 0)) (B 1)) (B 2)) (B 3)).1) (ms2 := 2 * (gN cap (o.1 + 8) - gN cap (o1 (o1 (o1 (o1 (o) (B 0)) (B 1)) (B 2)) (B 3)).1)) (As := [.int (nI (B 3))]) (rest := []) (c_B_add B_3.1 B_3.2.1 B_3.2.2.1 B_3.2.2.2 go_4 (by omega) (by omega) (by omega) (B 3) (by omega)) cv_R_177 d_R_writeHead_16 B_3.1 rfl rfl rfl (Nat.le_of_ble_eq_true rfl) (by decide) (by decide) (by omega) (by omega) (fun v_16 k_16c q_16 => ?_)
  obtain ⟨z_4, ro_4, G_4, B_4, T_4⟩ := bS_add B_3 h0 (o' := o1 (o1 (o1 (o1 (o) (B 0)) (B 1)) (B 2)) (B 3)) (Nat.le_add_right _ 1) q_16
  refine aw_st (st' := []) (by rw [z_4]; rfl) ?_
  have U_4 := U_3.fr T_4 N_3
  have N_4 := dj_fr T_4 N_3 U_3.ex
  refine aw_iinc (v := nI 4) (L' := [some (.ref r), some (.int (nI n)), some (.int (nI 4))]) d_R_writeHead_19 rfl (by decide) (by decide) rfl rfl ?_
  refine aw_goto (tgt := 2) d_R_writeHead_22 (by decide) ?_
  refine aw_iload_n d_R_writeHead_2 rfl ?_
  refine aw_iconst (v := nI 4) d_R_writeHead_3 (by decide) ?_
  refine aw_icmp_ge (tgt := 25) d_R_writeHead_4 (by decide) (fun _ => ?_) (fun z => absurd (by decide) z)
  refine aw_aload_n d_R_writeHead_25 rfl ?_
  refine aw_get fl_R_10 d_R_writeHead_26 U_4.1 rfl ?_
  refine aw_aload_n d_R_writeHead_29 rfl ?_
  refine aw_get fl_R_43 d_R_writeHead_30 U_4.1 rfl ?_
  refine aw_get fl_R_180 d_R_writeHead_33 U_4.2.1.1 rfl ?_
  have l_5 : (o1 (o1 (o1 (o1 (o1 (o) (B 0)) (B 1)) (B 2)) (B 3)) (B 4)).1 = (o1 (o1 (o1 (o1 (o) (B 0)) (B 1)) (B 2)) (B 3)).1 + 1 := rfl
  have lE_5 : (o1 (o1 (o1 (o1 (o1 (o) (B 0)) (B 1)) (B 2)) (B 3)) (B 4)).1 ≤ (o.1 + 8) := by omega
  have m1_5 : gN cap (o1 (o1 (o1 (o1 (o) (B 0)) (B 1)) (B 2)) (B 3)).1 ≤ gN cap (o1 (o1 (o1 (o1 (o1 (o) (B 0)) (B 1)) (B 2)) (B 3)) (B 4)).1 := gN_mono h0 (Nat.le_add_right _ 1)
  have m2_5 : gN cap (o1 (o1 (o1 (o1 (o1 (o) (B 0)) (B 1)) (B 2)) (B 3)) (B 4)).1 ≤ gN cap (o.1 + 8) := gN_mono h0 lE_5
  have e_5 : gN (gN cap (o1 (o1 (o1 (o1 (o) (B 0)) (B 1)) (B 2)) (B 3)).1) (o1 (o1 (o1 (o1 (o1 (o) (B 0)) (B 1)) (B 2)) (B 3)) (B 4)).1 = gN cap (o1 (o1 (o1 (o1 (o1 (o) (B 0)) (B 1)) (B 2)) (B 3)) (B 4)).1 := gN_gN h0 (Nat.le_add_right _ 1)
  have ge_5 := gN_ge (a := (o1 (o1 (o1 (o1 (o) (B 0)) (B 1)) (B 2)) (B 3)).1) h0
  have go_5 := (gN_b (n := (o1 (o1 (o1 (o1 (o) (B 0)) (B 1)) (B 2)) (B 3)).1) h0).1
  refine aw_callV (mc2 := gN cap (o.1 + 8) - gN cap (o1 (o1 (o1 (o1 (o1 (o) (B 0)) (B 1)) (B 2)) (B 3)) (B 4)).1) (ms2 := 2 * (gN cap (o.1 + 8) - gN cap (o1 (o1 (o1 (o1 (o1 (o) (B 0)) (B 1)) (B 2)) (B 3)) (B 4)).1)) (As := [.int (nI (B 4))]) (rest := []) (c_B_add B_4.1 B_4.2.1 B_4.2.2.1 B_4.2.2.2 go_5 (by omega) (by omega) (by omega) (B 4) (by omega)) cv_R_177 d_R_writeHead_36 B_4.1 rfl rfl rfl (Nat.le_of_ble_eq_true rfl) (by decide) (by decide) (by omega) (by omega) (fun v_36 k_36c q_36 => ?_)
  obtain ⟨z_5, ro_5, G_5, B_5, T_5⟩ := bS_add B_4 h0 (o' := o1 (o1 (o1 (o1 (o1 (o) (B 0)) (B 1)) (B 2)) (B 3)) (B 4)) (Nat.le_add_right _ 1) q_36
  refine aw_st (st' := []) (by rw [z_5]; rfl) ?_
  have U_5 := U_4.fr T_5 N_4
  have N_5 := dj_fr T_5 N_4 U_4.ex
  refine aw_aload_n d_R_writeHead_39 rfl ?_
  refine aw_get fl_R_10 d_R_writeHead_40 U_5.1 rfl ?_
  refine aw_aload_n d_R_writeHead_43 rfl ?_
  refine aw_get fl_R_43 d_R_writeHead_44 U_5.1 rfl ?_
  refine aw_get fl_R_183 d_R_writeHead_47 U_5.2.1.1 rfl ?_
  have l_6 : (o1 (o1 (o1 (o1 (o1 (o1 (o) (B 0)) (B 1)) (B 2)) (B 3)) (B 4)) (B 5)).1 = (o1 (o1 (o1 (o1 (o1 (o) (B 0)) (B 1)) (B 2)) (B 3)) (B 4)).1 + 1 := rfl
  have lE_6 : (o1 (o1 (o1 (o1 (o1 (o1 (o) (B 0)) (B 1)) (B 2)) (B 3)) (B 4)) (B 5)).1 ≤ (o.1 + 8) := by omega
  have m1_6 : gN cap (o1 (o1 (o1 (o1 (o1 (o) (B 0)) (B 1)) (B 2)) (B 3)) (B 4)).1 ≤ gN cap (o1 (o1 (o1 (o1 (o1 (o1 (o) (B 0)) (B 1)) (B 2)) (B 3)) (B 4)) (B 5)).1 := gN_mono h0 (Nat.le_add_right _ 1)
  have m2_6 : gN cap (o1 (o1 (o1 (o1 (o1 (o1 (o) (B 0)) (B 1)) (B 2)) (B 3)) (B 4)) (B 5)).1 ≤ gN cap (o.1 + 8) := gN_mono h0 lE_6
  have e_6 : gN (gN cap (o1 (o1 (o1 (o1 (o1 (o) (B 0)) (B 1)) (B 2)) (B 3)) (B 4)).1) (o1 (o1 (o1 (o1 (o1 (o1 (o) (B 0)) (B 1)) (B 2)) (B 3)) (B 4)) (B 5)).1 = gN cap (o1 (o1 (o1 (o1 (o1 (o1 (o) (B 0)) (B 1)) (B 2)) (B 3)) (B 4)) (B 5)).1 := gN_gN h0 (Nat.le_add_right _ 1)
  have ge_6 := gN_ge (a := (o1 (o1 (o1 (o1 (o1 (o) (B 0)) (B 1)) (B 2)) (B 3)) (B 4)).1) h0
  have go_6 := (gN_b (n := (o1 (o1 (o1 (o1 (o1 (o) (B 0)) (B 1)) (B 2)) (B 3)) (B 4)).1) h0).1
  refine aw_callV (mc2 := gN cap (o.1 + 8) - gN cap (o1 (o1 (o1 (o1 (o1 (o1 (o) (B 0)) (B 1)) (B 2)) (B 3)) (B 4)) (B 5)).1) (ms2 := 2 * (gN cap (o.1 + 8) - gN cap (o1 (o1 (o1 (o1 (o1 (o1 (o) (B 0)) (B 1)) (B 2)) (B 3)) (B 4)) (B 5)).1)) (As := [.int (nI (B 5))]) (rest := []) (c_B_add B_5.1 B_5.2.1 B_5.2.2.1 B_5.2.2.2 go_6 (by omega) (by omega) (by omega) (B 5) (by omega)) cv_R_177 d_R_writeHead_50 B_5.1 rfl rfl rfl (Nat.le_of_ble_eq_true rfl) (by decide) (by decide) (by omega) (by omega) (fun v_50 k_50c q_50 => ?_)
  obtain ⟨z_6, ro_6, G_6, B_6, T_6⟩ := bS_add B_5 h0 (o' := o1 (o1 (o1 (o1 (o1 (o1 (o) (B 0)) (B 1)) (B 2)) (B 3)) (B 4)) (B 5)) (Nat.le_add_right _ 1) q_50
  refine aw_st (st' := []) (by rw [z_6]; rfl) ?_
  have U_6 := U_5.fr T_6 N_5
  have N_6 := dj_fr T_6 N_5 U_5.ex
  refine aw_aload_n d_R_writeHead_53 rfl ?_
  refine aw_get fl_R_10 d_R_writeHead_54 U_6.1 rfl ?_
  refine aw_iload_n d_R_writeHead_57 rfl ?_
  have l_7 : (o2 (o1 (o1 (o1 (o1 (o1 (o1 (o) (B 0)) (B 1)) (B 2)) (B 3)) (B 4)) (B 5)) (n)).1 = (o1 (o1 (o1 (o1 (o1 (o1 (o) (B 0)) (B 1)) (B 2)) (B 3)) (B 4)) (B 5)).1 + 2 := rfl
  have lE_7 : (o2 (o1 (o1 (o1 (o1 (o1 (o1 (o) (B 0)) (B 1)) (B 2)) (B 3)) (B 4)) (B 5)) (n)).1 ≤ (o.1 + 8) := by omega
  have m1_7 : gN cap (o1 (o1 (o1 (o1 (o1 (o1 (o) (B 0)) (B 1)) (B 2)) (B 3)) (B 4)) (B 5)).1 ≤ gN cap (o2 (o1 (o1 (o1 (o1 (o1 (o1 (o) (B 0)) (B 1)) (B 2)) (B 3)) (B 4)) (B 5)) (n)).1 := gN_mono h0 (Nat.le_add_right _ 2)
  have m2_7 : gN cap (o2 (o1 (o1 (o1 (o1 (o1 (o1 (o) (B 0)) (B 1)) (B 2)) (B 3)) (B 4)) (B 5)) (n)).1 ≤ gN cap (o.1 + 8) := gN_mono h0 lE_7
  have e_7 : gN (gN cap (o1 (o1 (o1 (o1 (o1 (o1 (o) (B 0)) (B 1)) (B 2)) (B 3)) (B 4)) (B 5)).1) (o2 (o1 (o1 (o1 (o1 (o1 (o1 (o) (B 0)) (B 1)) (B 2)) (B 3)) (B 4)) (B 5)) (n)).1 = gN cap (o2 (o1 (o1 (o1 (o1 (o1 (o1 (o) (B 0)) (B 1)) (B 2)) (B 3)) (B 4)) (B 5)) (n)).1 := gN_gN h0 (Nat.le_add_right _ 2)
  have ge_7 := gN_ge (a := (o1 (o1 (o1 (o1 (o1 (o1 (o) (B 0)) (B 1)) (B 2)) (B 3)) (B 4)) (B 5)).1) h0
  have go_7 := (gN_b (n := (o1 (o1 (o1 (o1 (o1 (o1 (o) (B 0)) (B 1)) (B 2)) (B 3)) (B 4)) (B 5)).1) h0).1
  refine aw_callV (mc2 := gN cap (o.1 + 8) - gN cap (o2 (o1 (o1 (o1 (o1 (o1 (o1 (o) (B 0)) (B 1)) (B 2)) (B 3)) (B 4)) (B 5)) (n)).1) (ms2 := 2 * (gN cap (o.1 + 8) - gN cap (o2 (o1 (o1 (o1 (o1 (o1 (o1 (o) (B 0)) (B 1)) (B 2)) (B 3)) (B 4)) (B 5)) (n)).1)) (As := [.int (nI n)]) (rest := []) (c_B_addPair B_6.1 B_6.2.1 B_6.2.2.1 B_6.2.2.2 go_7 (by omega) (by omega) (by omega) n (by omega)) cv_R_186 d_R_writeHead_58 B_6.1 rfl rfl rfl (Nat.le_of_ble_eq_true rfl) (by decide) (by decide) (by omega) (by omega) (fun v_58 k_58c q_58 => ?_)
  obtain ⟨z_7, ro_7, G_7, B_7, T_7⟩ := bS_add B_6 h0 (o' := o2 (o1 (o1 (o1 (o1 (o1 (o1 (o) (B 0)) (B 1)) (B 2)) (B 3)) (B 4)) (B 5)) (n)) (Nat.le_add_right _ 2) q_58
  refine aw_st (st' := []) (by rw [z_7]; rfl) ?_
  have U_7 := U_6.fr T_7 N_6
  have N_7 := dj_fr T_7 N_6 U_6.ex
  exact aw_vret d_R_writeHead_61 rfl ⟨rfl, _, _, B_7, ((((((((frm.refl _).tr T_1).tr T_2).tr T_3).tr T_4).tr T_5).tr T_6).tr T_7)⟩

set_option maxHeartbeats 4000000 in
theorem lp_R_writeObject {tb : Nat → Nat} {h : AH} {fr lo : Nat}  (hfr : 5 ≤ fr) (hlo : 111 ≤ lo) {r b x0 x1 x2 w p kp im a0 a1 a2 a3 a4 a5 cc pc us nu qu wl mn : Nat} {B : Nat → Nat} {f0 f1 f2 f3 f4 f5 fn fq : Nat → Int32} (V : IV B f0 f1 f2 f3 f4 f5 cc pc) (L : LX B) (hB_ : ∀ i, B i < 256) (hcc : cc ≤ 1048576) (hpc : pc ≤ 1048576) (hN : nn B < wl) (hwl : wl ≤ 1048576) {Mk : Nat → Nat} (hf : ∀ j, 1 ≤ j → j ≤ nn B → fn j = nI (nuM Mk j)) {cap : Nat} (h0 : 0 < cap) {ro0 : Nat} {o : OS} (k : Nat) (q1 : 1 ≤ k) (q2 : k ≤ nn B) (hE : (wF B Mk o k (sz B k)).1 ≤ 65536) (hg : gN cap (wF B Mk o k (sz B k)).1 ≤ 524288) : ∀ (d : Nat) (i : Nat) (g : AH) (ro : Nat) (G : Nat → Nat) (mc ms : Nat), uS g r b x0 x1 x2 w p kp im a0 a1 a2 a3 a4 a5 cc pc us B f0 f1 f2 f3 f4 f5 nu qu wl mn fn fq → (∀ x ∈ [b, ro], x ∉ [r, im, a0, a1, a2, a3, a4, a5, w, nu, qu]) → bS g b ro cap (wF B Mk o k i) G → frm [b, ro0] [b, ro] h g → gN cap (wF B Mk o k (sz B k)).1 - gN cap (wF B Mk o k i).1 ≤ mc → 2 * (gN cap (wF B Mk o k (sz B k)).1 - gN cap (wF B Mk o k i).1) ≤ ms → i ≤ sz B k → sz B k < i + d → AW tb "ImageReader" b_R_writeObject 4 none false none fr lo (fun v h' => v = none ∧ ∃ ro' G', bS h' b ro' cap (wF B Mk o k (sz B k)) G' ∧ frm [b, ro0] [b, ro'] h h') 61 [some (.ref r), some (.int (nI k)), some (.int (nI i)), none] [] g mc ms := by
  intro d
  induction d with
  | zero => intro i g ro G mc ms gU gN_ gB gT hmc hms hi hd; omega
  | succ d ih =>
    intro i g ro G mc ms gU gN_ gB gT hmc hms hi hd
    have nV_im := V.1
    have nL_im := L.1
    have hz := sz_lt hB_ k
    have hk2 := L.k2 q1 q2
    refine aw_iload_n d_R_writeObject_61 rfl ?_
    refine aw_aload_n d_R_writeObject_62 rfl ?_
    refine aw_get fl_R_43 d_R_writeObject_63 gU.1 rfl ?_
    refine aw_get fl_R_110 d_R_writeObject_66 gU.2.1.1 rfl ?_
    refine aw_iload_n d_R_writeObject_69 rfl ?_
    refine aw_iald (x := nI (sz B k)) d_R_writeObject_70 gU.2.1.2.2.2.2.1 (vp_in_nI (by omega) (by omega)) (by rw [nI_clamp (by omega)]; exact (V.2.2 k (by omega) (by omega)).2.2.1) ?_
    have b_70 := sz_lt hB_ k
    refine aw_icmp_ge (tgt := 143) d_R_writeObject_71 (by decide) (fun c_71 => ?_) (fun c_71 => ?_)
    · rw [nI_leI (by omega) (by omega)] at c_71
      exact aw_vret d_R_writeObject_143 rfl ⟨rfl, ro, G, (by rw [show sz B k = i by omega]; exact gB), gT⟩
    · rw [nI_leI (by omega) (by omega)] at c_71
      by_cases ck : kd B k = 1
      · have hbt : bt B k i < 256 := hB_ _
        have es : (wF B Mk o k (i + 1)) = o1 (wF B Mk o k i) (bt B k i) := by rw [wF, if_pos ck]
        have em := wF_mono B Mk o k (show i + 1 ≤ sz B k by omega)
        rw [es] at em
        refine aw_aload_n d_R_writeObject_74 rfl ?_
        refine aw_get fl_R_43 d_R_writeObject_75 gU.1 rfl ?_
        refine aw_get fl_R_192 d_R_writeObject_78 gU.2.1.1 rfl ?_
        refine aw_aload_n d_R_writeObject_81 rfl ?_
        refine aw_get fl_R_43 d_R_writeObject_82 gU.1 rfl ?_
        refine aw_get fl_R_195 d_R_writeObject_85 gU.2.1.1 rfl ?_
        refine aw_iload_n d_R_writeObject_88 rfl ?_
        refine aw_iald (x := nI (ps B k)) d_R_writeObject_89 gU.2.1.2.2.2.2.2.1 (vp_in_nI (by omega) (by omega)) (by rw [nI_clamp (by omega)]; exact (V.2.2 k (by omega) (by omega)).2.2.2.1) ?_
        have b_89 := (V.2.2 k (by omega) (by omega)).2.2.2.2.1
        have b2_89 := sz_lt hB_ k
        refine aw_iload_n d_R_writeObject_90 rfl ?_
        refine aw_iadd (v := nI (ps B k + i)) d_R_writeObject_91 (nI_add _ _) ?_
        refine aw_iald (x := nI (bt B k i)) d_R_writeObject_92 gU.2.1.2.2.2.2.2.2 (vp_in_nI (by omega) (by omega)) (by rw [nI_clamp (by omega), (V.2.2 k (by omega) (by omega)).2.2.2.2.2 i (by omega)]; unfold prt; rw [if_pos ck]) ?_
        have b_92 := hB_ (oa B k + 7 + i)
        refine aw_istore_n (L' := [some (.ref r), some (.int (nI k)), some (.int (nI i)), some (.int (nI (bt B k i)))]) d_R_writeObject_93 (by decide) rfl rfl ?_
        refine aw_aload_n d_R_writeObject_94 rfl ?_
        refine aw_get fl_R_43 d_R_writeObject_95 gU.1 rfl ?_
        refine aw_get fl_R_103 d_R_writeObject_98 gU.2.1.1 rfl ?_
        refine aw_iload_n d_R_writeObject_101 rfl ?_
        refine aw_iald (x := nI (kd B k)) d_R_writeObject_102 gU.2.1.2.2.2.1 (vp_in_nI (by omega) (by omega)) (by rw [nI_clamp (by omega)]; exact (V.2.2 k (by omega) (by omega)).2.1) ?_
        have b_102 := L.k2 (k := k) (by omega) (by omega)
        refine aw_iconst (v := nI 1) d_R_writeObject_103 (by decide) ?_
        refine aw_icmp_ne (tgt := 118) d_R_writeObject_104 (by decide) (fun c_104 => absurd c_104 (by rw [ck]; exact fun z => z rfl)) (fun c_104 => ?_)
        try rw [w_eq (by omega) (by omega)] at c_104
        refine aw_aload_n d_R_writeObject_107 rfl ?_
        refine aw_get fl_R_10 d_R_writeObject_108 gU.1 rfl ?_
        refine aw_iload_n d_R_writeObject_111 rfl ?_
        have l_1 : (o1 ((wF B Mk o k i)) (bt B k i)).1 = ((wF B Mk o k i)).1 + 1 := rfl
        have lE_1 : (o1 ((wF B Mk o k i)) (bt B k i)).1 ≤ (wF B Mk o k (sz B k)).1 := em
        have m1_1 : gN cap ((wF B Mk o k i)).1 ≤ gN cap (o1 ((wF B Mk o k i)) (bt B k i)).1 := gN_mono h0 (Nat.le_add_right _ 1)
        have m2_1 : gN cap (o1 ((wF B Mk o k i)) (bt B k i)).1 ≤ gN cap ((wF B Mk o k (sz B k)).1) := gN_mono h0 lE_1
        have e_1 : gN (gN cap ((wF B Mk o k i)).1) (o1 ((wF B Mk o k i)) (bt B k i)).1 = gN cap (o1 ((wF B Mk o k i)) (bt B k i)).1 := gN_gN h0 (Nat.le_add_right _ 1)
        have ge_1 := gN_ge (a := ((wF B Mk o k i)).1) h0
        have go_1 := (gN_b (n := ((wF B Mk o k i)).1) h0).1
        refine aw_callV (mc2 := gN cap ((wF B Mk o k (sz B k)).1) - gN cap (o1 ((wF B Mk o k i)) (bt B k i)).1) (ms2 := 2 * (gN cap ((wF B Mk o k (sz B k)).1) - gN cap (o1 ((wF B Mk o k i)) (bt B k i)).1)) (As := [.int (nI (bt B k i))]) (rest := []) (c_B_add gB.1 gB.2.1 gB.2.2.1 gB.2.2.2 go_1 (by omega) (by omega) (by omega) (bt B k i) (by omega)) cv_R_177 d_R_writeObject_112 gB.1 rfl rfl rfl (Nat.le_of_ble_eq_true rfl) (Nat.le_trans (by decide) hfr) (Nat.le_trans (by decide) hlo) (by omega) (by omega) (fun v_112 k_112c q_112 => ?_)
        obtain ⟨z_1, ro_1, G_1, B_1, T_1⟩ := bS_add gB h0 (o' := o1 ((wF B Mk o k i)) (bt B k i)) (Nat.le_add_right _ 1) q_112
        refine aw_st (st' := []) (by rw [z_1]; rfl) ?_
        have U_1 := gU.fr T_1 gN_
        have N_1 := dj_fr T_1 gN_ gU.ex
        refine aw_goto (tgt := 137) d_R_writeObject_115 (by decide) ?_
        refine aw_iinc (v := nI (i + 1)) (L' := [some (.ref r), some (.int (nI k)), some (.int (nI (i + 1))), some (.int (nI (bt B k i)))]) d_R_writeObject_137 rfl (nI_add i 1) (by decide) rfl rfl ?_
        refine aw_goto (tgt := 61) d_R_writeObject_140 (by decide) ?_
        refine aw_loc (L' := [some (.ref r), some (.int (nI k)), some (.int (nI (i + 1))), none]) (by intro j v hv; match j, hv with | 0, hv => exact hv | 1, hv => exact hv | 2, hv => exact hv | 3, hv => cases hv | j + 4, hv => cases hv) ?_
        exact ih (i + 1) _ _ _ _ _ U_1 N_1 (by rw [es]; exact B_1) (gT.tr T_1) (by rw [es]; omega) (by rw [es]; omega) (by omega) (by omega)
      · have es : (wF B Mk o k (i + 1)) = o4 (wF B Mk o k i) (rn Mk (fd B k i)) := by rw [wF, if_neg ck]
        have em := wF_mono B Mk o k (show i + 1 ≤ sz B k by omega)
        rw [es] at em
        refine aw_aload_n d_R_writeObject_74 rfl ?_
        refine aw_get fl_R_43 d_R_writeObject_75 gU.1 rfl ?_
        refine aw_get fl_R_192 d_R_writeObject_78 gU.2.1.1 rfl ?_
        refine aw_aload_n d_R_writeObject_81 rfl ?_
        refine aw_get fl_R_43 d_R_writeObject_82 gU.1 rfl ?_
        refine aw_get fl_R_195 d_R_writeObject_85 gU.2.1.1 rfl ?_
        refine aw_iload_n d_R_writeObject_88 rfl ?_
        refine aw_iald (x := nI (ps B k)) d_R_writeObject_89 gU.2.1.2.2.2.2.2.1 (vp_in_nI (by omega) (by omega)) (by rw [nI_clamp (by omega)]; exact (V.2.2 k (by omega) (by omega)).2.2.2.1) ?_
        have b_89 := (V.2.2 k (by omega) (by omega)).2.2.2.2.1
        have b2_89 := sz_lt hB_ k
        refine aw_iload_n d_R_writeObject_90 rfl ?_
        refine aw_iadd (v := nI (ps B k + i)) d_R_writeObject_91 (nI_add _ _) ?_
        refine aw_iald (x := nI (fd B k i)) d_R_writeObject_92 gU.2.1.2.2.2.2.2.2 (vp_in_nI (by omega) (by omega)) (by rw [nI_clamp (by omega), (V.2.2 k (by omega) (by omega)).2.2.2.2.2 i (by omega)]; unfold prt; rw [if_neg ck]) ?_
        have b_92 := fd_lt hB_ k i
        refine aw_istore_n (L' := [some (.ref r), some (.int (nI k)), some (.int (nI i)), some (.int (nI (fd B k i)))]) d_R_writeObject_93 (by decide) rfl rfl ?_
        refine aw_aload_n d_R_writeObject_94 rfl ?_
        refine aw_get fl_R_43 d_R_writeObject_95 gU.1 rfl ?_
        refine aw_get fl_R_103 d_R_writeObject_98 gU.2.1.1 rfl ?_
        refine aw_iload_n d_R_writeObject_101 rfl ?_
        refine aw_iald (x := nI (kd B k)) d_R_writeObject_102 gU.2.1.2.2.2.1 (vp_in_nI (by omega) (by omega)) (by rw [nI_clamp (by omega)]; exact (V.2.2 k (by omega) (by omega)).2.1) ?_
        have b_102 := L.k2 (k := k) (by omega) (by omega)
        refine aw_iconst (v := nI 1) d_R_writeObject_103 (by decide) ?_
        refine aw_icmp_ne (tgt := 118) d_R_writeObject_104 (by decide) (fun c_104 => ?_) (fun c_104 => absurd c_104 (by rw [w_eq (by omega) (by omega)]; exact ck))
        try rw [w_eq (by omega) (by omega)] at c_104
        refine aw_aload_n d_R_writeObject_118 rfl ?_
        refine aw_get fl_R_10 d_R_writeObject_119 gU.1 rfl ?_
        refine aw_aload_n d_R_writeObject_122 rfl ?_
        refine aw_get fl_R_32 d_R_writeObject_123 gU.1 rfl ?_
        refine aw_aload_n d_R_writeObject_126 rfl ?_
        refine aw_get fl_R_43 d_R_writeObject_127 gU.1 rfl ?_
        refine aw_iload_n d_R_writeObject_130 rfl ?_
        refine aw_callVi (mc2 := mc) (ms2 := ms) (r := nI (rn Mk (fd B k i))) (As := [.ref im, .int (nI (fd B k i))]) (rest := [.ref b]) (c_W_renumbered gU.2.1 V L hB_ hcc hpc gU.2.2 hN hwl hf (fd B k i) (by omega) (L.f q1 q2 ck (by omega))) cv_R_133 d_R_writeObject_131 gU.2.2.1 rfl rfl rfl (Nat.le_of_ble_eq_true rfl) (Nat.le_trans (by decide) hfr) (Nat.le_trans (by decide) hlo) (by omega) (by omega) ?_
        have rb_131 := rn_lt2 (M := Mk) (u := fd B k i) (by omega) (L.f q1 q2 ck (by omega)) nL_im
        have l_2 : (o4 ((wF B Mk o k i)) (rn Mk (fd B k i))).1 = ((wF B Mk o k i)).1 + 4 := rfl
        have lE_2 : (o4 ((wF B Mk o k i)) (rn Mk (fd B k i))).1 ≤ (wF B Mk o k (sz B k)).1 := em
        have m1_2 : gN cap ((wF B Mk o k i)).1 ≤ gN cap (o4 ((wF B Mk o k i)) (rn Mk (fd B k i))).1 := gN_mono h0 (Nat.le_add_right _ 4)
        have m2_2 : gN cap (o4 ((wF B Mk o k i)) (rn Mk (fd B k i))).1 ≤ gN cap ((wF B Mk o k (sz B k)).1) := gN_mono h0 lE_2
        have e_2 : gN (gN cap ((wF B Mk o k i)).1) (o4 ((wF B Mk o k i)) (rn Mk (fd B k i))).1 = gN cap (o4 ((wF B Mk o k i)) (rn Mk (fd B k i))).1 := gN_gN h0 (Nat.le_add_right _ 4)
        have ge_2 := gN_ge (a := ((wF B Mk o k i)).1) h0
        have go_2 := (gN_b (n := ((wF B Mk o k i)).1) h0).1
        refine aw_callV (mc2 := gN cap ((wF B Mk o k (sz B k)).1) - gN cap (o4 ((wF B Mk o k i)) (rn Mk (fd B k i))).1) (ms2 := 2 * (gN cap ((wF B Mk o k (sz B k)).1) - gN cap (o4 ((wF B Mk o k i)) (rn Mk (fd B k i))).1)) (As := [.int (nI (rn Mk (fd B k i)))]) (rest := []) (c_B_addWord gB.1 gB.2.1 gB.2.2.1 gB.2.2.2 go_2 (by omega) (by omega) (by omega) (rn Mk (fd B k i)) (by omega)) cv_R_61 d_R_writeObject_134 gB.1 rfl rfl rfl (Nat.le_of_ble_eq_true rfl) (Nat.le_trans (by decide) hfr) (Nat.le_trans (by decide) hlo) (by omega) (by omega) (fun v_134 k_134c q_134 => ?_)
        obtain ⟨z_2, ro_2, G_2, B_2, T_2⟩ := bS_add gB h0 (o' := o4 ((wF B Mk o k i)) (rn Mk (fd B k i))) (Nat.le_add_right _ 4) q_134
        refine aw_st (st' := []) (by rw [z_2]; rfl) ?_
        have U_2 := gU.fr T_2 gN_
        have N_2 := dj_fr T_2 gN_ gU.ex
        refine aw_iinc (v := nI (i + 1)) (L' := [some (.ref r), some (.int (nI k)), some (.int (nI (i + 1))), some (.int (nI (fd B k i)))]) d_R_writeObject_137 rfl (nI_add i 1) (by decide) rfl rfl ?_
        refine aw_goto (tgt := 61) d_R_writeObject_140 (by decide) ?_
        refine aw_loc (L' := [some (.ref r), some (.int (nI k)), some (.int (nI (i + 1))), none]) (by intro j v hv; match j, hv with | 0, hv => exact hv | 1, hv => exact hv | 2, hv => exact hv | 3, hv => cases hv | j + 4, hv => cases hv) ?_
        exact ih (i + 1) _ _ _ _ _ U_2 N_2 (by rw [es]; exact B_2) (gT.tr T_2) (by rw [es]; omega) (by rw [es]; omega) (by omega) (by omega)

set_option maxHeartbeats 4000000 in
theorem c_R_writeObject {tb : Nat → Nat} {h : AH} {r b x0 x1 x2 w p kp im a0 a1 a2 a3 a4 a5 cc pc us nu qu wl mn : Nat} {B : Nat → Nat} {f0 f1 f2 f3 f4 f5 fn fq : Nat → Int32} (V : IV B f0 f1 f2 f3 f4 f5 cc pc) (L : LX B) (hB_ : ∀ i, B i < 256) (hcc : cc ≤ 1048576) (hpc : pc ≤ 1048576) (hN : nn B < wl) (hwl : wl ≤ 1048576) {Mk : Nat → Nat} (hf : ∀ j, 1 ≤ j → j ≤ nn B → fn j = nI (nuM Mk j)) {cap : Nat} (h0 : 0 < cap) (U : uS h r b x0 x1 x2 w p kp im a0 a1 a2 a3 a4 a5 cc pc us B f0 f1 f2 f3 f4 f5 nu qu wl mn fn fq) {ro0 : Nat} {o : OS} {G : Nat → Nat} (N : ∀ x ∈ [b, ro0], x ∉ [r, im, a0, a1, a2, a3, a4, a5, w, nu, qu]) (Mb : bS h b ro0 cap o G) (k : Nat) (q1 : 1 ≤ k) (q2 : k ≤ nn B) (hE : (wF B Mk o k (sz B k)).1 ≤ 65536) (hg : gN cap (wF B Mk o k (sz B k)).1 ≤ 524288) : AM tb y_R_writeObject b_R_writeObject 4 none 5 111 [.ref r, .int (nI k)] h (gN cap (wF B Mk o k (sz B k)).1 - gN cap o.1) (2 * (gN cap (wF B Mk o k (sz B k)).1 - gN cap o.1)) (fun v h' => v = none ∧ ∃ ro' G', bS h' b ro' cap (wF B Mk o k (sz B k)) G' ∧ frm [b, ro0] [b, ro'] h h') := by
  have nV_im := V.1
  have nL_im := L.1
  have hz := sz_lt hB_ k
  have hk2 := L.k2 q1 q2
  have em := wF_mono B Mk o k (Nat.zero_le (sz B k))
  rw [wF] at em
  have eq := o2_1 (o1 (o4 o (rn Mk (cl B k))) (kd B k)) (sz B k)
  have eq1 := o1_1 (o4 o (rn Mk (cl B k))) (kd B k)
  refine am_of (ini := false) [some (.ref r), some (.int (nI k)), none, none] (by decide) (fun z => by cases z) (Nat.le_of_ble_eq_true rfl) rfl ?_
  refine aw_aload_n d_R_writeObject_0 rfl ?_
  refine aw_get fl_R_10 d_R_writeObject_1 U.1 rfl ?_
  refine aw_aload_n d_R_writeObject_4 rfl ?_
  refine aw_get fl_R_32 d_R_writeObject_5 U.1 rfl ?_
  refine aw_aload_n d_R_writeObject_8 rfl ?_
  refine aw_get fl_R_43 d_R_writeObject_9 U.1 rfl ?_
  refine aw_aload_n d_R_writeObject_12 rfl ?_
  refine aw_get fl_R_43 d_R_writeObject_13 U.1 rfl ?_
  refine aw_get fl_R_189 d_R_writeObject_16 U.2.1.1 rfl ?_
  refine aw_iload_n d_R_writeObject_19 rfl ?_
  refine aw_iald (x := nI (cl B k)) d_R_writeObject_20 U.2.1.2.2.1 (vp_in_nI (by omega) (by omega)) (by rw [nI_clamp (by omega)]; exact (V.2.2 k (by omega) (by omega)).1) ?_
  have b_20 := cl_lt hB_ k
  refine aw_callVi (mc2 := gN cap (wF B Mk o k (sz B k)).1 - gN cap o.1) (ms2 := 2 * (gN cap (wF B Mk o k (sz B k)).1 - gN cap o.1)) (r := nI (rn Mk (cl B k))) (As := [.ref im, .int (nI (cl B k))]) (rest := [.ref b]) (c_W_renumbered U.2.1 V L hB_ hcc hpc U.2.2 hN hwl hf (cl B k) (by omega) ((L.2.2 _ q1 q2).1)) cv_R_133 d_R_writeObject_21 U.2.2.1 rfl rfl rfl (Nat.le_of_ble_eq_true rfl) (by decide) (by decide) (by omega) (by omega) ?_
  have rb_21 := rn_lt2 (M := Mk) (u := cl B k) (by omega) ((L.2.2 _ q1 q2).1) nL_im
  have l_1 : (o4 (o) (rn Mk (cl B k))).1 = (o).1 + 4 := rfl
  have lE_1 : (o4 (o) (rn Mk (cl B k))).1 ≤ (wF B Mk o k (sz B k)).1 := by omega
  have m1_1 : gN cap (o).1 ≤ gN cap (o4 (o) (rn Mk (cl B k))).1 := gN_mono h0 (Nat.le_add_right _ 4)
  have m2_1 : gN cap (o4 (o) (rn Mk (cl B k))).1 ≤ gN cap ((wF B Mk o k (sz B k)).1) := gN_mono h0 lE_1
  have e_1 : gN (gN cap (o).1) (o4 (o) (rn Mk (cl B k))).1 = gN cap (o4 (o) (rn Mk (cl B k))).1 := gN_gN h0 (Nat.le_add_right _ 4)
  have ge_1 := gN_ge (a := (o).1) h0
  have go_1 := (gN_b (n := (o).1) h0).1
  refine aw_callV (mc2 := gN cap ((wF B Mk o k (sz B k)).1) - gN cap (o4 (o) (rn Mk (cl B k))).1) (ms2 := 2 * (gN cap ((wF B Mk o k (sz B k)).1) - gN cap (o4 (o) (rn Mk (cl B k))).1)) (As := [.int (nI (rn Mk (cl B k)))]) (rest := []) (c_B_addWord Mb.1 Mb.2.1 Mb.2.2.1 Mb.2.2.2 go_1 (by omega) (by omega) (by omega) (rn Mk (cl B k)) (by omega)) cv_R_61 d_R_writeObject_24 Mb.1 rfl rfl rfl (Nat.le_of_ble_eq_true rfl) (by decide) (by decide) (by omega) (by omega) (fun v_24 k_24c q_24 => ?_)
  obtain ⟨z_1, ro_1, G_1, B_1, T_1⟩ := bS_add Mb h0 (o' := o4 (o) (rn Mk (cl B k))) (Nat.le_add_right _ 4) q_24
  refine aw_st (st' := []) (by rw [z_1]; rfl) ?_
  have U_1 := U.fr T_1 N
  have N_1 := dj_fr T_1 N U.ex
  refine aw_aload_n d_R_writeObject_27 rfl ?_
  refine aw_get fl_R_10 d_R_writeObject_28 U_1.1 rfl ?_
  refine aw_aload_n d_R_writeObject_31 rfl ?_
  refine aw_get fl_R_43 d_R_writeObject_32 U_1.1 rfl ?_
  refine aw_get fl_R_103 d_R_writeObject_35 U_1.2.1.1 rfl ?_
  refine aw_iload_n d_R_writeObject_38 rfl ?_
  refine aw_iald (x := nI (kd B k)) d_R_writeObject_39 U_1.2.1.2.2.2.1 (vp_in_nI (by omega) (by omega)) (by rw [nI_clamp (by omega)]; exact (V.2.2 k (by omega) (by omega)).2.1) ?_
  have b_39 := L.k2 (k := k) (by omega) (by omega)
  have l_2 : (o1 (o4 (o) (rn Mk (cl B k))) (kd B k)).1 = (o4 (o) (rn Mk (cl B k))).1 + 1 := rfl
  have lE_2 : (o1 (o4 (o) (rn Mk (cl B k))) (kd B k)).1 ≤ (wF B Mk o k (sz B k)).1 := by omega
  have m1_2 : gN cap (o4 (o) (rn Mk (cl B k))).1 ≤ gN cap (o1 (o4 (o) (rn Mk (cl B k))) (kd B k)).1 := gN_mono h0 (Nat.le_add_right _ 1)
  have m2_2 : gN cap (o1 (o4 (o) (rn Mk (cl B k))) (kd B k)).1 ≤ gN cap ((wF B Mk o k (sz B k)).1) := gN_mono h0 lE_2
  have e_2 : gN (gN cap (o4 (o) (rn Mk (cl B k))).1) (o1 (o4 (o) (rn Mk (cl B k))) (kd B k)).1 = gN cap (o1 (o4 (o) (rn Mk (cl B k))) (kd B k)).1 := gN_gN h0 (Nat.le_add_right _ 1)
  have ge_2 := gN_ge (a := (o4 (o) (rn Mk (cl B k))).1) h0
  have go_2 := (gN_b (n := (o4 (o) (rn Mk (cl B k))).1) h0).1
  refine aw_callV (mc2 := gN cap ((wF B Mk o k (sz B k)).1) - gN cap (o1 (o4 (o) (rn Mk (cl B k))) (kd B k)).1) (ms2 := 2 * (gN cap ((wF B Mk o k (sz B k)).1) - gN cap (o1 (o4 (o) (rn Mk (cl B k))) (kd B k)).1)) (As := [.int (nI (kd B k))]) (rest := []) (c_B_add B_1.1 B_1.2.1 B_1.2.2.1 B_1.2.2.2 go_2 (by omega) (by omega) (by omega) (kd B k) (by omega)) cv_R_177 d_R_writeObject_40 B_1.1 rfl rfl rfl (Nat.le_of_ble_eq_true rfl) (by decide) (by decide) (by omega) (by omega) (fun v_40 k_40c q_40 => ?_)
  obtain ⟨z_2, ro_2, G_2, B_2, T_2⟩ := bS_add B_1 h0 (o' := o1 (o4 (o) (rn Mk (cl B k))) (kd B k)) (Nat.le_add_right _ 1) q_40
  refine aw_st (st' := []) (by rw [z_2]; rfl) ?_
  have U_2 := U_1.fr T_2 N_1
  have N_2 := dj_fr T_2 N_1 U_1.ex
  refine aw_aload_n d_R_writeObject_43 rfl ?_
  refine aw_get fl_R_10 d_R_writeObject_44 U_2.1 rfl ?_
  refine aw_aload_n d_R_writeObject_47 rfl ?_
  refine aw_get fl_R_43 d_R_writeObject_48 U_2.1 rfl ?_
  refine aw_get fl_R_110 d_R_writeObject_51 U_2.2.1.1 rfl ?_
  refine aw_iload_n d_R_writeObject_54 rfl ?_
  refine aw_iald (x := nI (sz B k)) d_R_writeObject_55 U_2.2.1.2.2.2.2.1 (vp_in_nI (by omega) (by omega)) (by rw [nI_clamp (by omega)]; exact (V.2.2 k (by omega) (by omega)).2.2.1) ?_
  have b_55 := sz_lt hB_ k
  have l_3 : (o2 (o1 (o4 (o) (rn Mk (cl B k))) (kd B k)) (sz B k)).1 = (o1 (o4 (o) (rn Mk (cl B k))) (kd B k)).1 + 2 := rfl
  have lE_3 : (o2 (o1 (o4 (o) (rn Mk (cl B k))) (kd B k)) (sz B k)).1 ≤ (wF B Mk o k (sz B k)).1 := by omega
  have m1_3 : gN cap (o1 (o4 (o) (rn Mk (cl B k))) (kd B k)).1 ≤ gN cap (o2 (o1 (o4 (o) (rn Mk (cl B k))) (kd B k)) (sz B k)).1 := gN_mono h0 (Nat.le_add_right _ 2)
  have m2_3 : gN cap (o2 (o1 (o4 (o) (rn Mk (cl B k))) (kd B k)) (sz B k)).1 ≤ gN cap ((wF B Mk o k (sz B k)).1) := gN_mono h0 lE_3
  have e_3 : gN (gN cap (o1 (o4 (o) (rn Mk (cl B k))) (kd B k)).1) (o2 (o1 (o4 (o) (rn Mk (cl B k))) (kd B k)) (sz B k)).1 = gN cap (o2 (o1 (o4 (o) (rn Mk (cl B k))) (kd B k)) (sz B k)).1 := gN_gN h0 (Nat.le_add_right _ 2)
  have ge_3 := gN_ge (a := (o1 (o4 (o) (rn Mk (cl B k))) (kd B k)).1) h0
  have go_3 := (gN_b (n := (o1 (o4 (o) (rn Mk (cl B k))) (kd B k)).1) h0).1
  refine aw_callV (mc2 := gN cap ((wF B Mk o k (sz B k)).1) - gN cap (o2 (o1 (o4 (o) (rn Mk (cl B k))) (kd B k)) (sz B k)).1) (ms2 := 2 * (gN cap ((wF B Mk o k (sz B k)).1) - gN cap (o2 (o1 (o4 (o) (rn Mk (cl B k))) (kd B k)) (sz B k)).1)) (As := [.int (nI (sz B k))]) (rest := []) (c_B_addPair B_2.1 B_2.2.1 B_2.2.2.1 B_2.2.2.2 go_3 (by omega) (by omega) (by omega) (sz B k) (by omega)) cv_R_186 d_R_writeObject_56 B_2.1 rfl rfl rfl (Nat.le_of_ble_eq_true rfl) (by decide) (by decide) (by omega) (by omega) (fun v_56 k_56c q_56 => ?_)
  obtain ⟨z_3, ro_3, G_3, B_3, T_3⟩ := bS_add B_2 h0 (o' := o2 (o1 (o4 (o) (rn Mk (cl B k))) (kd B k)) (sz B k)) (Nat.le_add_right _ 2) q_56
  refine aw_st (st' := []) (by rw [z_3]; rfl) ?_
  have U_3 := U_2.fr T_3 N_2
  have N_3 := dj_fr T_3 N_2 U_2.ex
  refine aw_iconst (v := nI 0) d_R_writeObject_59 (by decide) ?_
  refine aw_istore_n (L' := [some (.ref r), some (.int (nI k)), some (.int (nI 0)), none]) d_R_writeObject_60 (by decide) rfl rfl ?_
  refine aw_loc (L' := [some (.ref r), some (.int (nI k)), some (.int (nI 0)), none]) (by intro j v hv; match j, hv with | 0, hv => exact hv | 1, hv => exact hv | 2, hv => exact hv | 3, hv => cases hv | j + 4, hv => cases hv) ?_
  exact lp_R_writeObject (by decide) (by decide) V L hB_ hcc hpc hN hwl hf h0 k q1 q2 hE hg (sz B k + 1) 0 _ _ _ _ _ U_3 N_3 B_3 ((((frm.refl _).tr T_1).tr T_2).tr T_3) (Nat.le_refl _) (Nat.le_refl _) (Nat.zero_le _) (by omega)

set_option maxHeartbeats 4000000 in
theorem lp_R_writeO {tb : Nat → Nat} {h : AH} {fr lo : Nat}  (hfr : 6 ≤ fr) (hlo : 134 ≤ lo) {r b x0 x1 x2 w p kp im a0 a1 a2 a3 a4 a5 cc pc us nu qu wl mn : Nat} {B : Nat → Nat} {f0 f1 f2 f3 f4 f5 fn fq : Nat → Int32} (V : IV B f0 f1 f2 f3 f4 f5 cc pc) (L : LX B) (hB_ : ∀ i, B i < 256) (hcc : cc ≤ 1048576) (hpc : pc ≤ 1048576) (hN : nn B < wl) (hwl : wl ≤ 1048576) {Mk : Nat → Nat} (hf : ∀ j, 1 ≤ j → j ≤ nn B → fn j = nI (nuM Mk j)) {cap : Nat} (h0 : 0 < cap) {ro0 : Nat} (lv : Option Value) (hE : (wO B Mk (nn B)).1 ≤ 65536) (hg : gN cap (wO B Mk (nn B)).1 ≤ 524288) : ∀ (d : Nat) (k : Nat) (g : AH) (ro : Nat) (G : Nat → Nat) (mc ms : Nat), uS g r b x0 x1 x2 w p kp im a0 a1 a2 a3 a4 a5 cc pc us B f0 f1 f2 f3 f4 f5 nu qu wl mn fn fq → (∀ x ∈ [b, ro], x ∉ [r, im, a0, a1, a2, a3, a4, a5, w, nu, qu]) → bS g b ro cap (wO B Mk k) G → frm [b, ro0] [b, ro] h g → gN cap (wO B Mk (nn B)).1 - gN cap (wO B Mk k).1 ≤ mc → 2 * (gN cap (wO B Mk (nn B)).1 - gN cap (wO B Mk k).1) ≤ ms → k ≤ nn B → nn B < k + d → AW tb "ImageReader" b_R_write 3 (some .int) false none fr lo (fun v h' => v = some (.int (nI (wO B Mk (nn B)).1)) ∧ ∃ ro' G', bS h' b ro' cap (wO B Mk (nn B)) G' ∧ frm [b, ro0] [b, ro'] h h') 91 [some (.ref r), none, some (.int (nI (k + 1)))] [] g mc ms := by
  intro d
  induction d with
  | zero => intro k g ro G mc ms gU gN_ gB gT hmc hms hk hd; omega
  | succ d ih =>
    intro k g ro G mc ms gU gN_ gB gT hmc hms hk hd
    have nV_im := V.1
    have nL_im := L.1
    have hln : (wO B Mk k).1 ≤ (wO B Mk (nn B)).1 := wO_mono B Mk hk
    refine aw_iload_n d_R_write_91 rfl ?_
    refine aw_aload_n d_R_write_92 rfl ?_
    refine aw_get fl_R_43 d_R_write_93 gU.1 rfl ?_
    refine aw_get fl_R_86 d_R_write_96 gU.2.1.1 rfl ?_
    refine aw_icmp_gt (tgt := 125) d_R_write_99 (by decide) (fun c_99 => ?_) (fun c_99 => ?_)
    · rw [nI_ltI (by omega) (by omega)] at c_99
      refine aw_aload_n d_R_write_125 rfl ?_
      refine aw_get fl_R_10 d_R_write_126 gU.1 rfl ?_
      refine aw_get fl_R_49 d_R_write_129 gB.1 rfl ?_
      exact aw_iret d_R_write_132 rfl rfl ⟨by rw [show nn B = k by omega], ro, G, (by rw [show nn B = k by omega]; exact gB), gT⟩
    · rw [nI_ltI (by omega) (by omega)] at c_99
      refine aw_aload_n d_R_write_102 rfl ?_
      refine aw_get fl_R_32 d_R_write_103 gU.1 rfl ?_
      refine aw_get fl_R_137 d_R_write_106 gU.2.2.1 rfl ?_
      refine aw_iload_n d_R_write_109 rfl ?_
      refine aw_iald (x := nI (nuM Mk (k + 1))) d_R_write_110 gU.2.2.2.1 (vp_in_nI (by omega) (by omega)) (by rw [nI_clamp (by omega)]; exact hf _ (by omega) (by omega)) ?_
      have nl := nuM_le Mk (k + 1)
      refine aw_if_eq (tgt := 119) d_R_write_111 (by decide) (fun c_111 => ?_) (fun c_111 => ?_)
      · rw [w_eq0 (by omega)] at c_111
        refine aw_iinc (v := nI (k + 1 + 1)) (L' := [some (.ref r), none, some (.int (nI (k + 1 + 1)))]) d_R_write_119 rfl (nI_add (k + 1) 1) (by decide) rfl rfl ?_
        refine aw_goto (tgt := 91) d_R_write_122 (by decide) ?_
        have es : wO B Mk (k + 1) = wO B Mk k := by rw [wO, if_pos ((nuM_0 (by omega)).mp c_111)]
        exact ih (k + 1) _ _ _ _ _ gU gN_ (by rw [es]; exact gB) gT (by rw [es]; exact hmc) (by rw [es]; exact hms) (by omega) (by omega)
      · rw [w_eq0 (by omega)] at c_111
        refine aw_aload_n d_R_write_114 rfl ?_
        refine aw_iload_n d_R_write_115 rfl ?_
        have es : wO B Mk (k + 1) = wF B Mk (wO B Mk k) (k + 1) (sz B (k + 1)) := by rw [wO, if_neg (fun y => c_111 ((nuM_0 (by omega)).mpr y))]
        have eg : gN cap (wO B Mk (k + 1)).1 = gN cap (wF B Mk (wO B Mk k) (k + 1) (sz B (k + 1))).1 := by rw [es]
        have em : (wO B Mk (k + 1)).1 ≤ (wO B Mk (nn B)).1 := wO_mono B Mk (by omega)
        have em0 := wO_mono1 B Mk k
        have mg := gN_mono h0 em
        have mg0 := gN_mono h0 em0
        rw [es] at em em0 mg mg0
        refine aw_callV (mc2 := gN cap (wO B Mk (nn B)).1 - gN cap (wO B Mk (k + 1)).1) (ms2 := 2 * (gN cap (wO B Mk (nn B)).1 - gN cap (wO B Mk (k + 1)).1)) (As := [.int (nI (k + 1))]) (rest := []) (c_R_writeObject V L hB_ hcc hpc hN hwl hf h0 gU gN_ gB (k + 1) (by omega) (by omega) (by omega) (by omega)) cv_R_140 d_R_write_116 gU.1 rfl rfl rfl (Nat.le_of_ble_eq_true rfl) (Nat.le_trans (by decide) hfr) (Nat.le_trans (by decide) hlo) (by omega) (by omega) (fun v_116 k_116c q_116 => ?_)
        obtain ⟨z1, ro_1, G_1, B_1, T_1⟩ := q_116
        refine aw_st (st' := []) (by rw [z1]; rfl) ?_
        have U_1 := gU.fr T_1 gN_
        have N_1 := dj_fr T_1 gN_ gU.ex
        refine aw_iinc (v := nI (k + 1 + 1)) (L' := [some (.ref r), none, some (.int (nI (k + 1 + 1)))]) d_R_write_119 rfl (nI_add (k + 1) 1) (by decide) rfl rfl ?_
        refine aw_goto (tgt := 91) d_R_write_122 (by decide) ?_
        exact ih (k + 1) _ _ _ _ _ U_1 N_1 (by rw [es]; exact B_1) (gT.tr T_1) (Nat.le_refl _) (Nat.le_refl _) (by omega) (by omega)

set_option maxHeartbeats 4000000 in
theorem lp_R_writeS {tb : Nat → Nat} {h : AH} {fr lo : Nat}  (hfr : 6 ≤ fr) (hlo : 134 ≤ lo) {r b x0 x1 x2 w p kp im a0 a1 a2 a3 a4 a5 cc pc us nu qu wl mn : Nat} {B : Nat → Nat} {f0 f1 f2 f3 f4 f5 fn fq : Nat → Int32} (V : IV B f0 f1 f2 f3 f4 f5 cc pc) (L : LX B) (hB_ : ∀ i, B i < 256) (hcc : cc ≤ 1048576) (hpc : pc ≤ 1048576) (hN : nn B < wl) (hwl : wl ≤ 1048576) {Mk : Nat → Nat} (hf : ∀ j, 1 ≤ j → j ≤ nn B → fn j = nI (nuM Mk j)) {cap : Nat} (h0 : 0 < cap) {ro0 : Nat} (hE : (wO B Mk (nn B)).1 ≤ 65536) (hg : gN cap (wO B Mk (nn B)).1 ≤ 524288) : ∀ (d : Nat) (k : Nat) (g : AH) (ro : Nat) (G : Nat → Nat) (mc ms : Nat), uS g r b x0 x1 x2 w p kp im a0 a1 a2 a3 a4 a5 cc pc us B f0 f1 f2 f3 f4 f5 nu qu wl mn fn fq → (∀ x ∈ [b, ro], x ∉ [r, im, a0, a1, a2, a3, a4, a5, w, nu, qu]) → bS g b ro cap (wS B Mk k) G → frm [b, ro0] [b, ro] h g → gN cap (wO B Mk (nn B)).1 - gN cap (wS B Mk k).1 ≤ mc → 2 * (gN cap (wO B Mk (nn B)).1 - gN cap (wS B Mk k).1) ≤ ms → k ≤ 50 → 50 < k + d → AW tb "ImageReader" b_R_write 3 (some .int) false none fr lo (fun v h' => v = some (.int (nI (wO B Mk (nn B)).1)) ∧ ∃ ro' G', bS h' b ro' cap (wO B Mk (nn B)) G' ∧ frm [b, ro0] [b, ro'] h h') 50 [some (.ref r), none, some (.int (nI k))] [] g mc ms := by
  intro d
  induction d with
  | zero => intro k g ro G mc ms gU gN_ gB gT hmc hms hk hd; omega
  | succ d ih =>
    intro k g ro G mc ms gU gN_ gB gT hmc hms hk hd
    have nV_im := V.1
    have nL_im := L.1
    have hl0 : (wO B Mk 0).1 ≤ (wO B Mk (nn B)).1 := wO_mono B Mk (Nat.zero_le _)
    have hl1 : (wO B Mk 0).1 = 208 := by rw [wO, wS_1]
    have hl2 := wS_1 B Mk k
    refine aw_iload_n d_R_write_50 rfl ?_
    refine aw_bipush (v := nI 50) d_R_write_51 (by decide) ?_
    refine aw_icmp_ge (tgt := 89) d_R_write_53 (by decide) (fun c_53 => ?_) (fun c_53 => ?_)
    · rw [nI_leI (by omega) (by omega)] at c_53
      refine aw_iconst (v := nI 1) d_R_write_89 (by decide) ?_
      refine aw_istore_n (L' := [some (.ref r), none, some (.int (nI 1))]) d_R_write_90 (by decide) rfl rfl ?_
      have e50 : k = 50 := by omega
      subst e50
      exact lp_R_writeO hfr hlo V L hB_ hcc hpc hN hwl hf h0 none hE hg (nn B + 1) 0 g ro G mc ms gU gN_ gB gT hmc hms (Nat.zero_le _) (by omega)
    · rw [nI_leI (by omega) (by omega)] at c_53
      refine aw_aload_n d_R_write_56 rfl ?_
      refine aw_get fl_R_10 d_R_write_57 gU.1 rfl ?_
      refine aw_aload_n d_R_write_60 rfl ?_
      refine aw_get fl_R_32 d_R_write_61 gU.1 rfl ?_
      refine aw_aload_n d_R_write_64 rfl ?_
      refine aw_get fl_R_43 d_R_write_65 gU.1 rfl ?_
      refine aw_aload_n d_R_write_68 rfl ?_
      refine aw_get fl_R_43 d_R_write_69 gU.1 rfl ?_
      refine aw_get fl_R_130 d_R_write_72 gU.2.1.1 rfl ?_
      refine aw_iload_n d_R_write_75 rfl ?_
      refine aw_iald (x := nI (sp B k)) d_R_write_76 gU.2.1.2.1 (vp_in_nI (by omega) (by omega)) (by rw [nI_clamp (by omega)]; exact V.2.1 k (by omega)) ?_
      have b_76 := sp_lt hB_ k
      refine aw_callVi (mc2 := mc) (ms2 := ms) (r := nI (rn Mk (sp B k))) (As := [.ref im, .int (nI (sp B k))]) (rest := [.ref b]) (c_W_renumbered gU.2.1 V L hB_ hcc hpc gU.2.2 hN hwl hf (sp B k) (by omega) (L.s (by omega))) cv_R_133 d_R_write_77 gU.2.2.1 rfl rfl rfl (Nat.le_of_ble_eq_true rfl) (Nat.le_trans (by decide) hfr) (Nat.le_trans (by decide) hlo) (by omega) (by omega) ?_
      have rb_77 := rn_lt2 (M := Mk) (u := sp B k) (by omega) (L.s (by omega)) nL_im
      have l_1 : (o4 ((wS B Mk k)) (rn Mk (sp B k))).1 = ((wS B Mk k)).1 + 4 := rfl
      have lE_1 : (o4 ((wS B Mk k)) (rn Mk (sp B k))).1 ≤ (wO B Mk (nn B)).1 := by omega
      have m1_1 : gN cap ((wS B Mk k)).1 ≤ gN cap (o4 ((wS B Mk k)) (rn Mk (sp B k))).1 := gN_mono h0 (Nat.le_add_right _ 4)
      have m2_1 : gN cap (o4 ((wS B Mk k)) (rn Mk (sp B k))).1 ≤ gN cap ((wO B Mk (nn B)).1) := gN_mono h0 lE_1
      have e_1 : gN (gN cap ((wS B Mk k)).1) (o4 ((wS B Mk k)) (rn Mk (sp B k))).1 = gN cap (o4 ((wS B Mk k)) (rn Mk (sp B k))).1 := gN_gN h0 (Nat.le_add_right _ 4)
      have ge_1 := gN_ge (a := ((wS B Mk k)).1) h0
      have go_1 := (gN_b (n := ((wS B Mk k)).1) h0).1
      refine aw_callV (mc2 := gN cap ((wO B Mk (nn B)).1) - gN cap (o4 ((wS B Mk k)) (rn Mk (sp B k))).1) (ms2 := 2 * (gN cap ((wO B Mk (nn B)).1) - gN cap (o4 ((wS B Mk k)) (rn Mk (sp B k))).1)) (As := [.int (nI (rn Mk (sp B k)))]) (rest := []) (c_B_addWord gB.1 gB.2.1 gB.2.2.1 gB.2.2.2 go_1 (by omega) (by omega) (by omega) (rn Mk (sp B k)) (by omega)) cv_R_61 d_R_write_80 gB.1 rfl rfl rfl (Nat.le_of_ble_eq_true rfl) (Nat.le_trans (by decide) hfr) (Nat.le_trans (by decide) hlo) (by omega) (by omega) (fun v_80 k_80c q_80 => ?_)
      obtain ⟨z_1, ro_1, G_1, B_1, T_1⟩ := bS_add gB h0 (o' := o4 ((wS B Mk k)) (rn Mk (sp B k))) (Nat.le_add_right _ 4) q_80
      refine aw_st (st' := []) (by rw [z_1]; rfl) ?_
      have U_1 := gU.fr T_1 gN_
      have N_1 := dj_fr T_1 gN_ gU.ex
      refine aw_iinc (v := nI (k + 1)) (L' := [some (.ref r), none, some (.int (nI (k + 1)))]) d_R_write_83 rfl (nI_add k 1) (by decide) rfl rfl ?_
      refine aw_goto (tgt := 50) d_R_write_86 (by decide) ?_
      exact ih (k + 1) _ _ _ _ _ U_1 N_1 B_1 (gT.tr T_1) (by rw [show wS B Mk (k + 1) = o4 (wS B Mk k) (rn Mk (sp B k)) from rfl]; omega) (by rw [show wS B Mk (k + 1) = o4 (wS B Mk k) (rn Mk (sp B k)) from rfl]; omega) (by omega) (by omega)

set_option maxHeartbeats 4000000 in
theorem c_R_write {tb : Nat → Nat} {h : AH} {r b x0 x1 x2 w p kp im a0 a1 a2 a3 a4 a5 cc pc us nu0 qu0 wl mn0 : Nat} {B : Nat → Nat} {f0 f1 f2 f3 f4 f5 fn0 fq0 : Nat → Int32} (V : IV B f0 f1 f2 f3 f4 f5 cc pc) (L : LX B) (hB_ : ∀ i, B i < 256) (hcc : cc ≤ 524288) (hpc : pc ≤ 1048576) (U : uS h r b x0 x1 x2 w p kp im a0 a1 a2 a3 a4 a5 cc pc us B f0 f1 f2 f3 f4 f5 nu0 qu0 wl mn0 fn0 fq0) (hnq0 : nu0 ≠ qu0) (h64 : P64 wl) (hc64 : P64 cc) (hwl0 : wl ≤ 524288) (NW0 : ∀ x ∈ [w, nu0, qu0], x ∉ [im, a0, a1, a2, a3, a4, a5]) {ro cap c : Nat} {G : Nat → Nat} (hb : h b = some (.inr (1, [.ref ro, .int (nI c)]))) (hr : h ro = some (.inl (1, cap, .inl (bsf G)))) (hG : ∀ i, G i < 256) (h0 : 0 < cap) (N : ∀ x ∈ [b, ro], x ∉ [r, im, a0, a1, a2, a3, a4, a5, w, nu0, qu0]) (e0 : nn B ≠ 0 → B 0 = 77 ∧ B 1 = 77 ∧ B 2 = 1 ∧ B 3 = 0) (hE : (wout B).1 ≤ 65536) (hg : gN cap (wout B).1 ≤ 524288) : AM tb y_R_write b_R_write 3 (some .int) 6 134 [.ref r] h ((max wl cc - wl) + (gN cap (wout B).1 - cap)) (4 * (max wl cc - wl) + 2 * (gN cap (wout B).1 - cap)) (fun v h' => (nn B = 0 → v = some (.int (-1)) ∧ h' = h) ∧ (nn B ≠ 0 → v = some (.int (nI (wout B).1)) ∧ ∃ h1 nu qu mn fn fq ro' G', wkS h1 w nu qu (max wl cc) mn fn fq ∧ nu ≠ qu ∧ bS h' b ro' cap (wout B) G' ∧ frm [w, nu0, qu0] [w, nu, qu] h h1 ∧ frm [b, ro] [b, ro'] h1 h')) := by
  have nV_im := V.1
  have nL_im := L.1
  have gc := gN_ge (a := (wout B).1) h0
  refine am_of (ini := false) [some (.ref r), none, none] (by decide) (fun z => by cases z) (Nat.le_of_ble_eq_true rfl) rfl ?_
  refine aw_aload_n d_R_write_0 rfl ?_
  refine aw_get fl_R_43 d_R_write_1 U.1 rfl ?_
  refine aw_get fl_R_86 d_R_write_4 U.2.1.1 rfl ?_
  refine aw_if_ne (tgt := 12) d_R_write_7 (by decide) (fun c_7 => ?_) (fun c_7 => ?_)
  · rw [w_eq0 (by omega)] at c_7
    refine aw_aload_n d_R_write_12 rfl ?_
    refine aw_get fl_R_32 d_R_write_13 U.1 rfl ?_
    refine aw_aload_n d_R_write_16 rfl ?_
    refine aw_get fl_R_43 d_R_write_17 U.1 rfl ?_
    refine aw_callV (mc2 := gN cap (wout B).1 - cap) (ms2 := 2 * (gN cap (wout B).1 - cap)) (As := [.ref im]) (rest := []) (c_W_reach U.2.1 V L hB_ (by omega) hpc U.2.2 hnq0 NW0 h64 hc64 hcc hwl0) cv_R_120 d_R_write_20 U.2.2.1 rfl rfl rfl (Nat.le_of_ble_eq_true rfl) (by decide) (by decide) (by omega) (by omega) (fun v_20 k_20c q_20 => ?_)
    obtain ⟨y1, nu, qu, fn, fq, Mw, hRX, hnq, T0⟩ := q_20
    refine aw_st (st' := .int (nI (vfin B).2.2) :: []) (by rw [y1]; rfl) ?_
    have Mi := U.2.1.fr T0 NW0
    have NW := dj_fr T0 NW0 U.2.1.ex
    have hrn := R_W U.1 U.2.2
    have NBW := N_W N
    have rd1 := T0.at hrn U.1
    have hb1 := T0.at (NBW b (by simp)) hb
    have hr1 := T0.at (NBW ro (by simp)) hr
    have hgd : vgood (nn B) (vfin B) := vstx_good L (nn B)
    have hle : (vfin B).2.2 ≤ nn B := hgd.le
    refine aw_istore_n (L' := [some (.ref r), some (.int (nI (vfin B).2.2)), none]) d_R_write_23 (by decide) rfl rfl ?_
    refine aw_aload_n d_R_write_24 rfl ?_
    refine aw_get fl_R_32 d_R_write_25 rd1 rfl ?_
    refine aw_aload_n d_R_write_28 rfl ?_
    refine aw_get fl_R_43 d_R_write_29 rd1 rfl ?_
    refine aw_callV (mc2 := gN cap (wout B).1 - cap) (ms2 := 2 * (gN cap (wout B).1 - cap)) (As := [.ref im]) (rest := []) (c_W_numberAnew Mi V L hB_ (by omega) hpc Mw hnq NW (by omega) (by omega) hgd hRX) cv_R_123 d_R_write_32 Mw.1 rfl rfl rfl (Nat.le_of_ble_eq_true rfl) (by decide) (by decide) (by omega) (by omega) (fun v_32 k_32c q_32 => ?_)
    obtain ⟨y2, f', Mw2, hf, T1⟩ := q_32
    refine aw_st (st' := []) (by rw [y2]; rfl) ?_
    have Mi2 := Mi.fr T1 NW
    have hrn2 := R_W rd1 Mw
    have NBW2 : ∀ x ∈ [w, nu, qu], x ∉ [b, ro] := dj_fr T0 (fun x hx hy => NBW x hy hx) (fun x hx => by simp only [List.mem_cons, List.not_mem_nil, or_false] at hx; rcases hx with z | z <;> subst z; (rw [hb]; exact Option.some_ne_none _); (rw [hr]; exact Option.some_ne_none _))
    have rd2 := T1.at hrn2 rd1
    have hb2 := T1.at (fun z => NBW2 b z (by simp)) hb1
    have hr2 := T1.at (fun z => NBW2 ro z (by simp)) hr1
    refine aw_aload_n d_R_write_35 rfl ?_
    refine aw_get fl_R_10 d_R_write_36 rd2 rfl ?_
    refine aw_iconst (v := nI 0) d_R_write_39 (by decide) ?_
    refine aw_put (fs' := [.ref ro, .int (nI 0)]) (pt_R_49 _) d_R_write_40 hb2 rfl rfl (by simp) rfl ?_
    obtain ⟨k_1, e_k_1⟩ : ∃ z, z = av_up k_32c b (.inr (1, [.ref ro, .int (nI 0)])) := ⟨_, rfl⟩
    refine aw_heap (h' := k_1) e_k_1.symm ?_
    have g1_r : k_1 r = some (.inr (0, [.ref b, .ref x0, .ref x1, .ref x2, .ref w, .ref p, .ref im, .ref kp])) := by rw [e_k_1, av_up_ne (fun z => N b (by simp) (by rw [← z]; simp))]; exact rd2
    have g1_im : k_1 im = some (.inr (2, [.ref a0, .ref a1, .ref a2, .ref a3, .ref a4, .ref a5, .int (nI us), .int (nI (nn B)), .int (nI (wds B (nn B))), .int (nI (B 4)), .int (nI (B 5))])) := by rw [e_k_1, av_up_ne (fun z => N b (by simp) (by rw [← z]; simp))]; exact Mi2.1
    have g1_a0 : k_1 a0 = some (.inl (0, 50, .inl f0)) := by rw [e_k_1, av_up_ne (av_apart Mi2.2.1 hb2)]; exact Mi2.2.1
    have g1_a1 : k_1 a1 = some (.inl (0, cc, .inl f1)) := by rw [e_k_1, av_up_ne (av_apart Mi2.2.2.1 hb2)]; exact Mi2.2.2.1
    have g1_a2 : k_1 a2 = some (.inl (0, cc, .inl f2)) := by rw [e_k_1, av_up_ne (av_apart Mi2.2.2.2.1 hb2)]; exact Mi2.2.2.2.1
    have g1_a3 : k_1 a3 = some (.inl (0, cc, .inl f3)) := by rw [e_k_1, av_up_ne (av_apart Mi2.2.2.2.2.1 hb2)]; exact Mi2.2.2.2.2.1
    have g1_a4 : k_1 a4 = some (.inl (0, cc, .inl f4)) := by rw [e_k_1, av_up_ne (av_apart Mi2.2.2.2.2.2.1 hb2)]; exact Mi2.2.2.2.2.2.1
    have g1_a5 : k_1 a5 = some (.inl (0, pc, .inl f5)) := by rw [e_k_1, av_up_ne (av_apart Mi2.2.2.2.2.2.2 hb2)]; exact Mi2.2.2.2.2.2.2
    have g1_w : k_1 w = some (.inr (3, [.ref nu, .ref qu, .int (nI ((vfin B).2.2))])) := by rw [e_k_1, av_up_ne (fun z => N b (by simp) (by rw [← z]; simp))]; exact Mw2.1
    have g1_nu : k_1 nu = some (.inl (0, (max wl cc), .inl f')) := by rw [e_k_1, av_up_ne (av_apart Mw2.2.1 hb2)]; exact Mw2.2.1
    have g1_qu : k_1 qu = some (.inl (0, (max wl cc), .inl fq)) := by rw [e_k_1, av_up_ne (av_apart Mw2.2.2 hb2)]; exact Mw2.2.2
    have g1_ro : k_1 ro = some (.inl (1, cap, .inl (bsf G))) := by rw [e_k_1, av_up_ne (av_apart hr2 hb2)]; exact hr2
    have g1_b : k_1 b = some (.inr (1, [.ref ro, .int (nI 0)])) := by rw [e_k_1]; exact av_up_self _ _ _
    refine aw_aload_n d_R_write_43 rfl ?_
    refine aw_iload_n d_R_write_44 rfl ?_
    have U1 : uS k_1 r b x0 x1 x2 w p kp im a0 a1 a2 a3 a4 a5 cc pc us B f0 f1 f2 f3 f4 f5 nu qu (max wl cc) (vfin B).2.2 f' fq := ⟨g1_r, ⟨g1_im, g1_a0, g1_a1, g1_a2, g1_a3, g1_a4, g1_a5⟩, ⟨g1_w, g1_nu, g1_qu⟩⟩
    have N1 := N_N N NBW2
    have B1 : bS k_1 b ro cap ((0, fun _ => 0) : OS) G := ⟨g1_b, (by rw [show gN cap ((0, fun _ => 0) : OS).1 = cap from gN_le (Nat.zero_le _)]; exact g1_ro), (fun i hi => absurd hi (Nat.not_lt_zero i)), hG⟩
    have hd := e0 c_7
    have ho0 : wO B (vfin B).1 0 = wS B (vfin B).1 50 := rfl
    have ho1 := wS_1 B (vfin B).1 50
    have ho2 := wO_mono B (vfin B).1 (Nat.zero_le (nn B))
    have ho3 : (wout B).1 = (wO B (vfin B).1 (nn B)).1 := rfl
    have gg : gN cap 8 ≤ gN cap (wout B).1 := gN_mono h0 (by rw [ho0] at ho2; omega)
    have gg0 : gN cap 0 = cap := gN_le (Nat.zero_le _)
    have gg1 : cap ≤ gN cap 8 := gN_ge h0
    refine aw_callV (mc2 := gN cap (wout B).1 - gN cap 8) (ms2 := 2 * (gN cap (wout B).1 - gN cap 8)) (As := [.int (nI (vfin B).2.2)]) (rest := []) (c_R_writeHead V L hB_ (by omega) hpc (by omega) (by omega) hf h0 U1 N1 B1 (by show 0 + 8 ≤ 65536; decide) (by show gN cap 8 ≤ 524288; omega) hd.1 hd.2.1 hd.2.2.1 hd.2.2.2 (vfin B).2.2 (by omega)) cv_R_127 d_R_write_45 g1_r rfl rfl rfl (Nat.le_of_ble_eq_true rfl) (by decide) (by decide) (by show gN cap 8 - gN cap 0 + _ ≤ _; omega) (by show 2 * (gN cap 8 - gN cap 0) + _ ≤ _; omega) (fun v_45 k_45c q_45 => ?_)
    obtain ⟨z1, ro2, G2, B2, T2⟩ := q_45
    refine aw_st (st' := []) (by rw [z1]; rfl) ?_
    have U2 := U1.fr T2 N1
    have N2 := dj_fr T2 N1 U1.ex
    have eS : wS B (vfin B).1 0 = o2 (o1 (o1 (o1 (o1 (o1 (o1 ((0, fun _ => 0) : OS) (B 0)) (B 1)) (B 2)) (B 3)) (B 4)) (B 5)) (vfin B).2.2 := by rw [wS, show (vfin B).2.2 = cntM (vfin B).1 (nn B) from hgd.1]; rfl
    refine aw_iconst (v := nI 0) d_R_write_48 (by decide) ?_
    refine aw_istore_n (L' := [some (.ref r), some (.int (nI (vfin B).2.2)), some (.int (nI 0))]) d_R_write_49 (by decide) rfl rfl ?_
    refine aw_loc (L' := [some (.ref r), none, some (.int (nI 0))]) (by intro j v hv; match j, hv with | 0, hv => exact hv | 1, hv => cases hv | 2, hv => exact hv | j + 3, hv => cases hv) ?_
    refine aw_post (fun v g q => ?_) (lp_R_writeS (by decide) (by decide) V L hB_ (by omega) hpc (by omega) (by omega) hf h0 hE hg 51 0 _ ro2 G2 _ _ U2 N2 (by rw [eS]; exact B2) (frm.refl _) (by rw [wS_1]; exact Nat.le_refl _) (by rw [wS_1]; exact Nat.le_refl _) (by omega) (by omega))
    obtain ⟨t1, ro3, G3, B3, T3⟩ := q
    have Tk := (((frm.refl [b, ro]).up e_k_1 (by simp)).tr T2).tr T3
    exact ⟨fun z => absurd z c_7, fun _ => ⟨t1, _, nu, qu, _, _, _, ro3, G3, Mw2, hnq, B3, T0.tr T1, Tk⟩⟩
  · rw [w_eq0 (by omega)] at c_7
    refine aw_iconst (v := (-1)) d_R_write_10 (by decide) ?_
    exact aw_iret d_R_write_11 rfl rfl ⟨fun _ => ⟨rfl, rfl⟩, fun z => absurd c_7 z⟩

set_option maxHeartbeats 4000000 in
theorem c_R_write_no {tb : Nat → Nat} {h : AH} {im a0 a1 a2 a3 a4 a5 cc pc us iw wp cp : Nat} {B : Nat → Nat} {f0 f1 f2 f3 f4 f5 : Nat → Int32} (M : iS h im a0 a1 a2 a3 a4 a5 cc pc us (nn B) iw wp cp f0 f1 f2 f3 f4 f5) (V : IV B f0 f1 f2 f3 f4 f5 cc pc) (L : LX B) (hB_ : ∀ i, B i < 256) (hcc : cc ≤ 1048576) (hpc : pc ≤ 1048576) {r b x0 x1 x2 w p kp : Nat} (hrd : h r = some (.inr (0, [.ref b, .ref x0, .ref x1, .ref x2, .ref w, .ref p, .ref im, .ref kp]))) (hz : nn B = 0) : AM tb y_R_write b_R_write 3 (some .int) 0 0 [.ref r] h 0 0 (av_Pi (-1) h) := by
  have nV_im := V.1
  have nL_im := L.1
  refine am_of (ini := false) [some (.ref r), none, none] (by decide) (fun z => by cases z) (Nat.le_of_ble_eq_true rfl) rfl ?_
  refine aw_aload_n d_R_write_0 rfl ?_
  refine aw_get fl_R_43 d_R_write_1 hrd rfl ?_
  refine aw_get fl_R_86 d_R_write_4 M.1 rfl ?_
  refine aw_if_ne (tgt := 12) d_R_write_7 (by decide) (fun c_7 => absurd c_7 (by exact fun z => z (by rw [hz]; rfl))) (fun c_7 => ?_)
  try rw [w_eq0 (by omega)] at c_7
  refine aw_iconst (v := (-1)) d_R_write_10 (by decide) ?_
  exact aw_iret d_R_write_11 rfl rfl ⟨rfl, rfl⟩
