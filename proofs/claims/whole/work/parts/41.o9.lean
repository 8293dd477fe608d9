/-! ===== the class: the reader's own methods that look, and the simple ones ===== -/
def rK (B : Nat → Nat) (k : Nat) : Int32 := if 1 ≤ k ∧ k ≤ nn B then (if cl B k = sp B 7 then nI 2 else if cl B k = sp B 8 then nI 3 else nI (kd B k)) else -1
def rZ (B : Nat → Nat) (k : Nat) : Int32 := if 1 ≤ k ∧ k ≤ nn B then nI (sz B k) else -1
theorem gN_ge {cap a : Nat} (h0 : 0 < cap) : cap ≤ gN cap a := (gN_bd a cap a (by omega) h0).1
/-- the bytes that came in: those of o; the row is as long as growing from cap makes it -/
def bS (h : AH) (b ro cap : Nat) (o : OS) (G : Nat → Nat) : Prop := h b = some (.inr (1, [.ref ro, .int (nI o.1)])) ∧ h ro = some (.inl (1, gN cap o.1, .inl (bsf G))) ∧ RW o G ∧ ∀ i, G i < 256
theorem bS_add {h h' : AH} {b ro cap : Nat} {o o' : OS} {G : Nat → Nat} {v : Option Value} (Mb : bS h b ro cap o G) (h0 : 0 < cap) (ho : o.1 ≤ o'.1)
    (q : v = none ∧ ∃ ro' G', h' b = some (.inr (1, [.ref ro', .int (nI o'.1)])) ∧ h' ro' = some (.inl (1, gN (gN cap o.1) o'.1, .inl (bsf G'))) ∧ RW o' G' ∧ (∀ i, G' i < 256) ∧ (ro' = ro ∨ h ro' = none) ∧ (∀ q, q ≠ b → q ≠ ro → h q ≠ none → h' q = h q) ∧ ∀ q, h q ≠ none → h' q ≠ none) :
    v = none ∧ ∃ ro' G', bS h' b ro' cap o' G' ∧ frm [b, ro] [b, ro'] h h' := by
  obtain ⟨q0, ro', G', q1, q2, q3, q4, q5, q6, q7⟩ := q
  refine ⟨q0, ro', G', ⟨q1, by rw [← gN_gN h0 ho]; exact q2, q3, q4⟩, fun x hx h1 => ?_, q7, fun x hx => ?_⟩
  · simp only [List.mem_cons, List.not_mem_nil, or_false, not_or] at hx
    exact q6 x hx.1 hx.2 h1
  · simp only [List.mem_cons, List.not_mem_nil, or_false] at hx ⊢
    rcases hx with z | z
    · exact Or.inl (Or.inl z)
    · rcases q5 with y | y
      · exact Or.inl (Or.inr (z.trans y))
      · exact Or.inr (by rw [z]; exact y)
def iE (h : AH) (K im : Nat) (l : List Nat) : Prop := ∃ a0 a1 a2 a3 a4 a5 cc pc us n iw wp cp f0 f1 f2 f3 f4 f5, l = [im, a0, a1, a2, a3, a4, a5] ∧ iS h im a0 a1 a2 a3 a4 a5 cc pc us n iw wp cp f0 f1 f2 f3 f4 f5 ∧ iND a0 a1 a2 a3 a4 a5 ∧ P64 cc ∧ 256 ≤ pc ∧ cc ≤ K ∧ pc ≤ K
def iA (h : AH) (K im : Nat) (l : List Nat) (C : Nat → Nat) : Prop := ∃ a0 a1 a2 a3 a4 a5 cc pc us f0 f1 f2 f3 f4 f5, l = [im, a0, a1, a2, a3, a4, a5] ∧ iS h im a0 a1 a2 a3 a4 a5 cc pc us (nn C) (wds C (nn C)) (C 4) (C 5) f0 f1 f2 f3 f4 f5 ∧ iND a0 a1 a2 a3 a4 a5 ∧ P64 cc ∧ 256 ≤ pc ∧ cc ≤ K ∧ pc ≤ K ∧ IV C f0 f1 f2 f3 f4 f5 cc pc ∧ LX C

set_option maxHeartbeats 4000000 in
theorem c_R_objects {tb : Nat → Nat} {h : AH} {im a0 a1 a2 a3 a4 a5 cc pc us iw wp cp : Nat} {B : Nat → Nat} {f0 f1 f2 f3 f4 f5 : Nat → Int32} (M : iS h im a0 a1 a2 a3 a4 a5 cc pc us (nn B) iw wp cp f0 f1 f2 f3 f4 f5) (V : IV B f0 f1 f2 f3 f4 f5 cc pc) (L : LX B) (hB_ : ∀ i, B i < 256) (hcc : cc ≤ 1048576) (hpc : pc ≤ 1048576) {r b x0 x1 x2 w p kp : Nat} (hrd : h r = some (.inr (0, [.ref b, .ref x0, .ref x1, .ref x2, .ref w, .ref p, .ref im, .ref kp]))) : AM tb y_R_objects b_R_objects 1 (some .int) 0 0 [.ref r] h 0 0 (av_Pi (nI (nn B)) h) := by
  have nV_im := V.1
  have nL_im := L.1
  refine am_of (ini := false) [some (.ref r)] (by decide) (fun z => by cases z) (Nat.le_of_ble_eq_true rfl) rfl ?_
  refine aw_aload_n d_R_objects_0 rfl ?_
  refine aw_get fl_R_43 d_R_objects_1 hrd rfl ?_
  refine aw_get fl_R_86 d_R_objects_4 M.1 rfl ?_
  exact aw_iret d_R_objects_7 rfl rfl ⟨rfl, rfl⟩

set_option maxHeartbeats 4000000 in
theorem c_R_words {tb : Nat → Nat} {h : AH} {im a0 a1 a2 a3 a4 a5 cc pc us iw wp cp : Nat} {B : Nat → Nat} {f0 f1 f2 f3 f4 f5 : Nat → Int32} (M : iS h im a0 a1 a2 a3 a4 a5 cc pc us (nn B) iw wp cp f0 f1 f2 f3 f4 f5) (V : IV B f0 f1 f2 f3 f4 f5 cc pc) (L : LX B) (hB_ : ∀ i, B i < 256) (hcc : cc ≤ 1048576) (hpc : pc ≤ 1048576) {r b x0 x1 x2 w p kp : Nat} (hrd : h r = some (.inr (0, [.ref b, .ref x0, .ref x1, .ref x2, .ref w, .ref p, .ref im, .ref kp]))) : AM tb y_R_words b_R_words 1 (some .int) 0 0 [.ref r] h 0 0 (av_Pi (nI iw) h) := by
  have nV_im := V.1
  have nL_im := L.1
  refine am_of (ini := false) [some (.ref r)] (by decide) (fun z => by cases z) (Nat.le_of_ble_eq_true rfl) rfl ?_
  refine aw_aload_n d_R_words_0 rfl ?_
  refine aw_get fl_R_43 d_R_words_1 hrd rfl ?_
  refine aw_get fl_R_89 d_R_words_4 M.1 rfl ?_
  exact aw_iret d_R_words_7 rfl rfl ⟨rfl, rfl⟩

set_option maxHeartbeats 4000000 in
theorem c_R_special {tb : Nat → Nat} {h : AH} {im a0 a1 a2 a3 a4 a5 cc pc us iw wp cp : Nat} {B : Nat → Nat} {f0 f1 f2 f3 f4 f5 : Nat → Int32} (M : iS h im a0 a1 a2 a3 a4 a5 cc pc us (nn B) iw wp cp f0 f1 f2 f3 f4 f5) (V : IV B f0 f1 f2 f3 f4 f5 cc pc) (L : LX B) (hB_ : ∀ i, B i < 256) (hcc : cc ≤ 1048576) (hpc : pc ≤ 1048576) {r b x0 x1 x2 w p kp : Nat} (hrd : h r = some (.inr (0, [.ref b, .ref x0, .ref x1, .ref x2, .ref w, .ref p, .ref im, .ref kp]))) (k : Nat) (hk : k < 2147483648) : AM tb y_R_special b_R_special 2 (some .int) 1 21 [.ref r, .int (nI k)] h 0 0 (av_Pi (nI (if 49 < k then 0 else sp B k)) h) := by
  have nV_im := V.1
  have nL_im := L.1
  refine am_of (ini := false) [some (.ref r), some (.int (nI k))] (by decide) (fun z => by cases z) (Nat.le_of_ble_eq_true rfl) rfl ?_
  refine aw_aload_n d_R_special_0 rfl ?_
  refine aw_get fl_R_43 d_R_special_1 hrd rfl ?_
  refine aw_iload_n d_R_special_4 rfl ?_
  refine aw_callVi (mc2 := 0) (ms2 := 0) (r := nI (if 49 < k then 0 else sp B k)) (As := [.int (nI k)]) (rest := []) (c_I_specialAt_gen ⟨M.1, M.2.1, M.2.2.1, M.2.2.2.1, M.2.2.2.2.1, M.2.2.2.2.2.1, M.2.2.2.2.2.2⟩ V L hB_ hcc hpc k (by omega)) cv_R_92 d_R_special_5 M.1 rfl rfl rfl (Nat.le_of_ble_eq_true rfl) (by decide) (by decide) (by omega) (by omega) ?_
  exact aw_iret d_R_special_8 rfl rfl ⟨rfl, rfl⟩

set_option maxHeartbeats 4000000 in
theorem c_R_special_neg {tb : Nat → Nat} {h : AH} {im a0 a1 a2 a3 a4 a5 cc pc us iw wp cp : Nat} {B : Nat → Nat} {f0 f1 f2 f3 f4 f5 : Nat → Int32} (M : iS h im a0 a1 a2 a3 a4 a5 cc pc us (nn B) iw wp cp f0 f1 f2 f3 f4 f5) (V : IV B f0 f1 f2 f3 f4 f5 cc pc) (L : LX B) (hB_ : ∀ i, B i < 256) (hcc : cc ≤ 1048576) (hpc : pc ≤ 1048576) {r b x0 x1 x2 w p kp : Nat} (hrd : h r = some (.inr (0, [.ref b, .ref x0, .ref x1, .ref x2, .ref w, .ref p, .ref im, .ref kp]))) (k : Int32) (hk : k < 0) : AM tb y_R_special b_R_special 2 (some .int) 1 21 [.ref r, .int k] h 0 0 (av_Pi (nI 0) h) := by
  have nV_im := V.1
  have nL_im := L.1
  refine am_of (ini := false) [some (.ref r), some (.int k)] (by decide) (fun z => by cases z) (Nat.le_of_ble_eq_true rfl) rfl ?_
  refine aw_aload_n d_R_special_0 rfl ?_
  refine aw_get fl_R_43 d_R_special_1 hrd rfl ?_
  refine aw_iload_n d_R_special_4 rfl ?_
  refine aw_callVi (mc2 := 0) (ms2 := 0) (r := nI 0) (As := [.int k]) (rest := []) (c_I_specialAt_neg ⟨M.1, M.2.1, M.2.2.1, M.2.2.2.1, M.2.2.2.2.1, M.2.2.2.2.2.1, M.2.2.2.2.2.2⟩ V L hB_ hcc hpc k hk) cv_R_92 d_R_special_5 M.1 rfl rfl rfl (Nat.le_of_ble_eq_true rfl) (by decide) (by decide) (by omega) (by omega) ?_
  exact aw_iret d_R_special_8 rfl rfl ⟨rfl, rfl⟩

set_option maxHeartbeats 4000000 in
theorem c_R_kind {tb : Nat → Nat} {h : AH} {im a0 a1 a2 a3 a4 a5 cc pc us iw wp cp : Nat} {B : Nat → Nat} {f0 f1 f2 f3 f4 f5 : Nat → Int32} (M : iS h im a0 a1 a2 a3 a4 a5 cc pc us (nn B) iw wp cp f0 f1 f2 f3 f4 f5) (V : IV B f0 f1 f2 f3 f4 f5 cc pc) (L : LX B) (hB_ : ∀ i, B i < 256) (hcc : cc ≤ 1048576) (hpc : pc ≤ 1048576) {r b x0 x1 x2 w p kp : Nat} (hrd : h r = some (.inr (0, [.ref b, .ref x0, .ref x1, .ref x2, .ref w, .ref p, .ref im, .ref kp]))) (k : Nat) (hk : k < 2147483648) : AM tb y_R_kind b_R_kind 2 (some .int) 1 22 [.ref r, .int (nI k)] h 0 0 (av_Pi (rK B k) h) := by
  have nV_im := V.1
  have nL_im := L.1
  refine am_of (ini := false) [some (.ref r), some (.int (nI k))] (by decide) (fun z => by cases z) (Nat.le_of_ble_eq_true rfl) rfl ?_
  refine aw_aload_n d_R_kind_0 rfl ?_
  refine aw_get fl_R_43 d_R_kind_1 hrd rfl ?_
  refine aw_iload_n d_R_kind_4 rfl ?_
  refine aw_callVi (mc2 := 0) (ms2 := 0) (r := bP (1 ≤ k ∧ k ≤ nn B)) (As := [.int (nI k)]) (rest := []) (c_I_holds ⟨M.1, M.2.1, M.2.2.1, M.2.2.2.1, M.2.2.2.2.1, M.2.2.2.2.2.1, M.2.2.2.2.2.2⟩ V L hB_ hcc hpc k (by omega)) cv_R_95 d_R_kind_5 M.1 rfl rfl rfl (Nat.le_of_ble_eq_true rfl) (by decide) (by decide) (by omega) (by omega) ?_
  refine aw_if_ne (tgt := 13) d_R_kind_8 (by decide) (fun c_8 => ?_) (fun c_8 => ?_)
  · rw [bP_eq0, Classical.not_not] at c_8
    refine aw_aload_n d_R_kind_13 rfl ?_
    refine aw_get fl_R_43 d_R_kind_14 hrd rfl ?_
    refine aw_iload_n d_R_kind_17 rfl ?_
    refine aw_bipush (v := nI 7) d_R_kind_18 (by decide) ?_
    refine aw_callVi (mc2 := 0) (ms2 := 0) (r := bP (1 ≤ k ∧ k ≤ nn B ∧ cl B k = sp B 7)) (As := [.int (nI k), .int (nI 7)]) (rest := []) (c_I_isOfSpecialClass ⟨M.1, M.2.1, M.2.2.1, M.2.2.2.1, M.2.2.2.2.1, M.2.2.2.2.2.1, M.2.2.2.2.2.2⟩ V L hB_ hcc hpc k (by omega) 7 (by omega)) cv_R_99 d_R_kind_20 M.1 rfl rfl rfl (Nat.le_of_ble_eq_true rfl) (by decide) (by decide) (by omega) (by omega) ?_
    refine aw_if_eq (tgt := 28) d_R_kind_23 (by decide) (fun c_23 => ?_) (fun c_23 => ?_)
    · rw [bP_eq0] at c_23
      refine aw_aload_n d_R_kind_28 rfl ?_
      refine aw_get fl_R_43 d_R_kind_29 hrd rfl ?_
      refine aw_iload_n d_R_kind_32 rfl ?_
      refine aw_bipush (v := nI 8) d_R_kind_33 (by decide) ?_
      refine aw_callVi (mc2 := 0) (ms2 := 0) (r := bP (1 ≤ k ∧ k ≤ nn B ∧ cl B k = sp B 8)) (As := [.int (nI k), .int (nI 8)]) (rest := []) (c_I_isOfSpecialClass ⟨M.1, M.2.1, M.2.2.1, M.2.2.2.1, M.2.2.2.2.1, M.2.2.2.2.2.1, M.2.2.2.2.2.2⟩ V L hB_ hcc hpc k (by omega) 8 (by omega)) cv_R_99 d_R_kind_35 M.1 rfl rfl rfl (Nat.le_of_ble_eq_true rfl) (by decide) (by decide) (by omega) (by omega) ?_
      refine aw_if_eq (tgt := 45) d_R_kind_38 (by decide) (fun c_38 => ?_) (fun c_38 => ?_)
      · rw [bP_eq0] at c_38
        refine aw_aload_n d_R_kind_45 rfl ?_
        refine aw_get fl_R_43 d_R_kind_46 hrd rfl ?_
        refine aw_get fl_R_103 d_R_kind_49 M.1 rfl ?_
        refine aw_iload_n d_R_kind_52 rfl ?_
        refine aw_iald (x := nI (kd B k)) d_R_kind_53 M.2.2.2.1 (vp_in_nI (by omega) (by omega)) (by rw [nI_clamp (by omega)]; exact (V.2.2 k (by omega) (by omega)).2.1) ?_
        have b_53 := L.k2 (k := k) (by omega) (by omega)
        exact aw_iret d_R_kind_54 rfl rfl (rt_i (by unfold rK; first | rw [if_pos c_8, if_neg (fun y => c_23 ⟨c_8.1, c_8.2, y⟩), if_pos c_38.2.2] | rw [if_pos c_8, if_neg (fun y => c_23 ⟨c_8.1, c_8.2, y⟩), if_neg (fun y => c_38 ⟨c_8.1, c_8.2, y⟩)]))
      · rw [bP_eq0, Classical.not_not] at c_38
        refine aw_iconst (v := nI 3) d_R_kind_41 (by decide) ?_
        refine aw_goto (tgt := 54) d_R_kind_42 (by decide) ?_
        exact aw_iret d_R_kind_54 rfl rfl (rt_i (by unfold rK; first | rw [if_pos c_8, if_neg (fun y => c_23 ⟨c_8.1, c_8.2, y⟩), if_pos c_38.2.2] | rw [if_pos c_8, if_neg (fun y => c_23 ⟨c_8.1, c_8.2, y⟩), if_neg (fun y => c_38 ⟨c_8.1, c_8.2, y⟩)]))
    · rw [bP_eq0, Classical.not_not] at c_23
      refine aw_iconst (v := nI 2) d_R_kind_26 (by decide) ?_
      exact aw_iret d_R_kind_27 rfl rfl (rt_i (by unfold rK; rw [if_pos c_8, if_pos c_23.2.2]))
  · rw [bP_eq0] at c_8
    refine aw_iconst (v := (-1)) d_R_kind_11 (by decide) ?_
    exact aw_iret d_R_kind_12 rfl rfl (rt_i (by unfold rK; rw [if_neg c_8]))

set_option maxHeartbeats 4000000 in
theorem c_R_kind_neg {tb : Nat → Nat} {h : AH} {im a0 a1 a2 a3 a4 a5 cc pc us iw wp cp : Nat} {B : Nat → Nat} {f0 f1 f2 f3 f4 f5 : Nat → Int32} (M : iS h im a0 a1 a2 a3 a4 a5 cc pc us (nn B) iw wp cp f0 f1 f2 f3 f4 f5) (V : IV B f0 f1 f2 f3 f4 f5 cc pc) (L : LX B) (hB_ : ∀ i, B i < 256) (hcc : cc ≤ 1048576) (hpc : pc ≤ 1048576) {r b x0 x1 x2 w p kp : Nat} (hrd : h r = some (.inr (0, [.ref b, .ref x0, .ref x1, .ref x2, .ref w, .ref p, .ref im, .ref kp]))) (k : Int32) (hk : k < 0) : AM tb y_R_kind b_R_kind 2 (some .int) 1 21 [.ref r, .int k] h 0 0 (av_Pi (-1) h) := by
  have nV_im := V.1
  have nL_im := L.1
  refine am_of (ini := false) [some (.ref r), some (.int k)] (by decide) (fun z => by cases z) (Nat.le_of_ble_eq_true rfl) rfl ?_
  refine aw_aload_n d_R_kind_0 rfl ?_
  refine aw_get fl_R_43 d_R_kind_1 hrd rfl ?_
  refine aw_iload_n d_R_kind_4 rfl ?_
  refine aw_callVi (mc2 := 0) (ms2 := 0) (r := bP False) (As := [.int k]) (rest := []) (c_I_holds_neg ⟨M.1, M.2.1, M.2.2.1, M.2.2.2.1, M.2.2.2.2.1, M.2.2.2.2.2.1, M.2.2.2.2.2.2⟩ V L hB_ hcc hpc k hk) cv_R_95 d_R_kind_5 M.1 rfl rfl rfl (Nat.le_of_ble_eq_true rfl) (by decide) (by decide) (by omega) (by omega) ?_
  refine aw_if_ne (tgt := 13) d_R_kind_8 (by decide) (fun c_8 => absurd c_8 (by intro z; exact z (bP_eq0.mpr (fun y => y)))) (fun c_8 => ?_)
  try rw [bP_eq0] at c_8
  refine aw_iconst (v := (-1)) d_R_kind_11 (by decide) ?_
  exact aw_iret d_R_kind_12 rfl rfl ⟨rfl, rfl⟩

set_option maxHeartbeats 4000000 in
theorem c_R_classOf {tb : Nat → Nat} {h : AH} {im a0 a1 a2 a3 a4 a5 cc pc us iw wp cp : Nat} {B : Nat → Nat} {f0 f1 f2 f3 f4 f5 : Nat → Int32} (M : iS h im a0 a1 a2 a3 a4 a5 cc pc us (nn B) iw wp cp f0 f1 f2 f3 f4 f5) (V : IV B f0 f1 f2 f3 f4 f5 cc pc) (L : LX B) (hB_ : ∀ i, B i < 256) (hcc : cc ≤ 1048576) (hpc : pc ≤ 1048576) {r b x0 x1 x2 w p kp : Nat} (hrd : h r = some (.inr (0, [.ref b, .ref x0, .ref x1, .ref x2, .ref w, .ref p, .ref im, .ref kp]))) (k : Nat) (hk : k < 2147483648) : AM tb y_R_classOf b_R_classOf 2 (some .int) 2 42 [.ref r, .int (nI k)] h 0 0 (av_Pi (nI (CA B k)) h) := by
  have nV_im := V.1
  have nL_im := L.1
  refine am_of (ini := false) [some (.ref r), some (.int (nI k))] (by decide) (fun z => by cases z) (Nat.le_of_ble_eq_true rfl) rfl ?_
  refine aw_aload_n d_R_classOf_0 rfl ?_
  refine aw_get fl_R_43 d_R_classOf_1 hrd rfl ?_
  refine aw_iload_n d_R_classOf_4 rfl ?_
  refine aw_callVi (mc2 := 0) (ms2 := 0) (r := nI (CA B k)) (As := [.int (nI k)]) (rest := []) (c_I_classAt ⟨M.1, M.2.1, M.2.2.1, M.2.2.2.1, M.2.2.2.2.1, M.2.2.2.2.2.1, M.2.2.2.2.2.2⟩ V L hB_ hcc hpc k (by omega)) cv_R_107 d_R_classOf_5 M.1 rfl rfl rfl (Nat.le_of_ble_eq_true rfl) (by decide) (by decide) (by omega) (by omega) ?_
  have b_5 := CA_lt hB_ k
  exact aw_iret d_R_classOf_8 rfl rfl ⟨rfl, rfl⟩

set_option maxHeartbeats 4000000 in
theorem c_R_classOf_neg {tb : Nat → Nat} {h : AH} {im a0 a1 a2 a3 a4 a5 cc pc us iw wp cp : Nat} {B : Nat → Nat} {f0 f1 f2 f3 f4 f5 : Nat → Int32} (M : iS h im a0 a1 a2 a3 a4 a5 cc pc us (nn B) iw wp cp f0 f1 f2 f3 f4 f5) (V : IV B f0 f1 f2 f3 f4 f5 cc pc) (L : LX B) (hB_ : ∀ i, B i < 256) (hcc : cc ≤ 1048576) (hpc : pc ≤ 1048576) {r b x0 x1 x2 w p kp : Nat} (hrd : h r = some (.inr (0, [.ref b, .ref x0, .ref x1, .ref x2, .ref w, .ref p, .ref im, .ref kp]))) (k : Int32) (hk : k < 0) : AM tb y_R_classOf b_R_classOf 2 (some .int) 2 42 [.ref r, .int k] h 0 0 (av_Pi (nI 0) h) := by
  have nV_im := V.1
  have nL_im := L.1
  refine am_of (ini := false) [some (.ref r), some (.int k)] (by decide) (fun z => by cases z) (Nat.le_of_ble_eq_true rfl) rfl ?_
  refine aw_aload_n d_R_classOf_0 rfl ?_
  refine aw_get fl_R_43 d_R_classOf_1 hrd rfl ?_
  refine aw_iload_n d_R_classOf_4 rfl ?_
  refine aw_callVi (mc2 := 0) (ms2 := 0) (r := nI 0) (As := [.int k]) (rest := []) (c_I_classAt_neg ⟨M.1, M.2.1, M.2.2.1, M.2.2.2.1, M.2.2.2.2.1, M.2.2.2.2.2.1, M.2.2.2.2.2.2⟩ V L hB_ hcc hpc k hk) cv_R_107 d_R_classOf_5 M.1 rfl rfl rfl (Nat.le_of_ble_eq_true rfl) (by decide) (by decide) (by omega) (by omega) ?_
  exact aw_iret d_R_classOf_8 rfl rfl ⟨rfl, rfl⟩

set_option maxHeartbeats 4000000 in
theorem c_R_size {tb : Nat → Nat} {h : AH} {im a0 a1 a2 a3 a4 a5 cc pc us iw wp cp : Nat} {B : Nat → Nat} {f0 f1 f2 f3 f4 f5 : Nat → Int32} (M : iS h im a0 a1 a2 a3 a4 a5 cc pc us (nn B) iw wp cp f0 f1 f2 f3 f4 f5) (V : IV B f0 f1 f2 f3 f4 f5 cc pc) (L : LX B) (hB_ : ∀ i, B i < 256) (hcc : cc ≤ 1048576) (hpc : pc ≤ 1048576) {r b x0 x1 x2 w p kp : Nat} (hrd : h r = some (.inr (0, [.ref b, .ref x0, .ref x1, .ref x2, .ref w, .ref p, .ref im, .ref kp]))) (k : Nat) (hk : k < 2147483648) : AM tb y_R_size b_R_size 2 (some .int) 1 21 [.ref r, .int (nI k)] h 0 0 (av_Pi (rZ B k) h) := by
  have nV_im := V.1
  have nL_im := L.1
  refine am_of (ini := false) [some (.ref r), some (.int (nI k))] (by decide) (fun z => by cases z) (Nat.le_of_ble_eq_true rfl) rfl ?_
  refine aw_aload_n d_R_size_0 rfl ?_
  refine aw_get fl_R_43 d_R_size_1 hrd rfl ?_
  refine aw_iload_n d_R_size_4 rfl ?_
  refine aw_callVi (mc2 := 0) (ms2 := 0) (r := bP (1 ≤ k ∧ k ≤ nn B)) (As := [.int (nI k)]) (rest := []) (c_I_holds ⟨M.1, M.2.1, M.2.2.1, M.2.2.2.1, M.2.2.2.2.1, M.2.2.2.2.2.1, M.2.2.2.2.2.2⟩ V L hB_ hcc hpc k (by omega)) cv_R_95 d_R_size_5 M.1 rfl rfl rfl (Nat.le_of_ble_eq_true rfl) (by decide) (by decide) (by omega) (by omega) ?_
  refine aw_if_eq (tgt := 23) d_R_size_8 (by decide) (fun c_8 => ?_) (fun c_8 => ?_)
  · rw [bP_eq0] at c_8
    refine aw_iconst (v := (-1)) d_R_size_23 (by decide) ?_
    exact aw_iret d_R_size_24 rfl rfl (rt_i (by unfold rZ; first | rw [if_pos c_8] | rw [if_neg c_8]))
  · rw [bP_eq0, Classical.not_not] at c_8
    refine aw_aload_n d_R_size_11 rfl ?_
    refine aw_get fl_R_43 d_R_size_12 hrd rfl ?_
    refine aw_get fl_R_110 d_R_size_15 M.1 rfl ?_
    refine aw_iload_n d_R_size_18 rfl ?_
    refine aw_iald (x := nI (sz B k)) d_R_size_19 M.2.2.2.2.1 (vp_in_nI (by omega) (by omega)) (by rw [nI_clamp (by omega)]; exact (V.2.2 k (by omega) (by omega)).2.2.1) ?_
    have b_19 := sz_lt hB_ k
    refine aw_goto (tgt := 24) d_R_size_20 (by decide) ?_
    exact aw_iret d_R_size_24 rfl rfl (rt_i (by unfold rZ; first | rw [if_pos c_8] | rw [if_neg c_8]))

set_option maxHeartbeats 4000000 in
theorem c_R_size_neg {tb : Nat → Nat} {h : AH} {im a0 a1 a2 a3 a4 a5 cc pc us iw wp cp : Nat} {B : Nat → Nat} {f0 f1 f2 f3 f4 f5 : Nat → Int32} (M : iS h im a0 a1 a2 a3 a4 a5 cc pc us (nn B) iw wp cp f0 f1 f2 f3 f4 f5) (V : IV B f0 f1 f2 f3 f4 f5 cc pc) (L : LX B) (hB_ : ∀ i, B i < 256) (hcc : cc ≤ 1048576) (hpc : pc ≤ 1048576) {r b x0 x1 x2 w p kp : Nat} (hrd : h r = some (.inr (0, [.ref b, .ref x0, .ref x1, .ref x2, .ref w, .ref p, .ref im, .ref kp]))) (k : Int32) (hk : k < 0) : AM tb y_R_size b_R_size 2 (some .int) 1 21 [.ref r, .int k] h 0 0 (av_Pi (-1) h) := by
  have nV_im := V.1
  have nL_im := L.1
  refine am_of (ini := false) [some (.ref r), some (.int k)] (by decide) (fun z => by cases z) (Nat.le_of_ble_eq_true rfl) rfl ?_
  refine aw_aload_n d_R_size_0 rfl ?_
  refine aw_get fl_R_43 d_R_size_1 hrd rfl ?_
  refine aw_iload_n d_R_size_4 rfl ?_
  refine aw_callVi (mc2 := 0) (ms2 := 0) (r := bP False) (As := [.int k]) (rest := []) (c_I_holds_neg ⟨M.1, M.2.1, M.2.2.1, M.2.2.2.1, M.2.2.2.2.1, M.2.2.2.2.2.1, M.2.2.2.2.2.2⟩ V L hB_ hcc hpc k hk) cv_R_95 d_R_size_5 M.1 rfl rfl rfl (Nat.le_of_ble_eq_true rfl) (by decide) (by decide) (by omega) (by omega) ?_
  refine aw_if_eq (tgt := 23) d_R_size_8 (by decide) (fun c_8 => ?_) (fun c_8 => absurd c_8 (by intro z; exact z (bP_eq0.mpr (fun y => y))))
  try rw [bP_eq0] at c_8
  refine aw_iconst (v := (-1)) d_R_size_23 (by decide) ?_
  exact aw_iret d_R_size_24 rfl rfl ⟨rfl, rfl⟩

set_option maxHeartbeats 4000000 in
theorem c_R_field {tb : Nat → Nat} {h : AH} {im a0 a1 a2 a3 a4 a5 cc pc us iw wp cp : Nat} {B : Nat → Nat} {f0 f1 f2 f3 f4 f5 : Nat → Int32} (M : iS h im a0 a1 a2 a3 a4 a5 cc pc us (nn B) iw wp cp f0 f1 f2 f3 f4 f5) (V : IV B f0 f1 f2 f3 f4 f5 cc pc) (L : LX B) (hB_ : ∀ i, B i < 256) (hcc : cc ≤ 1048576) (hpc : pc ≤ 1048576) {r b x0 x1 x2 w p kp : Nat} (hrd : h r = some (.inr (0, [.ref b, .ref x0, .ref x1, .ref x2, .ref w, .ref p, .ref im, .ref kp]))) (k : Nat) (hk : k < 2147483648) (i : Nat) (hi : i < 2147483648) : AM tb y_R_field b_R_field 3 (some .int) 2 44 [.ref r, .int (nI k), .int (nI i)] h 0 0 (av_Pi (nI (FA B k i)) h) := by
  have nV_im := V.1
  have nL_im := L.1
  refine am_of (ini := false) [some (.ref r), some (.int (nI k)), some (.int (nI i))] (by decide) (fun z => by cases z) (Nat.le_of_ble_eq_true rfl) rfl ?_
  refine aw_aload_n d_R_field_0 rfl ?_
  refine aw_get fl_R_43 d_R_field_1 hrd rfl ?_
  refine aw_iload_n d_R_field_4 rfl ?_
  refine aw_iload_n d_R_field_5 rfl ?_
  refine aw_callVi (mc2 := 0) (ms2 := 0) (r := nI (FA B k i)) (As := [.int (nI k), .int (nI i)]) (rest := []) (c_I_fieldAt ⟨M.1, M.2.1, M.2.2.1, M.2.2.2.1, M.2.2.2.2.1, M.2.2.2.2.2.1, M.2.2.2.2.2.2⟩ V L hB_ hcc hpc k (by omega) i (by omega)) cv_R_113 d_R_field_6 M.1 rfl rfl rfl (Nat.le_of_ble_eq_true rfl) (by decide) (by decide) (by omega) (by omega) ?_
  have b_6 := FA_lt hB_ k i
  exact aw_iret d_R_field_9 rfl rfl ⟨rfl, rfl⟩

set_option maxHeartbeats 4000000 in
theorem c_R_field_ineg {tb : Nat → Nat} {h : AH} {im a0 a1 a2 a3 a4 a5 cc pc us iw wp cp : Nat} {B : Nat → Nat} {f0 f1 f2 f3 f4 f5 : Nat → Int32} (M : iS h im a0 a1 a2 a3 a4 a5 cc pc us (nn B) iw wp cp f0 f1 f2 f3 f4 f5) (V : IV B f0 f1 f2 f3 f4 f5 cc pc) (L : LX B) (hB_ : ∀ i, B i < 256) (hcc : cc ≤ 1048576) (hpc : pc ≤ 1048576) {r b x0 x1 x2 w p kp : Nat} (hrd : h r = some (.inr (0, [.ref b, .ref x0, .ref x1, .ref x2, .ref w, .ref p, .ref im, .ref kp]))) (k : Nat) (hk : k < 2147483648) (i : Int32) (hi : i < 0) : AM tb y_R_field b_R_field 3 (some .int) 2 44 [.ref r, .int (nI k), .int i] h 0 0 (av_Pi (nI 0) h) := by
  have nV_im := V.1
  have nL_im := L.1
  refine am_of (ini := false) [some (.ref r), some (.int (nI k)), some (.int i)] (by decide) (fun z => by cases z) (Nat.le_of_ble_eq_true rfl) rfl ?_
  refine aw_aload_n d_R_field_0 rfl ?_
  refine aw_get fl_R_43 d_R_field_1 hrd rfl ?_
  refine aw_iload_n d_R_field_4 rfl ?_
  refine aw_iload_n d_R_field_5 rfl ?_
  refine aw_callVi (mc2 := 0) (ms2 := 0) (r := nI 0) (As := [.int (nI k), .int i]) (rest := []) (c_I_fieldAt_ineg ⟨M.1, M.2.1, M.2.2.1, M.2.2.2.1, M.2.2.2.2.1, M.2.2.2.2.2.1, M.2.2.2.2.2.2⟩ V L hB_ hcc hpc k (by omega) i hi) cv_R_113 d_R_field_6 M.1 rfl rfl rfl (Nat.le_of_ble_eq_true rfl) (by decide) (by decide) (by omega) (by omega) ?_
  exact aw_iret d_R_field_9 rfl rfl ⟨rfl, rfl⟩

set_option maxHeartbeats 4000000 in
theorem c_R_field_neg {tb : Nat → Nat} {h : AH} {im a0 a1 a2 a3 a4 a5 cc pc us iw wp cp : Nat} {B : Nat → Nat} {f0 f1 f2 f3 f4 f5 : Nat → Int32} (M : iS h im a0 a1 a2 a3 a4 a5 cc pc us (nn B) iw wp cp f0 f1 f2 f3 f4 f5) (V : IV B f0 f1 f2 f3 f4 f5 cc pc) (L : LX B) (hB_ : ∀ i, B i < 256) (hcc : cc ≤ 1048576) (hpc : pc ≤ 1048576) {r b x0 x1 x2 w p kp : Nat} (hrd : h r = some (.inr (0, [.ref b, .ref x0, .ref x1, .ref x2, .ref w, .ref p, .ref im, .ref kp]))) (k : Int32) (hk : k < 0) (i : Int32) : AM tb y_R_field b_R_field 3 (some .int) 2 44 [.ref r, .int k, .int i] h 0 0 (av_Pi (nI 0) h) := by
  have nV_im := V.1
  have nL_im := L.1
  refine am_of (ini := false) [some (.ref r), some (.int k), some (.int i)] (by decide) (fun z => by cases z) (Nat.le_of_ble_eq_true rfl) rfl ?_
  refine aw_aload_n d_R_field_0 rfl ?_
  refine aw_get fl_R_43 d_R_field_1 hrd rfl ?_
  refine aw_iload_n d_R_field_4 rfl ?_
  refine aw_iload_n d_R_field_5 rfl ?_
  refine aw_callVi (mc2 := 0) (ms2 := 0) (r := nI 0) (As := [.int k, .int i]) (rest := []) (c_I_fieldAt_neg ⟨M.1, M.2.1, M.2.2.1, M.2.2.2.1, M.2.2.2.2.1, M.2.2.2.2.2.1, M.2.2.2.2.2.2⟩ V L hB_ hcc hpc k hk i) cv_R_113 d_R_field_6 M.1 rfl rfl rfl (Nat.le_of_ble_eq_true rfl) (by decide) (by decide) (by omega) (by omega) ?_
  exact aw_iret d_R_field_9 rfl rfl ⟨rfl, rfl⟩

set_option maxHeartbeats 4000000 in
theorem c_R_byteAt {tb : Nat → Nat} {h : AH} {im a0 a1 a2 a3 a4 a5 cc pc us iw wp cp : Nat} {B : Nat → Nat} {f0 f1 f2 f3 f4 f5 : Nat → Int32} (M : iS h im a0 a1 a2 a3 a4 a5 cc pc us (nn B) iw wp cp f0 f1 f2 f3 f4 f5) (V : IV B f0 f1 f2 f3 f4 f5 cc pc) (L : LX B) (hB_ : ∀ i, B i < 256) (hcc : cc ≤ 1048576) (hpc : pc ≤ 1048576) {r b x0 x1 x2 w p kp : Nat} (hrd : h r = some (.inr (0, [.ref b, .ref x0, .ref x1, .ref x2, .ref w, .ref p, .ref im, .ref kp]))) (k : Nat) (hk : k < 2147483648) (i : Nat) (hi : i < 2147483648) : AM tb y_R_byteAt b_R_byteAt 3 (some .int) 2 44 [.ref r, .int (nI k), .int (nI i)] h 0 0 (av_Pi (BA B k i) h) := by
  have nV_im := V.1
  have nL_im := L.1
  refine am_of (ini := false) [some (.ref r), some (.int (nI k)), some (.int (nI i))] (by decide) (fun z => by cases z) (Nat.le_of_ble_eq_true rfl) rfl ?_
  refine aw_aload_n d_R_byteAt_0 rfl ?_
  refine aw_get fl_R_43 d_R_byteAt_1 hrd rfl ?_
  refine aw_iload_n d_R_byteAt_4 rfl ?_
  refine aw_iload_n d_R_byteAt_5 rfl ?_
  refine aw_callVi (mc2 := 0) (ms2 := 0) (r := BA B k i) (As := [.int (nI k), .int (nI i)]) (rest := []) (c_I_bodyByteAt ⟨M.1, M.2.1, M.2.2.1, M.2.2.2.1, M.2.2.2.2.1, M.2.2.2.2.2.1, M.2.2.2.2.2.2⟩ V L hB_ hcc hpc k (by omega) i (by omega)) cv_R_117 d_R_byteAt_6 M.1 rfl rfl rfl (Nat.le_of_ble_eq_true rfl) (by decide) (by decide) (by omega) (by omega) ?_
  exact aw_iret d_R_byteAt_9 rfl rfl ⟨rfl, rfl⟩

set_option maxHeartbeats 4000000 in
theorem c_R_byteAt_ineg {tb : Nat → Nat} {h : AH} {im a0 a1 a2 a3 a4 a5 cc pc us iw wp cp : Nat} {B : Nat → Nat} {f0 f1 f2 f3 f4 f5 : Nat → Int32} (M : iS h im a0 a1 a2 a3 a4 a5 cc pc us (nn B) iw wp cp f0 f1 f2 f3 f4 f5) (V : IV B f0 f1 f2 f3 f4 f5 cc pc) (L : LX B) (hB_ : ∀ i, B i < 256) (hcc : cc ≤ 1048576) (hpc : pc ≤ 1048576) {r b x0 x1 x2 w p kp : Nat} (hrd : h r = some (.inr (0, [.ref b, .ref x0, .ref x1, .ref x2, .ref w, .ref p, .ref im, .ref kp]))) (k : Nat) (hk : k < 2147483648) (i : Int32) (hi : i < 0) : AM tb y_R_byteAt b_R_byteAt 3 (some .int) 2 44 [.ref r, .int (nI k), .int i] h 0 0 (av_Pi (-1) h) := by
  have nV_im := V.1
  have nL_im := L.1
  refine am_of (ini := false) [some (.ref r), some (.int (nI k)), some (.int i)] (by decide) (fun z => by cases z) (Nat.le_of_ble_eq_true rfl) rfl ?_
  refine aw_aload_n d_R_byteAt_0 rfl ?_
  refine aw_get fl_R_43 d_R_byteAt_1 hrd rfl ?_
  refine aw_iload_n d_R_byteAt_4 rfl ?_
  refine aw_iload_n d_R_byteAt_5 rfl ?_
  refine aw_callVi (mc2 := 0) (ms2 := 0) (r := (-1)) (As := [.int (nI k), .int i]) (rest := []) (c_I_bodyByteAt_ineg ⟨M.1, M.2.1, M.2.2.1, M.2.2.2.1, M.2.2.2.2.1, M.2.2.2.2.2.1, M.2.2.2.2.2.2⟩ V L hB_ hcc hpc k (by omega) i hi) cv_R_117 d_R_byteAt_6 M.1 rfl rfl rfl (Nat.le_of_ble_eq_true rfl) (by decide) (by decide) (by omega) (by omega) ?_
  exact aw_iret d_R_byteAt_9 rfl rfl ⟨rfl, rfl⟩

set_option maxHeartbeats 4000000 in
theorem c_R_byteAt_neg {tb : Nat → Nat} {h : AH} {im a0 a1 a2 a3 a4 a5 cc pc us iw wp cp : Nat} {B : Nat → Nat} {f0 f1 f2 f3 f4 f5 : Nat → Int32} (M : iS h im a0 a1 a2 a3 a4 a5 cc pc us (nn B) iw wp cp f0 f1 f2 f3 f4 f5) (V : IV B f0 f1 f2 f3 f4 f5 cc pc) (L : LX B) (hB_ : ∀ i, B i < 256) (hcc : cc ≤ 1048576) (hpc : pc ≤ 1048576) {r b x0 x1 x2 w p kp : Nat} (hrd : h r = some (.inr (0, [.ref b, .ref x0, .ref x1, .ref x2, .ref w, .ref p, .ref im, .ref kp]))) (k : Int32) (hk : k < 0) (i : Int32) : AM tb y_R_byteAt b_R_byteAt 3 (some .int) 2 44 [.ref r, .int k, .int i] h 0 0 (av_Pi (-1) h) := by
  have nV_im := V.1
  have nL_im := L.1
  refine am_of (ini := false) [some (.ref r), some (.int k), some (.int i)] (by decide) (fun z => by cases z) (Nat.le_of_ble_eq_true rfl) rfl ?_
  refine aw_aload_n d_R_byteAt_0 rfl ?_
  refine aw_get fl_R_43 d_R_byteAt_1 hrd rfl ?_
  refine aw_iload_n d_R_byteAt_4 rfl ?_
  refine aw_iload_n d_R_byteAt_5 rfl ?_
  refine aw_callVi (mc2 := 0) (ms2 := 0) (r := (-1)) (As := [.int k, .int i]) (rest := []) (c_I_bodyByteAt_neg ⟨M.1, M.2.1, M.2.2.1, M.2.2.2.1, M.2.2.2.2.1, M.2.2.2.2.2.1, M.2.2.2.2.2.2⟩ V L hB_ hcc hpc k hk i) cv_R_117 d_R_byteAt_6 M.1 rfl rfl rfl (Nat.le_of_ble_eq_true rfl) (by decide) (by decide) (by omega) (by omega) ?_
  exact aw_iret d_R_byteAt_9 rfl rfl ⟨rfl, rfl⟩

set_option maxHeartbeats 4000000 in
theorem c_R_came {tb : Nat → Nat} {h : AH} {b ro cap c : Nat} {G B : Nat → Nat} (hG : ∀ i, G i < 256) (hB_ : ∀ i, B i < 256) (hW : ∀ i, i < c → G i = B i) (hb : h b = some (.inr (1, [.ref ro, .int (nI c)]))) (hr : h ro = some (.inl (1, cap, .inl (bsf G)))) (hc : c ≤ cap) (hcap : cap ≤ 1048576) {r x0 x1 x2 w p hd kp : Nat} (hrd : h r = some (.inr (0, [.ref b, .ref x0, .ref x1, .ref x2, .ref w, .ref p, .ref hd, .ref kp]))) (k : Nat) (hk : k < c) : AM tb y_R_came b_R_came 2 (some .int) 1 21 [.ref r, .int (nI k)] h 0 0 (av_Pi (nI (B k)) h) := by
  refine am_of (ini := false) [some (.ref r), some (.int (nI k))] (by decide) (fun z => by cases z) (Nat.le_of_ble_eq_true rfl) rfl ?_
  refine aw_aload_n d_R_came_0 rfl ?_
  refine aw_get fl_R_10 d_R_came_1 hrd rfl ?_
  refine aw_iload_n d_R_came_4 rfl ?_
  refine aw_callVi (mc2 := 0) (ms2 := 0) (r := nI (B k)) (As := [.int (nI k)]) (rest := []) (c_B_at hG hB_ hW hb hr hc hcap k (by omega)) cv_R_70 d_R_came_5 hb rfl rfl rfl (Nat.le_of_ble_eq_true rfl) (by decide) (by decide) (by omega) (by omega) ?_
  have b_5 := hB_ k
  exact aw_iret d_R_came_8 rfl rfl ⟨rfl, rfl⟩

set_option maxHeartbeats 4000000 in
theorem c_R_came_out {tb : Nat → Nat} {h : AH} {b ro cap c : Nat} {G B : Nat → Nat} (hG : ∀ i, G i < 256) (hB_ : ∀ i, B i < 256) (hW : ∀ i, i < c → G i = B i) (hb : h b = some (.inr (1, [.ref ro, .int (nI c)]))) (hr : h ro = some (.inl (1, cap, .inl (bsf G)))) (hc : c ≤ cap) (hcap : cap ≤ 1048576) {r x0 x1 x2 w p hd kp : Nat} (hrd : h r = some (.inr (0, [.ref b, .ref x0, .ref x1, .ref x2, .ref w, .ref p, .ref hd, .ref kp]))) (k : Nat) (hk : c ≤ k) (hk2 : k < 2147483648) : AM tb y_R_came b_R_came 2 (some .int) 1 21 [.ref r, .int (nI k)] h 0 0 (av_Pi (-1) h) := by
  refine am_of (ini := false) [some (.ref r), some (.int (nI k))] (by decide) (fun z => by cases z) (Nat.le_of_ble_eq_true rfl) rfl ?_
  refine aw_aload_n d_R_came_0 rfl ?_
  refine aw_get fl_R_10 d_R_came_1 hrd rfl ?_
  refine aw_iload_n d_R_came_4 rfl ?_
  refine aw_callVi (mc2 := 0) (ms2 := 0) (r := (-1)) (As := [.int (nI k)]) (rest := []) (c_B_at_out hG hB_ hW hb hr hc hcap k (by omega) (by omega)) cv_R_70 d_R_came_5 hb rfl rfl rfl (Nat.le_of_ble_eq_true rfl) (by decide) (by decide) (by omega) (by omega) ?_
  exact aw_iret d_R_came_8 rfl rfl ⟨rfl, rfl⟩

set_option maxHeartbeats 4000000 in
theorem c_R_came_neg {tb : Nat → Nat} {h : AH} {b ro cap c : Nat} {G B : Nat → Nat} (hG : ∀ i, G i < 256) (hB_ : ∀ i, B i < 256) (hW : ∀ i, i < c → G i = B i) (hb : h b = some (.inr (1, [.ref ro, .int (nI c)]))) (hr : h ro = some (.inl (1, cap, .inl (bsf G)))) (hc : c ≤ cap) (hcap : cap ≤ 1048576) {r x0 x1 x2 w p hd kp : Nat} (hrd : h r = some (.inr (0, [.ref b, .ref x0, .ref x1, .ref x2, .ref w, .ref p, .ref hd, .ref kp]))) (k : Int32) (hk : k < 0) : AM tb y_R_came b_R_came 2 (some .int) 1 21 [.ref r, .int k] h 0 0 (av_Pi (-1) h) := by
  refine am_of (ini := false) [some (.ref r), some (.int k)] (by decide) (fun z => by cases z) (Nat.le_of_ble_eq_true rfl) rfl ?_
  refine aw_aload_n d_R_came_0 rfl ?_
  refine aw_get fl_R_10 d_R_came_1 hrd rfl ?_
  refine aw_iload_n d_R_came_4 rfl ?_
  refine aw_callVi (mc2 := 0) (ms2 := 0) (r := (-1)) (As := [.int k]) (rest := []) (c_B_at_neg hG hB_ hW hb hr hc hcap k hk) cv_R_70 d_R_came_5 hb rfl rfl rfl (Nat.le_of_ble_eq_true rfl) (by decide) (by decide) (by omega) (by omega) ?_
  exact aw_iret d_R_came_8 rfl rfl ⟨rfl, rfl⟩

set_option maxHeartbeats 4000000 in
theorem c_R_change {tb : Nat → Nat} {h : AH} {b ro cap c : Nat} {G B : Nat → Nat} (hG : ∀ i, G i < 256) (hB_ : ∀ i, B i < 256) (hW : ∀ i, i < c → G i = B i) (hb : h b = some (.inr (1, [.ref ro, .int (nI c)]))) (hr : h ro = some (.inl (1, cap, .inl (bsf G)))) (hc : c ≤ cap) (hcap : cap ≤ 1048576) {r x0 x1 x2 w p hd kp : Nat} (hrd : h r = some (.inr (0, [.ref b, .ref x0, .ref x1, .ref x2, .ref w, .ref p, .ref hd, .ref kp]))) (k : Nat) (hk : k < c) (j : Nat) (hj : j < 2147483648) : AM tb y_R_change b_R_change 4 (some .int) 1 21 [.ref r, .int (nI k), .int (nI j)] h 0 0 (fun v h' => (j ≤ 255 → v = some (.int (nI (B k))) ∧ h' = av_up h ro (.inl (1, cap, .inl (bsf (uB G k j))))) ∧ (255 < j → v = some (.int (-1)) ∧ h' = h)) := by
  refine am_of (ini := false) [some (.ref r), some (.int (nI k)), some (.int (nI j)), none] (by decide) (fun z => by cases z) (Nat.le_of_ble_eq_true rfl) rfl ?_
  refine aw_aload_n d_R_change_0 rfl ?_
  refine aw_get fl_R_10 d_R_change_1 hrd rfl ?_
  refine aw_iload_n d_R_change_4 rfl ?_
  refine aw_callVi (mc2 := 0) (ms2 := 0) (r := nI (B k)) (As := [.int (nI k)]) (rest := []) (c_B_at hG hB_ hW hb hr hc hcap k (by omega)) cv_R_70 d_R_change_5 hb rfl rfl rfl (Nat.le_of_ble_eq_true rfl) (by decide) (by decide) (by omega) (by omega) ?_
  have b_5 := hB_ k
  refine aw_istore_n (L' := [some (.ref r), some (.int (nI k)), some (.int (nI j)), some (.int (nI (B k)))]) d_R_change_8 (by decide) rfl rfl ?_
  refine aw_iload_n d_R_change_9 rfl ?_
  refine aw_iconst (v := (-1)) d_R_change_10 (by decide) ?_
  refine aw_icmp_eq (tgt := 25) d_R_change_11 (by decide) (fun c_11 => absurd c_11 (by exact nI_m1 (by omega))) (fun c_11 => ?_)
  refine aw_iload_n d_R_change_14 rfl ?_
  refine aw_if_lt (tgt := 25) d_R_change_15 (by decide) (fun c_15 => absurd c_15 (nI_pos (by omega))) (fun _ => ?_)
  refine aw_iload_n d_R_change_18 rfl ?_
  refine aw_sipush (v := nI 255) d_R_change_19 (by decide) ?_
  refine aw_icmp_le (tgt := 27) d_R_change_22 (by decide) (fun c_22 => ?_) (fun c_22 => ?_)
  · rw [nI_leI (by omega) (by omega)] at c_22
    refine aw_aload_n d_R_change_27 rfl ?_
    refine aw_get fl_R_10 d_R_change_28 hrd rfl ?_
    refine aw_get fl_R_74 d_R_change_31 hb rfl ?_
    refine aw_iload_n d_R_change_34 rfl ?_
    refine aw_iload_n d_R_change_35 rfl ?_
    refine aw_i2b (v := bs j) d_R_change_36 (by rw [bs_nI, Nat.mod_eq_of_lt (by omega)]) ?_
    refine aw_bast (f' := bsf (uB G k j)) d_R_change_37 hr (vp_in_nI (by omega) (by omega)) (by rw [nI_clamp (by omega)]; exact uB_upd _ _ _) ?_
    obtain ⟨k_1, e_k_1⟩ : ∃ z, z = av_up h ro (.inl (1, cap, .inl (bsf (uB G k j)))) := ⟨_, rfl⟩
    refine aw_heap (h' := k_1) e_k_1.symm ?_
    have g1_b : k_1 b = some (.inr (1, [.ref ro, .int (nI c)])) := by rw [e_k_1, av_up_ne (av_apart' hb hr)]; exact hb
    have g1_r : k_1 r = some (.inr (0, [.ref b, .ref x0, .ref x1, .ref x2, .ref w, .ref p, .ref hd, .ref kp])) := by rw [e_k_1, av_up_ne (av_apart' hrd hr)]; exact hrd
    have g1_ro : k_1 ro = some (.inl (1, cap, .inl (bsf (uB G k j)))) := by rw [e_k_1]; exact av_up_self _ _ _
    refine aw_iload_n d_R_change_38 rfl ?_
    exact aw_iret d_R_change_39 rfl rfl ⟨fun _ => ⟨rfl, by rw [e_k_1]⟩, fun z => absurd z (by omega)⟩
  · rw [nI_leI (by omega) (by omega)] at c_22
    refine aw_iconst (v := (-1)) d_R_change_25 (by decide) ?_
    exact aw_iret d_R_change_26 rfl rfl ⟨fun z => absurd z (by omega), fun _ => ⟨rfl, rfl⟩⟩

set_option maxHeartbeats 4000000 in
theorem c_R_change_jneg {tb : Nat → Nat} {h : AH} {b ro cap c : Nat} {G B : Nat → Nat} (hG : ∀ i, G i < 256) (hB_ : ∀ i, B i < 256) (hW : ∀ i, i < c → G i = B i) (hb : h b = some (.inr (1, [.ref ro, .int (nI c)]))) (hr : h ro = some (.inl (1, cap, .inl (bsf G)))) (hc : c ≤ cap) (hcap : cap ≤ 1048576) {r x0 x1 x2 w p hd kp : Nat} (hrd : h r = some (.inr (0, [.ref b, .ref x0, .ref x1, .ref x2, .ref w, .ref p, .ref hd, .ref kp]))) (k : Nat) (hk : k < c) (j : Int32) (hj : j < 0) : AM tb y_R_change b_R_change 4 (some .int) 1 21 [.ref r, .int (nI k), .int j] h 0 0 (av_Pi (-1) h) := by
  refine am_of (ini := false) [some (.ref r), some (.int (nI k)), some (.int j), none] (by decide) (fun z => by cases z) (Nat.le_of_ble_eq_true rfl) rfl ?_
  refine aw_aload_n d_R_change_0 rfl ?_
  refine aw_get fl_R_10 d_R_change_1 hrd rfl ?_
  refine aw_iload_n d_R_change_4 rfl ?_
  refine aw_callVi (mc2 := 0) (ms2 := 0) (r := nI (B k)) (As := [.int (nI k)]) (rest := []) (c_B_at hG hB_ hW hb hr hc hcap k (by omega)) cv_R_70 d_R_change_5 hb rfl rfl rfl (Nat.le_of_ble_eq_true rfl) (by decide) (by decide) (by omega) (by omega) ?_
  have b_5 := hB_ k
  refine aw_istore_n (L' := [some (.ref r), some (.int (nI k)), some (.int j), some (.int (nI (B k)))]) d_R_change_8 (by decide) rfl rfl ?_
  refine aw_iload_n d_R_change_9 rfl ?_
  refine aw_iconst (v := (-1)) d_R_change_10 (by decide) ?_
  refine aw_icmp_eq (tgt := 25) d_R_change_11 (by decide) (fun c_11 => absurd c_11 (by exact nI_m1 (by omega))) (fun c_11 => ?_)
  refine aw_iload_n d_R_change_14 rfl ?_
  refine aw_if_lt (tgt := 25) d_R_change_15 (by decide) (fun c_15 => ?_) (fun c_15 => absurd c_15 (by exact fun z => z hj))
  refine aw_iconst (v := (-1)) d_R_change_25 (by decide) ?_
  exact aw_iret d_R_change_26 rfl rfl ⟨rfl, rfl⟩

set_option maxHeartbeats 4000000 in
theorem c_R_change_out {tb : Nat → Nat} {h : AH} {b ro cap c : Nat} {G B : Nat → Nat} (hG : ∀ i, G i < 256) (hB_ : ∀ i, B i < 256) (hW : ∀ i, i < c → G i = B i) (hb : h b = some (.inr (1, [.ref ro, .int (nI c)]))) (hr : h ro = some (.inl (1, cap, .inl (bsf G)))) (hc : c ≤ cap) (hcap : cap ≤ 1048576) {r x0 x1 x2 w p hd kp : Nat} (hrd : h r = some (.inr (0, [.ref b, .ref x0, .ref x1, .ref x2, .ref w, .ref p, .ref hd, .ref kp]))) (k : Nat) (hk : c ≤ k) (hk2 : k < 2147483648) (j : Int32) : AM tb y_R_change b_R_change 4 (some .int) 1 21 [.ref r, .int (nI k), .int j] h 0 0 (av_Pi (-1) h) := by
  refine am_of (ini := false) [some (.ref r), some (.int (nI k)), some (.int j), none] (by decide) (fun z => by cases z) (Nat.le_of_ble_eq_true rfl) rfl ?_
  refine aw_aload_n d_R_change_0 rfl ?_
  refine aw_get fl_R_10 d_R_change_1 hrd rfl ?_
  refine aw_iload_n d_R_change_4 rfl ?_
  refine aw_callVi (mc2 := 0) (ms2 := 0) (r := (-1)) (As := [.int (nI k)]) (rest := []) (c_B_at_out hG hB_ hW hb hr hc hcap k (by omega) (by omega)) cv_R_70 d_R_change_5 hb rfl rfl rfl (Nat.le_of_ble_eq_true rfl) (by decide) (by decide) (by omega) (by omega) ?_
  refine aw_istore_n (L' := [some (.ref r), some (.int (nI k)), some (.int j), some (.int (-1))]) d_R_change_8 (by decide) rfl rfl ?_
  refine aw_iload_n d_R_change_9 rfl ?_
  refine aw_iconst (v := (-1)) d_R_change_10 (by decide) ?_
  refine aw_icmp_eq (tgt := 25) d_R_change_11 (by decide) (fun c_11 => ?_) (fun c_11 => absurd c_11 (by exact fun z => z rfl))
  refine aw_iconst (v := (-1)) d_R_change_25 (by decide) ?_
  exact aw_iret d_R_change_26 rfl rfl ⟨rfl, rfl⟩

set_option maxHeartbeats 4000000 in
theorem c_R_change_neg {tb : Nat → Nat} {h : AH} {b ro cap c : Nat} {G B : Nat → Nat} (hG : ∀ i, G i < 256) (hB_ : ∀ i, B i < 256) (hW : ∀ i, i < c → G i = B i) (hb : h b = some (.inr (1, [.ref ro, .int (nI c)]))) (hr : h ro = some (.inl (1, cap, .inl (bsf G)))) (hc : c ≤ cap) (hcap : cap ≤ 1048576) {r x0 x1 x2 w p hd kp : Nat} (hrd : h r = some (.inr (0, [.ref b, .ref x0, .ref x1, .ref x2, .ref w, .ref p, .ref hd, .ref kp]))) (k : Int32) (hk : k < 0) (j : Int32) : AM tb y_R_change b_R_change 4 (some .int) 1 21 [.ref r, .int k, .int j] h 0 0 (av_Pi (-1) h) := by
  refine am_of (ini := false) [some (.ref r), some (.int k), some (.int j), none] (by decide) (fun z => by cases z) (Nat.le_of_ble_eq_true rfl) rfl ?_
  refine aw_aload_n d_R_change_0 rfl ?_
  refine aw_get fl_R_10 d_R_change_1 hrd rfl ?_
  refine aw_iload_n d_R_change_4 rfl ?_
  refine aw_callVi (mc2 := 0) (ms2 := 0) (r := (-1)) (As := [.int k]) (rest := []) (c_B_at_neg hG hB_ hW hb hr hc hcap k hk) cv_R_70 d_R_change_5 hb rfl rfl rfl (Nat.le_of_ble_eq_true rfl) (by decide) (by decide) (by omega) (by omega) ?_
  refine aw_istore_n (L' := [some (.ref r), some (.int k), some (.int j), some (.int (-1))]) d_R_change_8 (by decide) rfl rfl ?_
  refine aw_iload_n d_R_change_9 rfl ?_
  refine aw_iconst (v := (-1)) d_R_change_10 (by decide) ?_
  refine aw_icmp_eq (tgt := 25) d_R_change_11 (by decide) (fun c_11 => ?_) (fun c_11 => absurd c_11 (by exact fun z => z rfl))
  refine aw_iconst (v := (-1)) d_R_change_25 (by decide) ?_
  exact aw_iret d_R_change_26 rfl rfl ⟨rfl, rfl⟩

set_option maxHeartbeats 4000000 in
theorem c_R_end {tb : Nat → Nat} {h : AH} {b ro cap c : Nat} {G B : Nat → Nat} (hG : ∀ i, G i < 256) (hB_ : ∀ i, B i < 256) (hW : ∀ i, i < c → G i = B i) (hb : h b = some (.inr (1, [.ref ro, .int (nI c)]))) (hr : h ro = some (.inl (1, cap, .inl (bsf G)))) (hc : c ≤ cap) (hcap : cap ≤ 1048576) {r x0 x1 x2 w p hd kp : Nat} (hrd : h r = some (.inr (0, [.ref b, .ref x0, .ref x1, .ref x2, .ref w, .ref p, .ref hd, .ref kp]))) (k : Nat) (hk : k ≤ c) : AM tb y_R_end b_R_end 3 (some .int) 0 0 [.ref r, .int (nI k)] h 0 0 (fun v h' => v = some (.int (nI c)) ∧ h' = av_up h b (.inr (1, [.ref ro, .int (nI k)]))) := by
  refine am_of (ini := false) [some (.ref r), some (.int (nI k)), none] (by decide) (fun z => by cases z) (Nat.le_of_ble_eq_true rfl) rfl ?_
  refine aw_iload_n d_R_end_0 rfl ?_
  refine aw_if_lt (tgt := 15) d_R_end_1 (by decide) (fun c_1 => absurd c_1 (nI_pos (by omega))) (fun _ => ?_)
  refine aw_iload_n d_R_end_4 rfl ?_
  refine aw_aload_n d_R_end_5 rfl ?_
  refine aw_get fl_R_10 d_R_end_6 hrd rfl ?_
  refine aw_get fl_R_49 d_R_end_9 hb rfl ?_
  refine aw_icmp_le (tgt := 25) d_R_end_12 (by decide) (fun c_12 => ?_) (fun c_12 => absurd c_12 (by rw [nI_leI (by omega) (by omega)]; omega))
  try rw [nI_leI (by omega) (by omega)] at c_12
  refine aw_aload_n d_R_end_25 rfl ?_
  refine aw_get fl_R_10 d_R_end_26 hrd rfl ?_
  refine aw_get fl_R_49 d_R_end_29 hb rfl ?_
  refine aw_istore_n (L' := [some (.ref r), some (.int (nI k)), some (.int (nI c))]) d_R_end_32 (by decide) rfl rfl ?_
  refine aw_aload_n d_R_end_33 rfl ?_
  refine aw_get fl_R_10 d_R_end_34 hrd rfl ?_
  refine aw_iload_n d_R_end_37 rfl ?_
  refine aw_put (fs' := [.ref ro, .int (nI k)]) (pt_R_49 _) d_R_end_38 hb rfl rfl (by simp) rfl ?_
  obtain ⟨k_1, e_k_1⟩ : ∃ z, z = av_up h b (.inr (1, [.ref ro, .int (nI k)])) := ⟨_, rfl⟩
  refine aw_heap (h' := k_1) e_k_1.symm ?_
  have g1_ro : k_1 ro = some (.inl (1, cap, .inl (bsf G))) := by rw [e_k_1, av_up_ne (av_apart hr hb)]; exact hr
  have g1_r : k_1 r = some (.inr (0, [.ref b, .ref x0, .ref x1, .ref x2, .ref w, .ref p, .ref hd, .ref kp])) := by rw [e_k_1, av_up_ne (av_apO hrd hb (by decide))]; exact hrd
  have g1_b : k_1 b = some (.inr (1, [.ref ro, .int (nI k)])) := by rw [e_k_1]; exact av_up_self _ _ _
  refine aw_iload_n d_R_end_41 rfl ?_
  exact aw_iret d_R_end_42 rfl rfl ⟨rfl, by rw [e_k_1]⟩

set_option maxHeartbeats 4000000 in
theorem c_R_keep {tb : Nat → Nat} {h : AH} {im a0 a1 a2 a3 a4 a5 cc pc us iw wp cp : Nat} {B : Nat → Nat} {f0 f1 f2 f3 f4 f5 : Nat → Int32} (M : iS h im a0 a1 a2 a3 a4 a5 cc pc us (nn B) iw wp cp f0 f1 f2 f3 f4 f5) (V : IV B f0 f1 f2 f3 f4 f5 cc pc) (L : LX B) (hB_ : ∀ i, B i < 256) (hcc : cc ≤ 1048576) (hpc : pc ≤ 1048576) {r b x0 x1 x2 w p kp : Nat} (hrd : h r = some (.inr (0, [.ref b, .ref x0, .ref x1, .ref x2, .ref w, .ref p, .ref im, .ref kp]))) : AM tb y_R_keep b_R_keep 1 (some .boolean) 0 0 [.ref r] h 0 0 (fun v h' => v = some (.int (bP (0 < nn B))) ∧ (nn B = 0 → h' = h) ∧ (0 < nn B → h' = av_up h r (.inr (0, [.ref b, .ref x0, .ref x1, .ref x2, .ref w, .ref p, .ref im, .ref im])))) := by
  have nV_im := V.1
  have nL_im := L.1
  refine am_of (ini := false) [some (.ref r)] (by decide) (fun z => by cases z) (Nat.le_of_ble_eq_true rfl) rfl ?_
  refine aw_aload_n d_R_keep_0 rfl ?_
  refine aw_get fl_R_43 d_R_keep_1 hrd rfl ?_
  refine aw_get fl_R_86 d_R_keep_4 M.1 rfl ?_
  refine aw_if_ne (tgt := 12) d_R_keep_7 (by decide) (fun c_7 => ?_) (fun c_7 => ?_)
  · rw [w_eq0 (by omega)] at c_7
    refine aw_aload_n d_R_keep_12 rfl ?_
    refine aw_aload_n d_R_keep_13 rfl ?_
    refine aw_get fl_R_43 d_R_keep_14 hrd rfl ?_
    refine aw_put (fs' := [.ref b, .ref x0, .ref x1, .ref x2, .ref w, .ref p, .ref im, .ref im]) (pt_R_46 _) d_R_keep_17 hrd rfl rfl (by simp) rfl ?_
    obtain ⟨k_1, e_k_1⟩ : ∃ z, z = av_up h r (.inr (0, [.ref b, .ref x0, .ref x1, .ref x2, .ref w, .ref p, .ref im, .ref im])) := ⟨_, rfl⟩
    refine aw_heap (h' := k_1) e_k_1.symm ?_
    have g1_im : k_1 im = some (.inr (2, [.ref a0, .ref a1, .ref a2, .ref a3, .ref a4, .ref a5, .int (nI us), .int (nI (nn B)), .int (nI iw), .int (nI wp), .int (nI cp)])) := by rw [e_k_1, av_up_ne (av_apO M.1 hrd (by decide))]; exact M.1
    have g1_a0 : k_1 a0 = some (.inl (0, 50, .inl f0)) := by rw [e_k_1, av_up_ne (av_apart M.2.1 hrd)]; exact M.2.1
    have g1_a1 : k_1 a1 = some (.inl (0, cc, .inl f1)) := by rw [e_k_1, av_up_ne (av_apart M.2.2.1 hrd)]; exact M.2.2.1
    have g1_a2 : k_1 a2 = some (.inl (0, cc, .inl f2)) := by rw [e_k_1, av_up_ne (av_apart M.2.2.2.1 hrd)]; exact M.2.2.2.1
    have g1_a3 : k_1 a3 = some (.inl (0, cc, .inl f3)) := by rw [e_k_1, av_up_ne (av_apart M.2.2.2.2.1 hrd)]; exact M.2.2.2.2.1
    have g1_a4 : k_1 a4 = some (.inl (0, cc, .inl f4)) := by rw [e_k_1, av_up_ne (av_apart M.2.2.2.2.2.1 hrd)]; exact M.2.2.2.2.2.1
    have g1_a5 : k_1 a5 = some (.inl (0, pc, .inl f5)) := by rw [e_k_1, av_up_ne (av_apart M.2.2.2.2.2.2 hrd)]; exact M.2.2.2.2.2.2
    have g1_r : k_1 r = some (.inr (0, [.ref b, .ref x0, .ref x1, .ref x2, .ref w, .ref p, .ref im, .ref im])) := by rw [e_k_1]; exact av_up_self _ _ _
    refine aw_iconst (v := nI 1) d_R_keep_20 (by decide) ?_
    exact aw_iret d_R_keep_21 rfl nar1 ⟨by rw [bP_t (by omega)], fun z => absurd z (by omega), fun _ => by rw [e_k_1]⟩
  · rw [w_eq0 (by omega)] at c_7
    refine aw_iconst (v := nI 0) d_R_keep_10 (by decide) ?_
    exact aw_iret d_R_keep_11 rfl nar0 ⟨by rw [bP_f (by omega)], fun _ => rfl, fun z => absurd z (by omega)⟩

set_option maxHeartbeats 4000000 in
theorem c_R_reachable {tb : Nat → Nat} {h : AH} {im a0 a1 a2 a3 a4 a5 cc pc us iw wp cp : Nat} {B : Nat → Nat} {f0 f1 f2 f3 f4 f5 : Nat → Int32} (M : iS h im a0 a1 a2 a3 a4 a5 cc pc us (nn B) iw wp cp f0 f1 f2 f3 f4 f5) (V : IV B f0 f1 f2 f3 f4 f5 cc pc) (L : LX B) (hB_ : ∀ i, B i < 256) (hcc : cc ≤ 1048576) (hpc : pc ≤ 1048576) {r b x0 x1 x2 w p kp : Nat} (hrd : h r = some (.inr (0, [.ref b, .ref x0, .ref x1, .ref x2, .ref w, .ref p, .ref im, .ref kp]))) {nu0 qu0 wl mn0 : Nat} {fn0 fq0 : Nat → Int32} (Mw0 : wkS h w nu0 qu0 wl mn0 fn0 fq0) (hnq0 : nu0 ≠ qu0) (NW0 : ∀ x ∈ [w, nu0, qu0], x ∉ [im, a0, a1, a2, a3, a4, a5]) (h64 : P64 wl) (hc64 : P64 cc) (hcc2 : cc ≤ 524288) (hwl0 : wl ≤ 524288) : AM tb y_R_reachable b_R_reachable 1 (some .int) 3 69 [.ref r] h (max wl cc - wl) (4 * (max wl cc - wl)) (fun v h' => v = some (.int (nI (vfin B).2.2)) ∧ ∃ nu qu fn' fq', wkS h' w nu qu (max wl cc) (vfin B).2.2 fn' fq' ∧ RX (nn B) (vfin B) fn' fq' (vfin B).2.2 ∧ nu ≠ qu ∧ frm [w, nu0, qu0] [w, nu, qu] h h') := by
  have nV_im := V.1
  have nL_im := L.1
  refine am_of (ini := false) [some (.ref r)] (by decide) (fun z => by cases z) (Nat.le_of_ble_eq_true rfl) rfl ?_
  refine aw_aload_n d_R_reachable_0 rfl ?_
  refine aw_get fl_R_32 d_R_reachable_1 hrd rfl ?_
  refine aw_aload_n d_R_reachable_4 rfl ?_
  refine aw_get fl_R_43 d_R_reachable_5 hrd rfl ?_
  refine aw_callV (mc2 := 0) (ms2 := 0) (As := [.ref im]) (rest := []) (c_W_reach ⟨M.1, M.2.1, M.2.2.1, M.2.2.2.1, M.2.2.2.2.1, M.2.2.2.2.2.1, M.2.2.2.2.2.2⟩ V L hB_ hcc hpc Mw0 hnq0 NW0 h64 hc64 hcc2 hwl0) cv_R_120 d_R_reachable_8 Mw0.1 rfl rfl rfl (Nat.le_of_ble_eq_true rfl) (by decide) (by decide) (by omega) (by omega) (fun v_8 k_8c q_8 => ?_)
  obtain ⟨y1, nu, qu, fn, fq, Mw, hRX, hnq, T0⟩ := q_8
  refine aw_st (st' := .int (nI (vfin B).2.2) :: []) (by rw [y1]; rfl) ?_
  exact aw_iret d_R_reachable_11 rfl rfl ⟨rfl, nu, qu, fn, fq, Mw, hRX, hnq, T0⟩

set_option maxHeartbeats 4000000 in
theorem c_R_same {tb : Nat → Nat} {h : AH} {im a0 a1 a2 a3 a4 a5 cc pc us iw wp cp : Nat} {B : Nat → Nat} {f0 f1 f2 f3 f4 f5 : Nat → Int32} (M : iS h im a0 a1 a2 a3 a4 a5 cc pc us (nn B) iw wp cp f0 f1 f2 f3 f4 f5) (V : IV B f0 f1 f2 f3 f4 f5 cc pc) (L : LX B) (hB_ : ∀ i, B i < 256) (hcc : cc ≤ 1048576) (hpc : pc ≤ 1048576) {jm c0 c1 c2 c3 c4 c5 dc dq du jw wq cq : Nat} {D : Nat → Nat} {e0 e1 e2 e3 e4 e5 : Nat → Int32} (M2 : iS h jm c0 c1 c2 c3 c4 c5 dc dq du (nn D) jw wq cq e0 e1 e2 e3 e4 e5) (V2 : IV D e0 e1 e2 e3 e4 e5 dc dq) (L2 : LX D) (hD_ : ∀ i, D i < 256) (hdc : dc ≤ 1048576) (hdq : dq ≤ 1048576) {r b x0 x1 x2 w p : Nat} (hrd : h r = some (.inr (0, [.ref b, .ref x0, .ref x1, .ref x2, .ref w, .ref p, .ref im, .ref jm]))) {pa0 pb0 pq0 pl mn0 : Nat} {fn0 fb0 fq0 : Nat → Int32} (Mp0 : pkS h p pa0 pb0 pq0 pl mn0 fn0 fb0 fq0) (Dp0 : pND pa0 pb0 pq0) (NI0 : ∀ x ∈ [p, pa0, pb0, pq0], x ∉ [im, a0, a1, a2, a3, a4, a5]) (NJ0 : ∀ x ∈ [p, pa0, pb0, pq0], x ∉ [jm, c0, c1, c2, c3, c4, c5]) (h64 : P64 pl) (hc64 : P64 cc) (hd64 : P64 dc) (hcc2 : cc ≤ 524288) (hdc2 : dc ≤ 524288) (hpl0 : pl ≤ 524288) (hw1 : wp < 256) (hw2 : wq < 256) (hw3 : cp < 256) (hw4 : cq < 256) (rm : Nat) (hrm : isMx rm cc dc) (hr64 : P64 rm) (hrb : rm ≤ 524288) (hr1 : cc ≤ rm) (hr2 : dc ≤ rm) (n1 : ¬ nn B = 0) (n2 : ¬ nn D = 0) : AM tb y_R_same b_R_same 1 (some .boolean) 5 119 [.ref r] h (max pl rm - pl) (6 * (max pl rm - pl)) (fun v h' => v = some (.int (bP (¬ nn B = 0 ∧ ¬ nn D = 0 ∧ wp = wq ∧ cp = cq ∧ gfin B D = true))) ∧ ∃ pa pb pq fn' fb' fq' mn', pkS h' p pa pb pq (max pl rm) mn' fn' fb' fq' ∧ pND pa pb pq ∧ frm [p, pa0, pb0, pq0] [p, pa, pb, pq] h h') := by
  have nV_im := V.1
  have nL_im := L.1
  have nV_jm := V2.1
  have nL_jm := L2.1
  refine am_of (ini := false) [some (.ref r)] (by decide) (fun z => by cases z) (Nat.le_of_ble_eq_true rfl) rfl ?_
  refine aw_aload_n d_R_same_0 rfl ?_
  refine aw_get fl_R_43 d_R_same_1 hrd rfl ?_
  refine aw_get fl_R_86 d_R_same_4 M.1 rfl ?_
  refine aw_if_eq (tgt := 42) d_R_same_7 (by decide) (fun c_7 => absurd c_7 (by rw [w_eq0 (by omega)]; exact n1)) (fun c_7 => ?_)
  try rw [w_eq0 (by omega)] at c_7
  refine aw_aload_n d_R_same_10 rfl ?_
  refine aw_get fl_R_46 d_R_same_11 hrd rfl ?_
  refine aw_get fl_R_86 d_R_same_14 M2.1 rfl ?_
  refine aw_if_eq (tgt := 42) d_R_same_17 (by decide) (fun c_17 => absurd c_17 (by rw [w_eq0 (by omega)]; exact n2)) (fun c_17 => ?_)
  try rw [w_eq0 (by omega)] at c_17
  refine aw_aload_n d_R_same_20 rfl ?_
  refine aw_get fl_R_39 d_R_same_21 hrd rfl ?_
  refine aw_aload_n d_R_same_24 rfl ?_
  refine aw_get fl_R_43 d_R_same_25 hrd rfl ?_
  refine aw_aload_n d_R_same_28 rfl ?_
  refine aw_get fl_R_46 d_R_same_29 hrd rfl ?_
  refine aw_callV (mc2 := 0) (ms2 := 0) (As := [.ref im, .ref jm]) (rest := []) (c_P_pairs ⟨M.1, M.2.1, M.2.2.1, M.2.2.2.1, M.2.2.2.2.1, M.2.2.2.2.2.1, M.2.2.2.2.2.2⟩ V L hB_ hcc hpc ⟨M2.1, M2.2.1, M2.2.2.1, M2.2.2.2.1, M2.2.2.2.2.1, M2.2.2.2.2.2.1, M2.2.2.2.2.2.2⟩ V2 L2 hD_ hdc hdq Mp0 Dp0 NI0 NJ0 h64 hc64 hd64 hcc2 hdc2 hpl0 hw1 hw2 hw3 hw4 rm hrm hr64 hrb hr1 hr2) cv_R_143 d_R_same_32 Mp0.1 rfl rfl rfl (Nat.le_of_ble_eq_true rfl) (by decide) (by decide) (by omega) (by omega) (fun v_32 k_32c q_32 => ?_)
  obtain ⟨y1, pa, pb, pq, fn, fb, fq, mn, Mp, Dp, T0⟩ := q_32
  refine aw_st (st' := .int (bP (wp = wq ∧ cp = cq ∧ gfin B D = true)) :: []) (by rw [y1]; rfl) ?_
  refine aw_if_eq (tgt := 42) d_R_same_35 (by decide) (fun c_35 => ?_) (fun c_35 => ?_)
  · rw [bP_eq0] at c_35
    refine aw_iconst (v := nI 0) d_R_same_42 (by decide) ?_
    exact aw_iret d_R_same_43 rfl nar0 ⟨by rw [bP_f (fun y => c_35 y.2.2)], pa, pb, pq, fn, fb, fq, mn, Mp, Dp, T0⟩
  · rw [bP_eq0, Classical.not_not] at c_35
    refine aw_iconst (v := nI 1) d_R_same_38 (by decide) ?_
    refine aw_goto (tgt := 43) d_R_same_39 (by decide) ?_
    exact aw_iret d_R_same_43 rfl nar1 ⟨by rw [bP_t ⟨n1, n2, c_35⟩], pa, pb, pq, fn, fb, fq, mn, Mp, Dp, T0⟩

set_option maxHeartbeats 4000000 in
theorem c_R_same_no {tb : Nat → Nat} {h : AH} {im a0 a1 a2 a3 a4 a5 cc pc us iw wp cp : Nat} {B : Nat → Nat} {f0 f1 f2 f3 f4 f5 : Nat → Int32} (M : iS h im a0 a1 a2 a3 a4 a5 cc pc us (nn B) iw wp cp f0 f1 f2 f3 f4 f5) (V : IV B f0 f1 f2 f3 f4 f5 cc pc) (L : LX B) (hB_ : ∀ i, B i < 256) (hcc : cc ≤ 1048576) (hpc : pc ≤ 1048576) {jm c0 c1 c2 c3 c4 c5 dc dq du jw wq cq : Nat} {D : Nat → Nat} {e0 e1 e2 e3 e4 e5 : Nat → Int32} (M2 : iS h jm c0 c1 c2 c3 c4 c5 dc dq du (nn D) jw wq cq e0 e1 e2 e3 e4 e5) (V2 : IV D e0 e1 e2 e3 e4 e5 dc dq) (L2 : LX D) (hD_ : ∀ i, D i < 256) (hdc : dc ≤ 1048576) (hdq : dq ≤ 1048576) {r b x0 x1 x2 w p : Nat} (hrd : h r = some (.inr (0, [.ref b, .ref x0, .ref x1, .ref x2, .ref w, .ref p, .ref im, .ref jm]))) (hz : nn B = 0 ∨ nn D = 0) : AM tb y_R_same b_R_same 1 (some .boolean) 0 0 [.ref r] h 0 0 (av_Pi (nI 0) h) := by
  have nV_im := V.1
  have nL_im := L.1
  have nV_jm := V2.1
  have nL_jm := L2.1
  refine am_of (ini := false) [some (.ref r)] (by decide) (fun z => by cases z) (Nat.le_of_ble_eq_true rfl) rfl ?_
  refine aw_aload_n d_R_same_0 rfl ?_
  refine aw_get fl_R_43 d_R_same_1 hrd rfl ?_
  refine aw_get fl_R_86 d_R_same_4 M.1 rfl ?_
  refine aw_if_eq (tgt := 42) d_R_same_7 (by decide) (fun c_7 => ?_) (fun c_7 => ?_)
  · rw [w_eq0 (by omega)] at c_7
    refine aw_iconst (v := nI 0) d_R_same_42 (by decide) ?_
    exact aw_iret d_R_same_43 rfl nar0 ⟨rfl, rfl⟩
  · rw [w_eq0 (by omega)] at c_7
    refine aw_aload_n d_R_same_10 rfl ?_
    refine aw_get fl_R_46 d_R_same_11 hrd rfl ?_
    refine aw_get fl_R_86 d_R_same_14 M2.1 rfl ?_
    refine aw_if_eq (tgt := 42) d_R_same_17 (by decide) (fun c_17 => ?_) (fun c_17 => absurd c_17 (by rw [w_eq0 (by omega)]; exact fun y => y (hz.resolve_left c_7)))
    try rw [w_eq0 (by omega)] at c_17
    refine aw_iconst (v := nI 0) d_R_same_42 (by decide) ?_
    exact aw_iret d_R_same_43 rfl nar0 ⟨rfl, rfl⟩

theorem spare_ok {X : Nat → Nat} {jh jk : Nat} (h1 : ¬ X 0 = X 1) (h2 : ¬ X 0 = X 2) (h3 : ¬ X 1 = X 2) (hj : jh < 3) (hk : jk < 3) (c0 : X 0 = X jh ∨ X 0 = X jk) (c1 : X 1 = X jh ∨ X 1 = X jk) : ¬ X 2 = X jh ∧ ¬ X 2 = X jk := by
  have e : ∀ j, j < 3 → j = 0 ∨ j = 1 ∨ j = 2 := fun j h => by omega
  rcases e jh hj with rfl | rfl | rfl <;> rcases e jk hk with rfl | rfl | rfl <;> grind

set_option maxHeartbeats 4000000 in
theorem c_R_spareImage {tb : Nat → Nat} {h : AH} {r b w p : Nat} {X : Nat → Nat} {jh jk : Nat} (hrd : h r = some (.inr (0, [.ref b, .ref (X 0), .ref (X 1), .ref (X 2), .ref w, .ref p, .ref (X jh), .ref (X jk)]))) (x01 : ¬ X 0 = X 1) (x02 : ¬ X 0 = X 2) (x12 : ¬ X 1 = X 2) (hj : jh < 3) (hk : jk < 3) : AM tb y_R_spareImage b_R_spareImage 1 (some (.object "ImageReader$Image")) 0 0 [.ref r] h 0 0 (fun v h' => h' = h ∧ ∃ j, j < 3 ∧ v = some (.ref (X j)) ∧ ¬ X j = X jh ∧ ¬ X j = X jk) := by
  refine am_of (ini := false) [some (.ref r)] (by decide) (fun z => by cases z) (Nat.le_of_ble_eq_true rfl) rfl ?_
  refine aw_aload_n d_R_spareImage_0 rfl ?_
  refine aw_get fl_R_19 d_R_spareImage_1 hrd rfl ?_
  refine aw_aload_n d_R_spareImage_4 rfl ?_
  refine aw_get fl_R_43 d_R_spareImage_5 hrd rfl ?_
  refine aw_acmp_eq (tgt := 27) d_R_spareImage_8 (by decide) (fun c_8 => ?_) (fun c_8 => ?_)
  · refine aw_aload_n d_R_spareImage_27 rfl ?_
    refine aw_get fl_R_23 d_R_spareImage_28 hrd rfl ?_
    refine aw_aload_n d_R_spareImage_31 rfl ?_
    refine aw_get fl_R_43 d_R_spareImage_32 hrd rfl ?_
    refine aw_acmp_eq (tgt := 56) d_R_spareImage_35 (by decide) (fun c_35 => ?_) (fun c_35 => ?_)
    · refine aw_aload_n d_R_spareImage_56 rfl ?_
      refine aw_get fl_R_26 d_R_spareImage_57 hrd rfl ?_
      exact aw_aret d_R_spareImage_60 rfl (by first | exact Or.inl ⟨_, rfl⟩ | exact Or.inr ⟨_, rfl⟩) ⟨rfl, 2, by decide, rfl, spare_ok x01 x02 x12 hj hk (by first | exact Or.inl c_8 | exact Or.inr c_19) (by first | exact Or.inl c_35 | exact Or.inr c_46)⟩
    · refine aw_aload_n d_R_spareImage_38 rfl ?_
      refine aw_get fl_R_23 d_R_spareImage_39 hrd rfl ?_
      refine aw_aload_n d_R_spareImage_42 rfl ?_
      refine aw_get fl_R_46 d_R_spareImage_43 hrd rfl ?_
      refine aw_acmp_eq (tgt := 56) d_R_spareImage_46 (by decide) (fun c_46 => ?_) (fun c_46 => ?_)
      · refine aw_aload_n d_R_spareImage_56 rfl ?_
        refine aw_get fl_R_26 d_R_spareImage_57 hrd rfl ?_
        exact aw_aret d_R_spareImage_60 rfl (by first | exact Or.inl ⟨_, rfl⟩ | exact Or.inr ⟨_, rfl⟩) ⟨rfl, 2, by decide, rfl, spare_ok x01 x02 x12 hj hk (by first | exact Or.inl c_8 | exact Or.inr c_19) (by first | exact Or.inl c_35 | exact Or.inr c_46)⟩
      · refine aw_aload_n d_R_spareImage_49 rfl ?_
        refine aw_get fl_R_23 d_R_spareImage_50 hrd rfl ?_
        refine aw_goto (tgt := 60) d_R_spareImage_53 (by decide) ?_
        exact aw_aret d_R_spareImage_60 rfl (by first | exact Or.inl ⟨_, rfl⟩ | exact Or.inr ⟨_, rfl⟩) ⟨rfl, 1, by decide, rfl, c_35, c_46⟩
  · refine aw_aload_n d_R_spareImage_11 rfl ?_
    refine aw_get fl_R_19 d_R_spareImage_12 hrd rfl ?_
    refine aw_aload_n d_R_spareImage_15 rfl ?_
    refine aw_get fl_R_46 d_R_spareImage_16 hrd rfl ?_
    refine aw_acmp_eq (tgt := 27) d_R_spareImage_19 (by decide) (fun c_19 => ?_) (fun c_19 => ?_)
    · refine aw_aload_n d_R_spareImage_27 rfl ?_
      refine aw_get fl_R_23 d_R_spareImage_28 hrd rfl ?_
      refine aw_aload_n d_R_spareImage_31 rfl ?_
      refine aw_get fl_R_43 d_R_spareImage_32 hrd rfl ?_
      refine aw_acmp_eq (tgt := 56) d_R_spareImage_35 (by decide) (fun c_35 => ?_) (fun c_35 => ?_)
      · refine aw_aload_n d_R_spareImage_56 rfl ?_
        refine aw_get fl_R_26 d_R_spareImage_57 hrd rfl ?_
        exact aw_aret d_R_spareImage_60 rfl (by first | exact Or.inl ⟨_, rfl⟩ | exact Or.inr ⟨_, rfl⟩) ⟨rfl, 2, by decide, rfl, spare_ok x01 x02 x12 hj hk (by first | exact Or.inl c_8 | exact Or.inr c_19) (by first | exact Or.inl c_35 | exact Or.inr c_46)⟩
      · refine aw_aload_n d_R_spareImage_38 rfl ?_
        refine aw_get fl_R_23 d_R_spareImage_39 hrd rfl ?_
        refine aw_aload_n d_R_spareImage_42 rfl ?_
        refine aw_get fl_R_46 d_R_spareImage_43 hrd rfl ?_
        refine aw_acmp_eq (tgt := 56) d_R_spareImage_46 (by decide) (fun c_46 => ?_) (fun c_46 => ?_)
        · refine aw_aload_n d_R_spareImage_56 rfl ?_
          refine aw_get fl_R_26 d_R_spareImage_57 hrd rfl ?_
          exact aw_aret d_R_spareImage_60 rfl (by first | exact Or.inl ⟨_, rfl⟩ | exact Or.inr ⟨_, rfl⟩) ⟨rfl, 2, by decide, rfl, spare_ok x01 x02 x12 hj hk (by first | exact Or.inl c_8 | exact Or.inr c_19) (by first | exact Or.inl c_35 | exact Or.inr c_46)⟩
        · refine aw_aload_n d_R_spareImage_49 rfl ?_
          refine aw_get fl_R_23 d_R_spareImage_50 hrd rfl ?_
          refine aw_goto (tgt := 60) d_R_spareImage_53 (by decide) ?_
          exact aw_aret d_R_spareImage_60 rfl (by first | exact Or.inl ⟨_, rfl⟩ | exact Or.inr ⟨_, rfl⟩) ⟨rfl, 1, by decide, rfl, c_35, c_46⟩
    · refine aw_aload_n d_R_spareImage_22 rfl ?_
      refine aw_get fl_R_19 d_R_spareImage_23 hrd rfl ?_
      exact aw_aret d_R_spareImage_26 rfl (by first | exact Or.inl ⟨_, rfl⟩ | exact Or.inr ⟨_, rfl⟩) ⟨rfl, 0, by decide, rfl, c_8, c_19⟩
