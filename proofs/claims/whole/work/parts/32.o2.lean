/-! ===== the class: an image taken apart ===== -/
/-- where object k's parts begin -/
def ps (B : Nat → Nat) : Nat → Nat
  | 0 => 0
  | 1 => 0
  | k + 2 => ps B (k + 1) + sz B (k + 1)
theorem ps_s (B : Nat → Nat) {k : Nat} (h : 1 ≤ k) : ps B (k + 1) = ps B k + sz B k := by
  cases k with
  | zero => omega
  | succ k => rfl
def prt (B : Nat → Nat) (k i : Nat) : Nat := if kd B k = 1 then bt B k i else fd B k i
abbrev iO (a0 a1 a2 a3 a4 a5 us n w wp cp : Nat) : AE := .inr (2, [.ref a0, .ref a1, .ref a2, .ref a3, .ref a4, .ref a5, .int (nI us), .int (nI n), .int (nI w), .int (nI wp), .int (nI cp)])
def iS (h : AH) (im a0 a1 a2 a3 a4 a5 cc pc us n w wp cp : Nat) (f0 f1 f2 f3 f4 f5 : Nat → Int32) : Prop :=
  h im = some (iO a0 a1 a2 a3 a4 a5 us n w wp cp) ∧ h a0 = some (.inl (0, 50, .inl f0)) ∧ h a1 = some (.inl (0, cc, .inl f1)) ∧ h a2 = some (.inl (0, cc, .inl f2)) ∧ h a3 = some (.inl (0, cc, .inl f3)) ∧ h a4 = some (.inl (0, cc, .inl f4)) ∧ h a5 = some (.inl (0, pc, .inl f5))
def IV (B : Nat → Nat) (f0 f1 f2 f3 f4 f5 : Nat → Int32) (cc pc : Nat) : Prop := nn B < cc ∧ (∀ k, k < 50 → f0 k = nI (sp B k)) ∧ ∀ k, 1 ≤ k → k ≤ nn B → f1 k = nI (cl B k) ∧ f2 k = nI (kd B k) ∧ f3 k = nI (sz B k) ∧ f4 k = nI (ps B k) ∧ ps B k + sz B k ≤ pc ∧ ∀ i, i < sz B k → f5 (ps B k + i) = nI (prt B k i)
def LX (B : Nat → Nat) : Prop := nn B ≤ 8191 ∧ (∀ k, k < 50 → vl (nn B) (sp B k)) ∧ ∀ k, 1 ≤ k → k ≤ nn B → vl (nn B) (cl B k) ∧ kd B k ≤ 1 ∧ (kd B k = 0 → ∀ i, i < sz B k → vl (nn B) (fd B k i))
def FC (B : Nat → Nat) (k : Nat) : Nat := if 1 ≤ k ∧ k ≤ nn B ∧ kd B k ≠ 1 then sz B k else 0
def FA (B : Nat → Nat) (k i : Nat) : Nat := if 1 ≤ k ∧ k ≤ nn B ∧ kd B k ≠ 1 ∧ i < sz B k then fd B k i else 0
def CA (B : Nat → Nat) (k : Nat) : Nat := if 1 ≤ k ∧ k ≤ nn B then cl B k else 0
theorem FC_lt {B : Nat → Nat} (hB : ∀ i, B i < 256) (k : Nat) : FC B k < 65536 := by
  unfold FC
  split
  · exact sz_lt hB k
  · decide
theorem FA_lt {B : Nat → Nat} (hB : ∀ i, B i < 256) (k i : Nat) : FA B k i < 4294967296 := by
  unfold FA
  split
  · exact fd_lt hB k i
  · decide
theorem CA_lt {B : Nat → Nat} (hB : ∀ i, B i < 256) (k : Nat) : CA B k < 4294967296 := by
  unfold CA
  split
  · exact cl_lt hB k
  · decide
theorem vl_0 (n : Nat) : vl n 0 := Or.inr (Nat.zero_le _)
theorem LX.fa {B : Nat → Nat} (L : LX B) (k i : Nat) : vl (nn B) (FA B k i) := by
  unfold FA
  split
  · next z =>
    have a := L.2.2 k z.1 z.2.1
    exact a.2.2 (by have := a.2.1; omega) i z.2.2.2
  · exact vl_0 _
theorem LX.ca {B : Nat → Nat} (L : LX B) (k : Nat) : vl (nn B) (CA B k) := by
  unfold CA
  split
  · next z => exact (L.2.2 k z.1 z.2).1
  · exact vl_0 _
theorem LX.s {B : Nat → Nat} (L : LX B) {k : Nat} (h : k < 50) : vl (nn B) (sp B k) := L.2.1 k h
theorem LX.k2 {B : Nat → Nat} (L : LX B) {k : Nat} (h1 : 1 ≤ k) (h2 : k ≤ nn B) : kd B k ≤ 1 := (L.2.2 k h1 h2).2.1
theorem laid.lx {B : Nat → Nat} {c : Nat} (h : laid B c (nn B)) : LX B := ⟨h.2.2.2.1, h.2.2.2.2.1, fun k h1 h2 => by
  have a := h.2.2.2.2.2 k h1 h2
  exact ⟨a.1, a.2.1, a.2.2.2.2⟩⟩
theorem pk_shr1 {u : Nat} (h : u < 2147483648) : nI u >>> (nI 1 &&& 31) = nI (u / 2) := pk_shrN (by omega) _ 1 (by decide)

theorem lt_one_of_neg {k : Int32} (h : k < 0) : k < nI 1 := by
  rw [Int32.lt_iff_toInt_lt] at h ⊢
  have e : (nI 1).toInt = 1 := by decide
  rw [Int32.toInt_zero] at h
  omega

theorem vl_e2 {n u : Nat} (hv : vl n u) (h : u % 2 = 0) : u ≤ 2 * n := by
  rcases hv with q | q
  · omega
  · exact q

set_option maxHeartbeats 4000000 in
theorem c_I_holds {tb : Nat → Nat} {h : AH} {im a0 a1 a2 a3 a4 a5 cc pc us iw wp cp : Nat} {B : Nat → Nat} {f0 f1 f2 f3 f4 f5 : Nat → Int32} (M : iS h im a0 a1 a2 a3 a4 a5 cc pc us (nn B) iw wp cp f0 f1 f2 f3 f4 f5) (V : IV B f0 f1 f2 f3 f4 f5 cc pc) (L : LX B) (hB_ : ∀ i, B i < 256) (hcc : cc ≤ 1048576) (hpc : pc ≤ 1048576) (k : Nat) (hk : k < 2147483648) : AM tb y_I_holds b_I_holds 2 (some .boolean) 0 0 [.ref im, .int (nI k)] h 0 0 (av_Pi (bP (1 ≤ k ∧ k ≤ nn B)) h) := by
  have nV_im := V.1
  have nL_im := L.1
  refine am_of (ini := false) [some (.ref im), some (.int (nI k))] (by decide) (fun z => by cases z) (Nat.le_of_ble_eq_true rfl) rfl ?_
  refine aw_iload_n d_I_holds_0 rfl ?_
  refine aw_iconst (v := nI 1) d_I_holds_1 (by decide) ?_
  refine aw_icmp_lt (tgt := 17) d_I_holds_2 (by decide) (fun c_2 => ?_) (fun c_2 => ?_)
  · rw [nI_ltI (by omega) (by omega)] at c_2
    refine aw_iconst (v := nI 0) d_I_holds_17 (by decide) ?_
    exact aw_iret d_I_holds_18 rfl nar0 (rt_f (by omega))
  · rw [nI_ltI (by omega) (by omega)] at c_2
    refine aw_iload_n d_I_holds_5 rfl ?_
    refine aw_aload_n d_I_holds_6 rfl ?_
    refine aw_get fl_I_34 d_I_holds_7 M.1 rfl ?_
    refine aw_icmp_gt (tgt := 17) d_I_holds_10 (by decide) (fun c_10 => ?_) (fun c_10 => ?_)
    · rw [nI_ltI (by omega) (by omega)] at c_10
      refine aw_iconst (v := nI 0) d_I_holds_17 (by decide) ?_
      exact aw_iret d_I_holds_18 rfl nar0 (rt_f (by omega))
    · rw [nI_ltI (by omega) (by omega)] at c_10
      refine aw_iconst (v := nI 1) d_I_holds_13 (by decide) ?_
      refine aw_goto (tgt := 18) d_I_holds_14 (by decide) ?_
      exact aw_iret d_I_holds_18 rfl nar1 (rt_t (by omega))

set_option maxHeartbeats 4000000 in
theorem c_I_holds_neg {tb : Nat → Nat} {h : AH} {im a0 a1 a2 a3 a4 a5 cc pc us iw wp cp : Nat} {B : Nat → Nat} {f0 f1 f2 f3 f4 f5 : Nat → Int32} (M : iS h im a0 a1 a2 a3 a4 a5 cc pc us (nn B) iw wp cp f0 f1 f2 f3 f4 f5) (V : IV B f0 f1 f2 f3 f4 f5 cc pc) (L : LX B) (hB_ : ∀ i, B i < 256) (hcc : cc ≤ 1048576) (hpc : pc ≤ 1048576) (k : Int32) (hk : k < 0) : AM tb y_I_holds b_I_holds 2 (some .boolean) 0 0 [.ref im, .int k] h 0 0 (av_Pi (bP False) h) := by
  have nV_im := V.1
  have nL_im := L.1
  refine am_of (ini := false) [some (.ref im), some (.int k)] (by decide) (fun z => by cases z) (Nat.le_of_ble_eq_true rfl) rfl ?_
  refine aw_iload_n d_I_holds_0 rfl ?_
  refine aw_iconst (v := nI 1) d_I_holds_1 (by decide) ?_
  refine aw_icmp_lt (tgt := 17) d_I_holds_2 (by decide) (fun c_2 => ?_) (fun c_2 => absurd c_2 (by exact fun z => z (lt_one_of_neg hk)))
  refine aw_iconst (v := nI 0) d_I_holds_17 (by decide) ?_
  exact aw_iret d_I_holds_18 rfl nar0 (rt_f (by exact fun z => z))

set_option maxHeartbeats 4000000 in
theorem c_I_objectOf {tb : Nat → Nat} {h : AH} {im a0 a1 a2 a3 a4 a5 cc pc us iw wp cp : Nat} {B : Nat → Nat} {f0 f1 f2 f3 f4 f5 : Nat → Int32} (M : iS h im a0 a1 a2 a3 a4 a5 cc pc us (nn B) iw wp cp f0 f1 f2 f3 f4 f5) (V : IV B f0 f1 f2 f3 f4 f5 cc pc) (L : LX B) (hB_ : ∀ i, B i < 256) (hcc : cc ≤ 1048576) (hpc : pc ≤ 1048576) (u : Nat) (hu : u < 4294967296) (hv : vl (nn B) u) : AM tb y_I_objectOf b_I_objectOf 2 (some .int) 1 21 [.ref im, .int (nI u)] h 0 0 (av_Pi (nI (ob u)) h) := by
  have nV_im := V.1
  have nL_im := L.1
  refine am_of (ini := false) [some (.ref im), some (.int (nI u))] (by decide) (fun z => by cases z) (Nat.le_of_ble_eq_true rfl) rfl ?_
  refine aw_iload_n d_I_objectOf_0 rfl ?_
  refine aw_iconst (v := nI 1) d_I_objectOf_1 (by decide) ?_
  refine aw_iand (v := nI (u % 2)) d_I_objectOf_2 (and_1 _) ?_
  refine aw_if_ne (tgt := 22) d_I_objectOf_3 (by decide) (fun c_3 => ?_) (fun c_3 => ?_)
  · rw [w_eq0 (by omega)] at c_3
    refine aw_iconst (v := nI 0) d_I_objectOf_22 (by decide) ?_
    exact aw_iret d_I_objectOf_23 rfl rfl (rt_i (by first | (rw [ob_e (by omega)]; done) | (rw [ob_o (by omega)]; done) | (rw [ob_e (by omega)]; congr 1; have := vl_e2 hv (by omega); omega)))
  · rw [w_eq0 (by omega)] at c_3
    have he := vl_e hv nL_im c_3
    refine aw_aload_n d_I_objectOf_6 rfl ?_
    refine aw_iload_n d_I_objectOf_7 rfl ?_
    refine aw_iconst (v := nI 1) d_I_objectOf_8 (by decide) ?_
    refine aw_ishr (v := nI (u / 2)) d_I_objectOf_9 (pk_shr1 (by omega)) ?_
    refine aw_callVi (mc2 := 0) (ms2 := 0) (r := bP (1 ≤ (u / 2) ∧ (u / 2) ≤ nn B)) (As := [.int (nI (u / 2))]) (rest := []) (c_I_holds ⟨M.1, M.2.1, M.2.2.1, M.2.2.2.1, M.2.2.2.2.1, M.2.2.2.2.2.1, M.2.2.2.2.2.2⟩ V L hB_ hcc hpc (u / 2) (by omega)) cv_I_46 d_I_objectOf_10 M.1 rfl rfl rfl (Nat.le_of_ble_eq_true rfl) (by decide) (by decide) (by omega) (by omega) ?_
    refine aw_if_eq (tgt := 22) d_I_objectOf_13 (by decide) (fun c_13 => ?_) (fun c_13 => ?_)
    · rw [bP_eq0] at c_13
      refine aw_iconst (v := nI 0) d_I_objectOf_22 (by decide) ?_
      exact aw_iret d_I_objectOf_23 rfl rfl (rt_i (by first | (rw [ob_e (by omega)]; done) | (rw [ob_o (by omega)]; done) | (rw [ob_e (by omega)]; congr 1; have := vl_e2 hv (by omega); omega)))
    · rw [bP_eq0, Classical.not_not] at c_13
      refine aw_iload_n d_I_objectOf_16 rfl ?_
      refine aw_iconst (v := nI 1) d_I_objectOf_17 (by decide) ?_
      refine aw_ishr (v := nI (u / 2)) d_I_objectOf_18 (pk_shr1 (by omega)) ?_
      refine aw_goto (tgt := 23) d_I_objectOf_19 (by decide) ?_
      exact aw_iret d_I_objectOf_23 rfl rfl (rt_i (by first | (rw [ob_e (by omega)]; done) | (rw [ob_o (by omega)]; done) | (rw [ob_e (by omega)]; congr 1; have := vl_e2 hv (by omega); omega)))

set_option maxHeartbeats 4000000 in
theorem c_I_specialAt {tb : Nat → Nat} {h : AH} {im a0 a1 a2 a3 a4 a5 cc pc us iw wp cp : Nat} {B : Nat → Nat} {f0 f1 f2 f3 f4 f5 : Nat → Int32} (M : iS h im a0 a1 a2 a3 a4 a5 cc pc us (nn B) iw wp cp f0 f1 f2 f3 f4 f5) (V : IV B f0 f1 f2 f3 f4 f5 cc pc) (L : LX B) (hB_ : ∀ i, B i < 256) (hcc : cc ≤ 1048576) (hpc : pc ≤ 1048576) (k : Nat) (hk : k < 50) : AM tb y_I_specialAt b_I_specialAt 2 (some .int) 0 0 [.ref im, .int (nI k)] h 0 0 (av_Pi (nI (sp B k)) h) := by
  have nV_im := V.1
  have nL_im := L.1
  refine am_of (ini := false) [some (.ref im), some (.int (nI k))] (by decide) (fun z => by cases z) (Nat.le_of_ble_eq_true rfl) rfl ?_
  refine aw_iload_n d_I_specialAt_0 rfl ?_
  refine aw_if_lt (tgt := 19) d_I_specialAt_1 (by decide) (fun c_1 => absurd c_1 (nI_pos (by omega))) (fun _ => ?_)
  refine aw_iload_n d_I_specialAt_4 rfl ?_
  refine aw_bipush (v := nI 50) d_I_specialAt_5 (by decide) ?_
  refine aw_icmp_ge (tgt := 19) d_I_specialAt_7 (by decide) (fun c_7 => absurd c_7 (by rw [nI_leI (by omega) (by omega)]; omega)) (fun c_7 => ?_)
  try rw [nI_leI (by omega) (by omega)] at c_7
  refine aw_aload_n d_I_specialAt_10 rfl ?_
  refine aw_get fl_I_9 d_I_specialAt_11 M.1 rfl ?_
  refine aw_iload_n d_I_specialAt_14 rfl ?_
  refine aw_iald (x := nI (sp B k)) d_I_specialAt_15 M.2.1 (vp_in_nI (by omega) (by omega)) (by rw [nI_clamp (by omega)]; exact V.2.1 k (by omega)) ?_
  have b_15 := sp_lt hB_ k
  refine aw_goto (tgt := 20) d_I_specialAt_16 (by decide) ?_
  exact aw_iret d_I_specialAt_20 rfl rfl ⟨rfl, rfl⟩

set_option maxHeartbeats 4000000 in
theorem c_I_specialAt_gen {tb : Nat → Nat} {h : AH} {im a0 a1 a2 a3 a4 a5 cc pc us iw wp cp : Nat} {B : Nat → Nat} {f0 f1 f2 f3 f4 f5 : Nat → Int32} (M : iS h im a0 a1 a2 a3 a4 a5 cc pc us (nn B) iw wp cp f0 f1 f2 f3 f4 f5) (V : IV B f0 f1 f2 f3 f4 f5 cc pc) (L : LX B) (hB_ : ∀ i, B i < 256) (hcc : cc ≤ 1048576) (hpc : pc ≤ 1048576) (k : Nat) (hk : k < 2147483648) : AM tb y_I_specialAt b_I_specialAt 2 (some .int) 0 0 [.ref im, .int (nI k)] h 0 0 (av_Pi (nI (if 49 < k then 0 else sp B k)) h) := by
  have nV_im := V.1
  have nL_im := L.1
  refine am_of (ini := false) [some (.ref im), some (.int (nI k))] (by decide) (fun z => by cases z) (Nat.le_of_ble_eq_true rfl) rfl ?_
  refine aw_iload_n d_I_specialAt_0 rfl ?_
  refine aw_if_lt (tgt := 19) d_I_specialAt_1 (by decide) (fun c_1 => absurd c_1 (nI_pos (by omega))) (fun _ => ?_)
  refine aw_iload_n d_I_specialAt_4 rfl ?_
  refine aw_bipush (v := nI 50) d_I_specialAt_5 (by decide) ?_
  refine aw_icmp_ge (tgt := 19) d_I_specialAt_7 (by decide) (fun c_7 => ?_) (fun c_7 => ?_)
  · rw [nI_leI (by omega) (by omega)] at c_7
    refine aw_iconst (v := nI 0) d_I_specialAt_19 (by decide) ?_
    exact aw_iret d_I_specialAt_20 rfl rfl (rt_i (by first | rw [if_pos (by omega)] | rw [if_neg (by omega)]))
  · rw [nI_leI (by omega) (by omega)] at c_7
    refine aw_aload_n d_I_specialAt_10 rfl ?_
    refine aw_get fl_I_9 d_I_specialAt_11 M.1 rfl ?_
    refine aw_iload_n d_I_specialAt_14 rfl ?_
    refine aw_iald (x := nI (sp B k)) d_I_specialAt_15 M.2.1 (vp_in_nI (by omega) (by omega)) (by rw [nI_clamp (by omega)]; exact V.2.1 k (by omega)) ?_
    have b_15 := sp_lt hB_ k
    refine aw_goto (tgt := 20) d_I_specialAt_16 (by decide) ?_
    exact aw_iret d_I_specialAt_20 rfl rfl (rt_i (by first | rw [if_pos (by omega)] | rw [if_neg (by omega)]))

set_option maxHeartbeats 4000000 in
theorem c_I_specialAt_neg {tb : Nat → Nat} {h : AH} {im a0 a1 a2 a3 a4 a5 cc pc us iw wp cp : Nat} {B : Nat → Nat} {f0 f1 f2 f3 f4 f5 : Nat → Int32} (M : iS h im a0 a1 a2 a3 a4 a5 cc pc us (nn B) iw wp cp f0 f1 f2 f3 f4 f5) (V : IV B f0 f1 f2 f3 f4 f5 cc pc) (L : LX B) (hB_ : ∀ i, B i < 256) (hcc : cc ≤ 1048576) (hpc : pc ≤ 1048576) (k : Int32) (hk : k < 0) : AM tb y_I_specialAt b_I_specialAt 2 (some .int) 0 0 [.ref im, .int k] h 0 0 (av_Pi (nI 0) h) := by
  have nV_im := V.1
  have nL_im := L.1
  refine am_of (ini := false) [some (.ref im), some (.int k)] (by decide) (fun z => by cases z) (Nat.le_of_ble_eq_true rfl) rfl ?_
  refine aw_iload_n d_I_specialAt_0 rfl ?_
  refine aw_if_lt (tgt := 19) d_I_specialAt_1 (by decide) (fun c_1 => ?_) (fun c_1 => absurd c_1 (by exact fun z => z hk))
  refine aw_iconst (v := nI 0) d_I_specialAt_19 (by decide) ?_
  exact aw_iret d_I_specialAt_20 rfl rfl ⟨rfl, rfl⟩

set_option maxHeartbeats 4000000 in
theorem c_I_classAt {tb : Nat → Nat} {h : AH} {im a0 a1 a2 a3 a4 a5 cc pc us iw wp cp : Nat} {B : Nat → Nat} {f0 f1 f2 f3 f4 f5 : Nat → Int32} (M : iS h im a0 a1 a2 a3 a4 a5 cc pc us (nn B) iw wp cp f0 f1 f2 f3 f4 f5) (V : IV B f0 f1 f2 f3 f4 f5 cc pc) (L : LX B) (hB_ : ∀ i, B i < 256) (hcc : cc ≤ 1048576) (hpc : pc ≤ 1048576) (k : Nat) (hk : k < 2147483648) : AM tb y_I_classAt b_I_classAt 2 (some .int) 1 21 [.ref im, .int (nI k)] h 0 0 (av_Pi (nI (CA B k)) h) := by
  have nV_im := V.1
  have nL_im := L.1
  refine am_of (ini := false) [some (.ref im), some (.int (nI k))] (by decide) (fun z => by cases z) (Nat.le_of_ble_eq_true rfl) rfl ?_
  refine aw_aload_n d_I_classAt_0 rfl ?_
  refine aw_iload_n d_I_classAt_1 rfl ?_
  refine aw_callVi (mc2 := 0) (ms2 := 0) (r := bP (1 ≤ k ∧ k ≤ nn B)) (As := [.int (nI k)]) (rest := []) (c_I_holds ⟨M.1, M.2.1, M.2.2.1, M.2.2.2.1, M.2.2.2.2.1, M.2.2.2.2.2.1, M.2.2.2.2.2.2⟩ V L hB_ hcc hpc k (by omega)) cv_I_46 d_I_classAt_2 M.1 rfl rfl rfl (Nat.le_of_ble_eq_true rfl) (by decide) (by decide) (by omega) (by omega) ?_
  refine aw_if_eq (tgt := 17) d_I_classAt_5 (by decide) (fun c_5 => ?_) (fun c_5 => ?_)
  · rw [bP_eq0] at c_5
    refine aw_iconst (v := nI 0) d_I_classAt_17 (by decide) ?_
    exact aw_iret d_I_classAt_18 rfl rfl (rt_i (by unfold CA; first | rw [if_pos c_5] | rw [if_neg c_5]))
  · rw [bP_eq0, Classical.not_not] at c_5
    refine aw_aload_n d_I_classAt_8 rfl ?_
    refine aw_get fl_I_15 d_I_classAt_9 M.1 rfl ?_
    refine aw_iload_n d_I_classAt_12 rfl ?_
    refine aw_iald (x := nI (cl B k)) d_I_classAt_13 M.2.2.1 (vp_in_nI (by omega) (by omega)) (by rw [nI_clamp (by omega)]; exact (V.2.2 k (by omega) (by omega)).1) ?_
    have b_13 := cl_lt hB_ k
    refine aw_goto (tgt := 18) d_I_classAt_14 (by decide) ?_
    exact aw_iret d_I_classAt_18 rfl rfl (rt_i (by unfold CA; first | rw [if_pos c_5] | rw [if_neg c_5]))

set_option maxHeartbeats 4000000 in
theorem c_I_classAt_neg {tb : Nat → Nat} {h : AH} {im a0 a1 a2 a3 a4 a5 cc pc us iw wp cp : Nat} {B : Nat → Nat} {f0 f1 f2 f3 f4 f5 : Nat → Int32} (M : iS h im a0 a1 a2 a3 a4 a5 cc pc us (nn B) iw wp cp f0 f1 f2 f3 f4 f5) (V : IV B f0 f1 f2 f3 f4 f5 cc pc) (L : LX B) (hB_ : ∀ i, B i < 256) (hcc : cc ≤ 1048576) (hpc : pc ≤ 1048576) (k : Int32) (hk : k < 0) : AM tb y_I_classAt b_I_classAt 2 (some .int) 1 21 [.ref im, .int k] h 0 0 (av_Pi (nI 0) h) := by
  have nV_im := V.1
  have nL_im := L.1
  refine am_of (ini := false) [some (.ref im), some (.int k)] (by decide) (fun z => by cases z) (Nat.le_of_ble_eq_true rfl) rfl ?_
  refine aw_aload_n d_I_classAt_0 rfl ?_
  refine aw_iload_n d_I_classAt_1 rfl ?_
  refine aw_callVi (mc2 := 0) (ms2 := 0) (r := bP False) (As := [.int k]) (rest := []) (c_I_holds_neg ⟨M.1, M.2.1, M.2.2.1, M.2.2.2.1, M.2.2.2.2.1, M.2.2.2.2.2.1, M.2.2.2.2.2.2⟩ V L hB_ hcc hpc k hk) cv_I_46 d_I_classAt_2 M.1 rfl rfl rfl (Nat.le_of_ble_eq_true rfl) (by decide) (by decide) (by omega) (by omega) ?_
  refine aw_if_eq (tgt := 17) d_I_classAt_5 (by decide) (fun c_5 => ?_) (fun c_5 => ?_)
  · rw [bP_eq0] at c_5
    refine aw_iconst (v := nI 0) d_I_classAt_17 (by decide) ?_
    exact aw_iret d_I_classAt_18 rfl rfl ⟨rfl, rfl⟩
  · rw [bP_eq0, Classical.not_not] at c_5
    exact c_5.elim

set_option maxHeartbeats 4000000 in
theorem c_I_isOfBytes {tb : Nat → Nat} {h : AH} {im a0 a1 a2 a3 a4 a5 cc pc us iw wp cp : Nat} {B : Nat → Nat} {f0 f1 f2 f3 f4 f5 : Nat → Int32} (M : iS h im a0 a1 a2 a3 a4 a5 cc pc us (nn B) iw wp cp f0 f1 f2 f3 f4 f5) (V : IV B f0 f1 f2 f3 f4 f5 cc pc) (L : LX B) (hB_ : ∀ i, B i < 256) (hcc : cc ≤ 1048576) (hpc : pc ≤ 1048576) (k : Nat) (hk : k < 2147483648) : AM tb y_I_isOfBytes b_I_isOfBytes 2 (some .boolean) 1 21 [.ref im, .int (nI k)] h 0 0 (av_Pi (bP (1 ≤ k ∧ k ≤ nn B ∧ kd B k = 1)) h) := by
  have nV_im := V.1
  have nL_im := L.1
  refine am_of (ini := false) [some (.ref im), some (.int (nI k))] (by decide) (fun z => by cases z) (Nat.le_of_ble_eq_true rfl) rfl ?_
  refine aw_aload_n d_I_isOfBytes_0 rfl ?_
  refine aw_iload_n d_I_isOfBytes_1 rfl ?_
  refine aw_callVi (mc2 := 0) (ms2 := 0) (r := bP (1 ≤ k ∧ k ≤ nn B)) (As := [.int (nI k)]) (rest := []) (c_I_holds ⟨M.1, M.2.1, M.2.2.1, M.2.2.2.1, M.2.2.2.2.1, M.2.2.2.2.2.1, M.2.2.2.2.2.2⟩ V L hB_ hcc hpc k (by omega)) cv_I_46 d_I_isOfBytes_2 M.1 rfl rfl rfl (Nat.le_of_ble_eq_true rfl) (by decide) (by decide) (by omega) (by omega) ?_
  refine aw_if_eq (tgt := 22) d_I_isOfBytes_5 (by decide) (fun c_5 => ?_) (fun c_5 => ?_)
  · rw [bP_eq0] at c_5
    refine aw_iconst (v := nI 0) d_I_isOfBytes_22 (by decide) ?_
    exact aw_iret d_I_isOfBytes_23 rfl nar0 (rt_f (by omega))
  · rw [bP_eq0, Classical.not_not] at c_5
    refine aw_aload_n d_I_isOfBytes_8 rfl ?_
    refine aw_get fl_I_18 d_I_isOfBytes_9 M.1 rfl ?_
    refine aw_iload_n d_I_isOfBytes_12 rfl ?_
    refine aw_iald (x := nI (kd B k)) d_I_isOfBytes_13 M.2.2.2.1 (vp_in_nI (by omega) (by omega)) (by rw [nI_clamp (by omega)]; exact (V.2.2 k (by omega) (by omega)).2.1) ?_
    have b_13 := L.k2 (k := k) (by omega) (by omega)
    refine aw_iconst (v := nI 1) d_I_isOfBytes_14 (by decide) ?_
    refine aw_icmp_ne (tgt := 22) d_I_isOfBytes_15 (by decide) (fun c_15 => ?_) (fun c_15 => ?_)
    · rw [w_eq (by omega) (by omega)] at c_15
      refine aw_iconst (v := nI 0) d_I_isOfBytes_22 (by decide) ?_
      exact aw_iret d_I_isOfBytes_23 rfl nar0 (rt_f (by omega))
    · rw [w_eq (by omega) (by omega)] at c_15
      refine aw_iconst (v := nI 1) d_I_isOfBytes_18 (by decide) ?_
      refine aw_goto (tgt := 23) d_I_isOfBytes_19 (by decide) ?_
      exact aw_iret d_I_isOfBytes_23 rfl nar1 (rt_t (by omega))

set_option maxHeartbeats 4000000 in
theorem c_I_fieldCount {tb : Nat → Nat} {h : AH} {im a0 a1 a2 a3 a4 a5 cc pc us iw wp cp : Nat} {B : Nat → Nat} {f0 f1 f2 f3 f4 f5 : Nat → Int32} (M : iS h im a0 a1 a2 a3 a4 a5 cc pc us (nn B) iw wp cp f0 f1 f2 f3 f4 f5) (V : IV B f0 f1 f2 f3 f4 f5 cc pc) (L : LX B) (hB_ : ∀ i, B i < 256) (hcc : cc ≤ 1048576) (hpc : pc ≤ 1048576) (k : Nat) (hk : k < 2147483648) : AM tb y_I_fieldCount b_I_fieldCount 2 (some .int) 1 21 [.ref im, .int (nI k)] h 0 0 (av_Pi (nI (FC B k)) h) := by
  have nV_im := V.1
  have nL_im := L.1
  refine am_of (ini := false) [some (.ref im), some (.int (nI k))] (by decide) (fun z => by cases z) (Nat.le_of_ble_eq_true rfl) rfl ?_
  refine aw_aload_n d_I_fieldCount_0 rfl ?_
  refine aw_iload_n d_I_fieldCount_1 rfl ?_
  refine aw_callVi (mc2 := 0) (ms2 := 0) (r := bP (1 ≤ k ∧ k ≤ nn B)) (As := [.int (nI k)]) (rest := []) (c_I_holds ⟨M.1, M.2.1, M.2.2.1, M.2.2.2.1, M.2.2.2.2.1, M.2.2.2.2.2.1, M.2.2.2.2.2.2⟩ V L hB_ hcc hpc k (by omega)) cv_I_46 d_I_fieldCount_2 M.1 rfl rfl rfl (Nat.le_of_ble_eq_true rfl) (by decide) (by decide) (by omega) (by omega) ?_
  refine aw_if_eq (tgt := 26) d_I_fieldCount_5 (by decide) (fun c_5 => ?_) (fun c_5 => ?_)
  · rw [bP_eq0] at c_5
    refine aw_iconst (v := nI 0) d_I_fieldCount_26 (by decide) ?_
    exact aw_iret d_I_fieldCount_27 rfl rfl (rt_i (by unfold FC; first | rw [if_pos (by omega)] | rw [if_neg (by omega)]))
  · rw [bP_eq0, Classical.not_not] at c_5
    refine aw_aload_n d_I_fieldCount_8 rfl ?_
    refine aw_get fl_I_18 d_I_fieldCount_9 M.1 rfl ?_
    refine aw_iload_n d_I_fieldCount_12 rfl ?_
    refine aw_iald (x := nI (kd B k)) d_I_fieldCount_13 M.2.2.2.1 (vp_in_nI (by omega) (by omega)) (by rw [nI_clamp (by omega)]; exact (V.2.2 k (by omega) (by omega)).2.1) ?_
    have b_13 := L.k2 (k := k) (by omega) (by omega)
    refine aw_if_ne (tgt := 26) d_I_fieldCount_14 (by decide) (fun c_14 => ?_) (fun c_14 => ?_)
    · rw [w_eq0 (by omega)] at c_14
      refine aw_iconst (v := nI 0) d_I_fieldCount_26 (by decide) ?_
      exact aw_iret d_I_fieldCount_27 rfl rfl (rt_i (by unfold FC; first | rw [if_pos (by omega)] | rw [if_neg (by omega)]))
    · rw [w_eq0 (by omega)] at c_14
      refine aw_aload_n d_I_fieldCount_17 rfl ?_
      refine aw_get fl_I_21 d_I_fieldCount_18 M.1 rfl ?_
      refine aw_iload_n d_I_fieldCount_21 rfl ?_
      refine aw_iald (x := nI (sz B k)) d_I_fieldCount_22 M.2.2.2.2.1 (vp_in_nI (by omega) (by omega)) (by rw [nI_clamp (by omega)]; exact (V.2.2 k (by omega) (by omega)).2.2.1) ?_
      have b_22 := sz_lt hB_ k
      refine aw_goto (tgt := 27) d_I_fieldCount_23 (by decide) ?_
      exact aw_iret d_I_fieldCount_27 rfl rfl (rt_i (by unfold FC; first | rw [if_pos (by omega)] | rw [if_neg (by omega)]))

set_option maxHeartbeats 4000000 in
theorem c_I_hasPart {tb : Nat → Nat} {h : AH} {im a0 a1 a2 a3 a4 a5 cc pc us iw wp cp : Nat} {B : Nat → Nat} {f0 f1 f2 f3 f4 f5 : Nat → Int32} (M : iS h im a0 a1 a2 a3 a4 a5 cc pc us (nn B) iw wp cp f0 f1 f2 f3 f4 f5) (V : IV B f0 f1 f2 f3 f4 f5 cc pc) (L : LX B) (hB_ : ∀ i, B i < 256) (hcc : cc ≤ 1048576) (hpc : pc ≤ 1048576) (k : Nat) (hk : k < 2147483648) (i : Nat) (hi : i < 2147483648) : AM tb y_I_hasPart b_I_hasPart 3 (some .boolean) 0 0 [.ref im, .int (nI k), .int (nI i)] h 0 0 (av_Pi (bP (1 ≤ k ∧ k ≤ nn B ∧ i < sz B k)) h) := by
  have nV_im := V.1
  have nL_im := L.1
  refine am_of (ini := false) [some (.ref im), some (.int (nI k)), some (.int (nI i))] (by decide) (fun z => by cases z) (Nat.le_of_ble_eq_true rfl) rfl ?_
  refine aw_iload_n d_I_hasPart_0 rfl ?_
  refine aw_iconst (v := nI 1) d_I_hasPart_1 (by decide) ?_
  refine aw_icmp_lt (tgt := 31) d_I_hasPart_2 (by decide) (fun c_2 => ?_) (fun c_2 => ?_)
  · rw [nI_ltI (by omega) (by omega)] at c_2
    refine aw_iconst (v := nI 0) d_I_hasPart_31 (by decide) ?_
    exact aw_iret d_I_hasPart_32 rfl nar0 (rt_f (by omega))
  · rw [nI_ltI (by omega) (by omega)] at c_2
    refine aw_iload_n d_I_hasPart_5 rfl ?_
    refine aw_aload_n d_I_hasPart_6 rfl ?_
    refine aw_get fl_I_34 d_I_hasPart_7 M.1 rfl ?_
    refine aw_icmp_gt (tgt := 31) d_I_hasPart_10 (by decide) (fun c_10 => ?_) (fun c_10 => ?_)
    · rw [nI_ltI (by omega) (by omega)] at c_10
      refine aw_iconst (v := nI 0) d_I_hasPart_31 (by decide) ?_
      exact aw_iret d_I_hasPart_32 rfl nar0 (rt_f (by omega))
    · rw [nI_ltI (by omega) (by omega)] at c_10
      refine aw_iload_n d_I_hasPart_13 rfl ?_
      refine aw_if_lt (tgt := 31) d_I_hasPart_14 (by decide) (fun c_14 => absurd c_14 (nI_pos (by omega))) (fun _ => ?_)
      refine aw_iload_n d_I_hasPart_17 rfl ?_
      refine aw_aload_n d_I_hasPart_18 rfl ?_
      refine aw_get fl_I_21 d_I_hasPart_19 M.1 rfl ?_
      refine aw_iload_n d_I_hasPart_22 rfl ?_
      refine aw_iald (x := nI (sz B k)) d_I_hasPart_23 M.2.2.2.2.1 (vp_in_nI (by omega) (by omega)) (by rw [nI_clamp (by omega)]; exact (V.2.2 k (by omega) (by omega)).2.2.1) ?_
      have b_23 := sz_lt hB_ k
      refine aw_icmp_ge (tgt := 31) d_I_hasPart_24 (by decide) (fun c_24 => ?_) (fun c_24 => ?_)
      · rw [nI_leI (by omega) (by omega)] at c_24
        refine aw_iconst (v := nI 0) d_I_hasPart_31 (by decide) ?_
        exact aw_iret d_I_hasPart_32 rfl nar0 (rt_f (by omega))
      · rw [nI_leI (by omega) (by omega)] at c_24
        refine aw_iconst (v := nI 1) d_I_hasPart_27 (by decide) ?_
        refine aw_goto (tgt := 32) d_I_hasPart_28 (by decide) ?_
        exact aw_iret d_I_hasPart_32 rfl nar1 (rt_t (by omega))

set_option maxHeartbeats 4000000 in
theorem c_I_hasPart_ineg {tb : Nat → Nat} {h : AH} {im a0 a1 a2 a3 a4 a5 cc pc us iw wp cp : Nat} {B : Nat → Nat} {f0 f1 f2 f3 f4 f5 : Nat → Int32} (M : iS h im a0 a1 a2 a3 a4 a5 cc pc us (nn B) iw wp cp f0 f1 f2 f3 f4 f5) (V : IV B f0 f1 f2 f3 f4 f5 cc pc) (L : LX B) (hB_ : ∀ i, B i < 256) (hcc : cc ≤ 1048576) (hpc : pc ≤ 1048576) (k : Nat) (hk : k < 2147483648) (i : Int32) (hi : i < 0) : AM tb y_I_hasPart b_I_hasPart 3 (some .boolean) 0 0 [.ref im, .int (nI k), .int i] h 0 0 (av_Pi (bP False) h) := by
  have nV_im := V.1
  have nL_im := L.1
  refine am_of (ini := false) [some (.ref im), some (.int (nI k)), some (.int i)] (by decide) (fun z => by cases z) (Nat.le_of_ble_eq_true rfl) rfl ?_
  refine aw_iload_n d_I_hasPart_0 rfl ?_
  refine aw_iconst (v := nI 1) d_I_hasPart_1 (by decide) ?_
  refine aw_icmp_lt (tgt := 31) d_I_hasPart_2 (by decide) (fun c_2 => ?_) (fun c_2 => ?_)
  · rw [nI_ltI (by omega) (by omega)] at c_2
    refine aw_iconst (v := nI 0) d_I_hasPart_31 (by decide) ?_
    exact aw_iret d_I_hasPart_32 rfl nar0 (rt_f (by exact fun z => z))
  · rw [nI_ltI (by omega) (by omega)] at c_2
    refine aw_iload_n d_I_hasPart_5 rfl ?_
    refine aw_aload_n d_I_hasPart_6 rfl ?_
    refine aw_get fl_I_34 d_I_hasPart_7 M.1 rfl ?_
    refine aw_icmp_gt (tgt := 31) d_I_hasPart_10 (by decide) (fun c_10 => ?_) (fun c_10 => ?_)
    · rw [nI_ltI (by omega) (by omega)] at c_10
      refine aw_iconst (v := nI 0) d_I_hasPart_31 (by decide) ?_
      exact aw_iret d_I_hasPart_32 rfl nar0 (rt_f (by exact fun z => z))
    · rw [nI_ltI (by omega) (by omega)] at c_10
      refine aw_iload_n d_I_hasPart_13 rfl ?_
      refine aw_if_lt (tgt := 31) d_I_hasPart_14 (by decide) (fun c_14 => ?_) (fun c_14 => absurd c_14 (by exact fun z => z hi))
      refine aw_iconst (v := nI 0) d_I_hasPart_31 (by decide) ?_
      exact aw_iret d_I_hasPart_32 rfl nar0 (rt_f (by exact fun z => z))

set_option maxHeartbeats 4000000 in
theorem c_I_hasPart_neg {tb : Nat → Nat} {h : AH} {im a0 a1 a2 a3 a4 a5 cc pc us iw wp cp : Nat} {B : Nat → Nat} {f0 f1 f2 f3 f4 f5 : Nat → Int32} (M : iS h im a0 a1 a2 a3 a4 a5 cc pc us (nn B) iw wp cp f0 f1 f2 f3 f4 f5) (V : IV B f0 f1 f2 f3 f4 f5 cc pc) (L : LX B) (hB_ : ∀ i, B i < 256) (hcc : cc ≤ 1048576) (hpc : pc ≤ 1048576) (k : Int32) (hk : k < 0) (i : Int32) : AM tb y_I_hasPart b_I_hasPart 3 (some .boolean) 0 0 [.ref im, .int k, .int i] h 0 0 (av_Pi (bP False) h) := by
  have nV_im := V.1
  have nL_im := L.1
  refine am_of (ini := false) [some (.ref im), some (.int k), some (.int i)] (by decide) (fun z => by cases z) (Nat.le_of_ble_eq_true rfl) rfl ?_
  refine aw_iload_n d_I_hasPart_0 rfl ?_
  refine aw_iconst (v := nI 1) d_I_hasPart_1 (by decide) ?_
  refine aw_icmp_lt (tgt := 31) d_I_hasPart_2 (by decide) (fun c_2 => ?_) (fun c_2 => absurd c_2 (by exact fun z => z (lt_one_of_neg hk)))
  refine aw_iconst (v := nI 0) d_I_hasPart_31 (by decide) ?_
  exact aw_iret d_I_hasPart_32 rfl nar0 (rt_f (by exact fun z => z))

set_option maxHeartbeats 4000000 in
theorem c_I_fieldAt {tb : Nat → Nat} {h : AH} {im a0 a1 a2 a3 a4 a5 cc pc us iw wp cp : Nat} {B : Nat → Nat} {f0 f1 f2 f3 f4 f5 : Nat → Int32} (M : iS h im a0 a1 a2 a3 a4 a5 cc pc us (nn B) iw wp cp f0 f1 f2 f3 f4 f5) (V : IV B f0 f1 f2 f3 f4 f5 cc pc) (L : LX B) (hB_ : ∀ i, B i < 256) (hcc : cc ≤ 1048576) (hpc : pc ≤ 1048576) (k : Nat) (hk : k < 2147483648) (i : Nat) (hi : i < 2147483648) : AM tb y_I_fieldAt b_I_fieldAt 3 (some .int) 1 22 [.ref im, .int (nI k), .int (nI i)] h 0 0 (av_Pi (nI (FA B k i)) h) := by
  have nV_im := V.1
  have nL_im := L.1
  refine am_of (ini := false) [some (.ref im), some (.int (nI k)), some (.int (nI i))] (by decide) (fun z => by cases z) (Nat.le_of_ble_eq_true rfl) rfl ?_
  refine aw_aload_n d_I_fieldAt_0 rfl ?_
  refine aw_iload_n d_I_fieldAt_1 rfl ?_
  refine aw_iload_n d_I_fieldAt_2 rfl ?_
  refine aw_callVi (mc2 := 0) (ms2 := 0) (r := bP (1 ≤ k ∧ k ≤ nn B ∧ i < sz B k)) (As := [.int (nI k), .int (nI i)]) (rest := []) (c_I_hasPart ⟨M.1, M.2.1, M.2.2.1, M.2.2.2.1, M.2.2.2.2.1, M.2.2.2.2.2.1, M.2.2.2.2.2.2⟩ V L hB_ hcc hpc k (by omega) i (by omega)) cv_I_50 d_I_fieldAt_3 M.1 rfl rfl rfl (Nat.le_of_ble_eq_true rfl) (by decide) (by decide) (by omega) (by omega) ?_
  refine aw_if_eq (tgt := 34) d_I_fieldAt_6 (by decide) (fun c_6 => ?_) (fun c_6 => ?_)
  · rw [bP_eq0] at c_6
    refine aw_iconst (v := nI 0) d_I_fieldAt_34 (by decide) ?_
    exact aw_iret d_I_fieldAt_35 rfl rfl (rt_i (by unfold FA; first | rw [if_pos (by omega)] | rw [if_neg (by omega)]))
  · rw [bP_eq0, Classical.not_not] at c_6
    refine aw_aload_n d_I_fieldAt_9 rfl ?_
    refine aw_get fl_I_18 d_I_fieldAt_10 M.1 rfl ?_
    refine aw_iload_n d_I_fieldAt_13 rfl ?_
    refine aw_iald (x := nI (kd B k)) d_I_fieldAt_14 M.2.2.2.1 (vp_in_nI (by omega) (by omega)) (by rw [nI_clamp (by omega)]; exact (V.2.2 k (by omega) (by omega)).2.1) ?_
    have b_14 := L.k2 (k := k) (by omega) (by omega)
    refine aw_if_ne (tgt := 34) d_I_fieldAt_15 (by decide) (fun c_15 => ?_) (fun c_15 => ?_)
    · rw [w_eq0 (by omega)] at c_15
      refine aw_iconst (v := nI 0) d_I_fieldAt_34 (by decide) ?_
      exact aw_iret d_I_fieldAt_35 rfl rfl (rt_i (by unfold FA; first | rw [if_pos (by omega)] | rw [if_neg (by omega)]))
    · rw [w_eq0 (by omega)] at c_15
      refine aw_aload_n d_I_fieldAt_18 rfl ?_
      refine aw_get fl_I_27 d_I_fieldAt_19 M.1 rfl ?_
      refine aw_aload_n d_I_fieldAt_22 rfl ?_
      refine aw_get fl_I_24 d_I_fieldAt_23 M.1 rfl ?_
      refine aw_iload_n d_I_fieldAt_26 rfl ?_
      refine aw_iald (x := nI (ps B k)) d_I_fieldAt_27 M.2.2.2.2.2.1 (vp_in_nI (by omega) (by omega)) (by rw [nI_clamp (by omega)]; exact (V.2.2 k (by omega) (by omega)).2.2.2.1) ?_
      have b_27 := (V.2.2 k (by omega) (by omega)).2.2.2.2.1
      have b2_27 := sz_lt hB_ k
      refine aw_iload_n d_I_fieldAt_28 rfl ?_
      refine aw_iadd (v := nI (ps B k + i)) d_I_fieldAt_29 (nI_add _ _) ?_
      refine aw_iald (x := nI (fd B k i)) d_I_fieldAt_30 M.2.2.2.2.2.2 (vp_in_nI (by omega) (by omega)) (by rw [nI_clamp (by omega), (V.2.2 k (by omega) (by omega)).2.2.2.2.2 i (by omega)]; unfold prt; rw [if_neg (show ¬ kd B k = 1 by omega)]) ?_
      have b_30 := fd_lt hB_ k i
      refine aw_goto (tgt := 35) d_I_fieldAt_31 (by decide) ?_
      exact aw_iret d_I_fieldAt_35 rfl rfl (rt_i (by unfold FA; first | rw [if_pos (by omega)] | rw [if_neg (by omega)]))

set_option maxHeartbeats 4000000 in
theorem c_I_fieldAt_ineg {tb : Nat → Nat} {h : AH} {im a0 a1 a2 a3 a4 a5 cc pc us iw wp cp : Nat} {B : Nat → Nat} {f0 f1 f2 f3 f4 f5 : Nat → Int32} (M : iS h im a0 a1 a2 a3 a4 a5 cc pc us (nn B) iw wp cp f0 f1 f2 f3 f4 f5) (V : IV B f0 f1 f2 f3 f4 f5 cc pc) (L : LX B) (hB_ : ∀ i, B i < 256) (hcc : cc ≤ 1048576) (hpc : pc ≤ 1048576) (k : Nat) (hk : k < 2147483648) (i : Int32) (hi : i < 0) : AM tb y_I_fieldAt b_I_fieldAt 3 (some .int) 1 22 [.ref im, .int (nI k), .int i] h 0 0 (av_Pi (nI 0) h) := by
  have nV_im := V.1
  have nL_im := L.1
  refine am_of (ini := false) [some (.ref im), some (.int (nI k)), some (.int i)] (by decide) (fun z => by cases z) (Nat.le_of_ble_eq_true rfl) rfl ?_
  refine aw_aload_n d_I_fieldAt_0 rfl ?_
  refine aw_iload_n d_I_fieldAt_1 rfl ?_
  refine aw_iload_n d_I_fieldAt_2 rfl ?_
  refine aw_callVi (mc2 := 0) (ms2 := 0) (r := bP False) (As := [.int (nI k), .int i]) (rest := []) (c_I_hasPart_ineg ⟨M.1, M.2.1, M.2.2.1, M.2.2.2.1, M.2.2.2.2.1, M.2.2.2.2.2.1, M.2.2.2.2.2.2⟩ V L hB_ hcc hpc k (by omega) i hi) cv_I_50 d_I_fieldAt_3 M.1 rfl rfl rfl (Nat.le_of_ble_eq_true rfl) (by decide) (by decide) (by omega) (by omega) ?_
  refine aw_if_eq (tgt := 34) d_I_fieldAt_6 (by decide) (fun c_6 => ?_) (fun c_6 => ?_)
  · rw [bP_eq0] at c_6
    refine aw_iconst (v := nI 0) d_I_fieldAt_34 (by decide) ?_
    exact aw_iret d_I_fieldAt_35 rfl rfl ⟨rfl, rfl⟩
  · rw [bP_eq0, Classical.not_not] at c_6
    exact c_6.elim

set_option maxHeartbeats 4000000 in
theorem c_I_fieldAt_neg {tb : Nat → Nat} {h : AH} {im a0 a1 a2 a3 a4 a5 cc pc us iw wp cp : Nat} {B : Nat → Nat} {f0 f1 f2 f3 f4 f5 : Nat → Int32} (M : iS h im a0 a1 a2 a3 a4 a5 cc pc us (nn B) iw wp cp f0 f1 f2 f3 f4 f5) (V : IV B f0 f1 f2 f3 f4 f5 cc pc) (L : LX B) (hB_ : ∀ i, B i < 256) (hcc : cc ≤ 1048576) (hpc : pc ≤ 1048576) (k : Int32) (hk : k < 0) (i : Int32) : AM tb y_I_fieldAt b_I_fieldAt 3 (some .int) 1 22 [.ref im, .int k, .int i] h 0 0 (av_Pi (nI 0) h) := by
  have nV_im := V.1
  have nL_im := L.1
  refine am_of (ini := false) [some (.ref im), some (.int k), some (.int i)] (by decide) (fun z => by cases z) (Nat.le_of_ble_eq_true rfl) rfl ?_
  refine aw_aload_n d_I_fieldAt_0 rfl ?_
  refine aw_iload_n d_I_fieldAt_1 rfl ?_
  refine aw_iload_n d_I_fieldAt_2 rfl ?_
  refine aw_callVi (mc2 := 0) (ms2 := 0) (r := bP False) (As := [.int k, .int i]) (rest := []) (c_I_hasPart_neg ⟨M.1, M.2.1, M.2.2.1, M.2.2.2.1, M.2.2.2.2.1, M.2.2.2.2.2.1, M.2.2.2.2.2.2⟩ V L hB_ hcc hpc k hk i) cv_I_50 d_I_fieldAt_3 M.1 rfl rfl rfl (Nat.le_of_ble_eq_true rfl) (by decide) (by decide) (by omega) (by omega) ?_
  refine aw_if_eq (tgt := 34) d_I_fieldAt_6 (by decide) (fun c_6 => ?_) (fun c_6 => ?_)
  · rw [bP_eq0] at c_6
    refine aw_iconst (v := nI 0) d_I_fieldAt_34 (by decide) ?_
    exact aw_iret d_I_fieldAt_35 rfl rfl ⟨rfl, rfl⟩
  · rw [bP_eq0, Classical.not_not] at c_6
    exact c_6.elim

def BA (B : Nat → Nat) (k i : Nat) : Int32 := if 1 ≤ k ∧ k ≤ nn B ∧ kd B k = 1 ∧ i < sz B k then nI (bt B k i) else -1

set_option maxHeartbeats 4000000 in
theorem c_I_bodyByteAt {tb : Nat → Nat} {h : AH} {im a0 a1 a2 a3 a4 a5 cc pc us iw wp cp : Nat} {B : Nat → Nat} {f0 f1 f2 f3 f4 f5 : Nat → Int32} (M : iS h im a0 a1 a2 a3 a4 a5 cc pc us (nn B) iw wp cp f0 f1 f2 f3 f4 f5) (V : IV B f0 f1 f2 f3 f4 f5 cc pc) (L : LX B) (hB_ : ∀ i, B i < 256) (hcc : cc ≤ 1048576) (hpc : pc ≤ 1048576) (k : Nat) (hk : k < 2147483648) (i : Nat) (hi : i < 2147483648) : AM tb y_I_bodyByteAt b_I_bodyByteAt 3 (some .int) 1 22 [.ref im, .int (nI k), .int (nI i)] h 0 0 (av_Pi (BA B k i) h) := by
  have nV_im := V.1
  have nL_im := L.1
  refine am_of (ini := false) [some (.ref im), some (.int (nI k)), some (.int (nI i))] (by decide) (fun z => by cases z) (Nat.le_of_ble_eq_true rfl) rfl ?_
  refine aw_aload_n d_I_bodyByteAt_0 rfl ?_
  refine aw_iload_n d_I_bodyByteAt_1 rfl ?_
  refine aw_iload_n d_I_bodyByteAt_2 rfl ?_
  refine aw_callVi (mc2 := 0) (ms2 := 0) (r := bP (1 ≤ k ∧ k ≤ nn B ∧ i < sz B k)) (As := [.int (nI k), .int (nI i)]) (rest := []) (c_I_hasPart ⟨M.1, M.2.1, M.2.2.1, M.2.2.2.1, M.2.2.2.2.1, M.2.2.2.2.2.1, M.2.2.2.2.2.2⟩ V L hB_ hcc hpc k (by omega) i (by omega)) cv_I_50 d_I_bodyByteAt_3 M.1 rfl rfl rfl (Nat.le_of_ble_eq_true rfl) (by decide) (by decide) (by omega) (by omega) ?_
  refine aw_if_eq (tgt := 35) d_I_bodyByteAt_6 (by decide) (fun c_6 => ?_) (fun c_6 => ?_)
  · rw [bP_eq0] at c_6
    refine aw_iconst (v := (-1)) d_I_bodyByteAt_35 (by decide) ?_
    exact aw_iret d_I_bodyByteAt_36 rfl rfl (rt_i (by unfold BA; first | rw [if_pos (by omega)] | rw [if_neg (by omega)]))
  · rw [bP_eq0, Classical.not_not] at c_6
    refine aw_aload_n d_I_bodyByteAt_9 rfl ?_
    refine aw_get fl_I_18 d_I_bodyByteAt_10 M.1 rfl ?_
    refine aw_iload_n d_I_bodyByteAt_13 rfl ?_
    refine aw_iald (x := nI (kd B k)) d_I_bodyByteAt_14 M.2.2.2.1 (vp_in_nI (by omega) (by omega)) (by rw [nI_clamp (by omega)]; exact (V.2.2 k (by omega) (by omega)).2.1) ?_
    have b_14 := L.k2 (k := k) (by omega) (by omega)
    refine aw_iconst (v := nI 1) d_I_bodyByteAt_15 (by decide) ?_
    refine aw_icmp_ne (tgt := 35) d_I_bodyByteAt_16 (by decide) (fun c_16 => ?_) (fun c_16 => ?_)
    · rw [w_eq (by omega) (by omega)] at c_16
      refine aw_iconst (v := (-1)) d_I_bodyByteAt_35 (by decide) ?_
      exact aw_iret d_I_bodyByteAt_36 rfl rfl (rt_i (by unfold BA; first | rw [if_pos (by omega)] | rw [if_neg (by omega)]))
    · rw [w_eq (by omega) (by omega)] at c_16
      refine aw_aload_n d_I_bodyByteAt_19 rfl ?_
      refine aw_get fl_I_27 d_I_bodyByteAt_20 M.1 rfl ?_
      refine aw_aload_n d_I_bodyByteAt_23 rfl ?_
      refine aw_get fl_I_24 d_I_bodyByteAt_24 M.1 rfl ?_
      refine aw_iload_n d_I_bodyByteAt_27 rfl ?_
      refine aw_iald (x := nI (ps B k)) d_I_bodyByteAt_28 M.2.2.2.2.2.1 (vp_in_nI (by omega) (by omega)) (by rw [nI_clamp (by omega)]; exact (V.2.2 k (by omega) (by omega)).2.2.2.1) ?_
      have b_28 := (V.2.2 k (by omega) (by omega)).2.2.2.2.1
      have b2_28 := sz_lt hB_ k
      refine aw_iload_n d_I_bodyByteAt_29 rfl ?_
      refine aw_iadd (v := nI (ps B k + i)) d_I_bodyByteAt_30 (nI_add _ _) ?_
      refine aw_iald (x := nI (bt B k i)) d_I_bodyByteAt_31 M.2.2.2.2.2.2 (vp_in_nI (by omega) (by omega)) (by rw [nI_clamp (by omega), (V.2.2 k (by omega) (by omega)).2.2.2.2.2 i (by omega)]; unfold prt; rw [if_pos (show kd B k = 1 by omega)]) ?_
      have b_31 := hB_ (oa B k + 7 + i)
      refine aw_goto (tgt := 36) d_I_bodyByteAt_32 (by decide) ?_
      exact aw_iret d_I_bodyByteAt_36 rfl rfl (rt_i (by unfold BA; first | rw [if_pos (by omega)] | rw [if_neg (by omega)]))

set_option maxHeartbeats 4000000 in
theorem c_I_bodyByteAt_ineg {tb : Nat → Nat} {h : AH} {im a0 a1 a2 a3 a4 a5 cc pc us iw wp cp : Nat} {B : Nat → Nat} {f0 f1 f2 f3 f4 f5 : Nat → Int32} (M : iS h im a0 a1 a2 a3 a4 a5 cc pc us (nn B) iw wp cp f0 f1 f2 f3 f4 f5) (V : IV B f0 f1 f2 f3 f4 f5 cc pc) (L : LX B) (hB_ : ∀ i, B i < 256) (hcc : cc ≤ 1048576) (hpc : pc ≤ 1048576) (k : Nat) (hk : k < 2147483648) (i : Int32) (hi : i < 0) : AM tb y_I_bodyByteAt b_I_bodyByteAt 3 (some .int) 1 22 [.ref im, .int (nI k), .int i] h 0 0 (av_Pi (-1) h) := by
  have nV_im := V.1
  have nL_im := L.1
  refine am_of (ini := false) [some (.ref im), some (.int (nI k)), some (.int i)] (by decide) (fun z => by cases z) (Nat.le_of_ble_eq_true rfl) rfl ?_
  refine aw_aload_n d_I_bodyByteAt_0 rfl ?_
  refine aw_iload_n d_I_bodyByteAt_1 rfl ?_
  refine aw_iload_n d_I_bodyByteAt_2 rfl ?_
  refine aw_callVi (mc2 := 0) (ms2 := 0) (r := bP False) (As := [.int (nI k), .int i]) (rest := []) (c_I_hasPart_ineg ⟨M.1, M.2.1, M.2.2.1, M.2.2.2.1, M.2.2.2.2.1, M.2.2.2.2.2.1, M.2.2.2.2.2.2⟩ V L hB_ hcc hpc k (by omega) i hi) cv_I_50 d_I_bodyByteAt_3 M.1 rfl rfl rfl (Nat.le_of_ble_eq_true rfl) (by decide) (by decide) (by omega) (by omega) ?_
  refine aw_if_eq (tgt := 35) d_I_bodyByteAt_6 (by decide) (fun c_6 => ?_) (fun c_6 => ?_)
  · rw [bP_eq0] at c_6
    refine aw_iconst (v := (-1)) d_I_bodyByteAt_35 (by decide) ?_
    exact aw_iret d_I_bodyByteAt_36 rfl rfl ⟨rfl, rfl⟩
  · rw [bP_eq0, Classical.not_not] at c_6
    exact c_6.elim

set_option maxHeartbeats 4000000 in
theorem c_I_bodyByteAt_neg {tb : Nat → Nat} {h : AH} {im a0 a1 a2 a3 a4 a5 cc pc us iw wp cp : Nat} {B : Nat → Nat} {f0 f1 f2 f3 f4 f5 : Nat → Int32} (M : iS h im a0 a1 a2 a3 a4 a5 cc pc us (nn B) iw wp cp f0 f1 f2 f3 f4 f5) (V : IV B f0 f1 f2 f3 f4 f5 cc pc) (L : LX B) (hB_ : ∀ i, B i < 256) (hcc : cc ≤ 1048576) (hpc : pc ≤ 1048576) (k : Int32) (hk : k < 0) (i : Int32) : AM tb y_I_bodyByteAt b_I_bodyByteAt 3 (some .int) 1 22 [.ref im, .int k, .int i] h 0 0 (av_Pi (-1) h) := by
  have nV_im := V.1
  have nL_im := L.1
  refine am_of (ini := false) [some (.ref im), some (.int k), some (.int i)] (by decide) (fun z => by cases z) (Nat.le_of_ble_eq_true rfl) rfl ?_
  refine aw_aload_n d_I_bodyByteAt_0 rfl ?_
  refine aw_iload_n d_I_bodyByteAt_1 rfl ?_
  refine aw_iload_n d_I_bodyByteAt_2 rfl ?_
  refine aw_callVi (mc2 := 0) (ms2 := 0) (r := bP False) (As := [.int k, .int i]) (rest := []) (c_I_hasPart_neg ⟨M.1, M.2.1, M.2.2.1, M.2.2.2.1, M.2.2.2.2.1, M.2.2.2.2.2.1, M.2.2.2.2.2.2⟩ V L hB_ hcc hpc k hk i) cv_I_50 d_I_bodyByteAt_3 M.1 rfl rfl rfl (Nat.le_of_ble_eq_true rfl) (by decide) (by decide) (by omega) (by omega) ?_
  refine aw_if_eq (tgt := 35) d_I_bodyByteAt_6 (by decide) (fun c_6 => ?_) (fun c_6 => ?_)
  · rw [bP_eq0] at c_6
    refine aw_iconst (v := (-1)) d_I_bodyByteAt_35 (by decide) ?_
    exact aw_iret d_I_bodyByteAt_36 rfl rfl ⟨rfl, rfl⟩
  · rw [bP_eq0, Classical.not_not] at c_6
    exact c_6.elim

set_option maxHeartbeats 4000000 in
theorem c_I_isOfSpecialClass {tb : Nat → Nat} {h : AH} {im a0 a1 a2 a3 a4 a5 cc pc us iw wp cp : Nat} {B : Nat → Nat} {f0 f1 f2 f3 f4 f5 : Nat → Int32} (M : iS h im a0 a1 a2 a3 a4 a5 cc pc us (nn B) iw wp cp f0 f1 f2 f3 f4 f5) (V : IV B f0 f1 f2 f3 f4 f5 cc pc) (L : LX B) (hB_ : ∀ i, B i < 256) (hcc : cc ≤ 1048576) (hpc : pc ≤ 1048576) (k : Nat) (hk : k < 2147483648) (i : Nat) (hi : i < 50) : AM tb y_I_isOfSpecialClass b_I_isOfSpecialClass 3 (some .boolean) 0 0 [.ref im, .int (nI k), .int (nI i)] h 0 0 (av_Pi (bP (1 ≤ k ∧ k ≤ nn B ∧ cl B k = sp B i)) h) := by
  have nV_im := V.1
  have nL_im := L.1
  refine am_of (ini := false) [some (.ref im), some (.int (nI k)), some (.int (nI i))] (by decide) (fun z => by cases z) (Nat.le_of_ble_eq_true rfl) rfl ?_
  refine aw_iload_n d_I_isOfSpecialClass_0 rfl ?_
  refine aw_iconst (v := nI 1) d_I_isOfSpecialClass_1 (by decide) ?_
  refine aw_icmp_lt (tgt := 32) d_I_isOfSpecialClass_2 (by decide) (fun c_2 => ?_) (fun c_2 => ?_)
  · rw [nI_ltI (by omega) (by omega)] at c_2
    refine aw_iconst (v := nI 0) d_I_isOfSpecialClass_32 (by decide) ?_
    exact aw_iret d_I_isOfSpecialClass_33 rfl nar0 (rt_f (by omega))
  · rw [nI_ltI (by omega) (by omega)] at c_2
    refine aw_iload_n d_I_isOfSpecialClass_5 rfl ?_
    refine aw_aload_n d_I_isOfSpecialClass_6 rfl ?_
    refine aw_get fl_I_34 d_I_isOfSpecialClass_7 M.1 rfl ?_
    refine aw_icmp_gt (tgt := 32) d_I_isOfSpecialClass_10 (by decide) (fun c_10 => ?_) (fun c_10 => ?_)
    · rw [nI_ltI (by omega) (by omega)] at c_10
      refine aw_iconst (v := nI 0) d_I_isOfSpecialClass_32 (by decide) ?_
      exact aw_iret d_I_isOfSpecialClass_33 rfl nar0 (rt_f (by omega))
    · rw [nI_ltI (by omega) (by omega)] at c_10
      refine aw_aload_n d_I_isOfSpecialClass_13 rfl ?_
      refine aw_get fl_I_15 d_I_isOfSpecialClass_14 M.1 rfl ?_
      refine aw_iload_n d_I_isOfSpecialClass_17 rfl ?_
      refine aw_iald (x := nI (cl B k)) d_I_isOfSpecialClass_18 M.2.2.1 (vp_in_nI (by omega) (by omega)) (by rw [nI_clamp (by omega)]; exact (V.2.2 k (by omega) (by omega)).1) ?_
      have b_18 := cl_lt hB_ k
      refine aw_aload_n d_I_isOfSpecialClass_19 rfl ?_
      refine aw_get fl_I_9 d_I_isOfSpecialClass_20 M.1 rfl ?_
      refine aw_iload_n d_I_isOfSpecialClass_23 rfl ?_
      refine aw_iald (x := nI (sp B i)) d_I_isOfSpecialClass_24 M.2.1 (vp_in_nI (by omega) (by omega)) (by rw [nI_clamp (by omega)]; exact V.2.1 i (by omega)) ?_
      have b_24 := sp_lt hB_ i
      refine aw_icmp_ne (tgt := 32) d_I_isOfSpecialClass_25 (by decide) (fun c_25 => ?_) (fun c_25 => ?_)
      · rw [w_eq (by omega) (by omega)] at c_25
        refine aw_iconst (v := nI 0) d_I_isOfSpecialClass_32 (by decide) ?_
        exact aw_iret d_I_isOfSpecialClass_33 rfl nar0 (rt_f (by omega))
      · rw [w_eq (by omega) (by omega)] at c_25
        refine aw_iconst (v := nI 1) d_I_isOfSpecialClass_28 (by decide) ?_
        refine aw_goto (tgt := 33) d_I_isOfSpecialClass_29 (by decide) ?_
        exact aw_iret d_I_isOfSpecialClass_33 rfl nar1 (rt_t (by omega))

set_option maxHeartbeats 4000000 in
theorem c_I_isContext {tb : Nat → Nat} {h : AH} {im a0 a1 a2 a3 a4 a5 cc pc us iw wp cp : Nat} {B : Nat → Nat} {f0 f1 f2 f3 f4 f5 : Nat → Int32} (M : iS h im a0 a1 a2 a3 a4 a5 cc pc us (nn B) iw wp cp f0 f1 f2 f3 f4 f5) (V : IV B f0 f1 f2 f3 f4 f5 cc pc) (L : LX B) (hB_ : ∀ i, B i < 256) (hcc : cc ≤ 1048576) (hpc : pc ≤ 1048576) (k : Nat) (hk : k < 2147483648) : AM tb y_I_isContext b_I_isContext 2 (some .boolean) 1 22 [.ref im, .int (nI k)] h 0 0 (av_Pi (bP (1 ≤ k ∧ k ≤ nn B ∧ (cl B k = sp B 7 ∨ cl B k = sp B 8))) h) := by
  have nV_im := V.1
  have nL_im := L.1
  refine am_of (ini := false) [some (.ref im), some (.int (nI k))] (by decide) (fun z => by cases z) (Nat.le_of_ble_eq_true rfl) rfl ?_
  refine aw_aload_n d_I_isContext_0 rfl ?_
  refine aw_iload_n d_I_isContext_1 rfl ?_
  refine aw_bipush (v := nI 7) d_I_isContext_2 (by decide) ?_
  refine aw_callVi (mc2 := 0) (ms2 := 0) (r := bP (1 ≤ k ∧ k ≤ nn B ∧ cl B k = sp B 7)) (As := [.int (nI k), .int (nI 7)]) (rest := []) (c_I_isOfSpecialClass ⟨M.1, M.2.1, M.2.2.1, M.2.2.2.1, M.2.2.2.2.1, M.2.2.2.2.2.1, M.2.2.2.2.2.2⟩ V L hB_ hcc hpc k (by omega) 7 (by omega)) cv_I_54 d_I_isContext_4 M.1 rfl rfl rfl (Nat.le_of_ble_eq_true rfl) (by decide) (by decide) (by omega) (by omega) ?_
  refine aw_if_ne (tgt := 20) d_I_isContext_7 (by decide) (fun c_7 => ?_) (fun c_7 => ?_)
  · rw [bP_eq0, Classical.not_not] at c_7
    refine aw_iconst (v := nI 1) d_I_isContext_20 (by decide) ?_
    refine aw_goto (tgt := 25) d_I_isContext_21 (by decide) ?_
    exact aw_iret d_I_isContext_25 rfl nar1 (rt_t (by omega))
  · rw [bP_eq0] at c_7
    refine aw_aload_n d_I_isContext_10 rfl ?_
    refine aw_iload_n d_I_isContext_11 rfl ?_
    refine aw_bipush (v := nI 8) d_I_isContext_12 (by decide) ?_
    refine aw_callVi (mc2 := 0) (ms2 := 0) (r := bP (1 ≤ k ∧ k ≤ nn B ∧ cl B k = sp B 8)) (As := [.int (nI k), .int (nI 8)]) (rest := []) (c_I_isOfSpecialClass ⟨M.1, M.2.1, M.2.2.1, M.2.2.2.1, M.2.2.2.2.1, M.2.2.2.2.2.1, M.2.2.2.2.2.2⟩ V L hB_ hcc hpc k (by omega) 8 (by omega)) cv_I_54 d_I_isContext_14 M.1 rfl rfl rfl (Nat.le_of_ble_eq_true rfl) (by decide) (by decide) (by omega) (by omega) ?_
    refine aw_if_eq (tgt := 24) d_I_isContext_17 (by decide) (fun c_17 => ?_) (fun c_17 => ?_)
    · rw [bP_eq0] at c_17
      refine aw_iconst (v := nI 0) d_I_isContext_24 (by decide) ?_
      exact aw_iret d_I_isContext_25 rfl nar0 (rt_f (by omega))
    · rw [bP_eq0, Classical.not_not] at c_17
      refine aw_iconst (v := nI 1) d_I_isContext_20 (by decide) ?_
      refine aw_goto (tgt := 25) d_I_isContext_21 (by decide) ?_
      exact aw_iret d_I_isContext_25 rfl nar1 (rt_t (by omega))

set_option maxHeartbeats 4000000 in
theorem c_R_isNumber {tb : Nat → Nat} {h : AH} (u : Nat) : AM tb y_R_isNumber b_R_isNumber 1 (some .boolean) 0 0 [.int (nI u)] h 0 0 (av_Pi (bP (u % 2 = 1)) h) := by
  refine am_of (ini := false) [some (.int (nI u))] (by decide) (fun z => by cases z) (Nat.le_of_ble_eq_true rfl) rfl ?_
  refine aw_iload_n d_R_isNumber_0 rfl ?_
  refine aw_iconst (v := nI 1) d_R_isNumber_1 (by decide) ?_
  refine aw_iand (v := nI (u % 2)) d_R_isNumber_2 (and_1 _) ?_
  refine aw_if_eq (tgt := 10) d_R_isNumber_3 (by decide) (fun c_3 => ?_) (fun c_3 => ?_)
  · rw [w_eq0 (by omega)] at c_3
    refine aw_iconst (v := nI 0) d_R_isNumber_10 (by decide) ?_
    exact aw_iret d_R_isNumber_11 rfl nar0 (rt_f (by omega))
  · rw [w_eq0 (by omega)] at c_3
    refine aw_iconst (v := nI 1) d_R_isNumber_6 (by decide) ?_
    refine aw_goto (tgt := 11) d_R_isNumber_7 (by decide) ?_
    exact aw_iret d_R_isNumber_11 rfl nar1 (rt_t (by omega))

set_option maxHeartbeats 4000000 in
theorem c_R_numberOf {tb : Nat → Nat} {h : AH} (u : Nat) (hu : u < 2147483648) : AM tb y_R_numberOf b_R_numberOf 1 (some .int) 0 0 [.int (nI u)] h 0 0 (av_Pi (nI (u / 2)) h) := by
  refine am_of (ini := false) [some (.int (nI u))] (by decide) (fun z => by cases z) (Nat.le_of_ble_eq_true rfl) rfl ?_
  refine aw_iload_n d_R_numberOf_0 rfl ?_
  refine aw_iconst (v := nI 1) d_R_numberOf_1 (by decide) ?_
  refine aw_ishr (v := nI (u / 2)) d_R_numberOf_2 (pk_shr1 hu) ?_
  exact aw_iret d_R_numberOf_3 rfl rfl ⟨rfl, rfl⟩

set_option maxHeartbeats 4000000 in
theorem c_R_numberOf_raw {tb : Nat → Nat} {h : AH} (u : Nat) : AM tb y_R_numberOf b_R_numberOf 1 (some .int) 0 0 [.int (nI u)] h 0 0 (av_Pi (nI u >>> (nI 1 &&& 31)) h) := by
  refine am_of (ini := false) [some (.int (nI u))] (by decide) (fun z => by cases z) (Nat.le_of_ble_eq_true rfl) rfl ?_
  refine aw_iload_n d_R_numberOf_0 rfl ?_
  refine aw_iconst (v := nI 1) d_R_numberOf_1 (by decide) ?_
  refine aw_ishr (v := nI u >>> (nI 1 &&& 31)) d_R_numberOf_2 rfl ?_
  exact aw_iret d_R_numberOf_3 rfl rfl ⟨rfl, rfl⟩

set_option maxHeartbeats 4000000 in
theorem c_R_isNumberWithin {tb : Nat → Nat} {h : AH} (u : Nat) (hu : u < 4294967296) (l m : Nat) (hl : l < 2147483648) (hm : m < 2147483648) : AM tb y_R_isNumberWithin b_R_isNumberWithin 3 (some .boolean) 1 20 [.int (nI u), .int (nI l), .int (nI m)] h 0 0 (av_Pi (bP (NI u l m)) h) := by
  refine am_of (ini := false) [some (.int (nI u)), some (.int (nI l)), some (.int (nI m))] (by decide) (fun z => by cases z) (Nat.le_of_ble_eq_true rfl) rfl ?_
  refine aw_iload_n d_R_isNumberWithin_0 rfl ?_
  refine aw_callSi (mc2 := 0) (ms2 := 0) (r := bP (u % 2 = 1)) (As := [.int (nI u)]) (rest := []) (c_R_isNumber u) cs_R_198 d_R_isNumberWithin_1 rfl rfl (Nat.le_of_ble_eq_true rfl) (by decide) (by decide) (by omega) (by omega) ?_
  refine aw_if_eq (tgt := 27) d_R_isNumberWithin_4 (by decide) (fun c_4 => ?_) (fun c_4 => ?_)
  · rw [bP_eq0] at c_4
    refine aw_iconst (v := nI 0) d_R_isNumberWithin_27 (by decide) ?_
    exact aw_iret d_R_isNumberWithin_28 rfl nar0 (rt_f (by unfold NI; omega))
  · rw [bP_eq0, Classical.not_not] at c_4
    refine aw_iload_n d_R_isNumberWithin_7 rfl ?_
    refine aw_callSi (mc2 := 0) (ms2 := 0) (r := nI u >>> (nI 1 &&& 31)) (As := [.int (nI u)]) (rest := []) (c_R_numberOf_raw u) cs_R_201 d_R_isNumberWithin_8 rfl rfl (Nat.le_of_ble_eq_true rfl) (by decide) (by decide) (by omega) (by omega) ?_
    refine aw_iload_n d_R_isNumberWithin_11 rfl ?_
    refine aw_icmp_lt (tgt := 27) d_R_isNumberWithin_12 (by decide) (fun c_12 => ?_) (fun c_12 => ?_)
    · rw [w_geL hu hl] at c_12
      refine aw_iconst (v := nI 0) d_R_isNumberWithin_27 (by decide) ?_
      exact aw_iret d_R_isNumberWithin_28 rfl nar0 (rt_f (by unfold NI; omega))
    · rw [w_geL hu hl] at c_12
      refine aw_iload_n d_R_isNumberWithin_15 rfl ?_
      refine aw_callSi (mc2 := 0) (ms2 := 0) (r := nI u >>> (nI 1 &&& 31)) (As := [.int (nI u)]) (rest := []) (c_R_numberOf_raw u) cs_R_201 d_R_isNumberWithin_16 rfl rfl (Nat.le_of_ble_eq_true rfl) (by decide) (by decide) (by omega) (by omega) ?_
      refine aw_iload_n d_R_isNumberWithin_19 rfl ?_
      refine aw_icmp_gt (tgt := 27) d_R_isNumberWithin_20 (by decide) (fun c_20 => ?_) (fun c_20 => ?_)
      · rw [w_leH hu hm] at c_20
        refine aw_iconst (v := nI 0) d_R_isNumberWithin_27 (by decide) ?_
        exact aw_iret d_R_isNumberWithin_28 rfl nar0 (rt_f (by unfold NI; omega))
      · rw [w_leH hu hm] at c_20
        refine aw_iconst (v := nI 1) d_R_isNumberWithin_23 (by decide) ?_
        refine aw_goto (tgt := 28) d_R_isNumberWithin_24 (by decide) ?_
        exact aw_iret d_R_isNumberWithin_28 rfl nar1 (rt_t (by unfold NI; omega))
