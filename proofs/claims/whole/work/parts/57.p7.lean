/-! ===== the reference's half ===== -/
def REL (ln kl : Nat) (HB KB HC KC : Nat → Nat) : Prop := (ln = 0 → HC = C0) ∧ (0 < ln → HC = HB) ∧ (kl = 0 → KC = C0) ∧ (0 < kl → KC = KB)
theorem REL.h0 {ln kl : Nat} {HB KB HC KC : Nat → Nat} (R : REL ln kl HB KB HC KC) : ln = 0 → HC = C0 := R.1
theorem REL.h1 {ln kl : Nat} {HB KB HC KC : Nat → Nat} (R : REL ln kl HB KB HC KC) : 0 < ln → HC = HB := R.2.1
theorem REL.k0 {ln kl : Nat} {HB KB HC KC : Nat → Nat} (R : REL ln kl HB KB HC KC) : kl = 0 → KC = C0 := R.2.2.1
theorem REL.k1 {ln kl : Nat} {HB KB HC KC : Nat → Nat} (R : REL ln kl HB KB HC KC) : 0 < kl → KC = KB := R.2.2.2
theorem REL.cs {ln kl : Nat} {HB KB HC KC : Nat → Nat} (R : REL ln kl HB KB HC KC) : (ln = 0 ∧ HC = C0) ∨ (0 < ln ∧ HC = HB) := by
  by_cases z : ln = 0
  · exact Or.inl ⟨z, R.h0 z⟩
  · exact Or.inr ⟨by omega, R.h1 (by omega)⟩
section
variable {ln kl : Nat} {HB KB HC KC : Nat → Nat}
theorem no_C0 {P : Prop} {k : Nat} (h : 1 ≤ k ∧ k ≤ nn C0 ∧ P) : False := by
  have a := h.1
  have b := h.2.1
  rw [C0_nn] at b
  omega
theorem v_obj (R : REL ln kl HB KB HC KC) : (if ln = 0 then 0 else nn HB) = nn HC := by
  rcases R.cs with ⟨z, e⟩ | ⟨z, e⟩
  · rw [if_pos z, e]; rfl
  · rw [if_neg (by omega), e]
theorem v_wds (R : REL ln kl HB KB HC KC) : (if ln = 0 then 0 else wds HB (nn HB)) = wds HC (nn HC) := by
  rcases R.cs with ⟨z, e⟩ | ⟨z, e⟩
  · rw [if_pos z, e]; rfl
  · rw [if_neg (by omega), e]
theorem v_spec (R : REL ln kl HB KB HC KC) (k : Nat) : (if ln = 0 ∨ 49 < k then 0 else sp HB k) = (if 49 < k then 0 else sp HC k) := by
  rcases R.cs with ⟨z, e⟩ | ⟨z, e⟩
  · rw [if_pos (Or.inl z), e, C0_sp]; split <;> rfl
  · rw [e]
    by_cases y : 49 < k
    · rw [if_pos (Or.inr y), if_pos y]
    · rw [if_neg (fun q => q.elim (fun q => by omega) y), if_neg y]
theorem v_kind (R : REL ln kl HB KB HC KC) (k : Nat) : rKind ln k HB = rK HC k := by
  unfold rKind rK there
  rcases R.cs with ⟨z, e⟩ | ⟨z, e⟩
  · rw [rt_N (fun q => by omega), if_neg (fun q => no_C0 (P := True) ⟨q.1, by rw [← e]; exact q.2, trivial⟩)]
  · rw [e]
    by_cases y : 1 ≤ k ∧ k ≤ nn HB
    · rw [rt_P ⟨z, y⟩, if_pos y]
    · rw [rt_N (fun q => y q.2), if_neg y]
theorem v_class (R : REL ln kl HB KB HC KC) (k : Nat) : rClass ln k HB = nI (CA HC k) := by
  unfold rClass CA there
  rcases R.cs with ⟨z, e⟩ | ⟨z, e⟩
  · rw [rt_N (fun q => by omega), if_neg (fun q => no_C0 (P := True) ⟨q.1, by rw [← e]; exact q.2, trivial⟩)]
  · rw [e]
    by_cases y : 1 ≤ k ∧ k ≤ nn HB
    · rw [rt_P ⟨z, y⟩, if_pos y]
    · rw [rt_N (fun q => y q.2), if_neg y]
theorem v_size (R : REL ln kl HB KB HC KC) (k : Nat) : rSize ln k HB = rZ HC k := by
  unfold rSize rZ there
  rcases R.cs with ⟨z, e⟩ | ⟨z, e⟩
  · rw [rt_N (fun q => by omega), if_neg (fun q => no_C0 (P := True) ⟨q.1, by rw [← e]; exact q.2, trivial⟩)]
  · rw [e]
    by_cases y : 1 ≤ k ∧ k ≤ nn HB
    · rw [rt_P ⟨z, y⟩, if_pos y]
    · rw [rt_N (fun q => y q.2), if_neg y]
theorem v_field (R : REL ln kl HB KB HC KC) (k i : Nat) : rField ln k i HB = nI (FA HC k i) := by
  unfold rField FA there
  rcases R.cs with ⟨z, e⟩ | ⟨z, e⟩
  · rw [rt_N (fun q => by omega), if_neg (fun q => no_C0 ⟨q.1, by rw [← e]; exact q.2.1, q.2.2⟩)]
  · rw [e]
    by_cases y : 1 ≤ k ∧ k ≤ nn HB ∧ kd HB k ≠ 1 ∧ i < sz HB k
    · rw [rt_P ⟨⟨z, y.1, y.2.1⟩, y.2.2⟩, if_pos y]
    · rw [rt_N (fun q => y ⟨q.1.2.1, q.1.2.2, q.2⟩), if_neg y]
theorem v_byte (R : REL ln kl HB KB HC KC) (k i : Nat) : rByte ln k i HB = BA HC k i := by
  unfold rByte BA there
  rcases R.cs with ⟨z, e⟩ | ⟨z, e⟩
  · rw [rt_N (fun q => by omega), if_neg (fun q => no_C0 ⟨q.1, by rw [← e]; exact q.2.1, q.2.2⟩)]
  · rw [e]
    by_cases y : 1 ≤ k ∧ k ≤ nn HB ∧ kd HB k = 1 ∧ i < sz HB k
    · rw [rt_P ⟨⟨z, y.1, y.2.1⟩, y.2.2⟩, if_pos y]
    · rw [rt_N (fun q => y ⟨q.1.2.1, q.1.2.2, q.2⟩), if_neg y]
theorem vsp_C0 : ∀ k, vsp C0 k = (fun _ => 0, fun _ => 0, 0)
  | 0 => rfl
  | k + 1 => by
    rw [vsp, vsp_C0 k, C0_sp]
    exact vis_n (fun z => z.1 (by decide))
theorem v_reach (R : REL ln kl HB KB HC KC) : (if ln = 0 then 0 else (vfin HB).2.2) = (vfin HC).2.2 := by
  rcases R.cs with ⟨z, e⟩ | ⟨z, e⟩
  · rw [if_pos z, e]
    show 0 = (vsp C0 50).2.2
    rw [vsp_C0]
  · rw [if_neg (by omega), e]
end
section
variable {h h' : AH} {m ai am ak as_ aks ar an ab cn ln kl mn : Nat} {cd : Int32} {B HB KB : Nat → Nat} {fs fks fq fn fb : Nat → Int32}
theorem mS.own (M : mS h m ai am ak as_ aks ar an ab cd cn ln kl mn B HB KB fs fks fq fn fb) {cd' : Int32} {cn' : Nat} (e : h' = av_up h m (mO cd' ai cn' am ln ak kl as_ aks ar an ab mn)) : mS h' m ai am ak as_ aks ar an ab cd' cn' ln kl mn B HB KB fs fks fq fn fb := by
  obtain ⟨q0, q1, q2, q3, q4, q5, q6, q7, q8⟩ := M
  subst e
  exact ⟨av_up_self _ _ _, (av_up_ne (av_apart q1 q0)).trans q1, (av_up_ne (av_apart q2 q0)).trans q2, (av_up_ne (av_apart q3 q0)).trans q3, (av_up_ne (av_apart q4 q0)).trans q4, (av_up_ne (av_apart q5 q0)).trans q5, (av_up_ne (av_apart q6 q0)).trans q6, (av_up_ne (av_apart q7 q0)).trans q7, (av_up_ne (av_apart q8 q0)).trans q8⟩
theorem mS.inb (M : mS h m ai am ak as_ aks ar an ab cd cn ln kl mn B HB KB fs fks fq fn fb) (D : mND ai am ak as_ aks ar an ab) {B' : Nat → Nat} (e : h' = av_up h ai (.inl (1, 65536, .inl (bsf B')))) : mS h' m ai am ak as_ aks ar an ab cd cn ln kl mn B' HB KB fs fks fq fn fb := by
  obtain ⟨q0, q1, q2, q3, q4, q5, q6, q7, q8⟩ := M
  subst e
  exact ⟨(av_up_ne (av_apart' q0 q1)).trans q0, av_up_self _ _ _, (av_up_ne (Ne.symm D.1.1)).trans q2, (av_up_ne (Ne.symm D.1.2.1)).trans q3, (av_up_ne (av_apT q4 q1 (by decide))).trans q4, (av_up_ne (av_apT q5 q1 (by decide))).trans q5, (av_up_ne (av_apT q6 q1 (by decide))).trans q6, (av_up_ne (av_apT q7 q1 (by decide))).trans q7, (av_up_ne (av_apT q8 q1 (by decide))).trans q8⟩
theorem fr_m {x : AE} (e : h' = av_up h m x) : ∀ q, q ∉ [m, ai, am, ak, as_, aks, ar, an, ab] → h' q = h q := fun q hq => by
  rw [e, av_up_ne (fun z => hq (by simp [z]))]
theorem fr_M (e : mFr m ai am ak as_ aks ar an ab h h') : ∀ q, q ∉ [m, ai, am, ak, as_, aks, ar, an, ab] → h' q = h q := fun q hq => by
  simp only [List.mem_cons, List.not_mem_nil, or_false, not_or] at hq
  exact e q hq.1 hq.2.1 hq.2.2.1 hq.2.2.2.1 hq.2.2.2.2.1 hq.2.2.2.2.2.1 hq.2.2.2.2.2.2.1 hq.2.2.2.2.2.2.2.1 hq.2.2.2.2.2.2.2.2
end

set_option maxHeartbeats 4000000 in
theorem z_objects {tb : Nat → Nat} {h : AH} {r m ou K cap wl pl c : Nat} {B HC KC : Nat → Nat} {cn ln kl : Nat} {cd : Int32} {B2 HB KB : Nat → Nat} {x0 : Int64} (W : WLD h r m ou K cap wl pl c B HC KC cn ln kl cd B2 HB KB x0) (R : REL ln kl HB KB HC KC) : AMX tb y_M_objects_ b_M_objects_ 1 (some .int) 9 330 [.ref m] h 0 0 (fun v h' => v = some (.int (nI (nn HC))) ∧ WLD h' r m ou K cap wl pl c B HC KC cn ln kl (nI 0) B2 HB KB x0) := by
  obtain ⟨F, L, hC, hM, hd, o1_, o2_, o3_⟩ := W
  obtain ⟨ai, am, ak, as_, aks, ar, an, ab, mn, fs, fks, fq, fn, fb, rfl, M0, K0, D0⟩ := hM
  exact ⟨_, _, _, _, _, (by decide), (by decide), Nat.le_refl _, Nat.le_refl _, c_M_objects_ M0 K0, fun v h' q => ⟨by rw [q.1, v_obj R], WLD.mod hC hd o1_ o2_ o3_ ⟨ai, am, ak, as_, aks, ar, an, ab, mn, fs, fks, fq, fn, fb, rfl, M0.own q.2, K0, D0⟩ (fr_m q.2)⟩⟩

set_option maxHeartbeats 4000000 in
theorem z_words {tb : Nat → Nat} {h : AH} {r m ou K cap wl pl c : Nat} {B HC KC : Nat → Nat} {cn ln kl : Nat} {cd : Int32} {B2 HB KB : Nat → Nat} {x0 : Int64} (W : WLD h r m ou K cap wl pl c B HC KC cn ln kl cd B2 HB KB x0) (R : REL ln kl HB KB HC KC) : AMX tb y_M_words b_M_words 1 (some .int) 9 330 [.ref m] h 0 0 (fun v h' => v = some (.int (nI (wds HC (nn HC)))) ∧ WLD h' r m ou K cap wl pl c B HC KC cn ln kl (nI 0) B2 HB KB x0) := by
  obtain ⟨F, L, hC, hM, hd, o1_, o2_, o3_⟩ := W
  obtain ⟨ai, am, ak, as_, aks, ar, an, ab, mn, fs, fks, fq, fn, fb, rfl, M0, K0, D0⟩ := hM
  exact ⟨_, _, _, _, _, (by decide), (by decide), Nat.le_refl _, Nat.le_refl _, c_M_words M0 K0, fun v h' q => ⟨by rw [q.1, v_wds R], WLD.mod hC hd o1_ o2_ o3_ ⟨ai, am, ak, as_, aks, ar, an, ab, mn, fs, fks, fq, fn, fb, rfl, M0.own q.2, K0, D0⟩ (fr_m q.2)⟩⟩

set_option maxHeartbeats 4000000 in
theorem z_special {tb : Nat → Nat} {h : AH} {r m ou K cap wl pl c : Nat} {B HC KC : Nat → Nat} {cn ln kl : Nat} {cd : Int32} {B2 HB KB : Nat → Nat} {x0 : Int64} (W : WLD h r m ou K cap wl pl c B HC KC cn ln kl cd B2 HB KB x0) (R : REL ln kl HB KB HC KC) (k : Int32) : AMX tb y_M_special_I b_M_special_I 2 (some .int) 9 330 [.ref m, .int k] h 0 0 (fun v h' => v = some (.int (xSpec HC k)) ∧ WLD h' r m ou K cap wl pl c B HC KC cn ln kl (nI 0) B2 HB KB x0) := by
  obtain ⟨F, L, hC, hM, hd, o1_, o2_, o3_⟩ := W
  obtain ⟨ai, am, ak, as_, aks, ar, an, ab, mn, fs, fks, fq, fn, fb, rfl, M0, K0, D0⟩ := hM
  rcases i32 k with hk | ⟨n, hn, rfl⟩
  · exact ⟨_, _, _, _, _, (by decide), (by decide), Nat.le_refl _, Nat.le_refl _, c_M_special_I_neg M0 K0 k hk, fun v h' q => ⟨by rw [q.1, xSpec, if_pos hk], WLD.mod hC hd o1_ o2_ o3_ ⟨ai, am, ak, as_, aks, ar, an, ab, mn, fs, fks, fq, fn, fb, rfl, M0.own q.2, K0, D0⟩ (fr_m q.2)⟩⟩
  · exact ⟨_, _, _, _, _, (by decide), (by decide), Nat.le_refl _, Nat.le_refl _, c_M_special_I M0 K0 n hn, fun v h' q => ⟨by rw [q.1, xSpec, if_neg (nI_pos hn), nI_clamp hn, v_spec R], WLD.mod hC hd o1_ o2_ o3_ ⟨ai, am, ak, as_, aks, ar, an, ab, mn, fs, fks, fq, fn, fb, rfl, M0.own q.2, K0, D0⟩ (fr_m q.2)⟩⟩

set_option maxHeartbeats 4000000 in
theorem z_kind {tb : Nat → Nat} {h : AH} {r m ou K cap wl pl c : Nat} {B HC KC : Nat → Nat} {cn ln kl : Nat} {cd : Int32} {B2 HB KB : Nat → Nat} {x0 : Int64} (W : WLD h r m ou K cap wl pl c B HC KC cn ln kl cd B2 HB KB x0) (R : REL ln kl HB KB HC KC) (k : Int32) : AMX tb y_M_kind b_M_kind 3 (some .int) 9 330 [.ref m, .int k] h 0 0 (fun v h' => v = some (.int (xKind HC k)) ∧ WLD h' r m ou K cap wl pl c B HC KC cn ln kl (nI 0) B2 HB KB x0) := by
  obtain ⟨F, L, hC, hM, hd, o1_, o2_, o3_⟩ := W
  obtain ⟨ai, am, ak, as_, aks, ar, an, ab, mn, fs, fks, fq, fn, fb, rfl, M0, K0, D0⟩ := hM
  rcases i32 k with hk | ⟨n, hn, rfl⟩
  · exact ⟨_, _, _, _, _, (by decide), (by decide), Nat.le_refl _, Nat.le_refl _, c_M_kind_neg M0 K0 k hk, fun v h' q => ⟨by rw [q.1, xKind, if_pos hk], WLD.mod hC hd o1_ o2_ o3_ ⟨ai, am, ak, as_, aks, ar, an, ab, mn, fs, fks, fq, fn, fb, rfl, M0.own q.2, K0, D0⟩ (fr_m q.2)⟩⟩
  · exact ⟨_, _, _, _, _, (by decide), (by decide), Nat.le_refl _, Nat.le_refl _, c_M_kind M0 K0 n hn, fun v h' q => ⟨by rw [q.1, xKind, if_neg (nI_pos hn), nI_clamp hn, v_kind R], WLD.mod hC hd o1_ o2_ o3_ ⟨ai, am, ak, as_, aks, ar, an, ab, mn, fs, fks, fq, fn, fb, rfl, M0.own q.2, K0, D0⟩ (fr_m q.2)⟩⟩

set_option maxHeartbeats 4000000 in
theorem z_classOf {tb : Nat → Nat} {h : AH} {r m ou K cap wl pl c : Nat} {B HC KC : Nat → Nat} {cn ln kl : Nat} {cd : Int32} {B2 HB KB : Nat → Nat} {x0 : Int64} (W : WLD h r m ou K cap wl pl c B HC KC cn ln kl cd B2 HB KB x0) (R : REL ln kl HB KB HC KC) (k : Int32) : AMX tb y_M_classOf b_M_classOf 2 (some .int) 9 330 [.ref m, .int k] h 0 0 (fun v h' => v = some (.int (xCls HC k)) ∧ WLD h' r m ou K cap wl pl c B HC KC cn ln kl (nI 0) B2 HB KB x0) := by
  obtain ⟨F, L, hC, hM, hd, o1_, o2_, o3_⟩ := W
  obtain ⟨ai, am, ak, as_, aks, ar, an, ab, mn, fs, fks, fq, fn, fb, rfl, M0, K0, D0⟩ := hM
  rcases i32 k with hk | ⟨n, hn, rfl⟩
  · exact ⟨_, _, _, _, _, (by decide), (by decide), Nat.le_refl _, Nat.le_refl _, c_M_classOf_neg M0 K0 k hk, fun v h' q => ⟨by rw [q.1, xCls, if_pos hk], WLD.mod hC hd o1_ o2_ o3_ ⟨ai, am, ak, as_, aks, ar, an, ab, mn, fs, fks, fq, fn, fb, rfl, M0.own q.2, K0, D0⟩ (fr_m q.2)⟩⟩
  · exact ⟨_, _, _, _, _, (by decide), (by decide), Nat.le_refl _, Nat.le_refl _, c_M_classOf M0 K0 n hn, fun v h' q => ⟨by rw [q.1, xCls, if_neg (nI_pos hn), nI_clamp hn, v_class R], WLD.mod hC hd o1_ o2_ o3_ ⟨ai, am, ak, as_, aks, ar, an, ab, mn, fs, fks, fq, fn, fb, rfl, M0.own q.2, K0, D0⟩ (fr_m q.2)⟩⟩

set_option maxHeartbeats 4000000 in
theorem z_size {tb : Nat → Nat} {h : AH} {r m ou K cap wl pl c : Nat} {B HC KC : Nat → Nat} {cn ln kl : Nat} {cd : Int32} {B2 HB KB : Nat → Nat} {x0 : Int64} (W : WLD h r m ou K cap wl pl c B HC KC cn ln kl cd B2 HB KB x0) (R : REL ln kl HB KB HC KC) (k : Int32) : AMX tb y_M_size b_M_size 2 (some .int) 9 330 [.ref m, .int k] h 0 0 (fun v h' => v = some (.int (xSize HC k)) ∧ WLD h' r m ou K cap wl pl c B HC KC cn ln kl (nI 0) B2 HB KB x0) := by
  obtain ⟨F, L, hC, hM, hd, o1_, o2_, o3_⟩ := W
  obtain ⟨ai, am, ak, as_, aks, ar, an, ab, mn, fs, fks, fq, fn, fb, rfl, M0, K0, D0⟩ := hM
  rcases i32 k with hk | ⟨n, hn, rfl⟩
  · exact ⟨_, _, _, _, _, (by decide), (by decide), Nat.le_refl _, Nat.le_refl _, c_M_size_neg M0 K0 k hk, fun v h' q => ⟨by rw [q.1, xSize, if_pos hk], WLD.mod hC hd o1_ o2_ o3_ ⟨ai, am, ak, as_, aks, ar, an, ab, mn, fs, fks, fq, fn, fb, rfl, M0.own q.2, K0, D0⟩ (fr_m q.2)⟩⟩
  · exact ⟨_, _, _, _, _, (by decide), (by decide), Nat.le_refl _, Nat.le_refl _, c_M_size M0 K0 n hn, fun v h' q => ⟨by rw [q.1, xSize, if_neg (nI_pos hn), nI_clamp hn, v_size R], WLD.mod hC hd o1_ o2_ o3_ ⟨ai, am, ak, as_, aks, ar, an, ab, mn, fs, fks, fq, fn, fb, rfl, M0.own q.2, K0, D0⟩ (fr_m q.2)⟩⟩

set_option maxHeartbeats 4000000 in
theorem z_field {tb : Nat → Nat} {h : AH} {r m ou K cap wl pl c : Nat} {B HC KC : Nat → Nat} {cn ln kl : Nat} {cd : Int32} {B2 HB KB : Nat → Nat} {x0 : Int64} (W : WLD h r m ou K cap wl pl c B HC KC cn ln kl cd B2 HB KB x0) (R : REL ln kl HB KB HC KC) (k i : Int32) : AMX tb y_M_field b_M_field 4 (some .int) 9 330 [.ref m, .int k, .int i] h 0 0 (fun v h' => v = some (.int (xFld HC k i)) ∧ WLD h' r m ou K cap wl pl c B HC KC cn ln kl (nI 0) B2 HB KB x0) := by
  obtain ⟨F, L, hC, hM, hd, o1_, o2_, o3_⟩ := W
  obtain ⟨ai, am, ak, as_, aks, ar, an, ab, mn, fs, fks, fq, fn, fb, rfl, M0, K0, D0⟩ := hM
  rcases i32 k with hk | ⟨n, hn, rfl⟩
  · exact ⟨_, _, _, _, _, (by decide), (by decide), Nat.le_refl _, Nat.le_refl _, c_M_field_neg M0 K0 k hk i, fun v h' q => ⟨by rw [q.1, xFld, if_pos hk], WLD.mod hC hd o1_ o2_ o3_ ⟨ai, am, ak, as_, aks, ar, an, ab, mn, fs, fks, fq, fn, fb, rfl, M0.own q.2, K0, D0⟩ (fr_m q.2)⟩⟩
  · rcases i32 i with hi | ⟨j, hj, rfl⟩
    · exact ⟨_, _, _, _, _, (by decide), (by decide), Nat.le_refl _, Nat.le_refl _, c_M_field_ineg M0 K0 n hn i hi, fun v h' q => ⟨by rw [q.1, xFld, if_neg (nI_pos hn), if_pos hi], WLD.mod hC hd o1_ o2_ o3_ ⟨ai, am, ak, as_, aks, ar, an, ab, mn, fs, fks, fq, fn, fb, rfl, M0.own q.2, K0, D0⟩ (fr_m q.2)⟩⟩
    · exact ⟨_, _, _, _, _, (by decide), (by decide), Nat.le_refl _, Nat.le_refl _, c_M_field M0 K0 n hn j hj, fun v h' q => ⟨by rw [q.1, xFld, if_neg (nI_pos hn), if_neg (nI_pos hj), nI_clamp hn, nI_clamp hj, v_field R], WLD.mod hC hd o1_ o2_ o3_ ⟨ai, am, ak, as_, aks, ar, an, ab, mn, fs, fks, fq, fn, fb, rfl, M0.own q.2, K0, D0⟩ (fr_m q.2)⟩⟩

set_option maxHeartbeats 4000000 in
theorem z_byteAt {tb : Nat → Nat} {h : AH} {r m ou K cap wl pl c : Nat} {B HC KC : Nat → Nat} {cn ln kl : Nat} {cd : Int32} {B2 HB KB : Nat → Nat} {x0 : Int64} (W : WLD h r m ou K cap wl pl c B HC KC cn ln kl cd B2 HB KB x0) (R : REL ln kl HB KB HC KC) (k i : Int32) : AMX tb y_M_byteAt b_M_byteAt 4 (some .int) 9 330 [.ref m, .int k, .int i] h 0 0 (fun v h' => v = some (.int (xByt HC k i)) ∧ WLD h' r m ou K cap wl pl c B HC KC cn ln kl (nI 0) B2 HB KB x0) := by
  obtain ⟨F, L, hC, hM, hd, o1_, o2_, o3_⟩ := W
  obtain ⟨ai, am, ak, as_, aks, ar, an, ab, mn, fs, fks, fq, fn, fb, rfl, M0, K0, D0⟩ := hM
  rcases i32 k with hk | ⟨n, hn, rfl⟩
  · exact ⟨_, _, _, _, _, (by decide), (by decide), Nat.le_refl _, Nat.le_refl _, c_M_byteAt_neg M0 K0 k hk i, fun v h' q => ⟨by rw [q.1, xByt, if_pos hk], WLD.mod hC hd o1_ o2_ o3_ ⟨ai, am, ak, as_, aks, ar, an, ab, mn, fs, fks, fq, fn, fb, rfl, M0.own q.2, K0, D0⟩ (fr_m q.2)⟩⟩
  · rcases i32 i with hi | ⟨j, hj, rfl⟩
    · exact ⟨_, _, _, _, _, (by decide), (by decide), Nat.le_refl _, Nat.le_refl _, c_M_byteAt_ineg M0 K0 n hn i hi, fun v h' q => ⟨by rw [q.1, xByt, if_neg (nI_pos hn), if_pos hi], WLD.mod hC hd o1_ o2_ o3_ ⟨ai, am, ak, as_, aks, ar, an, ab, mn, fs, fks, fq, fn, fb, rfl, M0.own q.2, K0, D0⟩ (fr_m q.2)⟩⟩
    · exact ⟨_, _, _, _, _, (by decide), (by decide), Nat.le_refl _, Nat.le_refl _, c_M_byteAt M0 K0 n hn j hj, fun v h' q => ⟨by rw [q.1, xByt, if_neg (nI_pos hn), if_neg (nI_pos hj), nI_clamp hn, nI_clamp hj, v_byte R], WLD.mod hC hd o1_ o2_ o3_ ⟨ai, am, ak, as_, aks, ar, an, ab, mn, fs, fks, fq, fn, fb, rfl, M0.own q.2, K0, D0⟩ (fr_m q.2)⟩⟩

set_option maxHeartbeats 4000000 in
theorem z_came {tb : Nat → Nat} {h : AH} {r m ou K cap wl pl c : Nat} {B HC KC : Nat → Nat} {cn ln kl : Nat} {cd : Int32} {B2 HB KB : Nat → Nat} {x0 : Int64} (W : WLD h r m ou K cap wl pl c B HC KC cn ln kl cd B2 HB KB x0) (k : Int32) : AMX tb y_M_came b_M_came 2 (some .int) 9 330 [.ref m, .int k] h 0 0 (fun v h' => v = some (.int (xCame B2 cn k)) ∧ WLD h' r m ou K cap wl pl c B HC KC cn ln kl (nI 0) B2 HB KB x0) := by
  obtain ⟨F, L, hC, hM, hd, o1_, o2_, o3_⟩ := W
  obtain ⟨ai, am, ak, as_, aks, ar, an, ab, mn, fs, fks, fq, fn, fb, rfl, M0, K0, D0⟩ := hM
  rcases i32 k with hk | ⟨n, hn, rfl⟩
  · exact ⟨_, _, _, _, _, (by decide), (by decide), Nat.le_refl _, Nat.le_refl _, c_M_came_neg M0 K0 k hk, fun v h' q => ⟨by rw [q.1, xCame, if_pos hk], WLD.mod hC hd o1_ o2_ o3_ ⟨ai, am, ak, as_, aks, ar, an, ab, mn, fs, fks, fq, fn, fb, rfl, M0.own q.2, K0, D0⟩ (fr_m q.2)⟩⟩
  · exact ⟨_, _, _, _, _, (by decide), (by decide), Nat.le_refl _, Nat.le_refl _, c_M_came M0 K0 n hn, fun v h' q => ⟨by rw [q.1, xCame, if_neg (nI_pos hn), nI_clamp hn], WLD.mod hC hd o1_ o2_ o3_ ⟨ai, am, ak, as_, aks, ar, an, ab, mn, fs, fks, fq, fn, fb, rfl, M0.own q.2, K0, D0⟩ (fr_m q.2)⟩⟩

set_option maxHeartbeats 4000000 in
theorem z_thrown {tb : Nat → Nat} {h : AH} {r m ou K cap wl pl c : Nat} {B HC KC : Nat → Nat} {cn ln kl : Nat} {cd : Int32} {B2 HB KB : Nat → Nat} {x0 : Int64} (W : WLD h r m ou K cap wl pl c B HC KC cn ln kl cd B2 HB KB x0)  : AMX tb y_M_thrown b_M_thrown 1 (some .int) 9 330 [.ref m] h 0 0 (fun v h' => v = some (.int cd) ∧ WLD h' r m ou K cap wl pl c B HC KC cn ln kl cd B2 HB KB x0) := by
  obtain ⟨F, L, hC, hM, hd, o1_, o2_, o3_⟩ := W
  obtain ⟨ai, am, ak, as_, aks, ar, an, ab, mn, fs, fks, fq, fn, fb, rfl, M0, K0, D0⟩ := hM
  exact ⟨_, _, _, _, _, (by decide), (by decide), Nat.le_refl _, Nat.le_refl _, c_M_thrown M0, fun v h' q => ⟨q.1, by rw [q.2]; exact ⟨F, _, hC, ⟨ai, am, ak, as_, aks, ar, an, ab, mn, fs, fks, fq, fn, fb, rfl, M0, K0, D0⟩, hd, o1_, o2_, o3_⟩⟩⟩

set_option maxHeartbeats 4000000 in
theorem z_change {tb : Nat → Nat} {h : AH} {r m ou K cap wl pl c : Nat} {B HC KC : Nat → Nat} {cn ln kl : Nat} {cd : Int32} {B2 HB KB : Nat → Nat} {x0 : Int64} (W : WLD h r m ou K cap wl pl c B HC KC cn ln kl cd B2 HB KB x0) (k j : Int32) : AMX tb y_M_change b_M_change 4 (some .int) 9 330 [.ref m, .int k, .int j] h 0 0 (fun v h' => v = some (.int (xChv B2 cn k j)) ∧ WLD h' r m ou K cap wl pl c B HC KC cn ln kl (nI 0) (xCh B2 cn k j) HB KB x0) := by
  obtain ⟨F, L, hC, hM, hd, o1_, o2_, o3_⟩ := W
  obtain ⟨ai, am, ak, as_, aks, ar, an, ab, mn, fs, fks, fq, fn, fb, rfl, M0, K0, D0⟩ := hM
  rcases i32 k with hk | ⟨n, hn, rfl⟩
  · exact ⟨_, _, _, _, _, (by decide), (by decide), Nat.le_refl _, Nat.le_refl _, c_M_change_neg M0 K0 k hk j, fun v h' q => ⟨by rw [q.1, xChv_n (fun z => z.1 hk)], by rw [xCh_n (fun z => z.1 hk)]; exact WLD.mod hC hd o1_ o2_ o3_ ⟨ai, am, ak, as_, aks, ar, an, ab, mn, fs, fks, fq, fn, fb, rfl, M0.own q.2, K0, D0⟩ (fr_m q.2)⟩⟩
  · rcases i32 j with hj | ⟨i, hi, rfl⟩
    · exact ⟨_, _, _, _, _, (by decide), (by decide), Nat.le_refl _, Nat.le_refl _, c_M_change_jneg M0 K0 n hn j hj, fun v h' q => ⟨by rw [q.1, xChv_n (fun z => z.2.2.1 hj)], by rw [xCh_n (fun z => z.2.2.1 hj)]; exact WLD.mod hC hd o1_ o2_ o3_ ⟨ai, am, ak, as_, aks, ar, an, ab, mn, fs, fks, fq, fn, fb, rfl, M0.own q.2, K0, D0⟩ (fr_m q.2)⟩⟩
    · refine ⟨_, _, _, _, _, (by decide), (by decide), Nat.le_refl _, Nat.le_refl _, c_M_change M0 K0 D0 n hn i hi, fun v h' q => ?_⟩
      by_cases z : n < cn ∧ i ≤ 255
      · have ok : xOk cn (nI n) (nI i) := ⟨nI_pos hn, by rw [nI_clamp hn]; exact z.1, nI_pos hi, by rw [nI_clamp hi]; exact z.2⟩
        obtain ⟨t1, t2⟩ := q.1 z
        rw [xCh_y ok, xChv_y ok, nI_clamp hn, nI_clamp hi]
        have M1 : mS (av_up h m (mO (nI 0) ai cn am ln ak kl as_ aks ar an ab mn)) m ai am ak as_ aks ar an ab (nI 0) cn ln kl mn B2 HB KB fs fks fq fn fb := M0.own rfl
        refine ⟨t1, WLD.mod hC hd o1_ o2_ o3_ ⟨ai, am, ak, as_, aks, ar, an, ab, mn, fs, fks, fq, fn, fb, rfl, M1.inb D0 t2, ⟨uB_lt K0.1 (by omega) _, K0.2⟩, D0⟩ (fun q hq => ?_)⟩
        rw [t2, av_up_ne (fun y => hq (by simp [y])), av_up_ne (fun y => hq (by simp [y]))]
      · have no : ¬ xOk cn (nI n) (nI i) := fun y => z ⟨by have := y.2.1; rw [nI_clamp hn] at this; exact this, by have := y.2.2.2; rw [nI_clamp hi] at this; exact this⟩
        obtain ⟨t1, t2⟩ := q.2 z
        exact ⟨by rw [t1, xChv_n no], by rw [xCh_n no]; exact WLD.mod hC hd o1_ o2_ o3_ ⟨ai, am, ak, as_, aks, ar, an, ab, mn, fs, fks, fq, fn, fb, rfl, M0.own t2, K0, D0⟩ (fr_m t2)⟩

set_option maxHeartbeats 4000000 in
theorem z_end_ok {tb : Nat → Nat} {h : AH} {r m ou K cap wl pl c : Nat} {B HC KC : Nat → Nat} {cn ln kl : Nat} {cd : Int32} {B2 HB KB : Nat → Nat} {x0 : Int64} (W : WLD h r m ou K cap wl pl c B HC KC cn ln kl cd B2 HB KB x0) (n : Nat) (hn : n ≤ cn) (hn2 : n < 2147483648) : AMX tb y_M_end b_M_end 3 (some .int) 9 330 [.ref m, .int (nI n)] h 0 0 (fun v h' => v = some (.int (nI cn)) ∧ WLD h' r m ou K cap wl pl c B HC KC n ln kl (nI 0) B2 HB KB x0) := by
  obtain ⟨F, L, hC, hM, hd, o1_, o2_, o3_⟩ := W
  obtain ⟨ai, am, ak, as_, aks, ar, an, ab, mn, fs, fks, fq, fn, fb, rfl, M0, K0, D0⟩ := hM
  refine ⟨_, _, _, _, _, (by decide), (by decide), Nat.le_refl _, Nat.le_refl _, c_M_end M0 K0 n hn2, fun v h' q => ?_⟩
  obtain ⟨t1, t2⟩ := q.1 hn
  exact ⟨t1, WLD.mod hC hd o1_ o2_ o3_ ⟨ai, am, ak, as_, aks, ar, an, ab, mn, fs, fks, fq, fn, fb, rfl, M0.own t2, ⟨K0.1, K0.2.1, K0.2.2.1, (by have := K0.2.2.2.1; omega), K0.2.2.2.2⟩, D0⟩ (fr_m t2)⟩

set_option maxHeartbeats 4000000 in
theorem z_end_no {tb : Nat → Nat} {h : AH} {r m ou K cap wl pl c : Nat} {B HC KC : Nat → Nat} {cn ln kl : Nat} {cd : Int32} {B2 HB KB : Nat → Nat} {x0 : Int64} (W : WLD h r m ou K cap wl pl c B HC KC cn ln kl cd B2 HB KB x0) (k : Int32) (hk : k < 0 ∨ cn < k.toNatClampNeg) : AMX tb y_M_end b_M_end 3 (some .int) 9 330 [.ref m, .int k] h 0 0 (fun v h' => v = some (.int (nI 0)) ∧ WLD h' r m ou K cap wl pl c B HC KC cn ln kl (nI 1) B2 HB KB x0) := by
  obtain ⟨F, L, hC, hM, hd, o1_, o2_, o3_⟩ := W
  obtain ⟨ai, am, ak, as_, aks, ar, an, ab, mn, fs, fks, fq, fn, fb, rfl, M0, K0, D0⟩ := hM
  rcases i32 k with hk2 | ⟨n, hn, rfl⟩
  · refine ⟨_, _, _, _, _, (by decide), (by decide), Nat.le_refl _, Nat.le_refl _, c_M_end_neg M0 K0 k hk2, fun v h' q => ?_⟩
    exact ⟨q.1, WLD.mod hC hd o1_ o2_ o3_ ⟨ai, am, ak, as_, aks, ar, an, ab, mn, fs, fks, fq, fn, fb, rfl, M0.own q.2, K0, D0⟩ (fr_m q.2)⟩
  · refine ⟨_, _, _, _, _, (by decide), (by decide), Nat.le_refl _, Nat.le_refl _, c_M_end M0 K0 n hn, fun v h' q => ?_⟩
    obtain ⟨t1, t2⟩ := q.2 (by rcases hk with z | z; exact absurd z (nI_pos hn); rw [nI_clamp hn] at z; exact z)
    exact ⟨t1, WLD.mod hC hd o1_ o2_ o3_ ⟨ai, am, ak, as_, aks, ar, an, ab, mn, fs, fks, fq, fn, fb, rfl, M0.own t2, K0, D0⟩ (fr_m t2)⟩

set_option maxHeartbeats 4000000 in
theorem z_feed {tb : Nat → Nat} {h : AH} {r m ou K cap wl pl c : Nat} {B HC KC : Nat → Nat} {cn ln kl : Nat} {cd : Int32} {B2 HB KB : Nat → Nat} {x0 : Int64} (W : WLD h r m ou K cap wl pl c B HC KC cn ln kl cd B2 HB KB x0) (hcn : cn + 20 ≤ 65536) (u1 u2 u3 u4 u5 : Nat) (hu1 : u1 < 4294967296) (hu2 : u2 < 4294967296) (hu3 : u3 < 4294967296) (hu4 : u4 < 4294967296) (hu5 : u5 < 4294967296) : AMX tb y_M_feed b_M_feed 8 none 9 330 [.ref m, .int (nI u1), .int (nI u2), .int (nI u3), .int (nI u4), .int (nI u5)] h 0 0 (fun v h' => v = none ∧ WLD h' r m ou K cap wl pl c B HC KC (cn + 20) ln kl (nI 0) (apB B2 cn 20 (wB u1 u2 u3 u4 u5)) HB KB x0) := by
  obtain ⟨F, L, hC, hM, hd, o1_, o2_, o3_⟩ := W
  obtain ⟨ai, am, ak, as_, aks, ar, an, ab, mn, fs, fks, fq, fn, fb, rfl, M0, K0, D0⟩ := hM
  refine ⟨_, _, _, _, _, (by decide), (by decide), Nat.le_refl _, Nat.le_refl _, c_M_feed M0 K0 hcn u1 u2 u3 u4 u5 hu1 hu2 hu3 hu4 hu5, fun v h' q => ?_⟩
  have M1 : mS (av_up h ai (.inl (1, 65536, .inl (bsf (apB B2 cn 20 (wB u1 u2 u3 u4 u5)))))) m ai am ak as_ aks ar an ab cd cn ln kl mn (apB B2 cn 20 (wB u1 u2 u3 u4 u5)) HB KB fs fks fq fn fb := M0.inb D0 rfl
  refine ⟨q.1, WLD.mod hC hd o1_ o2_ o3_ ⟨ai, am, ak, as_, aks, ar, an, ab, mn, fs, fks, fq, fn, fb, rfl, M1.own q.2, ⟨apB_lt K0.1 (wB_lt u1 u2 u3 u4 u5) _ _, K0.2.1, K0.2.2.1, hcn, K0.2.2.2.2⟩, D0⟩ (fun x hq => ?_)⟩
  rw [q.2, av_up_ne (fun y => hq (by simp [y])), av_up_ne (fun y => hq (by simp [y]))]

set_option maxHeartbeats 4000000 in
theorem z_read {tb : Nat → Nat} {h : AH} {r m ou K cap wl pl c : Nat} {B HC KC : Nat → Nat} {cn ln kl : Nat} {cd : Int32} {B2 HB KB : Nat → Nat} {x0 : Int64} (W : WLD h r m ou K cap wl pl c B HC KC cn ln kl cd B2 HB KB x0)  : AMX tb y_M_read b_M_read 3 (some .int) 9 330 [.ref m] h 0 0 (fun v h' => v = some (.int (pI (plc B2 cn))) ∧ (plc B2 cn = none → WLD h' r m ou K cap wl pl c B HC KC 0 cn kl (nI 0) B2 (cpB HB B2 cn) KB x0) ∧ (plc B2 cn ≠ none → WLD h' r m ou K cap wl pl c B HC KC 0 ln kl (nI 0) B2 HB KB x0)) := by
  obtain ⟨F, L, hC, hM, hd, o1_, o2_, o3_⟩ := W
  obtain ⟨ai, am, ak, as_, aks, ar, an, ab, mn, fs, fks, fq, fn, fb, rfl, M0, K0, D0⟩ := hM
  refine ⟨_, _, _, _, _, (by decide), (by decide), Nat.le_refl _, Nat.le_refl _, c_M_read M0 K0 D0, fun v h' q => ?_⟩
  obtain ⟨t1, f, t2, t3, t4⟩ := q
  refine ⟨t1, fun z => ?_, fun z => ?_⟩
  · obtain ⟨s1, s2⟩ := t2 z
    exact WLD.mod hC hd o1_ o2_ o3_ ⟨ai, am, ak, as_, aks, ar, an, ab, mn, f, fks, fq, fn, fb, rfl, s1, ⟨K0.1, cpB_lt K0.2.1 K0.1 _, K0.2.2.1, Nat.zero_le _, K0.2.2.2.1, K0.2.2.2.2.2.1, fun _ => ⟨s2.1, s2⟩, K0.2.2.2.2.2.2.2⟩, D0⟩ (fr_M t4)
  · obtain ⟨s1, s2⟩ := t3 z
    exact WLD.mod hC hd o1_ o2_ o3_ ⟨ai, am, ak, as_, aks, ar, an, ab, mn, f, fks, fq, fn, fb, rfl, s1, ⟨K0.1, K0.2.1, K0.2.2.1, Nat.zero_le _, K0.2.2.2.2.1, K0.2.2.2.2.2.1, fun y => ⟨(K0.2.2.2.2.2.2.1 y).1, s2 y⟩, K0.2.2.2.2.2.2.2⟩, D0⟩ (fr_M t4)

set_option maxHeartbeats 4000000 in
theorem z_keep {tb : Nat → Nat} {h : AH} {r m ou K cap wl pl c : Nat} {B HC KC : Nat → Nat} {cn ln kl : Nat} {cd : Int32} {B2 HB KB : Nat → Nat} {x0 : Int64} (W : WLD h r m ou K cap wl pl c B HC KC cn ln kl cd B2 HB KB x0)  : AMX tb y_M_keep b_M_keep 2 (some .boolean) 9 330 [.ref m] h 0 0 (fun v h' => v = some (.int (bP (0 < ln))) ∧ (ln = 0 → WLD h' r m ou K cap wl pl c B HC KC cn ln kl (nI 0) B2 HB KB x0) ∧ (0 < ln → WLD h' r m ou K cap wl pl c B HC KC cn ln ln (nI 0) B2 HB (cpB KB HB ln) x0)) := by
  obtain ⟨F, L, hC, hM, hd, o1_, o2_, o3_⟩ := W
  obtain ⟨ai, am, ak, as_, aks, ar, an, ab, mn, fs, fks, fq, fn, fb, rfl, M0, K0, D0⟩ := hM
  refine ⟨_, _, _, _, _, (by decide), (by decide), Nat.le_refl _, Nat.le_refl _, c_M_keep M0 K0 D0, fun v h' q => ?_⟩
  obtain ⟨t1, t2, t4⟩ := q
  refine ⟨t1, fun z => ?_, fun z => ?_⟩
  · subst z
    rw [if_neg (Nat.lt_irrefl 0), cpB_0] at t2
    exact WLD.mod hC hd o1_ o2_ o3_ ⟨ai, am, ak, as_, aks, ar, an, ab, mn, fs, fks, fq, fn, fb, rfl, t2, K0, D0⟩ (fr_M t4)
  · rw [if_pos z] at t2
    exact WLD.mod hC hd o1_ o2_ o3_ ⟨ai, am, ak, as_, aks, ar, an, ab, mn, fs, fks, fq, fn, fb, rfl, t2, ⟨K0.1, K0.2.1, cpB_lt K0.2.2.1 K0.2.1 _, K0.2.2.2.1, K0.2.2.2.2.1, K0.2.2.2.2.1, K0.2.2.2.2.2.2.1, fun _ => laid_agr (cpB_agr _ _ _) (K0.2.2.2.2.2.2.1 z).1⟩, D0⟩ (fr_M t4)

set_option maxHeartbeats 4000000 in
theorem z_reachable {tb : Nat → Nat} {h : AH} {r m ou K cap wl pl c : Nat} {B HC KC : Nat → Nat} {cn ln kl : Nat} {cd : Int32} {B2 HB KB : Nat → Nat} {x0 : Int64} (W : WLD h r m ou K cap wl pl c B HC KC cn ln kl cd B2 HB KB x0) (R : REL ln kl HB KB HC KC) : AMX tb y_M_reachable b_M_reachable 1 (some .int) 9 330 [.ref m] h 0 0 (fun v h' => v = some (.int (nI (vfin HC).2.2)) ∧ WLD h' r m ou K cap wl pl c B HC KC cn ln kl (nI 0) B2 HB KB x0) := by
  obtain ⟨F, L, hC, hM, hd, o1_, o2_, o3_⟩ := W
  obtain ⟨ai, am, ak, as_, aks, ar, an, ab, mn, fs, fks, fq, fn, fb, rfl, M0, K0, D0⟩ := hM
  refine ⟨_, _, _, _, _, (by decide), (by decide), Nat.le_refl _, Nat.le_refl _, c_M_reachable M0 K0 D0, fun v h' q => ?_⟩
  obtain ⟨t1, fn', fq', mn', t2, t4⟩ := q
  exact ⟨by rw [t1, v_reach R], WLD.mod hC hd o1_ o2_ o3_ ⟨ai, am, ak, as_, aks, ar, an, ab, _, fs, fks, _, _, fb, rfl, t2, K0, D0⟩ (fr_M t4)⟩

set_option maxHeartbeats 4000000 in
theorem z_write {tb : Nat → Nat} {h : AH} {r m ou K cap wl pl c : Nat} {B HC KC : Nat → Nat} {cn ln kl : Nat} {cd : Int32} {B2 HB KB : Nat → Nat} {x0 : Int64} (W : WLD h r m ou K cap wl pl c B HC KC cn ln kl cd B2 HB KB x0) (hE : 0 < ln → (wout HB).1 ≤ 65536) : AMX tb y_M_write b_M_write 6 (some .int) 9 330 [.ref m] h 0 0 (fun v h' => (ln = 0 → v = some (.int (-1)) ∧ WLD h' r m ou K cap wl pl c B HC KC cn ln kl (nI 0) B2 HB KB x0) ∧ (0 < ln → v = some (.int (nI (wout HB).1)) ∧ ∃ B', RW (wout HB) B' ∧ WLD h' r m ou K cap wl pl c B HC KC ((wout HB).1) ln kl (nI 0) B' HB KB x0)) := by
  obtain ⟨F, L, hC, hM, hd, o1_, o2_, o3_⟩ := W
  obtain ⟨ai, am, ak, as_, aks, ar, an, ab, mn, fs, fks, fq, fn, fb, rfl, M0, K0, D0⟩ := hM
  refine ⟨_, _, _, _, _, (by decide), (by decide), Nat.le_refl _, Nat.le_refl _, c_M_write M0 K0 D0, fun v h' q => ?_⟩
  obtain ⟨t1, t2, t4⟩ := q
  refine ⟨fun z => ⟨(t1 z).1, ?_⟩, fun z => ?_⟩
  · exact WLD.mod hC hd o1_ o2_ o3_ ⟨ai, am, ak, as_, aks, ar, an, ab, mn, fs, fks, fq, fn, fb, rfl, (t1 z).2, K0, D0⟩ (fr_M t4)
  · obtain ⟨s1, B', fn', fq', mn', s2, s3, s4⟩ := t2 z
    exact ⟨s1, B', s3, WLD.mod hC hd o1_ o2_ o3_ ⟨ai, am, ak, as_, aks, ar, an, ab, _, fs, fks, _, _, fb, rfl, s2, ⟨s4, K0.2.1, K0.2.2.1, hE z, K0.2.2.2.2⟩, D0⟩ (fr_M t4)⟩

theorem v_same {ln kl : Nat} {HB KB HC KC : Nat → Nat} (R : REL ln kl HB KB HC KC) (h1 : 0 < ln → 1 ≤ nn HB) (h2 : 0 < kl → 1 ≤ nn KB) : sameS ln kl HB KB ↔ (¬ nn HC = 0 ∧ ¬ nn KC = 0 ∧ HC 4 = KC 4 ∧ HC 5 = KC 5 ∧ gfin HC KC = true) := by
  unfold sameS
  by_cases z : 0 < ln
  · by_cases y : 0 < kl
    · rw [R.h1 z, R.k1 y]
      have a := h1 z
      have b := h2 y
      exact ⟨fun q => ⟨by omega, by omega, q.2.2⟩, fun q => ⟨z, y, q.2.2⟩⟩
    · rw [R.k0 (by omega)]
      exact ⟨fun q => absurd q.2.1 y, fun q => absurd rfl q.2.1⟩
  · rw [R.h0 (by omega)]
    exact ⟨fun q => absurd q.1 z, fun q => absurd rfl q.1⟩

set_option maxHeartbeats 4000000 in
theorem z_same {tb : Nat → Nat} {h : AH} {r m ou K cap wl pl c : Nat} {B HC KC : Nat → Nat} {cn ln kl : Nat} {cd : Int32} {B2 HB KB : Nat → Nat} {x0 : Int64} (W : WLD h r m ou K cap wl pl c B HC KC cn ln kl cd B2 HB KB x0) (R : REL ln kl HB KB HC KC) : AMX tb y_M_same b_M_same 3 (some .boolean) 9 330 [.ref m] h 0 0 (fun v h' => v = some (.int (bP (¬ nn HC = 0 ∧ ¬ nn KC = 0 ∧ HC 4 = KC 4 ∧ HC 5 = KC 5 ∧ gfin HC KC = true))) ∧ WLD h' r m ou K cap wl pl c B HC KC cn ln kl (nI 0) B2 HB KB x0) := by
  obtain ⟨F, L, hC, hM, hd, o1_, o2_, o3_⟩ := W
  obtain ⟨ai, am, ak, as_, aks, ar, an, ab, mn, fs, fks, fq, fn, fb, rfl, M0, K0, D0⟩ := hM
  refine ⟨_, _, _, _, _, (by decide), (by decide), Nat.le_refl _, Nat.le_refl _, c_M_same M0 K0 D0, fun v h' q => ?_⟩
  obtain ⟨t1, fks', fn', fb', fq', mn', t2, t4⟩ := q
  exact ⟨by rw [t1, bP_congr (v_same R (fun z => (K0.2.2.2.2.2.2.1 z).1.2.2.1) (fun z => (K0.2.2.2.2.2.2.2 z).2.2.1))], WLD.mod hC hd o1_ o2_ o3_ ⟨ai, am, ak, as_, aks, ar, an, ab, _, fs, _, _, _, _, rfl, t2, K0, D0⟩ (fr_M t4)⟩
