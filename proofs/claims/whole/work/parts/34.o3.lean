/-! ===== the class: Form ===== -/
theorem xc_t {P Q : Prop} {h : AH} (e : P ↔ Q) {r : Int32} (hr : r = bP P) : av_Pi (bP Q) h (some (.int r)) h := ⟨by rw [hr, bP_congr e], rfl⟩

set_option maxHeartbeats 4000000 in
theorem c_F_temporariesOf {tb : Nat → Nat} {h : AH} (s : Nat) (hs : s < 2147483648) : AM tb y_F_temporariesOf b_F_temporariesOf 1 (some .int) 0 0 [.int (nI s)] h 0 0 (av_Pi (nI (s / 16 % 32)) h) := by
  refine am_of (ini := false) [some (.int (nI s))] (by decide) (fun z => by cases z) (Nat.le_of_ble_eq_true rfl) rfl ?_
  refine aw_iload_n d_F_temporariesOf_0 rfl ?_
  refine aw_iconst (v := nI 4) d_F_temporariesOf_1 (by decide) ?_
  refine aw_ishr (v := nI (s / 16)) d_F_temporariesOf_2 (pk_shrN (by omega) _ 4 (by decide)) ?_
  refine aw_bipush (v := nI 31) d_F_temporariesOf_3 (by decide) ?_
  refine aw_iand (v := nI ((s / 16) % 32)) d_F_temporariesOf_5 (and_31 _) ?_
  exact aw_iret d_F_temporariesOf_6 rfl rfl ⟨rfl, rfl⟩

set_option maxHeartbeats 4000000 in
theorem c_F_argumentsOf {tb : Nat → Nat} {h : AH} (s : Nat) (hs : s < 2147483648) : AM tb y_F_argumentsOf b_F_argumentsOf 1 (some .int) 0 0 [.int (nI s)] h 0 0 (av_Pi (nI (s % 16)) h) := by
  refine am_of (ini := false) [some (.int (nI s))] (by decide) (fun z => by cases z) (Nat.le_of_ble_eq_true rfl) rfl ?_
  refine aw_iload_n d_F_argumentsOf_0 rfl ?_
  refine aw_bipush (v := nI 15) d_F_argumentsOf_1 (by decide) ?_
  refine aw_iand (v := nI (s % 16)) d_F_argumentsOf_3 (and_15 _) ?_
  exact aw_iret d_F_argumentsOf_4 rfl rfl ⟨rfl, rfl⟩

set_option maxHeartbeats 4000000 in
theorem c_F_depthOf {tb : Nat → Nat} {h : AH} (s : Nat) (hs : s < 2147483648) : AM tb y_F_depthOf b_F_depthOf 1 (some .int) 0 0 [.int (nI s)] h 0 0 (av_Pi (nI (s / 512 % 64)) h) := by
  refine am_of (ini := false) [some (.int (nI s))] (by decide) (fun z => by cases z) (Nat.le_of_ble_eq_true rfl) rfl ?_
  refine aw_iload_n d_F_depthOf_0 rfl ?_
  refine aw_bipush (v := nI 9) d_F_depthOf_1 (by decide) ?_
  refine aw_ishr (v := nI (s / 512)) d_F_depthOf_3 (pk_shrN (by omega) _ 9 (by decide)) ?_
  refine aw_bipush (v := nI 63) d_F_depthOf_4 (by decide) ?_
  refine aw_iand (v := nI ((s / 512) % 64)) d_F_depthOf_6 (and_63 _) ?_
  exact aw_iret d_F_depthOf_7 rfl rfl ⟨rfl, rfl⟩

set_option maxHeartbeats 4000000 in
theorem c_F_isClass {tb : Nat → Nat} {h : AH} {im a0 a1 a2 a3 a4 a5 cc pc us iw wp cp : Nat} {B : Nat → Nat} {f0 f1 f2 f3 f4 f5 : Nat → Int32} (M : iS h im a0 a1 a2 a3 a4 a5 cc pc us (nn B) iw wp cp f0 f1 f2 f3 f4 f5) (V : IV B f0 f1 f2 f3 f4 f5 cc pc) (L : LX B) (hB_ : ∀ i, B i < 256) (hcc : cc ≤ 1048576) (hpc : pc ≤ 1048576) (k : Nat) (hk : k < 2147483648) : AM tb y_F_isClass b_F_isClass 4 (some .boolean) 2 44 [.ref im, .int (nI k)] h 0 0 (av_Pi (bP (xCL B k)) h) := by
  have nV_im := V.1
  have nL_im := L.1
  refine am_of (ini := false) [some (.ref im), some (.int (nI k)), none, none] (by decide) (fun z => by cases z) (Nat.le_of_ble_eq_true rfl) rfl ?_
  refine aw_aload_n d_F_isClass_0 rfl ?_
  refine aw_iload_n d_F_isClass_1 rfl ?_
  refine aw_iconst (v := nI 2) d_F_isClass_2 (by decide) ?_
  refine aw_callVi (mc2 := 0) (ms2 := 0) (r := nI (FA B k 2)) (As := [.int (nI k), .int (nI 2)]) (rest := []) (c_I_fieldAt ⟨M.1, M.2.1, M.2.2.1, M.2.2.2.1, M.2.2.2.2.1, M.2.2.2.2.2.1, M.2.2.2.2.2.2⟩ V L hB_ hcc hpc k (by omega) 2 (by omega)) cv_F_79 d_F_isClass_3 M.1 rfl rfl rfl (Nat.le_of_ble_eq_true rfl) (by decide) (by decide) (by omega) (by omega) ?_
  have b_3 := FA_lt hB_ k 2
  refine aw_istore_n (L' := [some (.ref im), some (.int (nI k)), some (.int (nI (FA B k 2))), none]) d_F_isClass_6 (by decide) rfl rfl ?_
  refine aw_aload_n d_F_isClass_7 rfl ?_
  refine aw_iload_n d_F_isClass_8 rfl ?_
  refine aw_callVi (mc2 := 0) (ms2 := 0) (r := nI (FC B k)) (As := [.int (nI k)]) (rest := []) (c_I_fieldCount ⟨M.1, M.2.1, M.2.2.1, M.2.2.2.1, M.2.2.2.2.1, M.2.2.2.2.2.1, M.2.2.2.2.2.2⟩ V L hB_ hcc hpc k (by omega)) cv_F_44 d_F_isClass_9 M.1 rfl rfl rfl (Nat.le_of_ble_eq_true rfl) (by decide) (by decide) (by omega) (by omega) ?_
  have b_9 := FC_lt hB_ k
  refine aw_iconst (v := nI 3) d_F_isClass_12 (by decide) ?_
  refine aw_icmp_lt (tgt := 23) d_F_isClass_13 (by decide) (fun c_13 => ?_) (fun c_13 => ?_)
  · rw [nI_ltI (by omega) (by omega)] at c_13
    refine aw_iconst (v := nI 0) d_F_isClass_23 (by decide) ?_
    exact aw_iret d_F_isClass_24 rfl nar0 (rt_f (by unfold xCL shp; omega))
  · rw [nI_ltI (by omega) (by omega)] at c_13
    refine aw_iload_n d_F_isClass_16 rfl ?_
    refine aw_callSi (mc2 := 0) (ms2 := 0) (r := bP ((FA B k 2) % 2 = 1)) (As := [.int (nI (FA B k 2))]) (rest := []) (c_R_isNumber (FA B k 2)) cs_F_115 d_F_isClass_17 rfl rfl (Nat.le_of_ble_eq_true rfl) (by decide) (by decide) (by omega) (by omega) ?_
    refine aw_if_ne (tgt := 25) d_F_isClass_20 (by decide) (fun c_20 => ?_) (fun c_20 => ?_)
    · rw [bP_eq0, Classical.not_not] at c_20
      refine aw_iload_n d_F_isClass_25 rfl ?_
      refine aw_callSi (mc2 := 0) (ms2 := 0) (r := nI (FA B k 2) >>> (nI 1 &&& 31)) (As := [.int (nI (FA B k 2))]) (rest := []) (c_R_numberOf_raw (FA B k 2)) cs_F_82 d_F_isClass_26 rfl rfl (Nat.le_of_ble_eq_true rfl) (by decide) (by decide) (by omega) (by omega) ?_
      refine aw_istore_n (L' := [some (.ref im), some (.int (nI k)), some (.int (nI (FA B k 2))), some (.int (nI (FA B k 2) >>> (nI 1 &&& 31)))]) d_F_isClass_29 (by decide) rfl rfl ?_
      refine aw_iload_n d_F_isClass_30 rfl ?_
      refine aw_sipush (v := nI 2048) d_F_isClass_31 (by decide) ?_
      refine aw_iand (v := (nI (FA B k 2) >>> (nI 1 &&& 31)) &&& (nI 2048)) d_F_isClass_34 rfl ?_
      refine aw_if_eq (tgt := 51) d_F_isClass_35 (by decide) (fun c_35 => ?_) (fun c_35 => ?_)
      · rw [shr_su b_3] at c_35
        refine aw_iload_n d_F_isClass_51 rfl ?_
        refine aw_sipush (v := (-1280)) d_F_isClass_52 (by decide) ?_
        refine aw_iand (v := (nI (FA B k 2) >>> (nI 1 &&& 31)) &&& (-1280)) d_F_isClass_55 rfl ?_
        refine aw_if_ne (tgt := 63) d_F_isClass_56 (by decide) (fun c_56 => ?_) (fun c_56 => ?_)
        · rw [shr_su b_3] at c_56
          refine aw_iconst (v := nI 0) d_F_isClass_63 (by decide) ?_
          exact aw_iret d_F_isClass_64 rfl nar0 (rt_f (by have q := shp_0 b_3 c_20 c_35; unfold xCL; rw [← q]; exact fun z => c_56 z.2))
        · rw [shr_su b_3] at c_56
          refine aw_iconst (v := nI 1) d_F_isClass_59 (by decide) ?_
          refine aw_goto (tgt := 64) d_F_isClass_60 (by decide) ?_
          exact aw_iret d_F_isClass_64 rfl nar1 (rt_t (by have q := shp_0 b_3 c_20 c_35; unfold xCL; rw [← q]; exact ⟨by omega, c_56⟩))
      · rw [shr_su b_3] at c_35
        refine aw_iload_n d_F_isClass_38 rfl ?_
        refine aw_sipush (v := nI 3072) d_F_isClass_39 (by decide) ?_
        refine aw_icmp_ne (tgt := 49) d_F_isClass_42 (by decide) (fun c_42 => ?_) (fun c_42 => ?_)
        · rw [shr_su b_3] at c_42
          refine aw_iconst (v := nI 0) d_F_isClass_49 (by decide) ?_
          exact aw_iret d_F_isClass_50 rfl nar0 (rt_f (by have q := shp_1 b_3 c_20 c_35; unfold xCL; rw [← q]; exact fun z => c_42 z.2))
        · rw [shr_su b_3] at c_42
          refine aw_iconst (v := nI 1) d_F_isClass_45 (by decide) ?_
          refine aw_goto (tgt := 50) d_F_isClass_46 (by decide) ?_
          exact aw_iret d_F_isClass_50 rfl nar1 (rt_t (by have q := shp_1 b_3 c_20 c_35; unfold xCL; rw [← q]; exact ⟨by omega, c_42⟩))
    · rw [bP_eq0] at c_20
      refine aw_iconst (v := nI 0) d_F_isClass_23 (by decide) ?_
      exact aw_iret d_F_isClass_24 rfl nar0 (rt_f (by unfold xCL shp; omega))

set_option maxHeartbeats 4000000 in
theorem c_F_isPlain {tb : Nat → Nat} {h : AH} {im a0 a1 a2 a3 a4 a5 cc pc us iw wp cp : Nat} {B : Nat → Nat} {f0 f1 f2 f3 f4 f5 : Nat → Int32} (M : iS h im a0 a1 a2 a3 a4 a5 cc pc us (nn B) iw wp cp f0 f1 f2 f3 f4 f5) (V : IV B f0 f1 f2 f3 f4 f5 cc pc) (L : LX B) (hB_ : ∀ i, B i < 256) (hcc : cc ≤ 1048576) (hpc : pc ≤ 1048576) (k : Nat) (hk : k < 2147483648) (m : Nat) (hm : m < 2147483648) : AM tb y_F_isPlain b_F_isPlain 3 (some .boolean) 2 43 [.ref im, .int (nI k), .int (nI m)] h 0 0 (av_Pi (bP (xPL B k m)) h) := by
  have nV_im := V.1
  have nL_im := L.1
  refine am_of (ini := false) [some (.ref im), some (.int (nI k)), some (.int (nI m))] (by decide) (fun z => by cases z) (Nat.le_of_ble_eq_true rfl) rfl ?_
  refine aw_aload_n d_F_isPlain_0 rfl ?_
  refine aw_iload_n d_F_isPlain_1 rfl ?_
  refine aw_callVi (mc2 := 0) (ms2 := 0) (r := nI (FC B k)) (As := [.int (nI k)]) (rest := []) (c_I_fieldCount ⟨M.1, M.2.1, M.2.2.1, M.2.2.2.1, M.2.2.2.2.1, M.2.2.2.2.2.1, M.2.2.2.2.2.2⟩ V L hB_ hcc hpc k (by omega)) cv_F_44 d_F_isPlain_2 M.1 rfl rfl rfl (Nat.le_of_ble_eq_true rfl) (by decide) (by decide) (by omega) (by omega) ?_
  have b_2 := FC_lt hB_ k
  refine aw_iload_n d_F_isPlain_5 rfl ?_
  refine aw_icmp_lt (tgt := 21) d_F_isPlain_6 (by decide) (fun c_6 => ?_) (fun c_6 => ?_)
  · rw [nI_ltI (by omega) (by omega)] at c_6
    refine aw_iconst (v := nI 0) d_F_isPlain_21 (by decide) ?_
    exact aw_iret d_F_isPlain_22 rfl nar0 (rt_f (by unfold xPL xCX; omega))
  · rw [nI_ltI (by omega) (by omega)] at c_6
    refine aw_aload_n d_F_isPlain_9 rfl ?_
    refine aw_iload_n d_F_isPlain_10 rfl ?_
    refine aw_callVi (mc2 := 0) (ms2 := 0) (r := bP (1 ≤ k ∧ k ≤ nn B ∧ (cl B k = sp B 7 ∨ cl B k = sp B 8))) (As := [.int (nI k)]) (rest := []) (c_I_isContext ⟨M.1, M.2.1, M.2.2.1, M.2.2.2.1, M.2.2.2.2.1, M.2.2.2.2.2.1, M.2.2.2.2.2.2⟩ V L hB_ hcc hpc k (by omega)) cv_F_111 d_F_isPlain_11 M.1 rfl rfl rfl (Nat.le_of_ble_eq_true rfl) (by decide) (by decide) (by omega) (by omega) ?_
    refine aw_if_ne (tgt := 21) d_F_isPlain_14 (by decide) (fun c_14 => ?_) (fun c_14 => ?_)
    · rw [bP_eq0, Classical.not_not] at c_14
      refine aw_iconst (v := nI 0) d_F_isPlain_21 (by decide) ?_
      exact aw_iret d_F_isPlain_22 rfl nar0 (rt_f (by unfold xPL xCX; omega))
    · rw [bP_eq0] at c_14
      refine aw_iconst (v := nI 1) d_F_isPlain_17 (by decide) ?_
      refine aw_goto (tgt := 22) d_F_isPlain_18 (by decide) ?_
      exact aw_iret d_F_isPlain_22 rfl nar1 (rt_t (by unfold xPL xCX; omega))

set_option maxHeartbeats 4000000 in
theorem lp_F_isNewSince {tb : Nat → Nat} {h : AH} {fr lo : Nat} {mc ms : Nat} (hfr : 1 ≤ fr) (hlo : 21 ≤ lo) {im a0 a1 a2 a3 a4 a5 cc pc us iw wp cp : Nat} {B : Nat → Nat} {f0 f1 f2 f3 f4 f5 : Nat → Int32} (M : iS h im a0 a1 a2 a3 a4 a5 cc pc us (nn B) iw wp cp f0 f1 f2 f3 f4 f5) (V : IV B f0 f1 f2 f3 f4 f5 cc pc) (L : LX B) (hB_ : ∀ i, B i < 256) (hcc : cc ≤ 1048576) (hpc : pc ≤ 1048576) (a k : Nat) (ha : a < 50) (hk : k < 50) : ∀ (d : Nat) (i : Nat), a ≤ i → k < i + d → (∀ j, a ≤ j → j < i → sp B j ≠ sp B k) → i ≤ 50 → AW tb "ImageReader$Form" b_F_isNewSince 4 (some .boolean) false none fr lo (av_Pi (bP (∀ i, a ≤ i → i < k → sp B i ≠ sp B k)) h) 2 [some (.ref im), some (.int (nI a)), some (.int (nI k)), some (.int (nI i))] [] h mc ms := by
  intro d
  induction d with
  | zero => intro i hai hd hz hik; refine aw_iload_n d_F_isNewSince_2 rfl (aw_iload_n d_F_isNewSince_3 rfl (aw_icmp_ge (tgt := 28) d_F_isNewSince_4 (by decide) (fun _ => aw_iconst (v := nI 1) d_F_isNewSince_28 (by decide) (aw_iret d_F_isNewSince_29 rfl nar1 (rt_t (fun j h1 h2 => hz j h1 (by omega))))) (fun c => absurd ((nI_leI (by omega) (by omega)).mpr (by omega)) c)))
  | succ d ih =>
    intro i hai hd hz hik
    have nV_im := V.1
    have nL_im := L.1
    refine aw_iload_n d_F_isNewSince_2 rfl ?_
    refine aw_iload_n d_F_isNewSince_3 rfl ?_
    refine aw_icmp_ge (tgt := 28) d_F_isNewSince_4 (by decide) (fun c_4 => ?_) (fun c_4 => ?_)
    · rw [nI_leI (by omega) (by omega)] at c_4
      refine aw_iconst (v := nI 1) d_F_isNewSince_28 (by decide) ?_
      exact aw_iret d_F_isNewSince_29 rfl nar1 (rt_t (fun j h1 h2 => hz j h1 (by omega)))
    · rw [nI_leI (by omega) (by omega)] at c_4
      refine aw_aload_n d_F_isNewSince_7 rfl ?_
      refine aw_iload_n d_F_isNewSince_8 rfl ?_
      refine aw_callVi (mc2 := mc) (ms2 := ms) (r := nI (sp B i)) (As := [.int (nI i)]) (rest := []) (c_I_specialAt ⟨M.1, M.2.1, M.2.2.1, M.2.2.2.1, M.2.2.2.2.1, M.2.2.2.2.2.1, M.2.2.2.2.2.2⟩ V L hB_ hcc hpc i (by omega)) cv_F_30 d_F_isNewSince_9 M.1 rfl rfl rfl (Nat.le_of_ble_eq_true rfl) (by omega) (by omega) (by omega) (by omega) ?_
      have b_9 := sp_lt hB_ i
      refine aw_aload_n d_F_isNewSince_12 rfl ?_
      refine aw_iload_n d_F_isNewSince_13 rfl ?_
      refine aw_callVi (mc2 := mc) (ms2 := ms) (r := nI (sp B k)) (As := [.int (nI k)]) (rest := [.int (nI (sp B i))]) (c_I_specialAt ⟨M.1, M.2.1, M.2.2.1, M.2.2.2.1, M.2.2.2.2.1, M.2.2.2.2.2.1, M.2.2.2.2.2.2⟩ V L hB_ hcc hpc k (by omega)) cv_F_30 d_F_isNewSince_14 M.1 rfl rfl rfl (Nat.le_of_ble_eq_true rfl) (by omega) (by omega) (by omega) (by omega) ?_
      have b_14 := sp_lt hB_ k
      refine aw_icmp_ne (tgt := 22) d_F_isNewSince_17 (by decide) (fun c_17 => ?_) (fun c_17 => ?_)
      · rw [w_eq (by omega) (by omega)] at c_17
        refine aw_iinc (v := nI (i + 1)) (L' := [some (.ref im), some (.int (nI a)), some (.int (nI k)), some (.int (nI (i + 1)))]) d_F_isNewSince_22 rfl (nI_add i 1) (by decide) rfl rfl ?_
        refine aw_goto (tgt := 2) d_F_isNewSince_25 (by decide) ?_
        exact ih (i + 1) (by omega) (by omega) (fun j h1 h2 => by by_cases z : j = i; (rw [z]; exact c_17); exact hz j h1 (by omega)) (by omega)
      · rw [w_eq (by omega) (by omega)] at c_17
        refine aw_iconst (v := nI 0) d_F_isNewSince_20 (by decide) ?_
        exact aw_iret d_F_isNewSince_21 rfl nar0 (rt_f (fun z => z i hai (by omega) c_17))

set_option maxHeartbeats 4000000 in
theorem c_F_isNewSince {tb : Nat → Nat} {h : AH} {im a0 a1 a2 a3 a4 a5 cc pc us iw wp cp : Nat} {B : Nat → Nat} {f0 f1 f2 f3 f4 f5 : Nat → Int32} (M : iS h im a0 a1 a2 a3 a4 a5 cc pc us (nn B) iw wp cp f0 f1 f2 f3 f4 f5) (V : IV B f0 f1 f2 f3 f4 f5 cc pc) (L : LX B) (hB_ : ∀ i, B i < 256) (hcc : cc ≤ 1048576) (hpc : pc ≤ 1048576) (a k : Nat) (ha : a < 50) (hk : k < 50) : AM tb y_F_isNewSince b_F_isNewSince 4 (some .boolean) 1 21 [.ref im, .int (nI a), .int (nI k)] h 0 0 (av_Pi (bP (∀ i, a ≤ i → i < k → sp B i ≠ sp B k)) h) := by
  have nV_im := V.1
  have nL_im := L.1
  refine am_of (ini := false) [some (.ref im), some (.int (nI a)), some (.int (nI k)), none] (by decide) (fun z => by cases z) (Nat.le_of_ble_eq_true rfl) rfl ?_
  refine aw_iload_n d_F_isNewSince_0 rfl ?_
  refine aw_istore_n (L' := [some (.ref im), some (.int (nI a)), some (.int (nI k)), some (.int (nI a))]) d_F_isNewSince_1 (by decide) rfl rfl ?_
  exact lp_F_isNewSince (by decide) (by decide) M V L hB_ hcc hpc a k ha hk (k + 1) a (Nat.le_refl a) (by omega) (fun j h1 h2 => by omega) (by omega)

set_option maxHeartbeats 4000000 in
theorem c_F_isSpecialFit {tb : Nat → Nat} {h : AH} {im a0 a1 a2 a3 a4 a5 cc pc us iw wp cp : Nat} {B : Nat → Nat} {f0 f1 f2 f3 f4 f5 : Nat → Int32} (M : iS h im a0 a1 a2 a3 a4 a5 cc pc us (nn B) iw wp cp f0 f1 f2 f3 f4 f5) (V : IV B f0 f1 f2 f3 f4 f5 cc pc) (L : LX B) (hB_ : ∀ i, B i < 256) (hcc : cc ≤ 1048576) (hpc : pc ≤ 1048576) (k : Nat) (hk : k < 15) : AM tb y_F_isSpecialFit b_F_isSpecialFit 3 (some .boolean) 3 67 [.ref im, .int (nI k)] h 0 0 (av_Pi (bP (SS B k)) h) := by
  have nV_im := V.1
  have nL_im := L.1
  have v := L.s (show k < 50 by omega)
  refine am_of (ini := false) [some (.ref im), some (.int (nI k)), none] (by decide) (fun z => by cases z) (Nat.le_of_ble_eq_true rfl) rfl ?_
  refine aw_aload_n d_F_isSpecialFit_0 rfl ?_
  refine aw_aload_n d_F_isSpecialFit_1 rfl ?_
  refine aw_iload_n d_F_isSpecialFit_2 rfl ?_
  refine aw_callVi (mc2 := 0) (ms2 := 0) (r := nI (sp B k)) (As := [.int (nI k)]) (rest := [.ref im]) (c_I_specialAt ⟨M.1, M.2.1, M.2.2.1, M.2.2.2.1, M.2.2.2.2.1, M.2.2.2.2.2.1, M.2.2.2.2.2.2⟩ V L hB_ hcc hpc k (by omega)) cv_F_30 d_F_isSpecialFit_3 M.1 rfl rfl rfl (Nat.le_of_ble_eq_true rfl) (by decide) (by decide) (by omega) (by omega) ?_
  have b_3 := sp_lt hB_ k
  refine aw_callVi (mc2 := 0) (ms2 := 0) (r := nI (ob (sp B k))) (As := [.int (nI (sp B k))]) (rest := []) (c_I_objectOf ⟨M.1, M.2.1, M.2.2.1, M.2.2.2.1, M.2.2.2.2.1, M.2.2.2.2.2.1, M.2.2.2.2.2.2⟩ V L hB_ hcc hpc (sp B k) (by omega) (L.s (by omega))) cv_F_34 d_F_isSpecialFit_6 M.1 rfl rfl rfl (Nat.le_of_ble_eq_true rfl) (by decide) (by decide) (by omega) (by omega) ?_
  have ol_6 : ob (sp B k) ≤ nn B := ob_le (L.s (by omega))
  refine aw_istore_n (L' := [some (.ref im), some (.int (nI k)), some (.int (nI (ob (sp B k))))]) d_F_isSpecialFit_9 (by decide) rfl rfl ?_
  refine aw_iload_n d_F_isSpecialFit_10 rfl ?_
  refine aw_if_ne (tgt := 16) d_F_isSpecialFit_11 (by decide) (fun c_11 => ?_) (fun c_11 => ?_)
  · rw [w_eq0 (by omega)] at c_11
    refine aw_iload_n d_F_isSpecialFit_16 rfl ?_
    refine aw_iconst (v := nI 1) d_F_isSpecialFit_17 (by decide) ?_
    refine aw_icmp_gt (tgt := 28) d_F_isSpecialFit_18 (by decide) (fun c_18 => ?_) (fun c_18 => ?_)
    · rw [nI_ltI (by omega) (by omega)] at c_18
      refine aw_iload_n d_F_isSpecialFit_28 rfl ?_
      refine aw_bipush (v := nI 12) d_F_isSpecialFit_29 (by decide) ?_
      refine aw_icmp_gt (tgt := 57) d_F_isSpecialFit_31 (by decide) (fun c_31 => ?_) (fun c_31 => ?_)
      · rw [nI_ltI (by omega) (by omega)] at c_31
        refine aw_iload_n d_F_isSpecialFit_57 rfl ?_
        refine aw_bipush (v := nI 13) d_F_isSpecialFit_58 (by decide) ?_
        refine aw_icmp_ne (tgt := 80) d_F_isSpecialFit_60 (by decide) (fun c_60 => ?_) (fun c_60 => ?_)
        · rw [w_eq (by omega) (by omega)] at c_60
          refine aw_aload_n d_F_isSpecialFit_80 rfl ?_
          refine aw_iload_n d_F_isSpecialFit_81 rfl ?_
          refine aw_iconst (v := nI 2) d_F_isSpecialFit_82 (by decide) ?_
          refine aw_callSi (mc2 := 0) (ms2 := 0) (r := bP (xPL B (ob (sp B k)) 2)) (As := [.ref im, .int (nI (ob (sp B k))), .int (nI 2)]) (rest := []) (c_F_isPlain ⟨M.1, M.2.1, M.2.2.1, M.2.2.2.1, M.2.2.2.2.1, M.2.2.2.2.2.1, M.2.2.2.2.2.2⟩ V L hB_ hcc hpc (ob (sp B k)) (by omega) 2 (by omega)) cs_F_47 d_F_isSpecialFit_83 rfl rfl (Nat.le_of_ble_eq_true rfl) (by decide) (by decide) (by omega) (by omega) ?_
          exact aw_iret d_F_isSpecialFit_86 rfl (bP_nar _) (rt_b ⟨fun z => ⟨fun h => by omega, fun _ h => by omega, fun h => by omega, fun h => by subst h; exact (xPL_iff v (by decide)).mp z⟩, fun z => by have y : k = 14 := (by omega); subst y; exact (xPL_iff v (by decide)).mpr (z.2.2.2 rfl)⟩)
        · rw [w_eq (by omega) (by omega)] at c_60
          refine aw_aload_n d_F_isSpecialFit_63 rfl ?_
          refine aw_iload_n d_F_isSpecialFit_64 rfl ?_
          refine aw_callVi (mc2 := 0) (ms2 := 0) (r := nI (FC B (ob (sp B k)))) (As := [.int (nI (ob (sp B k)))]) (rest := []) (c_I_fieldCount ⟨M.1, M.2.1, M.2.2.1, M.2.2.2.1, M.2.2.2.2.1, M.2.2.2.2.2.1, M.2.2.2.2.2.2⟩ V L hB_ hcc hpc (ob (sp B k)) (by omega)) cv_F_44 d_F_isSpecialFit_65 M.1 rfl rfl rfl (Nat.le_of_ble_eq_true rfl) (by decide) (by decide) (by omega) (by omega) ?_
          have b_65 := FC_lt hB_ (ob (sp B k))
          refine aw_sipush (v := nI 256) d_F_isSpecialFit_68 (by decide) ?_
          refine aw_icmp_ne (tgt := 78) d_F_isSpecialFit_71 (by decide) (fun c_71 => ?_) (fun c_71 => ?_)
          · rw [w_eq (by omega) (by omega)] at c_71
            refine aw_iconst (v := nI 0) d_F_isSpecialFit_78 (by decide) ?_
            exact aw_iret d_F_isSpecialFit_79 rfl nar0 (rt_f (fun z => by have y : k = 13 := c_60; subst y; obtain ⟨q1, q2⟩ := z.2.2.1 rfl; have q3 := (xHF v (by decide)).mpr q1; obtain ⟨_, _, _, q4⟩ := FC_pos (show 0 < FC B (ob (sp B 13)) by omega); omega))
          · rw [w_eq (by omega) (by omega)] at c_71
            refine aw_iconst (v := nI 1) d_F_isSpecialFit_74 (by decide) ?_
            refine aw_goto (tgt := 79) d_F_isSpecialFit_75 (by decide) ?_
            exact aw_iret d_F_isSpecialFit_79 rfl nar1 (rt_t (by have y : k = 13 := c_60; subst y; exact ⟨fun h => by omega, fun _ h => by omega, fun _ => by obtain ⟨q1, q2, q3, q4⟩ := FC_pos (show 0 < FC B (ob (sp B 13)) by omega); exact ⟨⟨by omega, q3, by omega⟩, by omega⟩, fun h => by omega⟩))
      · rw [nI_ltI (by omega) (by omega)] at c_31
        refine aw_aload_n d_F_isSpecialFit_34 rfl ?_
        refine aw_iload_n d_F_isSpecialFit_35 rfl ?_
        refine aw_callSi (mc2 := 0) (ms2 := 0) (r := bP (xCL B (ob (sp B k)))) (As := [.ref im, .int (nI (ob (sp B k)))]) (rest := []) (c_F_isClass ⟨M.1, M.2.1, M.2.2.1, M.2.2.2.1, M.2.2.2.2.1, M.2.2.2.2.2.1, M.2.2.2.2.2.2⟩ V L hB_ hcc hpc (ob (sp B k)) (by omega)) cs_F_41 d_F_isSpecialFit_36 rfl rfl (Nat.le_of_ble_eq_true rfl) (by decide) (by decide) (by omega) (by omega) ?_
        refine aw_if_eq (tgt := 55) d_F_isSpecialFit_39 (by decide) (fun c_39 => ?_) (fun c_39 => ?_)
        · rw [bP_eq0] at c_39
          refine aw_iconst (v := nI 0) d_F_isSpecialFit_55 (by decide) ?_
          exact aw_iret d_F_isSpecialFit_56 rfl nar0 (rt_f (fun z => by have q := z.2.1 (by omega) (by omega); first | exact c_39 ((xCL_iff v).mpr q.1) | exact c_48 (fun j h1 h2 => q.2 j h1 h2)))
        · rw [bP_eq0, Classical.not_not] at c_39
          refine aw_aload_n d_F_isSpecialFit_42 rfl ?_
          refine aw_iconst (v := nI 2) d_F_isSpecialFit_43 (by decide) ?_
          refine aw_iload_n d_F_isSpecialFit_44 rfl ?_
          refine aw_callSi (mc2 := 0) (ms2 := 0) (r := bP (∀ i, 2 ≤ i → i < k → sp B i ≠ sp B k)) (As := [.ref im, .int (nI 2), .int (nI k)]) (rest := []) (c_F_isNewSince ⟨M.1, M.2.1, M.2.2.1, M.2.2.2.1, M.2.2.2.2.1, M.2.2.2.2.2.1, M.2.2.2.2.2.2⟩ V L hB_ hcc hpc 2 k (by omega) (by omega)) cs_F_37 d_F_isSpecialFit_45 rfl rfl (Nat.le_of_ble_eq_true rfl) (by decide) (by decide) (by omega) (by omega) ?_
          refine aw_if_eq (tgt := 55) d_F_isSpecialFit_48 (by decide) (fun c_48 => ?_) (fun c_48 => ?_)
          · rw [bP_eq0] at c_48
            refine aw_iconst (v := nI 0) d_F_isSpecialFit_55 (by decide) ?_
            exact aw_iret d_F_isSpecialFit_56 rfl nar0 (rt_f (fun z => by have q := z.2.1 (by omega) (by omega); first | exact c_39 ((xCL_iff v).mpr q.1) | exact c_48 (fun j h1 h2 => q.2 j h1 h2)))
          · rw [bP_eq0, Classical.not_not] at c_48
            refine aw_iconst (v := nI 1) d_F_isSpecialFit_51 (by decide) ?_
            refine aw_goto (tgt := 56) d_F_isSpecialFit_52 (by decide) ?_
            exact aw_iret d_F_isSpecialFit_56 rfl nar1 (rt_t ⟨fun h => by omega, fun _ _ => ⟨(xCL_iff v).mp c_39, fun j h1 h2 => c_48 j h1 h2⟩, fun h => by omega, fun h => by omega⟩)
    · rw [nI_ltI (by omega) (by omega)] at c_18
      refine aw_aload_n d_F_isSpecialFit_21 rfl ?_
      refine aw_iconst (v := nI 0) d_F_isSpecialFit_22 (by decide) ?_
      refine aw_iload_n d_F_isSpecialFit_23 rfl ?_
      refine aw_callSi (mc2 := 0) (ms2 := 0) (r := bP (∀ i, 0 ≤ i → i < k → sp B i ≠ sp B k)) (As := [.ref im, .int (nI 0), .int (nI k)]) (rest := []) (c_F_isNewSince ⟨M.1, M.2.1, M.2.2.1, M.2.2.2.1, M.2.2.2.2.1, M.2.2.2.2.2.1, M.2.2.2.2.2.2⟩ V L hB_ hcc hpc 0 k (by omega) (by omega)) cs_F_37 d_F_isSpecialFit_24 rfl rfl (Nat.le_of_ble_eq_true rfl) (by decide) (by decide) (by omega) (by omega) ?_
      exact aw_iret d_F_isSpecialFit_27 rfl (bP_nar _) (rt_b ⟨fun z => ⟨fun _ => ⟨c_11, fun j hj => z j (Nat.zero_le _) hj⟩, fun h => by omega, fun h => by omega, fun h => by omega⟩, fun z j _ hj => (z.1 (by omega)).2 j hj⟩)
  · rw [w_eq0 (by omega)] at c_11
    refine aw_iconst (v := nI 0) d_F_isSpecialFit_14 (by decide) ?_
    exact aw_iret d_F_isSpecialFit_15 rfl nar0 (rt_f (fun z => by have q : ob (sp B k) = 0 := c_11; unfold SS CL HF at z; by_cases y : k < 2; exact (z.1 y).1 q; by_cases y2 : k < 13; exact (z.2.1 (by omega) y2).1.1.1 q; by_cases y3 : k = 13; (subst y3; exact (z.2.2.1 rfl).1.1 q); (have y4 : k = 14 := (by omega); subst y4; exact (z.2.2.2 rfl).1.1 q)))

set_option maxHeartbeats 4000000 in
theorem lp_F_specialsPlace {tb : Nat → Nat} {h : AH} {fr lo : Nat} {mc ms : Nat} (hfr : 4 ≤ fr) (hlo : 89 ≤ lo) {im a0 a1 a2 a3 a4 a5 cc pc us iw wp cp : Nat} {B : Nat → Nat} {f0 f1 f2 f3 f4 f5 : Nat → Int32} (M : iS h im a0 a1 a2 a3 a4 a5 cc pc us (nn B) iw wp cp f0 f1 f2 f3 f4 f5) (V : IV B f0 f1 f2 f3 f4 f5 cc pc) (L : LX B) (hB_ : ∀ i, B i < 256) (hcc : cc ≤ 1048576) (hpc : pc ≤ 1048576) : ∀ (d : Nat) (r k : Nat), r + k = 15 → ffst (SS B) (fun k => 8 + 4 * k) r k = plP B → r < d → AW tb "ImageReader$Form" b_F_specialsPlace 2 (some .int) false none fr lo (av_Pi (pI (plP B)) h) 2 [some (.ref im), some (.int (nI k))] [] h mc ms := by
  intro d
  induction d with
  | zero => intro r k hrk hp hd; omega
  | succ d ih =>
    intro r k hrk hp hd
    have nV_im := V.1
    have nL_im := L.1
    refine aw_iload_n d_F_specialsPlace_2 rfl ?_
    refine aw_bipush (v := nI 14) d_F_specialsPlace_3 (by decide) ?_
    refine aw_icmp_gt (tgt := 29) d_F_specialsPlace_5 (by decide) (fun c_5 => ?_) (fun c_5 => ?_)
    · rw [nI_ltI (by omega) (by omega)] at c_5
      refine aw_iconst (v := (-1)) d_F_specialsPlace_29 (by decide) ?_
      exact aw_iret d_F_specialsPlace_30 rfl rfl (rt_i (by rw [← hp, show r = 0 by omega]; rfl))
    · rw [nI_ltI (by omega) (by omega)] at c_5
      obtain ⟨r, rfl⟩ : ∃ q, r = q + 1 := ⟨r - 1, by omega⟩
      refine aw_aload_n d_F_specialsPlace_8 rfl ?_
      refine aw_iload_n d_F_specialsPlace_9 rfl ?_
      refine aw_callSi (mc2 := mc) (ms2 := ms) (r := bP (SS B k)) (As := [.ref im, .int (nI k)]) (rest := []) (c_F_isSpecialFit ⟨M.1, M.2.1, M.2.2.1, M.2.2.2.1, M.2.2.2.2.1, M.2.2.2.2.2.1, M.2.2.2.2.2.2⟩ V L hB_ hcc hpc k (by omega)) cs_F_24 d_F_specialsPlace_10 rfl rfl (Nat.le_of_ble_eq_true rfl) (by omega) (by omega) (by omega) (by omega) ?_
      refine aw_if_ne (tgt := 23) d_F_specialsPlace_13 (by decide) (fun c_13 => ?_) (fun c_13 => ?_)
      · rw [bP_eq0, Classical.not_not] at c_13
        refine aw_iinc (v := nI (k + 1)) (L' := [some (.ref im), some (.int (nI (k + 1)))]) d_F_specialsPlace_23 rfl (nI_add k 1) (by decide) rfl rfl ?_
        refine aw_goto (tgt := 2) d_F_specialsPlace_26 (by decide) ?_
        exact ih r (k + 1) (by omega) (by rw [← hp, ffst_s c_13]) (by omega)
      · rw [bP_eq0] at c_13
        refine aw_bipush (v := nI 8) d_F_specialsPlace_16 (by decide) ?_
        refine aw_iconst (v := nI 4) d_F_specialsPlace_18 (by decide) ?_
        refine aw_iload_n d_F_specialsPlace_19 rfl ?_
        refine aw_imul (v := nI (4 * k)) d_F_specialsPlace_20 (pk_mul _ _) ?_
        refine aw_iadd (v := nI (8 + 4 * k)) d_F_specialsPlace_21 (nI_add _ _) ?_
        exact aw_iret d_F_specialsPlace_22 rfl rfl (rt_i (by rw [← hp, ffst_n c_13]; rfl))

set_option maxHeartbeats 4000000 in
theorem c_F_specialsPlace {tb : Nat → Nat} {h : AH} {im a0 a1 a2 a3 a4 a5 cc pc us iw wp cp : Nat} {B : Nat → Nat} {f0 f1 f2 f3 f4 f5 : Nat → Int32} (M : iS h im a0 a1 a2 a3 a4 a5 cc pc us (nn B) iw wp cp f0 f1 f2 f3 f4 f5) (V : IV B f0 f1 f2 f3 f4 f5 cc pc) (L : LX B) (hB_ : ∀ i, B i < 256) (hcc : cc ≤ 1048576) (hpc : pc ≤ 1048576) : AM tb y_F_specialsPlace b_F_specialsPlace 2 (some .int) 4 89 [.ref im] h 0 0 (av_Pi (pI (plP B)) h) := by
  have nV_im := V.1
  have nL_im := L.1
  refine am_of (ini := false) [some (.ref im), none] (by decide) (fun z => by cases z) (Nat.le_of_ble_eq_true rfl) rfl ?_
  refine aw_iconst (v := nI 0) d_F_specialsPlace_0 (by decide) ?_
  refine aw_istore_n (L' := [some (.ref im), some (.int (nI 0))]) d_F_specialsPlace_1 (by decide) rfl rfl ?_
  exact lp_F_specialsPlace (by decide) (by decide) M V L hB_ hcc hpc 16 15 0 (by omega) rfl (by omega)

set_option maxHeartbeats 4000000 in
theorem c_F_roomPlace {tb : Nat → Nat} {h : AH} {im a0 a1 a2 a3 a4 a5 cc pc us iw wp cp : Nat} {B : Nat → Nat} {f0 f1 f2 f3 f4 f5 : Nat → Int32} (M : iS h im a0 a1 a2 a3 a4 a5 cc pc us (nn B) iw wp cp f0 f1 f2 f3 f4 f5) (V : IV B f0 f1 f2 f3 f4 f5 cc pc) (L : LX B) (hB_ : ∀ i, B i < 256) (hcc : cc ≤ 1048576) (hpc : pc ≤ 1048576) (h4 : 12 ≤ B 4 ∧ B 4 ≤ 18) (h5 : 10 ≤ B 5 ∧ B 5 ≤ 14) (ew : iw = wds B (nn B)) (e4 : wp = B 4) (e5 : cp = B 5) : AM tb y_F_roomPlace b_F_roomPlace 1 (some .int) 0 0 [.ref im] h 0 0 (av_Pi (pI (plR B)) h) := by
  have nV_im := V.1
  have nL_im := L.1
  have p4 : 2 ^ B 4 ≤ 2 ^ 18 := Nat.pow_le_pow_right (by decide) h4.2
  have p5 : 2 ^ B 5 ≤ 2 ^ 14 := Nat.pow_le_pow_right (by decide) h5.2
  have hw := wds_le hB_ (nn B)
  refine am_of (ini := false) [some (.ref im)] (by decide) (fun z => by cases z) (Nat.le_of_ble_eq_true rfl) rfl ?_
  refine aw_aload_n d_F_roomPlace_0 rfl ?_
  refine aw_get fl_F_9 d_F_roomPlace_1 M.1 rfl ?_
  refine aw_iconst (v := nI 1) d_F_roomPlace_4 (by decide) ?_
  refine aw_aload_n d_F_roomPlace_5 rfl ?_
  refine aw_get fl_F_15 d_F_roomPlace_6 M.1 rfl ?_
  refine aw_ishl (v := nI (2 ^ B 4)) d_F_roomPlace_9 (by rw [e4]; exact shl1 _ (by omega)) ?_
  refine aw_icmp_le (tgt := 15) d_F_roomPlace_10 (by decide) (fun c_10 => ?_) (fun c_10 => ?_)
  · rw [nI_leI (by omega) (by omega)] at c_10
    refine aw_aload_n d_F_roomPlace_15 rfl ?_
    refine aw_get fl_F_18 d_F_roomPlace_16 M.1 rfl ?_
    refine aw_iconst (v := nI 1) d_F_roomPlace_19 (by decide) ?_
    refine aw_aload_n d_F_roomPlace_20 rfl ?_
    refine aw_get fl_F_21 d_F_roomPlace_21 M.1 rfl ?_
    refine aw_ishl (v := nI (2 ^ B 5)) d_F_roomPlace_24 (by rw [e5]; exact shl1 _ (by omega)) ?_
    refine aw_icmp_le (tgt := 32) d_F_roomPlace_25 (by decide) (fun c_25 => ?_) (fun c_25 => ?_)
    · rw [nI_leI (by omega) (by omega)] at c_25
      refine aw_iconst (v := (-1)) d_F_roomPlace_32 (by decide) ?_
      exact aw_iret d_F_roomPlace_33 rfl rfl (rt_i (by unfold plR; rw [← ew]; first | (rw [if_pos (by omega)]; rfl) | (rw [if_neg (by omega), if_pos (by omega)]; rfl) | (rw [if_neg (by omega), if_neg (by omega)]; rfl)))
    · rw [nI_leI (by omega) (by omega)] at c_25
      refine aw_iconst (v := nI 5) d_F_roomPlace_28 (by decide) ?_
      refine aw_goto (tgt := 33) d_F_roomPlace_29 (by decide) ?_
      exact aw_iret d_F_roomPlace_33 rfl rfl (rt_i (by unfold plR; rw [← ew]; first | (rw [if_pos (by omega)]; rfl) | (rw [if_neg (by omega), if_pos (by omega)]; rfl) | (rw [if_neg (by omega), if_neg (by omega)]; rfl)))
  · rw [nI_leI (by omega) (by omega)] at c_10
    refine aw_iconst (v := nI 4) d_F_roomPlace_13 (by decide) ?_
    exact aw_iret d_F_roomPlace_14 rfl rfl (rt_i (by unfold plR; rw [← ew]; first | (rw [if_pos (by omega)]; rfl) | (rw [if_neg (by omega), if_pos (by omega)]; rfl) | (rw [if_neg (by omega), if_neg (by omega)]; rfl)))

set_option maxHeartbeats 4000000 in
theorem c_F_isMethod {tb : Nat → Nat} {h : AH} {im a0 a1 a2 a3 a4 a5 cc pc us iw wp cp : Nat} {B : Nat → Nat} {f0 f1 f2 f3 f4 f5 : Nat → Int32} (M : iS h im a0 a1 a2 a3 a4 a5 cc pc us (nn B) iw wp cp f0 f1 f2 f3 f4 f5) (V : IV B f0 f1 f2 f3 f4 f5 cc pc) (L : LX B) (hB_ : ∀ i, B i < 256) (hcc : cc ≤ 1048576) (hpc : pc ≤ 1048576) (k : Nat) (hk : k < 2147483648) : AM tb y_F_isMethod b_F_isMethod 3 (some .boolean) 2 44 [.ref im, .int (nI k)] h 0 0 (av_Pi (bP (xME B k)) h) := by
  have nV_im := V.1
  have nL_im := L.1
  refine am_of (ini := false) [some (.ref im), some (.int (nI k)), none] (by decide) (fun z => by cases z) (Nat.le_of_ble_eq_true rfl) rfl ?_
  refine aw_aload_n d_F_isMethod_0 rfl ?_
  refine aw_iload_n d_F_isMethod_1 rfl ?_
  refine aw_iconst (v := nI 0) d_F_isMethod_2 (by decide) ?_
  refine aw_callVi (mc2 := 0) (ms2 := 0) (r := nI (FA B k 0)) (As := [.int (nI k), .int (nI 0)]) (rest := []) (c_I_fieldAt ⟨M.1, M.2.1, M.2.2.1, M.2.2.2.1, M.2.2.2.2.1, M.2.2.2.2.2.1, M.2.2.2.2.2.2⟩ V L hB_ hcc hpc k (by omega) 0 (by omega)) cv_F_79 d_F_isMethod_3 M.1 rfl rfl rfl (Nat.le_of_ble_eq_true rfl) (by decide) (by decide) (by omega) (by omega) ?_
  have b_3 := FA_lt hB_ k 0
  refine aw_istore_n (L' := [some (.ref im), some (.int (nI k)), some (.int (nI (FA B k 0)))]) d_F_isMethod_6 (by decide) rfl rfl ?_
  refine aw_aload_n d_F_isMethod_7 rfl ?_
  refine aw_iload_n d_F_isMethod_8 rfl ?_
  refine aw_callVi (mc2 := 0) (ms2 := 0) (r := nI (FC B k)) (As := [.int (nI k)]) (rest := []) (c_I_fieldCount ⟨M.1, M.2.1, M.2.2.1, M.2.2.2.1, M.2.2.2.2.1, M.2.2.2.2.2.1, M.2.2.2.2.2.2⟩ V L hB_ hcc hpc k (by omega)) cv_F_44 d_F_isMethod_9 M.1 rfl rfl rfl (Nat.le_of_ble_eq_true rfl) (by decide) (by decide) (by omega) (by omega) ?_
  have b_9 := FC_lt hB_ k
  refine aw_iconst (v := nI 2) d_F_isMethod_12 (by decide) ?_
  refine aw_icmp_lt (tgt := 64) d_F_isMethod_13 (by decide) (fun c_13 => ?_) (fun c_13 => ?_)
  · rw [nI_ltI (by omega) (by omega)] at c_13
    refine aw_iconst (v := nI 0) d_F_isMethod_64 (by decide) ?_
    exact aw_iret d_F_isMethod_65 rfl nar0 (rt_f (by unfold xME mh byt; first | omega | (unfold NI at c_23; omega)))
  · rw [nI_ltI (by omega) (by omega)] at c_13
    refine aw_iload_n d_F_isMethod_16 rfl ?_
    refine aw_iconst (v := nI 0) d_F_isMethod_17 (by decide) ?_
    refine aw_ldc (v := nI 8388607) d_F_isMethod_18 tw_341 ?_
    refine aw_callSi (mc2 := 0) (ms2 := 0) (r := bP (NI (FA B k 0) 0 8388607)) (As := [.int (nI (FA B k 0)), .int (nI 0), .int (nI 8388607)]) (rest := []) (c_R_isNumberWithin (FA B k 0) (by omega) 0 8388607 (by omega) (by omega)) cs_F_101 d_F_isMethod_20 rfl rfl (Nat.le_of_ble_eq_true rfl) (by decide) (by decide) (by omega) (by omega) ?_
    refine aw_if_eq (tgt := 64) d_F_isMethod_23 (by decide) (fun c_23 => ?_) (fun c_23 => ?_)
    · rw [bP_eq0] at c_23
      refine aw_iconst (v := nI 0) d_F_isMethod_64 (by decide) ?_
      exact aw_iret d_F_isMethod_65 rfl nar0 (rt_f (by unfold xME mh byt; first | omega | (unfold NI at c_23; omega)))
    · rw [bP_eq0, Classical.not_not] at c_23
      refine aw_iload_n d_F_isMethod_26 rfl ?_
      refine aw_callSi (mc2 := 0) (ms2 := 0) (r := nI ((FA B k 0) / 2)) (As := [.int (nI (FA B k 0))]) (rest := []) (c_R_numberOf (FA B k 0) (show _ < 2147483648 from c_23.2.1)) cs_F_82 d_F_isMethod_27 rfl rfl (Nat.le_of_ble_eq_true rfl) (by decide) (by decide) (by omega) (by omega) ?_
      refine aw_callSi (mc2 := 0) (ms2 := 0) (r := nI (((FA B k 0) / 2) / 16 % 32)) (As := [.int (nI ((FA B k 0) / 2))]) (rest := []) (c_F_temporariesOf ((FA B k 0) / 2) (by omega)) cs_F_92 d_F_isMethod_30 rfl rfl (Nat.le_of_ble_eq_true rfl) (by decide) (by decide) (by omega) (by omega) ?_
      refine aw_iload_n d_F_isMethod_33 rfl ?_
      refine aw_callSi (mc2 := 0) (ms2 := 0) (r := nI ((FA B k 0) / 2)) (As := [.int (nI (FA B k 0))]) (rest := [.int (nI (((FA B k 0) / 2) / 16 % 32))]) (c_R_numberOf (FA B k 0) (show _ < 2147483648 from c_23.2.1)) cs_F_82 d_F_isMethod_34 rfl rfl (Nat.le_of_ble_eq_true rfl) (by decide) (by decide) (by omega) (by omega) ?_
      refine aw_callSi (mc2 := 0) (ms2 := 0) (r := nI (((FA B k 0) / 2) % 16)) (As := [.int (nI ((FA B k 0) / 2))]) (rest := [.int (nI (((FA B k 0) / 2) / 16 % 32))]) (c_F_argumentsOf ((FA B k 0) / 2) (by omega)) cs_F_119 d_F_isMethod_37 rfl rfl (Nat.le_of_ble_eq_true rfl) (by decide) (by decide) (by omega) (by omega) ?_
      refine aw_icmp_lt (tgt := 64) d_F_isMethod_40 (by decide) (fun c_40 => ?_) (fun c_40 => ?_)
      · rw [nI_ltI (by omega) (by omega)] at c_40
        refine aw_iconst (v := nI 0) d_F_isMethod_64 (by decide) ?_
        exact aw_iret d_F_isMethod_65 rfl nar0 (rt_f (by unfold xME mh byt; first | omega | (unfold NI at c_23; omega)))
      · rw [nI_ltI (by omega) (by omega)] at c_40
        refine aw_aload_n d_F_isMethod_43 rfl ?_
        refine aw_aload_n d_F_isMethod_44 rfl ?_
        refine aw_aload_n d_F_isMethod_45 rfl ?_
        refine aw_iload_n d_F_isMethod_46 rfl ?_
        refine aw_iconst (v := nI 1) d_F_isMethod_47 (by decide) ?_
        refine aw_callVi (mc2 := 0) (ms2 := 0) (r := nI (FA B k 1)) (As := [.int (nI k), .int (nI 1)]) (rest := [.ref im, .ref im]) (c_I_fieldAt ⟨M.1, M.2.1, M.2.2.1, M.2.2.2.1, M.2.2.2.2.1, M.2.2.2.2.2.1, M.2.2.2.2.2.2⟩ V L hB_ hcc hpc k (by omega) 1 (by omega)) cv_F_79 d_F_isMethod_48 M.1 rfl rfl rfl (Nat.le_of_ble_eq_true rfl) (by decide) (by decide) (by omega) (by omega) ?_
        have b_48 := FA_lt hB_ k 1
        refine aw_callVi (mc2 := 0) (ms2 := 0) (r := nI (ob (FA B k 1))) (As := [.int (nI (FA B k 1))]) (rest := [.ref im]) (c_I_objectOf ⟨M.1, M.2.1, M.2.2.1, M.2.2.2.1, M.2.2.2.2.1, M.2.2.2.2.2.1, M.2.2.2.2.2.2⟩ V L hB_ hcc hpc (FA B k 1) (by omega) (L.fa _ _)) cv_F_34 d_F_isMethod_51 M.1 rfl rfl rfl (Nat.le_of_ble_eq_true rfl) (by decide) (by decide) (by omega) (by omega) ?_
        have ol_51 : ob (FA B k 1) ≤ nn B := ob_le (L.fa _ _)
        refine aw_callVi (mc2 := 0) (ms2 := 0) (r := bP (1 ≤ (ob (FA B k 1)) ∧ (ob (FA B k 1)) ≤ nn B ∧ kd B (ob (FA B k 1)) = 1)) (As := [.int (nI (ob (FA B k 1)))]) (rest := []) (c_I_isOfBytes ⟨M.1, M.2.1, M.2.2.1, M.2.2.2.1, M.2.2.2.2.1, M.2.2.2.2.2.1, M.2.2.2.2.2.2⟩ V L hB_ hcc hpc (ob (FA B k 1)) (by omega)) cv_F_85 d_F_isMethod_54 M.1 rfl rfl rfl (Nat.le_of_ble_eq_true rfl) (by decide) (by decide) (by omega) (by omega) ?_
        refine aw_if_eq (tgt := 64) d_F_isMethod_57 (by decide) (fun c_57 => ?_) (fun c_57 => ?_)
        · rw [bP_eq0] at c_57
          refine aw_iconst (v := nI 0) d_F_isMethod_64 (by decide) ?_
          exact aw_iret d_F_isMethod_65 rfl nar0 (rt_f (by unfold xME mh byt; first | omega | (unfold NI at c_23; omega)))
        · rw [bP_eq0, Classical.not_not] at c_57
          refine aw_iconst (v := nI 1) d_F_isMethod_60 (by decide) ?_
          refine aw_goto (tgt := 65) d_F_isMethod_61 (by decide) ?_
          exact aw_iret d_F_isMethod_65 rfl nar1 (rt_t (by unfold xME mh byt; unfold NI at c_23; omega))

set_option maxHeartbeats 4000000 in
theorem c_F_isNilOrCounting {tb : Nat → Nat} {h : AH} (u : Nat) (hu : u < 4294967296) : AM tb y_F_isNilOrCounting b_F_isNilOrCounting 1 (some .boolean) 2 42 [.int (nI u)] h 0 0 (av_Pi (bP (xNC u)) h) := by
  refine am_of (ini := false) [some (.int (nI u))] (by decide) (fun z => by cases z) (Nat.le_of_ble_eq_true rfl) rfl ?_
  refine aw_iload_n d_F_isNilOrCounting_0 rfl ?_
  refine aw_if_eq (tgt := 14) d_F_isNilOrCounting_1 (by decide) (fun c_1 => ?_) (fun c_1 => ?_)
  · rw [w_eq0 (by omega)] at c_1
    refine aw_iconst (v := nI 1) d_F_isNilOrCounting_14 (by decide) ?_
    refine aw_goto (tgt := 19) d_F_isNilOrCounting_15 (by decide) ?_
    exact aw_iret d_F_isNilOrCounting_19 rfl nar1 (rt_t (by unfold xNC; grind))
  · rw [w_eq0 (by omega)] at c_1
    refine aw_iload_n d_F_isNilOrCounting_4 rfl ?_
    refine aw_iconst (v := nI 0) d_F_isNilOrCounting_5 (by decide) ?_
    refine aw_ldc (v := nI 1073741823) d_F_isNilOrCounting_6 tw_362 ?_
    refine aw_callSi (mc2 := 0) (ms2 := 0) (r := bP (NI u 0 1073741823)) (As := [.int (nI u), .int (nI 0), .int (nI 1073741823)]) (rest := []) (c_R_isNumberWithin u (by omega) 0 1073741823 (by omega) (by omega)) cs_F_101 d_F_isNilOrCounting_8 rfl rfl (Nat.le_of_ble_eq_true rfl) (by decide) (by decide) (by omega) (by omega) ?_
    refine aw_if_eq (tgt := 18) d_F_isNilOrCounting_11 (by decide) (fun c_11 => ?_) (fun c_11 => ?_)
    · rw [bP_eq0] at c_11
      refine aw_iconst (v := nI 0) d_F_isNilOrCounting_18 (by decide) ?_
      exact aw_iret d_F_isNilOrCounting_19 rfl nar0 (rt_f (by unfold xNC; grind))
    · rw [bP_eq0, Classical.not_not] at c_11
      refine aw_iconst (v := nI 1) d_F_isNilOrCounting_14 (by decide) ?_
      refine aw_goto (tgt := 19) d_F_isNilOrCounting_15 (by decide) ?_
      exact aw_iret d_F_isNilOrCounting_19 rfl nar1 (rt_t (by unfold xNC; grind))

set_option maxHeartbeats 4000000 in
theorem c_F_areLinksFit {tb : Nat → Nat} {h : AH} {im a0 a1 a2 a3 a4 a5 cc pc us iw wp cp : Nat} {B : Nat → Nat} {f0 f1 f2 f3 f4 f5 : Nat → Int32} (M : iS h im a0 a1 a2 a3 a4 a5 cc pc us (nn B) iw wp cp f0 f1 f2 f3 f4 f5) (V : IV B f0 f1 f2 f3 f4 f5 cc pc) (L : LX B) (hB_ : ∀ i, B i < 256) (hcc : cc ≤ 1048576) (hpc : pc ≤ 1048576) (k : Nat) (hk : k < 2147483648) : AM tb y_F_areLinksFit b_F_areLinksFit 3 (some .boolean) 3 62 [.ref im, .int (nI k)] h 0 0 (av_Pi (bP (xLK B k)) h) := by
  have nV_im := V.1
  have nL_im := L.1
  refine am_of (ini := false) [some (.ref im), some (.int (nI k)), none] (by decide) (fun z => by cases z) (Nat.le_of_ble_eq_true rfl) rfl ?_
  refine aw_aload_n d_F_areLinksFit_0 rfl ?_
  refine aw_iload_n d_F_areLinksFit_1 rfl ?_
  refine aw_iconst (v := nI 0) d_F_areLinksFit_2 (by decide) ?_
  refine aw_callVi (mc2 := 0) (ms2 := 0) (r := nI (FA B k 0)) (As := [.int (nI k), .int (nI 0)]) (rest := []) (c_I_fieldAt ⟨M.1, M.2.1, M.2.2.1, M.2.2.2.1, M.2.2.2.2.1, M.2.2.2.2.2.1, M.2.2.2.2.2.2⟩ V L hB_ hcc hpc k (by omega) 0 (by omega)) cv_F_79 d_F_areLinksFit_3 M.1 rfl rfl rfl (Nat.le_of_ble_eq_true rfl) (by decide) (by decide) (by omega) (by omega) ?_
  have b_3 := FA_lt hB_ k 0
  refine aw_istore_n (L' := [some (.ref im), some (.int (nI k)), some (.int (nI (FA B k 0)))]) d_F_areLinksFit_6 (by decide) rfl rfl ?_
  refine aw_iload_n d_F_areLinksFit_7 rfl ?_
  refine aw_if_eq (tgt := 23) d_F_areLinksFit_8 (by decide) (fun c_8 => ?_) (fun c_8 => ?_)
  · rw [w_eq0 (by omega)] at c_8
    refine aw_aload_n d_F_areLinksFit_23 rfl ?_
    refine aw_iload_n d_F_areLinksFit_24 rfl ?_
    refine aw_iconst (v := nI 1) d_F_areLinksFit_25 (by decide) ?_
    refine aw_callVi (mc2 := 0) (ms2 := 0) (r := nI (FA B k 1)) (As := [.int (nI k), .int (nI 1)]) (rest := []) (c_I_fieldAt ⟨M.1, M.2.1, M.2.2.1, M.2.2.2.1, M.2.2.2.2.1, M.2.2.2.2.2.1, M.2.2.2.2.2.2⟩ V L hB_ hcc hpc k (by omega) 1 (by omega)) cv_F_79 d_F_areLinksFit_26 M.1 rfl rfl rfl (Nat.le_of_ble_eq_true rfl) (by decide) (by decide) (by omega) (by omega) ?_
    have b_26 := FA_lt hB_ k 1
    refine aw_callSi (mc2 := 0) (ms2 := 0) (r := bP (xNC (FA B k 1))) (As := [.int (nI (FA B k 1))]) (rest := []) (c_F_isNilOrCounting (FA B k 1) (by omega)) cs_F_108 d_F_areLinksFit_29 rfl rfl (Nat.le_of_ble_eq_true rfl) (by decide) (by decide) (by omega) (by omega) ?_
    refine aw_if_eq (tgt := 39) d_F_areLinksFit_32 (by decide) (fun c_32 => ?_) (fun c_32 => ?_)
    · rw [bP_eq0] at c_32
      refine aw_iconst (v := nI 0) d_F_areLinksFit_39 (by decide) ?_
      exact aw_iret d_F_areLinksFit_40 rfl nar0 (rt_f (by unfold xLK xCX; grind))
    · rw [bP_eq0, Classical.not_not] at c_32
      refine aw_iconst (v := nI 1) d_F_areLinksFit_35 (by decide) ?_
      refine aw_goto (tgt := 40) d_F_areLinksFit_36 (by decide) ?_
      exact aw_iret d_F_areLinksFit_40 rfl nar1 (rt_t (by unfold xLK xCX; grind))
  · rw [w_eq0 (by omega)] at c_8
    refine aw_aload_n d_F_areLinksFit_11 rfl ?_
    refine aw_aload_n d_F_areLinksFit_12 rfl ?_
    refine aw_iload_n d_F_areLinksFit_13 rfl ?_
    refine aw_callVi (mc2 := 0) (ms2 := 0) (r := nI (ob (FA B k 0))) (As := [.int (nI (FA B k 0))]) (rest := [.ref im]) (c_I_objectOf ⟨M.1, M.2.1, M.2.2.1, M.2.2.2.1, M.2.2.2.2.1, M.2.2.2.2.2.1, M.2.2.2.2.2.2⟩ V L hB_ hcc hpc (FA B k 0) (by omega) (L.fa _ _)) cv_F_34 d_F_areLinksFit_14 M.1 rfl rfl rfl (Nat.le_of_ble_eq_true rfl) (by decide) (by decide) (by omega) (by omega) ?_
    have ol_14 : ob (FA B k 0) ≤ nn B := ob_le (L.fa _ _)
    refine aw_callVi (mc2 := 0) (ms2 := 0) (r := bP (1 ≤ (ob (FA B k 0)) ∧ (ob (FA B k 0)) ≤ nn B ∧ (cl B (ob (FA B k 0)) = sp B 7 ∨ cl B (ob (FA B k 0)) = sp B 8))) (As := [.int (nI (ob (FA B k 0)))]) (rest := []) (c_I_isContext ⟨M.1, M.2.1, M.2.2.1, M.2.2.2.1, M.2.2.2.2.1, M.2.2.2.2.2.1, M.2.2.2.2.2.2⟩ V L hB_ hcc hpc (ob (FA B k 0)) (by omega)) cv_F_111 d_F_areLinksFit_17 M.1 rfl rfl rfl (Nat.le_of_ble_eq_true rfl) (by decide) (by decide) (by omega) (by omega) ?_
    refine aw_if_eq (tgt := 39) d_F_areLinksFit_20 (by decide) (fun c_20 => ?_) (fun c_20 => ?_)
    · rw [bP_eq0] at c_20
      refine aw_iconst (v := nI 0) d_F_areLinksFit_39 (by decide) ?_
      exact aw_iret d_F_areLinksFit_40 rfl nar0 (rt_f (by unfold xLK xCX; grind))
    · rw [bP_eq0, Classical.not_not] at c_20
      refine aw_aload_n d_F_areLinksFit_23 rfl ?_
      refine aw_iload_n d_F_areLinksFit_24 rfl ?_
      refine aw_iconst (v := nI 1) d_F_areLinksFit_25 (by decide) ?_
      refine aw_callVi (mc2 := 0) (ms2 := 0) (r := nI (FA B k 1)) (As := [.int (nI k), .int (nI 1)]) (rest := []) (c_I_fieldAt ⟨M.1, M.2.1, M.2.2.1, M.2.2.2.1, M.2.2.2.2.1, M.2.2.2.2.2.1, M.2.2.2.2.2.2⟩ V L hB_ hcc hpc k (by omega) 1 (by omega)) cv_F_79 d_F_areLinksFit_26 M.1 rfl rfl rfl (Nat.le_of_ble_eq_true rfl) (by decide) (by decide) (by omega) (by omega) ?_
      have b_26 := FA_lt hB_ k 1
      refine aw_callSi (mc2 := 0) (ms2 := 0) (r := bP (xNC (FA B k 1))) (As := [.int (nI (FA B k 1))]) (rest := []) (c_F_isNilOrCounting (FA B k 1) (by omega)) cs_F_108 d_F_areLinksFit_29 rfl rfl (Nat.le_of_ble_eq_true rfl) (by decide) (by decide) (by omega) (by omega) ?_
      refine aw_if_eq (tgt := 39) d_F_areLinksFit_32 (by decide) (fun c_32 => ?_) (fun c_32 => ?_)
      · rw [bP_eq0] at c_32
        refine aw_iconst (v := nI 0) d_F_areLinksFit_39 (by decide) ?_
        exact aw_iret d_F_areLinksFit_40 rfl nar0 (rt_f (by unfold xLK xCX; grind))
      · rw [bP_eq0, Classical.not_not] at c_32
        refine aw_iconst (v := nI 1) d_F_areLinksFit_35 (by decide) ?_
        refine aw_goto (tgt := 40) d_F_areLinksFit_36 (by decide) ?_
        exact aw_iret d_F_areLinksFit_40 rfl nar1 (rt_t (by unfold xLK xCX; grind))

set_option maxHeartbeats 4000000 in
theorem lp_F_isNilFrom {tb : Nat → Nat} {h : AH} {fr lo : Nat} {mc ms : Nat} (hfr : 2 ≤ fr) (hlo : 44 ≤ lo) {im a0 a1 a2 a3 a4 a5 cc pc us iw wp cp : Nat} {B : Nat → Nat} {f0 f1 f2 f3 f4 f5 : Nat → Int32} (M : iS h im a0 a1 a2 a3 a4 a5 cc pc us (nn B) iw wp cp f0 f1 f2 f3 f4 f5) (V : IV B f0 f1 f2 f3 f4 f5 cc pc) (L : LX B) (hB_ : ∀ i, B i < 256) (hcc : cc ≤ 1048576) (hpc : pc ≤ 1048576) (k : Nat) (hk : k < 2147483648) (f : Nat) (hf : f < 1073741824) : ∀ (d : Nat) (i : Nat), f ≤ i → FC B k < i + d → (∀ j, f ≤ j → j < i → FA B k j = 0) → (i = f ∨ i ≤ FC B k) → AW tb "ImageReader$Form" b_F_isNilFrom 5 (some .boolean) false none fr lo (av_Pi (bP (xNF B k f)) h) 9 [some (.ref im), some (.int (nI k)), some (.int (nI f)), some (.int (nI (FC B k))), some (.int (nI i))] [] h mc ms := by
  intro d
  induction d with
  | zero => intro i hfi hd hz hik; have bF := FC_lt hB_ k; refine aw_iload d_F_isNilFrom_9 rfl (aw_iload_n d_F_isNilFrom_11 rfl (aw_icmp_ge (tgt := 33) d_F_isNilFrom_12 (by decide) (fun _ => aw_iconst (v := nI 1) d_F_isNilFrom_33 (by decide) (aw_iret d_F_isNilFrom_34 rfl nar1 (rt_t (fun j h1 h2 => hz j h1 (by omega))))) (fun c => absurd ((nI_leI (by omega) (by omega)).mpr (by omega)) c)))
  | succ d ih =>
    intro i hfi hd hz hik
    have nV_im := V.1
    have nL_im := L.1
    have bF := FC_lt hB_ k
    refine aw_iload d_F_isNilFrom_9 rfl ?_
    refine aw_iload_n d_F_isNilFrom_11 rfl ?_
    refine aw_icmp_ge (tgt := 33) d_F_isNilFrom_12 (by decide) (fun c_12 => ?_) (fun c_12 => ?_)
    · rw [nI_leI (by omega) (by omega)] at c_12
      refine aw_iconst (v := nI 1) d_F_isNilFrom_33 (by decide) ?_
      exact aw_iret d_F_isNilFrom_34 rfl nar1 (rt_t (fun j h1 h2 => hz j h1 (by omega)))
    · rw [nI_leI (by omega) (by omega)] at c_12
      refine aw_aload_n d_F_isNilFrom_15 rfl ?_
      refine aw_iload_n d_F_isNilFrom_16 rfl ?_
      refine aw_iload d_F_isNilFrom_17 rfl ?_
      refine aw_callVi (mc2 := mc) (ms2 := ms) (r := nI (FA B k i)) (As := [.int (nI k), .int (nI i)]) (rest := []) (c_I_fieldAt ⟨M.1, M.2.1, M.2.2.1, M.2.2.2.1, M.2.2.2.2.1, M.2.2.2.2.2.1, M.2.2.2.2.2.2⟩ V L hB_ hcc hpc k (by omega) i (by omega)) cv_F_79 d_F_isNilFrom_19 M.1 rfl rfl rfl (Nat.le_of_ble_eq_true rfl) (by omega) (by omega) (by omega) (by omega) ?_
      have b_19 := FA_lt hB_ k i
      refine aw_if_eq (tgt := 27) d_F_isNilFrom_22 (by decide) (fun c_22 => ?_) (fun c_22 => ?_)
      · rw [w_eq0 (by omega)] at c_22
        refine aw_iinc (v := nI (i + 1)) (L' := [some (.ref im), some (.int (nI k)), some (.int (nI f)), some (.int (nI (FC B k))), some (.int (nI (i + 1)))]) d_F_isNilFrom_27 rfl (nI_add i 1) (by decide) rfl rfl ?_
        refine aw_goto (tgt := 9) d_F_isNilFrom_30 (by decide) ?_
        exact ih (i + 1) (by omega) (by omega) (fun j h1 h2 => by by_cases z : j = i; (rw [z]; exact c_22); exact hz j h1 (by omega)) (by omega)
      · rw [w_eq0 (by omega)] at c_22
        refine aw_iconst (v := nI 0) d_F_isNilFrom_25 (by decide) ?_
        exact aw_iret d_F_isNilFrom_26 rfl nar0 (rt_f (fun z => c_22 (z i hfi (by omega))))

set_option maxHeartbeats 4000000 in
theorem c_F_isNilFrom {tb : Nat → Nat} {h : AH} {im a0 a1 a2 a3 a4 a5 cc pc us iw wp cp : Nat} {B : Nat → Nat} {f0 f1 f2 f3 f4 f5 : Nat → Int32} (M : iS h im a0 a1 a2 a3 a4 a5 cc pc us (nn B) iw wp cp f0 f1 f2 f3 f4 f5) (V : IV B f0 f1 f2 f3 f4 f5 cc pc) (L : LX B) (hB_ : ∀ i, B i < 256) (hcc : cc ≤ 1048576) (hpc : pc ≤ 1048576) (k : Nat) (hk : k < 2147483648) (f : Nat) (hf : f < 1073741824) : AM tb y_F_isNilFrom b_F_isNilFrom 5 (some .boolean) 2 44 [.ref im, .int (nI k), .int (nI f)] h 0 0 (av_Pi (bP (xNF B k f)) h) := by
  have nV_im := V.1
  have nL_im := L.1
  refine am_of (ini := false) [some (.ref im), some (.int (nI k)), some (.int (nI f)), none, none] (by decide) (fun z => by cases z) (Nat.le_of_ble_eq_true rfl) rfl ?_
  refine aw_aload_n d_F_isNilFrom_0 rfl ?_
  refine aw_iload_n d_F_isNilFrom_1 rfl ?_
  refine aw_callVi (mc2 := 0) (ms2 := 0) (r := nI (FC B k)) (As := [.int (nI k)]) (rest := []) (c_I_fieldCount ⟨M.1, M.2.1, M.2.2.1, M.2.2.2.1, M.2.2.2.2.1, M.2.2.2.2.2.1, M.2.2.2.2.2.2⟩ V L hB_ hcc hpc k (by omega)) cv_F_44 d_F_isNilFrom_2 M.1 rfl rfl rfl (Nat.le_of_ble_eq_true rfl) (by decide) (by decide) (by omega) (by omega) ?_
  have b_2 := FC_lt hB_ k
  refine aw_istore_n (L' := [some (.ref im), some (.int (nI k)), some (.int (nI f)), some (.int (nI (FC B k))), none]) d_F_isNilFrom_5 (by decide) rfl rfl ?_
  refine aw_iload_n d_F_isNilFrom_6 rfl ?_
  refine aw_istore (L' := [some (.ref im), some (.int (nI k)), some (.int (nI f)), some (.int (nI (FC B k))), some (.int (nI f))]) d_F_isNilFrom_7 (by decide) rfl rfl ?_
  exact lp_F_isNilFrom (by decide) (by decide) M V L hB_ hcc hpc k hk f hf (FC B k + 1) f (Nat.le_refl f) (by omega) (fun j h1 h2 => by omega) (Or.inl rfl)

set_option maxHeartbeats 4000000 in
theorem c_F_isMethodContext {tb : Nat → Nat} {h : AH} {im a0 a1 a2 a3 a4 a5 cc pc us iw wp cp : Nat} {B : Nat → Nat} {f0 f1 f2 f3 f4 f5 : Nat → Int32} (M : iS h im a0 a1 a2 a3 a4 a5 cc pc us (nn B) iw wp cp f0 f1 f2 f3 f4 f5) (V : IV B f0 f1 f2 f3 f4 f5 cc pc) (L : LX B) (hB_ : ∀ i, B i < 256) (hcc : cc ≤ 1048576) (hpc : pc ≤ 1048576) (k : Nat) (hk : k < 2147483648) : AM tb y_F_isMethodContext b_F_isMethodContext 7 (some .boolean) 4 84 [.ref im, .int (nI k)] h 0 0 (av_Pi (bP (xMC B k)) h) := by
  have nV_im := V.1
  have nL_im := L.1
  refine am_of (ini := false) [some (.ref im), some (.int (nI k)), none, none, none, none, none] (by decide) (fun z => by cases z) (Nat.le_of_ble_eq_true rfl) rfl ?_
  refine aw_aload_n d_F_isMethodContext_0 rfl ?_
  refine aw_aload_n d_F_isMethodContext_1 rfl ?_
  refine aw_iload_n d_F_isMethodContext_2 rfl ?_
  refine aw_iconst (v := nI 3) d_F_isMethodContext_3 (by decide) ?_
  refine aw_callVi (mc2 := 0) (ms2 := 0) (r := nI (FA B k 3)) (As := [.int (nI k), .int (nI 3)]) (rest := [.ref im]) (c_I_fieldAt ⟨M.1, M.2.1, M.2.2.1, M.2.2.2.1, M.2.2.2.2.1, M.2.2.2.2.2.1, M.2.2.2.2.2.2⟩ V L hB_ hcc hpc k (by omega) 3 (by omega)) cv_F_79 d_F_isMethodContext_4 M.1 rfl rfl rfl (Nat.le_of_ble_eq_true rfl) (by decide) (by decide) (by omega) (by omega) ?_
  have b_4 := FA_lt hB_ k 3
  refine aw_callVi (mc2 := 0) (ms2 := 0) (r := nI (ob (FA B k 3))) (As := [.int (nI (FA B k 3))]) (rest := []) (c_I_objectOf ⟨M.1, M.2.1, M.2.2.1, M.2.2.2.1, M.2.2.2.2.1, M.2.2.2.2.2.1, M.2.2.2.2.2.2⟩ V L hB_ hcc hpc (FA B k 3) (by omega) (L.fa _ _)) cv_F_34 d_F_isMethodContext_7 M.1 rfl rfl rfl (Nat.le_of_ble_eq_true rfl) (by decide) (by decide) (by omega) (by omega) ?_
  have ol_7 : ob (FA B k 3) ≤ nn B := ob_le (L.fa _ _)
  refine aw_istore_n (L' := [some (.ref im), some (.int (nI k)), some (.int (nI (ob (FA B k 3)))), none, none, none, none]) d_F_isMethodContext_10 (by decide) rfl rfl ?_
  refine aw_aload_n d_F_isMethodContext_11 rfl ?_
  refine aw_iload_n d_F_isMethodContext_12 rfl ?_
  refine aw_callSi (mc2 := 0) (ms2 := 0) (r := bP (xME B (ob (FA B k 3)))) (As := [.ref im, .int (nI (ob (FA B k 3)))]) (rest := []) (c_F_isMethod ⟨M.1, M.2.1, M.2.2.1, M.2.2.2.1, M.2.2.2.2.1, M.2.2.2.2.2.1, M.2.2.2.2.2.2⟩ V L hB_ hcc hpc (ob (FA B k 3)) (by omega)) cs_F_89 d_F_isMethodContext_13 rfl rfl (Nat.le_of_ble_eq_true rfl) (by decide) (by decide) (by omega) (by omega) ?_
  refine aw_if_ne (tgt := 21) d_F_isMethodContext_16 (by decide) (fun c_16 => ?_) (fun c_16 => ?_)
  · rw [bP_eq0, Classical.not_not] at c_16
    refine aw_aload_n d_F_isMethodContext_21 rfl ?_
    refine aw_iload_n d_F_isMethodContext_22 rfl ?_
    refine aw_iconst (v := nI 0) d_F_isMethodContext_23 (by decide) ?_
    refine aw_callVi (mc2 := 0) (ms2 := 0) (r := nI (FA B (ob (FA B k 3)) 0)) (As := [.int (nI (ob (FA B k 3))), .int (nI 0)]) (rest := []) (c_I_fieldAt ⟨M.1, M.2.1, M.2.2.1, M.2.2.2.1, M.2.2.2.2.1, M.2.2.2.2.2.1, M.2.2.2.2.2.2⟩ V L hB_ hcc hpc (ob (FA B k 3)) (by omega) 0 (by omega)) cv_F_79 d_F_isMethodContext_24 M.1 rfl rfl rfl (Nat.le_of_ble_eq_true rfl) (by decide) (by decide) (by omega) (by omega) ?_
    have b_24 := FA_lt hB_ (ob (FA B k 3)) 0
    refine aw_callSi (mc2 := 0) (ms2 := 0) (r := nI ((FA B (ob (FA B k 3)) 0) / 2)) (As := [.int (nI (FA B (ob (FA B k 3)) 0))]) (rest := []) (c_R_numberOf (FA B (ob (FA B k 3)) 0) (c_16.2.1.2.1)) cs_F_82 d_F_isMethodContext_27 rfl rfl (Nat.le_of_ble_eq_true rfl) (by decide) (by decide) (by omega) (by omega) ?_
    refine aw_istore_n (L' := [some (.ref im), some (.int (nI k)), some (.int (nI (ob (FA B k 3)))), some (.int (nI ((FA B (ob (FA B k 3)) 0) / 2))), none, none, none]) d_F_isMethodContext_30 (by decide) rfl rfl ?_
    refine aw_iload_n d_F_isMethodContext_31 rfl ?_
    refine aw_callSi (mc2 := 0) (ms2 := 0) (r := nI (((FA B (ob (FA B k 3)) 0) / 2) / 16 % 32)) (As := [.int (nI ((FA B (ob (FA B k 3)) 0) / 2))]) (rest := []) (c_F_temporariesOf ((FA B (ob (FA B k 3)) 0) / 2) (by omega)) cs_F_92 d_F_isMethodContext_32 rfl rfl (Nat.le_of_ble_eq_true rfl) (by decide) (by decide) (by omega) (by omega) ?_
    refine aw_istore (L' := [some (.ref im), some (.int (nI k)), some (.int (nI (ob (FA B k 3)))), some (.int (nI ((FA B (ob (FA B k 3)) 0) / 2))), some (.int (nI (((FA B (ob (FA B k 3)) 0) / 2) / 16 % 32))), none, none]) d_F_isMethodContext_35 (by decide) rfl rfl ?_
    refine aw_iload d_F_isMethodContext_37 rfl ?_
    refine aw_iload_n d_F_isMethodContext_39 rfl ?_
    refine aw_callSi (mc2 := 0) (ms2 := 0) (r := nI (((FA B (ob (FA B k 3)) 0) / 2) / 512 % 64)) (As := [.int (nI ((FA B (ob (FA B k 3)) 0) / 2))]) (rest := [.int (nI (((FA B (ob (FA B k 3)) 0) / 2) / 16 % 32))]) (c_F_depthOf ((FA B (ob (FA B k 3)) 0) / 2) (by omega)) cs_F_95 d_F_isMethodContext_40 rfl rfl (Nat.le_of_ble_eq_true rfl) (by decide) (by decide) (by omega) (by omega) ?_
    refine aw_iadd (v := nI (((FA B (ob (FA B k 3)) 0) / 2) / 16 % 32 + ((FA B (ob (FA B k 3)) 0) / 2) / 512 % 64)) d_F_isMethodContext_43 (nI_add _ _) ?_
    refine aw_istore (L' := [some (.ref im), some (.int (nI k)), some (.int (nI (ob (FA B k 3)))), some (.int (nI ((FA B (ob (FA B k 3)) 0) / 2))), some (.int (nI (((FA B (ob (FA B k 3)) 0) / 2) / 16 % 32))), some (.int (nI (((FA B (ob (FA B k 3)) 0) / 2) / 16 % 32 + ((FA B (ob (FA B k 3)) 0) / 2) / 512 % 64))), none]) d_F_isMethodContext_44 (by decide) rfl rfl ?_
    refine aw_aload_n d_F_isMethodContext_46 rfl ?_
    refine aw_iload_n d_F_isMethodContext_47 rfl ?_
    refine aw_iconst (v := nI 2) d_F_isMethodContext_48 (by decide) ?_
    refine aw_callVi (mc2 := 0) (ms2 := 0) (r := nI (FA B k 2)) (As := [.int (nI k), .int (nI 2)]) (rest := []) (c_I_fieldAt ⟨M.1, M.2.1, M.2.2.1, M.2.2.2.1, M.2.2.2.2.1, M.2.2.2.2.2.1, M.2.2.2.2.2.2⟩ V L hB_ hcc hpc k (by omega) 2 (by omega)) cv_F_79 d_F_isMethodContext_49 M.1 rfl rfl rfl (Nat.le_of_ble_eq_true rfl) (by decide) (by decide) (by omega) (by omega) ?_
    have b_49 := FA_lt hB_ k 2
    refine aw_istore (L' := [some (.ref im), some (.int (nI k)), some (.int (nI (ob (FA B k 3)))), some (.int (nI ((FA B (ob (FA B k 3)) 0) / 2))), some (.int (nI (((FA B (ob (FA B k 3)) 0) / 2) / 16 % 32))), some (.int (nI (((FA B (ob (FA B k 3)) 0) / 2) / 16 % 32 + ((FA B (ob (FA B k 3)) 0) / 2) / 512 % 64))), some (.int (nI (FA B k 2)))]) d_F_isMethodContext_52 (by decide) rfl rfl ?_
    refine aw_aload_n d_F_isMethodContext_54 rfl ?_
    refine aw_iload_n d_F_isMethodContext_55 rfl ?_
    refine aw_callVi (mc2 := 0) (ms2 := 0) (r := nI (FC B k)) (As := [.int (nI k)]) (rest := []) (c_I_fieldCount ⟨M.1, M.2.1, M.2.2.1, M.2.2.2.1, M.2.2.2.2.1, M.2.2.2.2.2.1, M.2.2.2.2.2.2⟩ V L hB_ hcc hpc k (by omega)) cv_F_44 d_F_isMethodContext_56 M.1 rfl rfl rfl (Nat.le_of_ble_eq_true rfl) (by decide) (by decide) (by omega) (by omega) ?_
    have b_56 := FC_lt hB_ k
    refine aw_iconst (v := nI 5) d_F_isMethodContext_59 (by decide) ?_
    refine aw_iload d_F_isMethodContext_60 rfl ?_
    refine aw_iadd (v := nI (5 + (((FA B (ob (FA B k 3)) 0) / 2) / 16 % 32 + ((FA B (ob (FA B k 3)) 0) / 2) / 512 % 64))) d_F_isMethodContext_62 (nI_add _ _) ?_
    refine aw_icmp_ne (tgt := 105) d_F_isMethodContext_63 (by decide) (fun c_63 => ?_) (fun c_63 => ?_)
    · rw [w_eq (by omega) (by omega)] at c_63
      refine aw_iconst (v := nI 0) d_F_isMethodContext_105 (by decide) ?_
      exact aw_iret d_F_isMethodContext_106 rfl nar0 (rt_f (by unfold xMC xtm xdp; first | exact fun z => c_16 z.1 | exact fun z => absurd z.2.1 (by omega) | exact fun z => c_71 z.2.2.1 | exact fun z => c_83 z.2.2.2.1 | exact fun z => c_98 z.2.2.2.2))
    · rw [w_eq (by omega) (by omega)] at c_63
      refine aw_aload_n d_F_isMethodContext_66 rfl ?_
      refine aw_iload_n d_F_isMethodContext_67 rfl ?_
      refine aw_callSi (mc2 := 0) (ms2 := 0) (r := bP (xLK B k)) (As := [.ref im, .int (nI k)]) (rest := []) (c_F_areLinksFit ⟨M.1, M.2.1, M.2.2.1, M.2.2.2.1, M.2.2.2.2.1, M.2.2.2.2.2.1, M.2.2.2.2.2.2⟩ V L hB_ hcc hpc k (by omega)) cs_F_98 d_F_isMethodContext_68 rfl rfl (Nat.le_of_ble_eq_true rfl) (by decide) (by decide) (by omega) (by omega) ?_
      refine aw_if_eq (tgt := 105) d_F_isMethodContext_71 (by decide) (fun c_71 => ?_) (fun c_71 => ?_)
      · rw [bP_eq0] at c_71
        refine aw_iconst (v := nI 0) d_F_isMethodContext_105 (by decide) ?_
        exact aw_iret d_F_isMethodContext_106 rfl nar0 (rt_f (by unfold xMC xtm xdp; first | exact fun z => c_16 z.1 | exact fun z => absurd z.2.1 (by omega) | exact fun z => c_71 z.2.2.1 | exact fun z => c_83 z.2.2.2.1 | exact fun z => c_98 z.2.2.2.2))
      · rw [bP_eq0, Classical.not_not] at c_71
        refine aw_iload d_F_isMethodContext_74 rfl ?_
        refine aw_iload d_F_isMethodContext_76 rfl ?_
        refine aw_iload d_F_isMethodContext_78 rfl ?_
        refine aw_callSi (mc2 := 0) (ms2 := 0) (r := bP (NI (FA B k 2) (((FA B (ob (FA B k 3)) 0) / 2) / 16 % 32) (((FA B (ob (FA B k 3)) 0) / 2) / 16 % 32 + ((FA B (ob (FA B k 3)) 0) / 2) / 512 % 64))) (As := [.int (nI (FA B k 2)), .int (nI (((FA B (ob (FA B k 3)) 0) / 2) / 16 % 32)), .int (nI (((FA B (ob (FA B k 3)) 0) / 2) / 16 % 32 + ((FA B (ob (FA B k 3)) 0) / 2) / 512 % 64))]) (rest := []) (c_R_isNumberWithin (FA B k 2) (by omega) (((FA B (ob (FA B k 3)) 0) / 2) / 16 % 32) (((FA B (ob (FA B k 3)) 0) / 2) / 16 % 32 + ((FA B (ob (FA B k 3)) 0) / 2) / 512 % 64) (by omega) (by omega)) cs_F_101 d_F_isMethodContext_80 rfl rfl (Nat.le_of_ble_eq_true rfl) (by decide) (by decide) (by omega) (by omega) ?_
        refine aw_if_eq (tgt := 105) d_F_isMethodContext_83 (by decide) (fun c_83 => ?_) (fun c_83 => ?_)
        · rw [bP_eq0] at c_83
          refine aw_iconst (v := nI 0) d_F_isMethodContext_105 (by decide) ?_
          exact aw_iret d_F_isMethodContext_106 rfl nar0 (rt_f (by unfold xMC xtm xdp; first | exact fun z => c_16 z.1 | exact fun z => absurd z.2.1 (by omega) | exact fun z => c_71 z.2.2.1 | exact fun z => c_83 z.2.2.2.1 | exact fun z => c_98 z.2.2.2.2))
        · rw [bP_eq0, Classical.not_not] at c_83
          have c83 := c_83
          unfold NI at c83
          refine aw_aload_n d_F_isMethodContext_86 rfl ?_
          refine aw_iload_n d_F_isMethodContext_87 rfl ?_
          refine aw_iconst (v := nI 5) d_F_isMethodContext_88 (by decide) ?_
          refine aw_iload d_F_isMethodContext_89 rfl ?_
          refine aw_callSi (mc2 := 0) (ms2 := 0) (r := nI ((FA B k 2) / 2)) (As := [.int (nI (FA B k 2))]) (rest := [.int (nI 5), .int (nI k), .ref im]) (c_R_numberOf (FA B k 2) (c_83.2.1)) cs_F_82 d_F_isMethodContext_91 rfl rfl (Nat.le_of_ble_eq_true rfl) (by decide) (by decide) (by omega) (by omega) ?_
          refine aw_iadd (v := nI (5 + (FA B k 2) / 2)) d_F_isMethodContext_94 (nI_add _ _) ?_
          refine aw_callSi (mc2 := 0) (ms2 := 0) (r := bP (xNF B k (5 + (FA B k 2) / 2))) (As := [.ref im, .int (nI k), .int (nI (5 + (FA B k 2) / 2))]) (rest := []) (c_F_isNilFrom ⟨M.1, M.2.1, M.2.2.1, M.2.2.2.1, M.2.2.2.2.1, M.2.2.2.2.2.1, M.2.2.2.2.2.2⟩ V L hB_ hcc hpc k (by omega) (5 + (FA B k 2) / 2) (by omega)) cs_F_105 d_F_isMethodContext_95 rfl rfl (Nat.le_of_ble_eq_true rfl) (by decide) (by decide) (by omega) (by omega) ?_
          refine aw_if_eq (tgt := 105) d_F_isMethodContext_98 (by decide) (fun c_98 => ?_) (fun c_98 => ?_)
          · rw [bP_eq0] at c_98
            refine aw_iconst (v := nI 0) d_F_isMethodContext_105 (by decide) ?_
            exact aw_iret d_F_isMethodContext_106 rfl nar0 (rt_f (by unfold xMC xtm xdp; first | exact fun z => c_16 z.1 | exact fun z => absurd z.2.1 (by omega) | exact fun z => c_71 z.2.2.1 | exact fun z => c_83 z.2.2.2.1 | exact fun z => c_98 z.2.2.2.2))
          · rw [bP_eq0, Classical.not_not] at c_98
            refine aw_iconst (v := nI 1) d_F_isMethodContext_101 (by decide) ?_
            refine aw_goto (tgt := 106) d_F_isMethodContext_102 (by decide) ?_
            exact aw_iret d_F_isMethodContext_106 rfl nar1 (rt_t (by unfold xMC xtm xdp; exact ⟨c_16, by omega, c_71, c_83, c_98⟩))
  · rw [bP_eq0] at c_16
    refine aw_iconst (v := nI 0) d_F_isMethodContext_19 (by decide) ?_
    exact aw_iret d_F_isMethodContext_20 rfl nar0 (rt_f (by unfold xMC xtm xdp; first | exact fun z => c_16 z.1 | exact fun z => absurd z.2.1 (by omega) | exact fun z => c_71 z.2.2.1 | exact fun z => c_83 z.2.2.2.1 | exact fun z => c_98 z.2.2.2.2))

set_option maxHeartbeats 4000000 in
theorem c_F_isBlockContext {tb : Nat → Nat} {h : AH} {im a0 a1 a2 a3 a4 a5 cc pc us iw wp cp : Nat} {B : Nat → Nat} {f0 f1 f2 f3 f4 f5 : Nat → Int32} (M : iS h im a0 a1 a2 a3 a4 a5 cc pc us (nn B) iw wp cp f0 f1 f2 f3 f4 f5) (V : IV B f0 f1 f2 f3 f4 f5 cc pc) (L : LX B) (hB_ : ∀ i, B i < 256) (hcc : cc ≤ 1048576) (hpc : pc ≤ 1048576) (k : Nat) (hk : k < 2147483648) : AM tb y_F_isBlockContext b_F_isBlockContext 6 (some .boolean) 4 84 [.ref im, .int (nI k)] h 0 0 (av_Pi (bP (xBC B k)) h) := by
  have nV_im := V.1
  have nL_im := L.1
  refine am_of (ini := false) [some (.ref im), some (.int (nI k)), none, none, none, none] (by decide) (fun z => by cases z) (Nat.le_of_ble_eq_true rfl) rfl ?_
  refine aw_aload_n d_F_isBlockContext_0 rfl ?_
  refine aw_aload_n d_F_isBlockContext_1 rfl ?_
  refine aw_iload_n d_F_isBlockContext_2 rfl ?_
  refine aw_iconst (v := nI 5) d_F_isBlockContext_3 (by decide) ?_
  refine aw_callVi (mc2 := 0) (ms2 := 0) (r := nI (FA B k 5)) (As := [.int (nI k), .int (nI 5)]) (rest := [.ref im]) (c_I_fieldAt ⟨M.1, M.2.1, M.2.2.1, M.2.2.2.1, M.2.2.2.2.1, M.2.2.2.2.2.1, M.2.2.2.2.2.2⟩ V L hB_ hcc hpc k (by omega) 5 (by omega)) cv_F_79 d_F_isBlockContext_4 M.1 rfl rfl rfl (Nat.le_of_ble_eq_true rfl) (by decide) (by decide) (by omega) (by omega) ?_
  have b_4 := FA_lt hB_ k 5
  refine aw_callVi (mc2 := 0) (ms2 := 0) (r := nI (ob (FA B k 5))) (As := [.int (nI (FA B k 5))]) (rest := []) (c_I_objectOf ⟨M.1, M.2.1, M.2.2.1, M.2.2.2.1, M.2.2.2.2.1, M.2.2.2.2.2.1, M.2.2.2.2.2.2⟩ V L hB_ hcc hpc (FA B k 5) (by omega) (L.fa _ _)) cv_F_34 d_F_isBlockContext_7 M.1 rfl rfl rfl (Nat.le_of_ble_eq_true rfl) (by decide) (by decide) (by omega) (by omega) ?_
  have ol_7 : ob (FA B k 5) ≤ nn B := ob_le (L.fa _ _)
  refine aw_istore_n (L' := [some (.ref im), some (.int (nI k)), some (.int (nI (ob (FA B k 5)))), none, none, none]) d_F_isBlockContext_10 (by decide) rfl rfl ?_
  refine aw_aload_n d_F_isBlockContext_11 rfl ?_
  refine aw_aload_n d_F_isBlockContext_12 rfl ?_
  refine aw_iload_n d_F_isBlockContext_13 rfl ?_
  refine aw_iconst (v := nI 3) d_F_isBlockContext_14 (by decide) ?_
  refine aw_callVi (mc2 := 0) (ms2 := 0) (r := nI (FA B (ob (FA B k 5)) 3)) (As := [.int (nI (ob (FA B k 5))), .int (nI 3)]) (rest := [.ref im]) (c_I_fieldAt ⟨M.1, M.2.1, M.2.2.1, M.2.2.2.1, M.2.2.2.2.1, M.2.2.2.2.2.1, M.2.2.2.2.2.2⟩ V L hB_ hcc hpc (ob (FA B k 5)) (by omega) 3 (by omega)) cv_F_79 d_F_isBlockContext_15 M.1 rfl rfl rfl (Nat.le_of_ble_eq_true rfl) (by decide) (by decide) (by omega) (by omega) ?_
  have b_15 := FA_lt hB_ (ob (FA B k 5)) 3
  refine aw_callVi (mc2 := 0) (ms2 := 0) (r := nI (ob (FA B (ob (FA B k 5)) 3))) (As := [.int (nI (FA B (ob (FA B k 5)) 3))]) (rest := []) (c_I_objectOf ⟨M.1, M.2.1, M.2.2.1, M.2.2.2.1, M.2.2.2.2.1, M.2.2.2.2.2.1, M.2.2.2.2.2.2⟩ V L hB_ hcc hpc (FA B (ob (FA B k 5)) 3) (by omega) (L.fa _ _)) cv_F_34 d_F_isBlockContext_18 M.1 rfl rfl rfl (Nat.le_of_ble_eq_true rfl) (by decide) (by decide) (by omega) (by omega) ?_
  have ol_18 : ob (FA B (ob (FA B k 5)) 3) ≤ nn B := ob_le (L.fa _ _)
  refine aw_istore_n (L' := [some (.ref im), some (.int (nI k)), some (.int (nI (ob (FA B k 5)))), some (.int (nI (ob (FA B (ob (FA B k 5)) 3)))), none, none]) d_F_isBlockContext_21 (by decide) rfl rfl ?_
  refine aw_aload_n d_F_isBlockContext_22 rfl ?_
  refine aw_iload_n d_F_isBlockContext_23 rfl ?_
  refine aw_bipush (v := nI 7) d_F_isBlockContext_24 (by decide) ?_
  refine aw_callVi (mc2 := 0) (ms2 := 0) (r := bP (1 ≤ (ob (FA B k 5)) ∧ (ob (FA B k 5)) ≤ nn B ∧ cl B (ob (FA B k 5)) = sp B 7)) (As := [.int (nI (ob (FA B k 5))), .int (nI 7)]) (rest := []) (c_I_isOfSpecialClass ⟨M.1, M.2.1, M.2.2.1, M.2.2.2.1, M.2.2.2.2.1, M.2.2.2.2.2.1, M.2.2.2.2.2.2⟩ V L hB_ hcc hpc (ob (FA B k 5)) (by omega) 7 (by omega)) cv_F_53 d_F_isBlockContext_26 M.1 rfl rfl rfl (Nat.le_of_ble_eq_true rfl) (by decide) (by decide) (by omega) (by omega) ?_
  refine aw_if_eq (tgt := 49) d_F_isBlockContext_29 (by decide) (fun c_29 => ?_) (fun c_29 => ?_)
  · rw [bP_eq0] at c_29
    refine aw_iconst (v := nI 0) d_F_isBlockContext_49 (by decide) ?_
    exact aw_iret d_F_isBlockContext_50 rfl nar0 (rt_f (by unfold xBC xdp; first | exact fun z => c_29 z.1 | exact fun z => absurd z.2.1 (by omega) | exact fun z => c_46 z.2.2.1 | exact fun z => absurd z.2.2.2.1 (by omega) | exact fun z => c_91 z.2.2.2.2.1 | exact fun z => c_102 z.2.2.2.2.2.1 | exact fun z => c_117 z.2.2.2.2.2.2.1 | exact fun z => c_129 z.2.2.2.2.2.2.2.1 | exact fun z => c_145 z.2.2.2.2.2.2.2.2))
  · rw [bP_eq0, Classical.not_not] at c_29
    refine aw_aload_n d_F_isBlockContext_32 rfl ?_
    refine aw_iload_n d_F_isBlockContext_33 rfl ?_
    refine aw_callVi (mc2 := 0) (ms2 := 0) (r := nI (FC B (ob (FA B k 5)))) (As := [.int (nI (ob (FA B k 5)))]) (rest := []) (c_I_fieldCount ⟨M.1, M.2.1, M.2.2.1, M.2.2.2.1, M.2.2.2.2.1, M.2.2.2.2.2.1, M.2.2.2.2.2.2⟩ V L hB_ hcc hpc (ob (FA B k 5)) (by omega)) cv_F_44 d_F_isBlockContext_34 M.1 rfl rfl rfl (Nat.le_of_ble_eq_true rfl) (by decide) (by decide) (by omega) (by omega) ?_
    have b_34 := FC_lt hB_ (ob (FA B k 5))
    refine aw_iconst (v := nI 5) d_F_isBlockContext_37 (by decide) ?_
    refine aw_icmp_lt (tgt := 49) d_F_isBlockContext_38 (by decide) (fun c_38 => ?_) (fun c_38 => ?_)
    · rw [nI_ltI (by omega) (by omega)] at c_38
      refine aw_iconst (v := nI 0) d_F_isBlockContext_49 (by decide) ?_
      exact aw_iret d_F_isBlockContext_50 rfl nar0 (rt_f (by unfold xBC xdp; first | exact fun z => c_29 z.1 | exact fun z => absurd z.2.1 (by omega) | exact fun z => c_46 z.2.2.1 | exact fun z => absurd z.2.2.2.1 (by omega) | exact fun z => c_91 z.2.2.2.2.1 | exact fun z => c_102 z.2.2.2.2.2.1 | exact fun z => c_117 z.2.2.2.2.2.2.1 | exact fun z => c_129 z.2.2.2.2.2.2.2.1 | exact fun z => c_145 z.2.2.2.2.2.2.2.2))
    · rw [nI_ltI (by omega) (by omega)] at c_38
      refine aw_aload_n d_F_isBlockContext_41 rfl ?_
      refine aw_iload_n d_F_isBlockContext_42 rfl ?_
      refine aw_callSi (mc2 := 0) (ms2 := 0) (r := bP (xME B (ob (FA B (ob (FA B k 5)) 3)))) (As := [.ref im, .int (nI (ob (FA B (ob (FA B k 5)) 3)))]) (rest := []) (c_F_isMethod ⟨M.1, M.2.1, M.2.2.1, M.2.2.2.1, M.2.2.2.2.1, M.2.2.2.2.2.1, M.2.2.2.2.2.2⟩ V L hB_ hcc hpc (ob (FA B (ob (FA B k 5)) 3)) (by omega)) cs_F_89 d_F_isBlockContext_43 rfl rfl (Nat.le_of_ble_eq_true rfl) (by decide) (by decide) (by omega) (by omega) ?_
      refine aw_if_ne (tgt := 51) d_F_isBlockContext_46 (by decide) (fun c_46 => ?_) (fun c_46 => ?_)
      · rw [bP_eq0, Classical.not_not] at c_46
        refine aw_aload_n d_F_isBlockContext_51 rfl ?_
        refine aw_iload_n d_F_isBlockContext_52 rfl ?_
        refine aw_iconst (v := nI 0) d_F_isBlockContext_53 (by decide) ?_
        refine aw_callVi (mc2 := 0) (ms2 := 0) (r := nI (FA B (ob (FA B (ob (FA B k 5)) 3)) 0)) (As := [.int (nI (ob (FA B (ob (FA B k 5)) 3))), .int (nI 0)]) (rest := []) (c_I_fieldAt ⟨M.1, M.2.1, M.2.2.1, M.2.2.2.1, M.2.2.2.2.1, M.2.2.2.2.2.1, M.2.2.2.2.2.2⟩ V L hB_ hcc hpc (ob (FA B (ob (FA B k 5)) 3)) (by omega) 0 (by omega)) cv_F_79 d_F_isBlockContext_54 M.1 rfl rfl rfl (Nat.le_of_ble_eq_true rfl) (by decide) (by decide) (by omega) (by omega) ?_
        have b_54 := FA_lt hB_ (ob (FA B (ob (FA B k 5)) 3)) 0
        refine aw_callSi (mc2 := 0) (ms2 := 0) (r := nI ((FA B (ob (FA B (ob (FA B k 5)) 3)) 0) / 2)) (As := [.int (nI (FA B (ob (FA B (ob (FA B k 5)) 3)) 0))]) (rest := []) (c_R_numberOf (FA B (ob (FA B (ob (FA B k 5)) 3)) 0) (c_46.2.1.2.1)) cs_F_82 d_F_isBlockContext_57 rfl rfl (Nat.le_of_ble_eq_true rfl) (by decide) (by decide) (by omega) (by omega) ?_
        refine aw_callSi (mc2 := 0) (ms2 := 0) (r := nI (((FA B (ob (FA B (ob (FA B k 5)) 3)) 0) / 2) / 512 % 64)) (As := [.int (nI ((FA B (ob (FA B (ob (FA B k 5)) 3)) 0) / 2))]) (rest := []) (c_F_depthOf ((FA B (ob (FA B (ob (FA B k 5)) 3)) 0) / 2) (by omega)) cs_F_95 d_F_isBlockContext_60 rfl rfl (Nat.le_of_ble_eq_true rfl) (by decide) (by decide) (by omega) (by omega) ?_
        refine aw_istore (L' := [some (.ref im), some (.int (nI k)), some (.int (nI (ob (FA B k 5)))), some (.int (nI (ob (FA B (ob (FA B k 5)) 3)))), some (.int (nI (((FA B (ob (FA B (ob (FA B k 5)) 3)) 0) / 2) / 512 % 64))), none]) d_F_isBlockContext_63 (by decide) rfl rfl ?_
        refine aw_aload_n d_F_isBlockContext_65 rfl ?_
        refine aw_iload_n d_F_isBlockContext_66 rfl ?_
        refine aw_iconst (v := nI 2) d_F_isBlockContext_67 (by decide) ?_
        refine aw_callVi (mc2 := 0) (ms2 := 0) (r := nI (FA B k 2)) (As := [.int (nI k), .int (nI 2)]) (rest := []) (c_I_fieldAt ⟨M.1, M.2.1, M.2.2.1, M.2.2.2.1, M.2.2.2.2.1, M.2.2.2.2.2.1, M.2.2.2.2.2.2⟩ V L hB_ hcc hpc k (by omega) 2 (by omega)) cv_F_79 d_F_isBlockContext_68 M.1 rfl rfl rfl (Nat.le_of_ble_eq_true rfl) (by decide) (by decide) (by omega) (by omega) ?_
        have b_68 := FA_lt hB_ k 2
        refine aw_istore (L' := [some (.ref im), some (.int (nI k)), some (.int (nI (ob (FA B k 5)))), some (.int (nI (ob (FA B (ob (FA B k 5)) 3)))), some (.int (nI (((FA B (ob (FA B (ob (FA B k 5)) 3)) 0) / 2) / 512 % 64))), some (.int (nI (FA B k 2)))]) d_F_isBlockContext_71 (by decide) rfl rfl ?_
        refine aw_aload_n d_F_isBlockContext_73 rfl ?_
        refine aw_iload_n d_F_isBlockContext_74 rfl ?_
        refine aw_callVi (mc2 := 0) (ms2 := 0) (r := nI (FC B k)) (As := [.int (nI k)]) (rest := []) (c_I_fieldCount ⟨M.1, M.2.1, M.2.2.1, M.2.2.2.1, M.2.2.2.2.1, M.2.2.2.2.2.1, M.2.2.2.2.2.2⟩ V L hB_ hcc hpc k (by omega)) cv_F_44 d_F_isBlockContext_75 M.1 rfl rfl rfl (Nat.le_of_ble_eq_true rfl) (by decide) (by decide) (by omega) (by omega) ?_
        have b_75 := FC_lt hB_ k
        refine aw_bipush (v := nI 6) d_F_isBlockContext_78 (by decide) ?_
        refine aw_iload d_F_isBlockContext_80 rfl ?_
        refine aw_iadd (v := nI (6 + ((FA B (ob (FA B (ob (FA B k 5)) 3)) 0) / 2) / 512 % 64)) d_F_isBlockContext_82 (nI_add _ _) ?_
        refine aw_icmp_ne (tgt := 152) d_F_isBlockContext_83 (by decide) (fun c_83 => ?_) (fun c_83 => ?_)
        · rw [w_eq (by omega) (by omega)] at c_83
          refine aw_iconst (v := nI 0) d_F_isBlockContext_152 (by decide) ?_
          exact aw_iret d_F_isBlockContext_153 rfl nar0 (rt_f (by unfold xBC xdp; first | exact fun z => c_29 z.1 | exact fun z => absurd z.2.1 (by omega) | exact fun z => c_46 z.2.2.1 | exact fun z => absurd z.2.2.2.1 (by omega) | exact fun z => c_91 z.2.2.2.2.1 | exact fun z => c_102 z.2.2.2.2.2.1 | exact fun z => c_117 z.2.2.2.2.2.2.1 | exact fun z => c_129 z.2.2.2.2.2.2.2.1 | exact fun z => c_145 z.2.2.2.2.2.2.2.2))
        · rw [w_eq (by omega) (by omega)] at c_83
          refine aw_aload_n d_F_isBlockContext_86 rfl ?_
          refine aw_iload_n d_F_isBlockContext_87 rfl ?_
          refine aw_callSi (mc2 := 0) (ms2 := 0) (r := bP (xLK B k)) (As := [.ref im, .int (nI k)]) (rest := []) (c_F_areLinksFit ⟨M.1, M.2.1, M.2.2.1, M.2.2.2.1, M.2.2.2.2.1, M.2.2.2.2.2.1, M.2.2.2.2.2.2⟩ V L hB_ hcc hpc k (by omega)) cs_F_98 d_F_isBlockContext_88 rfl rfl (Nat.le_of_ble_eq_true rfl) (by decide) (by decide) (by omega) (by omega) ?_
          refine aw_if_eq (tgt := 152) d_F_isBlockContext_91 (by decide) (fun c_91 => ?_) (fun c_91 => ?_)
          · rw [bP_eq0] at c_91
            refine aw_iconst (v := nI 0) d_F_isBlockContext_152 (by decide) ?_
            exact aw_iret d_F_isBlockContext_153 rfl nar0 (rt_f (by unfold xBC xdp; first | exact fun z => c_29 z.1 | exact fun z => absurd z.2.1 (by omega) | exact fun z => c_46 z.2.2.1 | exact fun z => absurd z.2.2.2.1 (by omega) | exact fun z => c_91 z.2.2.2.2.1 | exact fun z => c_102 z.2.2.2.2.2.1 | exact fun z => c_117 z.2.2.2.2.2.2.1 | exact fun z => c_129 z.2.2.2.2.2.2.2.1 | exact fun z => c_145 z.2.2.2.2.2.2.2.2))
          · rw [bP_eq0, Classical.not_not] at c_91
            refine aw_iload d_F_isBlockContext_94 rfl ?_
            refine aw_iconst (v := nI 0) d_F_isBlockContext_96 (by decide) ?_
            refine aw_iload d_F_isBlockContext_97 rfl ?_
            refine aw_callSi (mc2 := 0) (ms2 := 0) (r := bP (NI (FA B k 2) 0 (((FA B (ob (FA B (ob (FA B k 5)) 3)) 0) / 2) / 512 % 64))) (As := [.int (nI (FA B k 2)), .int (nI 0), .int (nI (((FA B (ob (FA B (ob (FA B k 5)) 3)) 0) / 2) / 512 % 64))]) (rest := []) (c_R_isNumberWithin (FA B k 2) (by omega) 0 (((FA B (ob (FA B (ob (FA B k 5)) 3)) 0) / 2) / 512 % 64) (by omega) (by omega)) cs_F_101 d_F_isBlockContext_99 rfl rfl (Nat.le_of_ble_eq_true rfl) (by decide) (by decide) (by omega) (by omega) ?_
            refine aw_if_eq (tgt := 152) d_F_isBlockContext_102 (by decide) (fun c_102 => ?_) (fun c_102 => ?_)
            · rw [bP_eq0] at c_102
              refine aw_iconst (v := nI 0) d_F_isBlockContext_152 (by decide) ?_
              exact aw_iret d_F_isBlockContext_153 rfl nar0 (rt_f (by unfold xBC xdp; first | exact fun z => c_29 z.1 | exact fun z => absurd z.2.1 (by omega) | exact fun z => c_46 z.2.2.1 | exact fun z => absurd z.2.2.2.1 (by omega) | exact fun z => c_91 z.2.2.2.2.1 | exact fun z => c_102 z.2.2.2.2.2.1 | exact fun z => c_117 z.2.2.2.2.2.2.1 | exact fun z => c_129 z.2.2.2.2.2.2.2.1 | exact fun z => c_145 z.2.2.2.2.2.2.2.2))
            · rw [bP_eq0, Classical.not_not] at c_102
              have c102 := c_102
              unfold NI at c102
              refine aw_aload_n d_F_isBlockContext_105 rfl ?_
              refine aw_iload_n d_F_isBlockContext_106 rfl ?_
              refine aw_iconst (v := nI 3) d_F_isBlockContext_107 (by decide) ?_
              refine aw_callVi (mc2 := 0) (ms2 := 0) (r := nI (FA B k 3)) (As := [.int (nI k), .int (nI 3)]) (rest := []) (c_I_fieldAt ⟨M.1, M.2.1, M.2.2.1, M.2.2.2.1, M.2.2.2.2.1, M.2.2.2.2.2.1, M.2.2.2.2.2.2⟩ V L hB_ hcc hpc k (by omega) 3 (by omega)) cv_F_79 d_F_isBlockContext_108 M.1 rfl rfl rfl (Nat.le_of_ble_eq_true rfl) (by decide) (by decide) (by omega) (by omega) ?_
              have b_108 := FA_lt hB_ k 3
              refine aw_iconst (v := nI 0) d_F_isBlockContext_111 (by decide) ?_
              refine aw_bipush (v := nI 15) d_F_isBlockContext_112 (by decide) ?_
              refine aw_callSi (mc2 := 0) (ms2 := 0) (r := bP (NI (FA B k 3) 0 15)) (As := [.int (nI (FA B k 3)), .int (nI 0), .int (nI 15)]) (rest := []) (c_R_isNumberWithin (FA B k 3) (by omega) 0 15 (by omega) (by omega)) cs_F_101 d_F_isBlockContext_114 rfl rfl (Nat.le_of_ble_eq_true rfl) (by decide) (by decide) (by omega) (by omega) ?_
              refine aw_if_eq (tgt := 152) d_F_isBlockContext_117 (by decide) (fun c_117 => ?_) (fun c_117 => ?_)
              · rw [bP_eq0] at c_117
                refine aw_iconst (v := nI 0) d_F_isBlockContext_152 (by decide) ?_
                exact aw_iret d_F_isBlockContext_153 rfl nar0 (rt_f (by unfold xBC xdp; first | exact fun z => c_29 z.1 | exact fun z => absurd z.2.1 (by omega) | exact fun z => c_46 z.2.2.1 | exact fun z => absurd z.2.2.2.1 (by omega) | exact fun z => c_91 z.2.2.2.2.1 | exact fun z => c_102 z.2.2.2.2.2.1 | exact fun z => c_117 z.2.2.2.2.2.2.1 | exact fun z => c_129 z.2.2.2.2.2.2.2.1 | exact fun z => c_145 z.2.2.2.2.2.2.2.2))
              · rw [bP_eq0, Classical.not_not] at c_117
                refine aw_aload_n d_F_isBlockContext_120 rfl ?_
                refine aw_iload_n d_F_isBlockContext_121 rfl ?_
                refine aw_iconst (v := nI 4) d_F_isBlockContext_122 (by decide) ?_
                refine aw_callVi (mc2 := 0) (ms2 := 0) (r := nI (FA B k 4)) (As := [.int (nI k), .int (nI 4)]) (rest := []) (c_I_fieldAt ⟨M.1, M.2.1, M.2.2.1, M.2.2.2.1, M.2.2.2.2.1, M.2.2.2.2.2.1, M.2.2.2.2.2.2⟩ V L hB_ hcc hpc k (by omega) 4 (by omega)) cv_F_79 d_F_isBlockContext_123 M.1 rfl rfl rfl (Nat.le_of_ble_eq_true rfl) (by decide) (by decide) (by omega) (by omega) ?_
                have b_123 := FA_lt hB_ k 4
                refine aw_callSi (mc2 := 0) (ms2 := 0) (r := bP (xNC (FA B k 4))) (As := [.int (nI (FA B k 4))]) (rest := []) (c_F_isNilOrCounting (FA B k 4) (by omega)) cs_F_108 d_F_isBlockContext_126 rfl rfl (Nat.le_of_ble_eq_true rfl) (by decide) (by decide) (by omega) (by omega) ?_
                refine aw_if_eq (tgt := 152) d_F_isBlockContext_129 (by decide) (fun c_129 => ?_) (fun c_129 => ?_)
                · rw [bP_eq0] at c_129
                  refine aw_iconst (v := nI 0) d_F_isBlockContext_152 (by decide) ?_
                  exact aw_iret d_F_isBlockContext_153 rfl nar0 (rt_f (by unfold xBC xdp; first | exact fun z => c_29 z.1 | exact fun z => absurd z.2.1 (by omega) | exact fun z => c_46 z.2.2.1 | exact fun z => absurd z.2.2.2.1 (by omega) | exact fun z => c_91 z.2.2.2.2.1 | exact fun z => c_102 z.2.2.2.2.2.1 | exact fun z => c_117 z.2.2.2.2.2.2.1 | exact fun z => c_129 z.2.2.2.2.2.2.2.1 | exact fun z => c_145 z.2.2.2.2.2.2.2.2))
                · rw [bP_eq0, Classical.not_not] at c_129
                  refine aw_aload_n d_F_isBlockContext_132 rfl ?_
                  refine aw_iload_n d_F_isBlockContext_133 rfl ?_
                  refine aw_bipush (v := nI 6) d_F_isBlockContext_134 (by decide) ?_
                  refine aw_iload d_F_isBlockContext_136 rfl ?_
                  refine aw_callSi (mc2 := 0) (ms2 := 0) (r := nI ((FA B k 2) / 2)) (As := [.int (nI (FA B k 2))]) (rest := [.int (nI 6), .int (nI k), .ref im]) (c_R_numberOf (FA B k 2) (c_102.2.1)) cs_F_82 d_F_isBlockContext_138 rfl rfl (Nat.le_of_ble_eq_true rfl) (by decide) (by decide) (by omega) (by omega) ?_
                  refine aw_iadd (v := nI (6 + (FA B k 2) / 2)) d_F_isBlockContext_141 (nI_add _ _) ?_
                  refine aw_callSi (mc2 := 0) (ms2 := 0) (r := bP (xNF B k (6 + (FA B k 2) / 2))) (As := [.ref im, .int (nI k), .int (nI (6 + (FA B k 2) / 2))]) (rest := []) (c_F_isNilFrom ⟨M.1, M.2.1, M.2.2.1, M.2.2.2.1, M.2.2.2.2.1, M.2.2.2.2.2.1, M.2.2.2.2.2.2⟩ V L hB_ hcc hpc k (by omega) (6 + (FA B k 2) / 2) (by omega)) cs_F_105 d_F_isBlockContext_142 rfl rfl (Nat.le_of_ble_eq_true rfl) (by decide) (by decide) (by omega) (by omega) ?_
                  refine aw_if_eq (tgt := 152) d_F_isBlockContext_145 (by decide) (fun c_145 => ?_) (fun c_145 => ?_)
                  · rw [bP_eq0] at c_145
                    refine aw_iconst (v := nI 0) d_F_isBlockContext_152 (by decide) ?_
                    exact aw_iret d_F_isBlockContext_153 rfl nar0 (rt_f (by unfold xBC xdp; first | exact fun z => c_29 z.1 | exact fun z => absurd z.2.1 (by omega) | exact fun z => c_46 z.2.2.1 | exact fun z => absurd z.2.2.2.1 (by omega) | exact fun z => c_91 z.2.2.2.2.1 | exact fun z => c_102 z.2.2.2.2.2.1 | exact fun z => c_117 z.2.2.2.2.2.2.1 | exact fun z => c_129 z.2.2.2.2.2.2.2.1 | exact fun z => c_145 z.2.2.2.2.2.2.2.2))
                  · rw [bP_eq0, Classical.not_not] at c_145
                    refine aw_iconst (v := nI 1) d_F_isBlockContext_148 (by decide) ?_
                    refine aw_goto (tgt := 153) d_F_isBlockContext_149 (by decide) ?_
                    exact aw_iret d_F_isBlockContext_153 rfl nar1 (rt_t (by unfold xBC xdp; exact ⟨c_29, by omega, c_46, by omega, c_91, c_102, c_117, c_129, c_145⟩))
      · rw [bP_eq0] at c_46
        refine aw_iconst (v := nI 0) d_F_isBlockContext_49 (by decide) ?_
        exact aw_iret d_F_isBlockContext_50 rfl nar0 (rt_f (by unfold xBC xdp; first | exact fun z => c_29 z.1 | exact fun z => absurd z.2.1 (by omega) | exact fun z => c_46 z.2.2.1 | exact fun z => absurd z.2.2.2.1 (by omega) | exact fun z => c_91 z.2.2.2.2.1 | exact fun z => c_102 z.2.2.2.2.2.1 | exact fun z => c_117 z.2.2.2.2.2.2.1 | exact fun z => c_129 z.2.2.2.2.2.2.2.1 | exact fun z => c_145 z.2.2.2.2.2.2.2.2))

set_option maxHeartbeats 4000000 in
theorem c_F_hasFitClass {tb : Nat → Nat} {h : AH} {im a0 a1 a2 a3 a4 a5 cc pc us iw wp cp : Nat} {B : Nat → Nat} {f0 f1 f2 f3 f4 f5 : Nat → Int32} (M : iS h im a0 a1 a2 a3 a4 a5 cc pc us (nn B) iw wp cp f0 f1 f2 f3 f4 f5) (V : IV B f0 f1 f2 f3 f4 f5 cc pc) (L : LX B) (hB_ : ∀ i, B i < 256) (hcc : cc ≤ 1048576) (hpc : pc ≤ 1048576) (k : Nat) (hk : k < 2147483648) : AM tb y_F_hasFitClass b_F_hasFitClass 7 (some .boolean) 3 67 [.ref im, .int (nI k)] h 0 0 (av_Pi (bP (xFT B k)) h) := by
  have nV_im := V.1
  have nL_im := L.1
  refine am_of (ini := false) [some (.ref im), some (.int (nI k)), none, none, none, none, none] (by decide) (fun z => by cases z) (Nat.le_of_ble_eq_true rfl) rfl ?_
  refine aw_aload_n d_F_hasFitClass_0 rfl ?_
  refine aw_aload_n d_F_hasFitClass_1 rfl ?_
  refine aw_iload_n d_F_hasFitClass_2 rfl ?_
  refine aw_callVi (mc2 := 0) (ms2 := 0) (r := nI (CA B k)) (As := [.int (nI k)]) (rest := [.ref im]) (c_I_classAt ⟨M.1, M.2.1, M.2.2.1, M.2.2.2.1, M.2.2.2.2.1, M.2.2.2.2.2.1, M.2.2.2.2.2.2⟩ V L hB_ hcc hpc k (by omega)) cv_F_76 d_F_hasFitClass_3 M.1 rfl rfl rfl (Nat.le_of_ble_eq_true rfl) (by decide) (by decide) (by omega) (by omega) ?_
  have b_3 := CA_lt hB_ k
  refine aw_callVi (mc2 := 0) (ms2 := 0) (r := nI (ob (CA B k))) (As := [.int (nI (CA B k))]) (rest := []) (c_I_objectOf ⟨M.1, M.2.1, M.2.2.1, M.2.2.2.1, M.2.2.2.2.1, M.2.2.2.2.2.1, M.2.2.2.2.2.2⟩ V L hB_ hcc hpc (CA B k) (by omega) (L.ca _)) cv_F_34 d_F_hasFitClass_6 M.1 rfl rfl rfl (Nat.le_of_ble_eq_true rfl) (by decide) (by decide) (by omega) (by omega) ?_
  have ol_6 : ob (CA B k) ≤ nn B := ob_le (L.ca _)
  refine aw_istore_n (L' := [some (.ref im), some (.int (nI k)), some (.int (nI (ob (CA B k)))), none, none, none, none]) d_F_hasFitClass_9 (by decide) rfl rfl ?_
  refine aw_aload_n d_F_hasFitClass_10 rfl ?_
  refine aw_iload_n d_F_hasFitClass_11 rfl ?_
  refine aw_callSi (mc2 := 0) (ms2 := 0) (r := bP (xCL B (ob (CA B k)))) (As := [.ref im, .int (nI (ob (CA B k)))]) (rest := []) (c_F_isClass ⟨M.1, M.2.1, M.2.2.1, M.2.2.2.1, M.2.2.2.2.1, M.2.2.2.2.2.1, M.2.2.2.2.2.2⟩ V L hB_ hcc hpc (ob (CA B k)) (by omega)) cs_F_41 d_F_hasFitClass_12 rfl rfl (Nat.le_of_ble_eq_true rfl) (by decide) (by decide) (by omega) (by omega) ?_
  refine aw_if_ne (tgt := 20) d_F_hasFitClass_15 (by decide) (fun c_15 => ?_) (fun c_15 => ?_)
  · rw [bP_eq0, Classical.not_not] at c_15
    have s4 := c_15.2.2.2.1
    refine aw_aload_n d_F_hasFitClass_20 rfl ?_
    refine aw_iload_n d_F_hasFitClass_21 rfl ?_
    refine aw_iconst (v := nI 2) d_F_hasFitClass_22 (by decide) ?_
    refine aw_callVi (mc2 := 0) (ms2 := 0) (r := nI (FA B (ob (CA B k)) 2)) (As := [.int (nI (ob (CA B k))), .int (nI 2)]) (rest := []) (c_I_fieldAt ⟨M.1, M.2.1, M.2.2.1, M.2.2.2.1, M.2.2.2.2.1, M.2.2.2.2.2.1, M.2.2.2.2.2.2⟩ V L hB_ hcc hpc (ob (CA B k)) (by omega) 2 (by omega)) cv_F_79 d_F_hasFitClass_23 M.1 rfl rfl rfl (Nat.le_of_ble_eq_true rfl) (by decide) (by decide) (by omega) (by omega) ?_
    have b_23 := FA_lt hB_ (ob (CA B k)) 2
    refine aw_callSi (mc2 := 0) (ms2 := 0) (r := nI ((FA B (ob (CA B k)) 2) / 2)) (As := [.int (nI (FA B (ob (CA B k)) 2))]) (rest := []) (c_R_numberOf (FA B (ob (CA B k)) 2) (c_15.2.2.1)) cs_F_82 d_F_hasFitClass_26 rfl rfl (Nat.le_of_ble_eq_true rfl) (by decide) (by decide) (by omega) (by omega) ?_
    refine aw_istore_n (L' := [some (.ref im), some (.int (nI k)), some (.int (nI (ob (CA B k)))), some (.int (nI ((FA B (ob (CA B k)) 2) / 2))), none, none, none]) d_F_hasFitClass_29 (by decide) rfl rfl ?_
    refine aw_iload_n d_F_hasFitClass_30 rfl ?_
    refine aw_sipush (v := nI 2048) d_F_hasFitClass_31 (by decide) ?_
    refine aw_iand (v := (nI ((FA B (ob (CA B k)) 2) / 2)) &&& (nI 2048)) d_F_hasFitClass_34 rfl ?_
    refine aw_if_eq (tgt := 42) d_F_hasFitClass_35 (by decide) (fun c_35 => ?_) (fun c_35 => ?_)
    · rw [and_2048 _ s4] at c_35
      refine aw_iconst (v := nI 0) d_F_hasFitClass_42 (by decide) ?_
      refine aw_istore (L' := [some (.ref im), some (.int (nI k)), some (.int (nI (ob (CA B k)))), some (.int (nI ((FA B (ob (CA B k)) 2) / 2))), some (.int (nI 0)), none, none]) d_F_hasFitClass_43 (by decide) rfl rfl ?_
      refine aw_iload d_F_hasFitClass_45 rfl ?_
      refine aw_if_ne (tgt := 58) d_F_hasFitClass_47 (by decide) (fun z => absurd (by decide) z) (fun _ => ?_)
      refine aw_aload_n d_F_hasFitClass_50 rfl ?_
      refine aw_iload_n d_F_hasFitClass_51 rfl ?_
      refine aw_callVi (mc2 := 0) (ms2 := 0) (r := bP (1 ≤ k ∧ k ≤ nn B ∧ kd B k = 1)) (As := [.int (nI k)]) (rest := []) (c_I_isOfBytes ⟨M.1, M.2.1, M.2.2.1, M.2.2.2.1, M.2.2.2.2.1, M.2.2.2.2.2.1, M.2.2.2.2.2.2⟩ V L hB_ hcc hpc k (by omega)) cv_F_85 d_F_hasFitClass_52 M.1 rfl rfl rfl (Nat.le_of_ble_eq_true rfl) (by decide) (by decide) (by omega) (by omega) ?_
      refine aw_if_eq (tgt := 77) d_F_hasFitClass_55 (by decide) (fun c_55 => ?_) (fun c_55 => ?_)
      · rw [bP_eq0] at c_55
        refine aw_iload_n d_F_hasFitClass_77 rfl ?_
        refine aw_sipush (v := nI 255) d_F_hasFitClass_78 (by decide) ?_
        refine aw_iand (v := nI (((FA B (ob (CA B k)) 2) / 2) % 256)) d_F_hasFitClass_81 (and_255 _) ?_
        refine aw_istore (L' := [some (.ref im), some (.int (nI k)), some (.int (nI (ob (CA B k)))), some (.int (nI ((FA B (ob (CA B k)) 2) / 2))), some (.int (nI 0)), some (.int (nI (((FA B (ob (CA B k)) 2) / 2) % 256))), none]) d_F_hasFitClass_82 (by decide) rfl rfl ?_
        refine aw_aload_n d_F_hasFitClass_84 rfl ?_
        refine aw_iload_n d_F_hasFitClass_85 rfl ?_
        refine aw_callVi (mc2 := 0) (ms2 := 0) (r := nI (FC B k)) (As := [.int (nI k)]) (rest := []) (c_I_fieldCount ⟨M.1, M.2.1, M.2.2.1, M.2.2.2.1, M.2.2.2.2.1, M.2.2.2.2.2.1, M.2.2.2.2.2.2⟩ V L hB_ hcc hpc k (by omega)) cv_F_44 d_F_hasFitClass_86 M.1 rfl rfl rfl (Nat.le_of_ble_eq_true rfl) (by decide) (by decide) (by omega) (by omega) ?_
        have b_86 := FC_lt hB_ k
        refine aw_istore (L' := [some (.ref im), some (.int (nI k)), some (.int (nI (ob (CA B k)))), some (.int (nI ((FA B (ob (CA B k)) 2) / 2))), some (.int (nI 0)), some (.int (nI (((FA B (ob (CA B k)) 2) / 2) % 256))), some (.int (nI (FC B k)))]) d_F_hasFitClass_89 (by decide) rfl rfl ?_
        refine aw_iload d_F_hasFitClass_91 rfl ?_
        refine aw_iload d_F_hasFitClass_93 rfl ?_
        refine aw_icmp_eq (tgt := 113) d_F_hasFitClass_95 (by decide) (fun c_95 => ?_) (fun c_95 => ?_)
        · rw [w_eq (by omega) (by omega)] at c_95
          refine aw_iconst (v := nI 1) d_F_hasFitClass_113 (by decide) ?_
          refine aw_goto (tgt := 118) d_F_hasFitClass_114 (by decide) ?_
          exact aw_iret d_F_hasFitClass_118 rfl nar1 (rt_t (by unfold xFT byt; exact ⟨c_15, by omega⟩))
        · rw [w_eq (by omega) (by omega)] at c_95
          refine aw_iload d_F_hasFitClass_98 rfl ?_
          refine aw_iload d_F_hasFitClass_100 rfl ?_
          refine aw_icmp_le (tgt := 117) d_F_hasFitClass_102 (by decide) (fun c_102 => ?_) (fun c_102 => ?_)
          · rw [nI_leI (by omega) (by omega)] at c_102
            refine aw_iconst (v := nI 0) d_F_hasFitClass_117 (by decide) ?_
            exact aw_iret d_F_hasFitClass_118 rfl nar0 (rt_f (by unfold xFT byt; first | exact fun z => c_15 z.1 | (intro z; have z2 := z.2; omega)))
          · rw [nI_leI (by omega) (by omega)] at c_102
            refine aw_iload_n d_F_hasFitClass_105 rfl ?_
            refine aw_sipush (v := nI 1024) d_F_hasFitClass_106 (by decide) ?_
            refine aw_iand (v := (nI ((FA B (ob (CA B k)) 2) / 2)) &&& (nI 1024)) d_F_hasFitClass_109 rfl ?_
            refine aw_if_eq (tgt := 117) d_F_hasFitClass_110 (by decide) (fun c_110 => ?_) (fun c_110 => ?_)
            · rw [and_1024e _ s4] at c_110
              refine aw_iconst (v := nI 0) d_F_hasFitClass_117 (by decide) ?_
              exact aw_iret d_F_hasFitClass_118 rfl nar0 (rt_f (by unfold xFT byt; first | exact fun z => c_15 z.1 | (intro z; have z2 := z.2; omega)))
            · rw [and_1024e _ s4] at c_110
              refine aw_iconst (v := nI 1) d_F_hasFitClass_113 (by decide) ?_
              refine aw_goto (tgt := 118) d_F_hasFitClass_114 (by decide) ?_
              exact aw_iret d_F_hasFitClass_118 rfl nar1 (rt_t (by unfold xFT byt; exact ⟨c_15, by omega⟩))
      · rw [bP_eq0, Classical.not_not] at c_55
        refine aw_iload d_F_hasFitClass_58 rfl ?_
        refine aw_if_eq (tgt := 75) d_F_hasFitClass_60 (by decide) (fun _ => ?_) (fun z => absurd (by decide) z)
        refine aw_iconst (v := nI 0) d_F_hasFitClass_75 (by decide) ?_
        exact aw_iret d_F_hasFitClass_76 rfl nar0 (rt_f (by unfold xFT byt; first | exact fun z => c_15 z.1 | (intro z; have z2 := z.2; omega)))
    · rw [and_2048 _ s4] at c_35
      refine aw_iconst (v := nI 1) d_F_hasFitClass_38 (by decide) ?_
      refine aw_goto (tgt := 43) d_F_hasFitClass_39 (by decide) ?_
      refine aw_istore (L' := [some (.ref im), some (.int (nI k)), some (.int (nI (ob (CA B k)))), some (.int (nI ((FA B (ob (CA B k)) 2) / 2))), some (.int (nI 1)), none, none]) d_F_hasFitClass_43 (by decide) rfl rfl ?_
      refine aw_iload d_F_hasFitClass_45 rfl ?_
      refine aw_if_ne (tgt := 58) d_F_hasFitClass_47 (by decide) (fun _ => ?_) (fun z => absurd z (by decide))
      refine aw_iload d_F_hasFitClass_58 rfl ?_
      refine aw_if_eq (tgt := 75) d_F_hasFitClass_60 (by decide) (fun z => absurd z (by decide)) (fun _ => ?_)
      refine aw_aload_n d_F_hasFitClass_63 rfl ?_
      refine aw_iload_n d_F_hasFitClass_64 rfl ?_
      refine aw_callVi (mc2 := 0) (ms2 := 0) (r := bP (1 ≤ k ∧ k ≤ nn B ∧ kd B k = 1)) (As := [.int (nI k)]) (rest := []) (c_I_isOfBytes ⟨M.1, M.2.1, M.2.2.1, M.2.2.2.1, M.2.2.2.2.1, M.2.2.2.2.2.1, M.2.2.2.2.2.2⟩ V L hB_ hcc hpc k (by omega)) cv_F_85 d_F_hasFitClass_65 M.1 rfl rfl rfl (Nat.le_of_ble_eq_true rfl) (by decide) (by decide) (by omega) (by omega) ?_
      refine aw_if_eq (tgt := 75) d_F_hasFitClass_68 (by decide) (fun c_68 => ?_) (fun c_68 => ?_)
      · rw [bP_eq0] at c_68
        refine aw_iconst (v := nI 0) d_F_hasFitClass_75 (by decide) ?_
        exact aw_iret d_F_hasFitClass_76 rfl nar0 (rt_f (by unfold xFT byt; first | exact fun z => c_15 z.1 | (intro z; have z2 := z.2; omega)))
      · rw [bP_eq0, Classical.not_not] at c_68
        refine aw_iconst (v := nI 1) d_F_hasFitClass_71 (by decide) ?_
        refine aw_goto (tgt := 76) d_F_hasFitClass_72 (by decide) ?_
        exact aw_iret d_F_hasFitClass_76 rfl nar1 (rt_t (by unfold xFT byt; exact ⟨c_15, by omega⟩))
  · rw [bP_eq0] at c_15
    refine aw_iconst (v := nI 0) d_F_hasFitClass_18 (by decide) ?_
    exact aw_iret d_F_hasFitClass_19 rfl nar0 (rt_f (by unfold xFT byt; first | exact fun z => c_15 z.1 | (intro z; have z2 := z.2; omega)))

set_option maxHeartbeats 4000000 in
theorem c_L_bodyLength {tb : Nat → Nat} {h : AH} (k s : Nat) (hk : k < 2147483648) (hs : s < 65536) : AM tb y_L_bodyLength b_L_bodyLength 2 (some .int) 0 0 [.int (nI k), .int (nI s)] h 0 0 (av_Pi (nI ((if k = 1 then 1 else 4) * s)) h) := by
  refine am_of (ini := false) [some (.int (nI k)), some (.int (nI s))] (by decide) (fun z => by cases z) (Nat.le_of_ble_eq_true rfl) rfl ?_
  refine aw_iload_n d_L_bodyLength_0 rfl ?_
  refine aw_iconst (v := nI 1) d_L_bodyLength_1 (by decide) ?_
  refine aw_icmp_ne (tgt := 9) d_L_bodyLength_2 (by decide) (fun c_2 => ?_) (fun c_2 => ?_)
  · rw [w_eq (by omega) (by omega)] at c_2
    refine aw_iconst (v := nI 4) d_L_bodyLength_9 (by decide) ?_
    refine aw_iload_n d_L_bodyLength_10 rfl ?_
    refine aw_imul (v := nI (4 * s)) d_L_bodyLength_11 (pk_mul _ _) ?_
    exact aw_iret d_L_bodyLength_12 rfl rfl (rt_i (by first | (rw [if_pos (by omega), Nat.one_mul]) | (rw [if_neg (by omega)])))
  · rw [w_eq (by omega) (by omega)] at c_2
    refine aw_iload_n d_L_bodyLength_5 rfl ?_
    refine aw_goto (tgt := 12) d_L_bodyLength_6 (by decide) ?_
    exact aw_iret d_L_bodyLength_12 rfl rfl (rt_i (by first | (rw [if_pos (by omega), Nat.one_mul]) | (rw [if_neg (by omega)])))

set_option maxHeartbeats 4000000 in
theorem lp_F_objectsPlace {tb : Nat → Nat} {h : AH} {fr lo : Nat} {mc ms : Nat} (hfr : 5 ≤ fr) (hlo : 110 ≤ lo) {im a0 a1 a2 a3 a4 a5 cc pc us iw wp cp : Nat} {B : Nat → Nat} {f0 f1 f2 f3 f4 f5 : Nat → Int32} (M : iS h im a0 a1 a2 a3 a4 a5 cc pc us (nn B) iw wp cp f0 f1 f2 f3 f4 f5) (V : IV B f0 f1 f2 f3 f4 f5 cc pc) (L : LX B) (hB_ : ∀ i, B i < 256) (hcc : cc ≤ 1048576) (hpc : pc ≤ 1048576) {c : Nat} (LD : laid B c (nn B)) : ∀ (d : Nat) (r k : Nat), 1 ≤ k → r + k = nn B + 1 → ffst (RO B) (oa B) r k = plB B → r < d → AW tb "ImageReader$Form" b_F_objectsPlace 3 (some .int) false none fr lo (av_Pi (pI (plB B)) h) 6 [some (.ref im), some (.int (nI (oa B k))), some (.int (nI k))] [] h mc ms := by
  intro d
  induction d with
  | zero => intro r k hk1 hrk hp hd; omega
  | succ d ih =>
    intro r k hk1 hrk hp hd
    have nV_im := V.1
    have nL_im := L.1
    refine aw_iload_n d_F_objectsPlace_6 rfl ?_
    refine aw_aload_n d_F_objectsPlace_7 rfl ?_
    refine aw_get fl_F_18 d_F_objectsPlace_8 M.1 rfl ?_
    refine aw_icmp_gt (tgt := 87) d_F_objectsPlace_11 (by decide) (fun c_11 => ?_) (fun c_11 => ?_)
    · rw [nI_ltI (by omega) (by omega)] at c_11
      refine aw_iconst (v := (-1)) d_F_objectsPlace_87 (by decide) ?_
      exact aw_iret d_F_objectsPlace_88 rfl rfl (rt_i (by rw [← hp, show r = 0 by omega]; rfl))
    · rw [nI_ltI (by omega) (by omega)] at c_11
      obtain ⟨r, rfl⟩ : ∃ q, r = q + 1 := ⟨r - 1, by omega⟩
      have q2 : k ≤ nn B := by omega
      have ro := xRO_iff L hk1 q2
      have la := LD.2.2.2.2.2 k hk1 q2
      have lc := LD.2.1
      have bld : bl B (oa B k) = (if kd B k = 1 then 1 else 4) * sz B k := rfl
      refine aw_aload_n d_F_objectsPlace_14 rfl ?_
      refine aw_iload_n d_F_objectsPlace_15 rfl ?_
      refine aw_callSi (mc2 := mc) (ms2 := ms) (r := bP (xFT B k)) (As := [.ref im, .int (nI k)]) (rest := []) (c_F_hasFitClass ⟨M.1, M.2.1, M.2.2.1, M.2.2.2.1, M.2.2.2.2.1, M.2.2.2.2.2.1, M.2.2.2.2.2.2⟩ V L hB_ hcc hpc k (by omega)) cs_F_50 d_F_objectsPlace_16 rfl rfl (Nat.le_of_ble_eq_true rfl) (by omega) (by omega) (by omega) (by omega) ?_
      refine aw_if_eq (tgt := 58) d_F_objectsPlace_19 (by decide) (fun c_19 => ?_) (fun c_19 => ?_)
      · rw [bP_eq0] at c_19
        refine aw_iload_n d_F_objectsPlace_58 rfl ?_
        exact aw_iret d_F_objectsPlace_59 rfl rfl (rt_i (by rw [← hp, ffst_n (fun z => by have y := ro.mpr z; first | exact c_19 y.1 | exact c_37 (y.2.1 c_29.2.2) | exact c_55 (y.2.2 c_47.2.2))]; rfl))
      · rw [bP_eq0, Classical.not_not] at c_19
        refine aw_aload_n d_F_objectsPlace_22 rfl ?_
        refine aw_iload_n d_F_objectsPlace_23 rfl ?_
        refine aw_bipush (v := nI 7) d_F_objectsPlace_24 (by decide) ?_
        refine aw_callVi (mc2 := mc) (ms2 := ms) (r := bP (1 ≤ k ∧ k ≤ nn B ∧ cl B k = sp B 7)) (As := [.int (nI k), .int (nI 7)]) (rest := []) (c_I_isOfSpecialClass ⟨M.1, M.2.1, M.2.2.1, M.2.2.2.1, M.2.2.2.2.1, M.2.2.2.2.2.1, M.2.2.2.2.2.2⟩ V L hB_ hcc hpc k (by omega) 7 (by omega)) cv_F_53 d_F_objectsPlace_26 M.1 rfl rfl rfl (Nat.le_of_ble_eq_true rfl) (by omega) (by omega) (by omega) (by omega) ?_
        refine aw_if_eq (tgt := 40) d_F_objectsPlace_29 (by decide) (fun c_29 => ?_) (fun c_29 => ?_)
        · rw [bP_eq0] at c_29
          refine aw_aload_n d_F_objectsPlace_40 rfl ?_
          refine aw_iload_n d_F_objectsPlace_41 rfl ?_
          refine aw_bipush (v := nI 8) d_F_objectsPlace_42 (by decide) ?_
          refine aw_callVi (mc2 := mc) (ms2 := ms) (r := bP (1 ≤ k ∧ k ≤ nn B ∧ cl B k = sp B 8)) (As := [.int (nI k), .int (nI 8)]) (rest := []) (c_I_isOfSpecialClass ⟨M.1, M.2.1, M.2.2.1, M.2.2.2.1, M.2.2.2.2.1, M.2.2.2.2.2.1, M.2.2.2.2.2.2⟩ V L hB_ hcc hpc k (by omega) 8 (by omega)) cv_F_53 d_F_objectsPlace_44 M.1 rfl rfl rfl (Nat.le_of_ble_eq_true rfl) (by omega) (by omega) (by omega) (by omega) ?_
          refine aw_if_eq (tgt := 60) d_F_objectsPlace_47 (by decide) (fun c_47 => ?_) (fun c_47 => ?_)
          · rw [bP_eq0] at c_47
            refine aw_iload_n d_F_objectsPlace_60 rfl ?_
            refine aw_bipush (v := nI 7) d_F_objectsPlace_61 (by decide) ?_
            refine aw_aload_n d_F_objectsPlace_63 rfl ?_
            refine aw_get fl_F_63 d_F_objectsPlace_64 M.1 rfl ?_
            refine aw_iload_n d_F_objectsPlace_67 rfl ?_
            refine aw_iald (x := nI (kd B k)) d_F_objectsPlace_68 M.2.2.2.1 (vp_in_nI (by omega) (by omega)) (by rw [nI_clamp (by omega)]; exact (V.2.2 k (by omega) (by omega)).2.1) ?_
            have b_68 := L.k2 (k := k) (by omega) (by omega)
            refine aw_aload_n d_F_objectsPlace_69 rfl ?_
            refine aw_get fl_F_67 d_F_objectsPlace_70 M.1 rfl ?_
            refine aw_iload_n d_F_objectsPlace_73 rfl ?_
            refine aw_iald (x := nI (sz B k)) d_F_objectsPlace_74 M.2.2.2.2.1 (vp_in_nI (by omega) (by omega)) (by rw [nI_clamp (by omega)]; exact (V.2.2 k (by omega) (by omega)).2.2.1) ?_
            have b_74 := sz_lt hB_ k
            refine aw_callSi (mc2 := mc) (ms2 := ms) (r := nI ((if kd B k = 1 then 1 else 4) * (sz B k))) (As := [.int (nI (kd B k)), .int (nI (sz B k))]) (rest := [.int (nI 7), .int (nI (oa B k))]) (c_L_bodyLength (kd B k) (sz B k) (by omega) (by omega)) cs_F_70 d_F_objectsPlace_75 rfl rfl (Nat.le_of_ble_eq_true rfl) (by omega) (by omega) (by omega) (by omega) ?_
            refine aw_iadd (v := nI (7 + bl B (oa B k))) d_F_objectsPlace_78 (nI_add _ _) ?_
            refine aw_iadd (v := nI (oa B (k + 1))) d_F_objectsPlace_79 (by rw [oa_s B hk1, Nat.add_assoc]; exact nI_add _ _) ?_
            refine aw_istore_n (L' := [some (.ref im), some (.int (nI (oa B (k + 1)))), some (.int (nI k))]) d_F_objectsPlace_80 (by decide) rfl rfl ?_
            refine aw_iinc (v := nI (k + 1)) (L' := [some (.ref im), some (.int (nI (oa B (k + 1)))), some (.int (nI (k + 1)))]) d_F_objectsPlace_81 rfl (nI_add k 1) (by decide) rfl rfl ?_
            refine aw_goto (tgt := 6) d_F_objectsPlace_84 (by decide) ?_
            exact ih r (k + 1) (by omega) (by omega) (by rw [← hp, ffst_s (ro.mp ⟨c_19, fun z => by first | exact c_37 | exact absurd ⟨hk1, q2, z⟩ c_29, fun z => by first | exact c_55 | exact absurd ⟨hk1, q2, z⟩ c_47⟩)]) (by omega)
          · rw [bP_eq0, Classical.not_not] at c_47
            refine aw_aload_n d_F_objectsPlace_50 rfl ?_
            refine aw_iload_n d_F_objectsPlace_51 rfl ?_
            refine aw_callSi (mc2 := mc) (ms2 := ms) (r := bP (xBC B k)) (As := [.ref im, .int (nI k)]) (rest := []) (c_F_isBlockContext ⟨M.1, M.2.1, M.2.2.1, M.2.2.2.1, M.2.2.2.2.1, M.2.2.2.2.2.1, M.2.2.2.2.2.2⟩ V L hB_ hcc hpc k (by omega)) cs_F_60 d_F_objectsPlace_52 rfl rfl (Nat.le_of_ble_eq_true rfl) (by omega) (by omega) (by omega) (by omega) ?_
            refine aw_if_ne (tgt := 60) d_F_objectsPlace_55 (by decide) (fun c_55 => ?_) (fun c_55 => ?_)
            · rw [bP_eq0, Classical.not_not] at c_55
              refine aw_iload_n d_F_objectsPlace_60 rfl ?_
              refine aw_bipush (v := nI 7) d_F_objectsPlace_61 (by decide) ?_
              refine aw_aload_n d_F_objectsPlace_63 rfl ?_
              refine aw_get fl_F_63 d_F_objectsPlace_64 M.1 rfl ?_
              refine aw_iload_n d_F_objectsPlace_67 rfl ?_
              refine aw_iald (x := nI (kd B k)) d_F_objectsPlace_68 M.2.2.2.1 (vp_in_nI (by omega) (by omega)) (by rw [nI_clamp (by omega)]; exact (V.2.2 k (by omega) (by omega)).2.1) ?_
              have b_68 := L.k2 (k := k) (by omega) (by omega)
              refine aw_aload_n d_F_objectsPlace_69 rfl ?_
              refine aw_get fl_F_67 d_F_objectsPlace_70 M.1 rfl ?_
              refine aw_iload_n d_F_objectsPlace_73 rfl ?_
              refine aw_iald (x := nI (sz B k)) d_F_objectsPlace_74 M.2.2.2.2.1 (vp_in_nI (by omega) (by omega)) (by rw [nI_clamp (by omega)]; exact (V.2.2 k (by omega) (by omega)).2.2.1) ?_
              have b_74 := sz_lt hB_ k
              refine aw_callSi (mc2 := mc) (ms2 := ms) (r := nI ((if kd B k = 1 then 1 else 4) * (sz B k))) (As := [.int (nI (kd B k)), .int (nI (sz B k))]) (rest := [.int (nI 7), .int (nI (oa B k))]) (c_L_bodyLength (kd B k) (sz B k) (by omega) (by omega)) cs_F_70 d_F_objectsPlace_75 rfl rfl (Nat.le_of_ble_eq_true rfl) (by omega) (by omega) (by omega) (by omega) ?_
              refine aw_iadd (v := nI (7 + bl B (oa B k))) d_F_objectsPlace_78 (nI_add _ _) ?_
              refine aw_iadd (v := nI (oa B (k + 1))) d_F_objectsPlace_79 (by rw [oa_s B hk1, Nat.add_assoc]; exact nI_add _ _) ?_
              refine aw_istore_n (L' := [some (.ref im), some (.int (nI (oa B (k + 1)))), some (.int (nI k))]) d_F_objectsPlace_80 (by decide) rfl rfl ?_
              refine aw_iinc (v := nI (k + 1)) (L' := [some (.ref im), some (.int (nI (oa B (k + 1)))), some (.int (nI (k + 1)))]) d_F_objectsPlace_81 rfl (nI_add k 1) (by decide) rfl rfl ?_
              refine aw_goto (tgt := 6) d_F_objectsPlace_84 (by decide) ?_
              exact ih r (k + 1) (by omega) (by omega) (by rw [← hp, ffst_s (ro.mp ⟨c_19, fun z => by first | exact c_37 | exact absurd ⟨hk1, q2, z⟩ c_29, fun z => by first | exact c_55 | exact absurd ⟨hk1, q2, z⟩ c_47⟩)]) (by omega)
            · rw [bP_eq0] at c_55
              refine aw_iload_n d_F_objectsPlace_58 rfl ?_
              exact aw_iret d_F_objectsPlace_59 rfl rfl (rt_i (by rw [← hp, ffst_n (fun z => by have y := ro.mpr z; first | exact c_19 y.1 | exact c_37 (y.2.1 c_29.2.2) | exact c_55 (y.2.2 c_47.2.2))]; rfl))
        · rw [bP_eq0, Classical.not_not] at c_29
          refine aw_aload_n d_F_objectsPlace_32 rfl ?_
          refine aw_iload_n d_F_objectsPlace_33 rfl ?_
          refine aw_callSi (mc2 := mc) (ms2 := ms) (r := bP (xMC B k)) (As := [.ref im, .int (nI k)]) (rest := []) (c_F_isMethodContext ⟨M.1, M.2.1, M.2.2.1, M.2.2.2.1, M.2.2.2.2.1, M.2.2.2.2.2.1, M.2.2.2.2.2.2⟩ V L hB_ hcc hpc k (by omega)) cs_F_57 d_F_objectsPlace_34 rfl rfl (Nat.le_of_ble_eq_true rfl) (by omega) (by omega) (by omega) (by omega) ?_
          refine aw_if_eq (tgt := 58) d_F_objectsPlace_37 (by decide) (fun c_37 => ?_) (fun c_37 => ?_)
          · rw [bP_eq0] at c_37
            refine aw_iload_n d_F_objectsPlace_58 rfl ?_
            exact aw_iret d_F_objectsPlace_59 rfl rfl (rt_i (by rw [← hp, ffst_n (fun z => by have y := ro.mpr z; first | exact c_19 y.1 | exact c_37 (y.2.1 c_29.2.2) | exact c_55 (y.2.2 c_47.2.2))]; rfl))
          · rw [bP_eq0, Classical.not_not] at c_37
            refine aw_aload_n d_F_objectsPlace_40 rfl ?_
            refine aw_iload_n d_F_objectsPlace_41 rfl ?_
            refine aw_bipush (v := nI 8) d_F_objectsPlace_42 (by decide) ?_
            refine aw_callVi (mc2 := mc) (ms2 := ms) (r := bP (1 ≤ k ∧ k ≤ nn B ∧ cl B k = sp B 8)) (As := [.int (nI k), .int (nI 8)]) (rest := []) (c_I_isOfSpecialClass ⟨M.1, M.2.1, M.2.2.1, M.2.2.2.1, M.2.2.2.2.1, M.2.2.2.2.2.1, M.2.2.2.2.2.2⟩ V L hB_ hcc hpc k (by omega) 8 (by omega)) cv_F_53 d_F_objectsPlace_44 M.1 rfl rfl rfl (Nat.le_of_ble_eq_true rfl) (by omega) (by omega) (by omega) (by omega) ?_
            refine aw_if_eq (tgt := 60) d_F_objectsPlace_47 (by decide) (fun c_47 => ?_) (fun c_47 => ?_)
            · rw [bP_eq0] at c_47
              refine aw_iload_n d_F_objectsPlace_60 rfl ?_
              refine aw_bipush (v := nI 7) d_F_objectsPlace_61 (by decide) ?_
              refine aw_aload_n d_F_objectsPlace_63 rfl ?_
              refine aw_get fl_F_63 d_F_objectsPlace_64 M.1 rfl ?_
              refine aw_iload_n d_F_objectsPlace_67 rfl ?_
              refine aw_iald (x := nI (kd B k)) d_F_objectsPlace_68 M.2.2.2.1 (vp_in_nI (by omega) (by omega)) (by rw [nI_clamp (by omega)]; exact (V.2.2 k (by omega) (by omega)).2.1) ?_
              have b_68 := L.k2 (k := k) (by omega) (by omega)
              refine aw_aload_n d_F_objectsPlace_69 rfl ?_
              refine aw_get fl_F_67 d_F_objectsPlace_70 M.1 rfl ?_
              refine aw_iload_n d_F_objectsPlace_73 rfl ?_
              refine aw_iald (x := nI (sz B k)) d_F_objectsPlace_74 M.2.2.2.2.1 (vp_in_nI (by omega) (by omega)) (by rw [nI_clamp (by omega)]; exact (V.2.2 k (by omega) (by omega)).2.2.1) ?_
              have b_74 := sz_lt hB_ k
              refine aw_callSi (mc2 := mc) (ms2 := ms) (r := nI ((if kd B k = 1 then 1 else 4) * (sz B k))) (As := [.int (nI (kd B k)), .int (nI (sz B k))]) (rest := [.int (nI 7), .int (nI (oa B k))]) (c_L_bodyLength (kd B k) (sz B k) (by omega) (by omega)) cs_F_70 d_F_objectsPlace_75 rfl rfl (Nat.le_of_ble_eq_true rfl) (by omega) (by omega) (by omega) (by omega) ?_
              refine aw_iadd (v := nI (7 + bl B (oa B k))) d_F_objectsPlace_78 (nI_add _ _) ?_
              refine aw_iadd (v := nI (oa B (k + 1))) d_F_objectsPlace_79 (by rw [oa_s B hk1, Nat.add_assoc]; exact nI_add _ _) ?_
              refine aw_istore_n (L' := [some (.ref im), some (.int (nI (oa B (k + 1)))), some (.int (nI k))]) d_F_objectsPlace_80 (by decide) rfl rfl ?_
              refine aw_iinc (v := nI (k + 1)) (L' := [some (.ref im), some (.int (nI (oa B (k + 1)))), some (.int (nI (k + 1)))]) d_F_objectsPlace_81 rfl (nI_add k 1) (by decide) rfl rfl ?_
              refine aw_goto (tgt := 6) d_F_objectsPlace_84 (by decide) ?_
              exact ih r (k + 1) (by omega) (by omega) (by rw [← hp, ffst_s (ro.mp ⟨c_19, fun z => by first | exact c_37 | exact absurd ⟨hk1, q2, z⟩ c_29, fun z => by first | exact c_55 | exact absurd ⟨hk1, q2, z⟩ c_47⟩)]) (by omega)
            · rw [bP_eq0, Classical.not_not] at c_47
              refine aw_aload_n d_F_objectsPlace_50 rfl ?_
              refine aw_iload_n d_F_objectsPlace_51 rfl ?_
              refine aw_callSi (mc2 := mc) (ms2 := ms) (r := bP (xBC B k)) (As := [.ref im, .int (nI k)]) (rest := []) (c_F_isBlockContext ⟨M.1, M.2.1, M.2.2.1, M.2.2.2.1, M.2.2.2.2.1, M.2.2.2.2.2.1, M.2.2.2.2.2.2⟩ V L hB_ hcc hpc k (by omega)) cs_F_60 d_F_objectsPlace_52 rfl rfl (Nat.le_of_ble_eq_true rfl) (by omega) (by omega) (by omega) (by omega) ?_
              refine aw_if_ne (tgt := 60) d_F_objectsPlace_55 (by decide) (fun c_55 => ?_) (fun c_55 => ?_)
              · rw [bP_eq0, Classical.not_not] at c_55
                refine aw_iload_n d_F_objectsPlace_60 rfl ?_
                refine aw_bipush (v := nI 7) d_F_objectsPlace_61 (by decide) ?_
                refine aw_aload_n d_F_objectsPlace_63 rfl ?_
                refine aw_get fl_F_63 d_F_objectsPlace_64 M.1 rfl ?_
                refine aw_iload_n d_F_objectsPlace_67 rfl ?_
                refine aw_iald (x := nI (kd B k)) d_F_objectsPlace_68 M.2.2.2.1 (vp_in_nI (by omega) (by omega)) (by rw [nI_clamp (by omega)]; exact (V.2.2 k (by omega) (by omega)).2.1) ?_
                have b_68 := L.k2 (k := k) (by omega) (by omega)
                refine aw_aload_n d_F_objectsPlace_69 rfl ?_
                refine aw_get fl_F_67 d_F_objectsPlace_70 M.1 rfl ?_
                refine aw_iload_n d_F_objectsPlace_73 rfl ?_
                refine aw_iald (x := nI (sz B k)) d_F_objectsPlace_74 M.2.2.2.2.1 (vp_in_nI (by omega) (by omega)) (by rw [nI_clamp (by omega)]; exact (V.2.2 k (by omega) (by omega)).2.2.1) ?_
                have b_74 := sz_lt hB_ k
                refine aw_callSi (mc2 := mc) (ms2 := ms) (r := nI ((if kd B k = 1 then 1 else 4) * (sz B k))) (As := [.int (nI (kd B k)), .int (nI (sz B k))]) (rest := [.int (nI 7), .int (nI (oa B k))]) (c_L_bodyLength (kd B k) (sz B k) (by omega) (by omega)) cs_F_70 d_F_objectsPlace_75 rfl rfl (Nat.le_of_ble_eq_true rfl) (by omega) (by omega) (by omega) (by omega) ?_
                refine aw_iadd (v := nI (7 + bl B (oa B k))) d_F_objectsPlace_78 (nI_add _ _) ?_
                refine aw_iadd (v := nI (oa B (k + 1))) d_F_objectsPlace_79 (by rw [oa_s B hk1, Nat.add_assoc]; exact nI_add _ _) ?_
                refine aw_istore_n (L' := [some (.ref im), some (.int (nI (oa B (k + 1)))), some (.int (nI k))]) d_F_objectsPlace_80 (by decide) rfl rfl ?_
                refine aw_iinc (v := nI (k + 1)) (L' := [some (.ref im), some (.int (nI (oa B (k + 1)))), some (.int (nI (k + 1)))]) d_F_objectsPlace_81 rfl (nI_add k 1) (by decide) rfl rfl ?_
                refine aw_goto (tgt := 6) d_F_objectsPlace_84 (by decide) ?_
                exact ih r (k + 1) (by omega) (by omega) (by rw [← hp, ffst_s (ro.mp ⟨c_19, fun z => by first | exact c_37 | exact absurd ⟨hk1, q2, z⟩ c_29, fun z => by first | exact c_55 | exact absurd ⟨hk1, q2, z⟩ c_47⟩)]) (by omega)
              · rw [bP_eq0] at c_55
                refine aw_iload_n d_F_objectsPlace_58 rfl ?_
                exact aw_iret d_F_objectsPlace_59 rfl rfl (rt_i (by rw [← hp, ffst_n (fun z => by have y := ro.mpr z; first | exact c_19 y.1 | exact c_37 (y.2.1 c_29.2.2) | exact c_55 (y.2.2 c_47.2.2))]; rfl))

set_option maxHeartbeats 4000000 in
theorem c_F_objectsPlace {tb : Nat → Nat} {h : AH} {im a0 a1 a2 a3 a4 a5 cc pc us iw wp cp : Nat} {B : Nat → Nat} {f0 f1 f2 f3 f4 f5 : Nat → Int32} (M : iS h im a0 a1 a2 a3 a4 a5 cc pc us (nn B) iw wp cp f0 f1 f2 f3 f4 f5) (V : IV B f0 f1 f2 f3 f4 f5 cc pc) (L : LX B) (hB_ : ∀ i, B i < 256) (hcc : cc ≤ 1048576) (hpc : pc ≤ 1048576) {c : Nat} (LD : laid B c (nn B)) : AM tb y_F_objectsPlace b_F_objectsPlace 3 (some .int) 5 110 [.ref im] h 0 0 (av_Pi (pI (plB B)) h) := by
  have nV_im := V.1
  have nL_im := L.1
  have n1 := LD.2.2.1
  refine am_of (ini := false) [some (.ref im), none, none] (by decide) (fun z => by cases z) (Nat.le_of_ble_eq_true rfl) rfl ?_
  refine aw_sipush (v := nI 208) d_F_objectsPlace_0 (by decide) ?_
  refine aw_istore_n (L' := [some (.ref im), some (.int (nI 208)), none]) d_F_objectsPlace_3 (by decide) rfl rfl ?_
  refine aw_iconst (v := nI 1) d_F_objectsPlace_4 (by decide) ?_
  refine aw_istore_n (L' := [some (.ref im), some (.int (nI 208)), some (.int (nI 1))]) d_F_objectsPlace_5 (by decide) rfl rfl ?_
  exact lp_F_objectsPlace (by decide) (by decide) M V L hB_ hcc hpc LD (nn B + 1) (nn B) 1 (by omega) (by omega) rfl (by omega)

set_option maxHeartbeats 4000000 in
theorem lp_F_areListsFit {tb : Nat → Nat} {h : AH} {fr lo : Nat} {mc ms : Nat} (hfr : 3 ≤ fr) (hlo : 65 ≤ lo) {im a0 a1 a2 a3 a4 a5 cc pc us iw wp cp : Nat} {B : Nat → Nat} {f0 f1 f2 f3 f4 f5 : Nat → Int32} (M : iS h im a0 a1 a2 a3 a4 a5 cc pc us (nn B) iw wp cp f0 f1 f2 f3 f4 f5) (V : IV B f0 f1 f2 f3 f4 f5 cc pc) (L : LX B) (hB_ : ∀ i, B i < 256) (hcc : cc ≤ 1048576) (hpc : pc ≤ 1048576) (k : Nat) (hk : k < 2147483648) (h8 : xPL B k 8) : ∀ (d : Nat) (i : Nat), i ≤ 8 → (∀ j, j < i → xPL B (ob (FA B k j)) 2) → 8 < i + d → AW tb "ImageReader$Form" b_F_areListsFit 3 (some .boolean) false none fr lo (av_Pi (bP (xPL B k 8 ∧ ∀ i, i < 8 → xPL B (ob (FA B k i)) 2)) h) 14 [some (.ref im), some (.int (nI k)), some (.int (nI i))] [] h mc ms := by
  intro d
  induction d with
  | zero => intro i hi hz hd; omega
  | succ d ih =>
    intro i hi hz hd
    have nV_im := V.1
    have nL_im := L.1
    refine aw_iload_n d_F_areListsFit_14 rfl ?_
    refine aw_bipush (v := nI 8) d_F_areListsFit_15 (by decide) ?_
    refine aw_icmp_ge (tgt := 46) d_F_areListsFit_17 (by decide) (fun c_17 => ?_) (fun c_17 => ?_)
    · rw [nI_leI (by omega) (by omega)] at c_17
      refine aw_iconst (v := nI 1) d_F_areListsFit_46 (by decide) ?_
      exact aw_iret d_F_areListsFit_47 rfl nar1 (rt_t ⟨h8, fun j h => hz j (by omega)⟩)
    · rw [nI_leI (by omega) (by omega)] at c_17
      refine aw_aload_n d_F_areListsFit_20 rfl ?_
      refine aw_aload_n d_F_areListsFit_21 rfl ?_
      refine aw_aload_n d_F_areListsFit_22 rfl ?_
      refine aw_iload_n d_F_areListsFit_23 rfl ?_
      refine aw_iload_n d_F_areListsFit_24 rfl ?_
      refine aw_callVi (mc2 := mc) (ms2 := ms) (r := nI (FA B k i)) (As := [.int (nI k), .int (nI i)]) (rest := [.ref im, .ref im]) (c_I_fieldAt ⟨M.1, M.2.1, M.2.2.1, M.2.2.2.1, M.2.2.2.2.1, M.2.2.2.2.2.1, M.2.2.2.2.2.2⟩ V L hB_ hcc hpc k (by omega) i (by omega)) cv_F_79 d_F_areListsFit_25 M.1 rfl rfl rfl (Nat.le_of_ble_eq_true rfl) (by omega) (by omega) (by omega) (by omega) ?_
      have b_25 := FA_lt hB_ k i
      refine aw_callVi (mc2 := mc) (ms2 := ms) (r := nI (ob (FA B k i))) (As := [.int (nI (FA B k i))]) (rest := [.ref im]) (c_I_objectOf ⟨M.1, M.2.1, M.2.2.1, M.2.2.2.1, M.2.2.2.2.1, M.2.2.2.2.2.1, M.2.2.2.2.2.2⟩ V L hB_ hcc hpc (FA B k i) (by omega) (L.fa _ _)) cv_F_34 d_F_areListsFit_28 M.1 rfl rfl rfl (Nat.le_of_ble_eq_true rfl) (by omega) (by omega) (by omega) (by omega) ?_
      have ol_28 : ob (FA B k i) ≤ nn B := ob_le (L.fa _ _)
      refine aw_iconst (v := nI 2) d_F_areListsFit_31 (by decide) ?_
      refine aw_callSi (mc2 := mc) (ms2 := ms) (r := bP (xPL B (ob (FA B k i)) 2)) (As := [.ref im, .int (nI (ob (FA B k i))), .int (nI 2)]) (rest := []) (c_F_isPlain ⟨M.1, M.2.1, M.2.2.1, M.2.2.2.1, M.2.2.2.2.1, M.2.2.2.2.2.1, M.2.2.2.2.2.2⟩ V L hB_ hcc hpc (ob (FA B k i)) (by omega) 2 (by omega)) cs_F_47 d_F_areListsFit_32 rfl rfl (Nat.le_of_ble_eq_true rfl) (by omega) (by omega) (by omega) (by omega) ?_
      refine aw_if_ne (tgt := 40) d_F_areListsFit_35 (by decide) (fun c_35 => ?_) (fun c_35 => ?_)
      · rw [bP_eq0, Classical.not_not] at c_35
        refine aw_iinc (v := nI (i + 1)) (L' := [some (.ref im), some (.int (nI k)), some (.int (nI (i + 1)))]) d_F_areListsFit_40 rfl (nI_add i 1) (by decide) rfl rfl ?_
        refine aw_goto (tgt := 14) d_F_areListsFit_43 (by decide) ?_
        exact ih (i + 1) (by omega) (fun j h => by by_cases z : j = i; (rw [z]; exact c_35); exact hz j (by omega)) (by omega)
      · rw [bP_eq0] at c_35
        refine aw_iconst (v := nI 0) d_F_areListsFit_38 (by decide) ?_
        exact aw_iret d_F_areListsFit_39 rfl nar0 (rt_f (fun z => c_35 (z.2 i (by omega))))

set_option maxHeartbeats 4000000 in
theorem c_F_areListsFit {tb : Nat → Nat} {h : AH} {im a0 a1 a2 a3 a4 a5 cc pc us iw wp cp : Nat} {B : Nat → Nat} {f0 f1 f2 f3 f4 f5 : Nat → Int32} (M : iS h im a0 a1 a2 a3 a4 a5 cc pc us (nn B) iw wp cp f0 f1 f2 f3 f4 f5) (V : IV B f0 f1 f2 f3 f4 f5 cc pc) (L : LX B) (hB_ : ∀ i, B i < 256) (hcc : cc ≤ 1048576) (hpc : pc ≤ 1048576) (k : Nat) (hk : k < 2147483648) : AM tb y_F_areListsFit b_F_areListsFit 3 (some .boolean) 3 65 [.ref im, .int (nI k)] h 0 0 (av_Pi (bP (xPL B k 8 ∧ ∀ i, i < 8 → xPL B (ob (FA B k i)) 2)) h) := by
  have nV_im := V.1
  have nL_im := L.1
  refine am_of (ini := false) [some (.ref im), some (.int (nI k)), none] (by decide) (fun z => by cases z) (Nat.le_of_ble_eq_true rfl) rfl ?_
  refine aw_aload_n d_F_areListsFit_0 rfl ?_
  refine aw_iload_n d_F_areListsFit_1 rfl ?_
  refine aw_bipush (v := nI 8) d_F_areListsFit_2 (by decide) ?_
  refine aw_callSi (mc2 := 0) (ms2 := 0) (r := bP (xPL B k 8)) (As := [.ref im, .int (nI k), .int (nI 8)]) (rest := []) (c_F_isPlain ⟨M.1, M.2.1, M.2.2.1, M.2.2.2.1, M.2.2.2.2.1, M.2.2.2.2.2.1, M.2.2.2.2.2.2⟩ V L hB_ hcc hpc k (by omega) 8 (by omega)) cs_F_47 d_F_areListsFit_4 rfl rfl (Nat.le_of_ble_eq_true rfl) (by decide) (by decide) (by omega) (by omega) ?_
  refine aw_if_ne (tgt := 12) d_F_areListsFit_7 (by decide) (fun c_7 => ?_) (fun c_7 => ?_)
  · rw [bP_eq0, Classical.not_not] at c_7
    refine aw_iconst (v := nI 0) d_F_areListsFit_12 (by decide) ?_
    refine aw_istore_n (L' := [some (.ref im), some (.int (nI k)), some (.int (nI 0))]) d_F_areListsFit_13 (by decide) rfl rfl ?_
    exact lp_F_areListsFit (by decide) (by decide) M V L hB_ hcc hpc k hk c_7 9 0 (by omega) (fun j h => by omega) (by omega)
  · rw [bP_eq0] at c_7
    refine aw_iconst (v := nI 0) d_F_areListsFit_10 (by decide) ?_
    exact aw_iret d_F_areListsFit_11 rfl nar0 (rt_f (fun z => c_7 z.1))

set_option maxHeartbeats 4000000 in
theorem c_F_isProcessFit {tb : Nat → Nat} {h : AH} {im a0 a1 a2 a3 a4 a5 cc pc us iw wp cp : Nat} {B : Nat → Nat} {f0 f1 f2 f3 f4 f5 : Nat → Int32} (M : iS h im a0 a1 a2 a3 a4 a5 cc pc us (nn B) iw wp cp f0 f1 f2 f3 f4 f5) (V : IV B f0 f1 f2 f3 f4 f5 cc pc) (L : LX B) (hB_ : ∀ i, B i < 256) (hcc : cc ≤ 1048576) (hpc : pc ≤ 1048576) (k : Nat) (hk : k < 2147483648) : AM tb y_F_isProcessFit b_F_isProcessFit 3 (some .boolean) 3 65 [.ref im, .int (nI k)] h 0 0 (av_Pi (bP (xPL B k 4 ∧ xCX B (ob (FA B k 1)) ∧ FA B (ob (FA B k 1)) 1 ≠ 0 ∧ NI (FA B k 2) 1 8)) h) := by
  have nV_im := V.1
  have nL_im := L.1
  refine am_of (ini := false) [some (.ref im), some (.int (nI k)), none] (by decide) (fun z => by cases z) (Nat.le_of_ble_eq_true rfl) rfl ?_
  refine aw_aload_n d_F_isProcessFit_0 rfl ?_
  refine aw_aload_n d_F_isProcessFit_1 rfl ?_
  refine aw_iload_n d_F_isProcessFit_2 rfl ?_
  refine aw_iconst (v := nI 1) d_F_isProcessFit_3 (by decide) ?_
  refine aw_callVi (mc2 := 0) (ms2 := 0) (r := nI (FA B k 1)) (As := [.int (nI k), .int (nI 1)]) (rest := [.ref im]) (c_I_fieldAt ⟨M.1, M.2.1, M.2.2.1, M.2.2.2.1, M.2.2.2.2.1, M.2.2.2.2.2.1, M.2.2.2.2.2.2⟩ V L hB_ hcc hpc k (by omega) 1 (by omega)) cv_F_79 d_F_isProcessFit_4 M.1 rfl rfl rfl (Nat.le_of_ble_eq_true rfl) (by decide) (by decide) (by omega) (by omega) ?_
  have b_4 := FA_lt hB_ k 1
  refine aw_callVi (mc2 := 0) (ms2 := 0) (r := nI (ob (FA B k 1))) (As := [.int (nI (FA B k 1))]) (rest := []) (c_I_objectOf ⟨M.1, M.2.1, M.2.2.1, M.2.2.2.1, M.2.2.2.2.1, M.2.2.2.2.2.1, M.2.2.2.2.2.2⟩ V L hB_ hcc hpc (FA B k 1) (by omega) (L.fa _ _)) cv_F_34 d_F_isProcessFit_7 M.1 rfl rfl rfl (Nat.le_of_ble_eq_true rfl) (by decide) (by decide) (by omega) (by omega) ?_
  have ol_7 : ob (FA B k 1) ≤ nn B := ob_le (L.fa _ _)
  refine aw_istore_n (L' := [some (.ref im), some (.int (nI k)), some (.int (nI (ob (FA B k 1))))]) d_F_isProcessFit_10 (by decide) rfl rfl ?_
  refine aw_aload_n d_F_isProcessFit_11 rfl ?_
  refine aw_iload_n d_F_isProcessFit_12 rfl ?_
  refine aw_iconst (v := nI 4) d_F_isProcessFit_13 (by decide) ?_
  refine aw_callSi (mc2 := 0) (ms2 := 0) (r := bP (xPL B k 4)) (As := [.ref im, .int (nI k), .int (nI 4)]) (rest := []) (c_F_isPlain ⟨M.1, M.2.1, M.2.2.1, M.2.2.2.1, M.2.2.2.2.1, M.2.2.2.2.2.1, M.2.2.2.2.2.2⟩ V L hB_ hcc hpc k (by omega) 4 (by omega)) cs_F_47 d_F_isProcessFit_14 rfl rfl (Nat.le_of_ble_eq_true rfl) (by decide) (by decide) (by omega) (by omega) ?_
  refine aw_if_eq (tgt := 56) d_F_isProcessFit_17 (by decide) (fun c_17 => ?_) (fun c_17 => ?_)
  · rw [bP_eq0] at c_17
    refine aw_iconst (v := nI 0) d_F_isProcessFit_56 (by decide) ?_
    exact aw_iret d_F_isProcessFit_57 rfl nar0 (rt_f (by unfold xCX; grind))
  · rw [bP_eq0, Classical.not_not] at c_17
    refine aw_aload_n d_F_isProcessFit_20 rfl ?_
    refine aw_iload_n d_F_isProcessFit_21 rfl ?_
    refine aw_callVi (mc2 := 0) (ms2 := 0) (r := bP (1 ≤ (ob (FA B k 1)) ∧ (ob (FA B k 1)) ≤ nn B ∧ (cl B (ob (FA B k 1)) = sp B 7 ∨ cl B (ob (FA B k 1)) = sp B 8))) (As := [.int (nI (ob (FA B k 1)))]) (rest := []) (c_I_isContext ⟨M.1, M.2.1, M.2.2.1, M.2.2.2.1, M.2.2.2.2.1, M.2.2.2.2.2.1, M.2.2.2.2.2.2⟩ V L hB_ hcc hpc (ob (FA B k 1)) (by omega)) cv_F_111 d_F_isProcessFit_22 M.1 rfl rfl rfl (Nat.le_of_ble_eq_true rfl) (by decide) (by decide) (by omega) (by omega) ?_
    refine aw_if_eq (tgt := 56) d_F_isProcessFit_25 (by decide) (fun c_25 => ?_) (fun c_25 => ?_)
    · rw [bP_eq0] at c_25
      refine aw_iconst (v := nI 0) d_F_isProcessFit_56 (by decide) ?_
      exact aw_iret d_F_isProcessFit_57 rfl nar0 (rt_f (by unfold xCX; grind))
    · rw [bP_eq0, Classical.not_not] at c_25
      refine aw_aload_n d_F_isProcessFit_28 rfl ?_
      refine aw_iload_n d_F_isProcessFit_29 rfl ?_
      refine aw_iconst (v := nI 1) d_F_isProcessFit_30 (by decide) ?_
      refine aw_callVi (mc2 := 0) (ms2 := 0) (r := nI (FA B (ob (FA B k 1)) 1)) (As := [.int (nI (ob (FA B k 1))), .int (nI 1)]) (rest := []) (c_I_fieldAt ⟨M.1, M.2.1, M.2.2.1, M.2.2.2.1, M.2.2.2.2.1, M.2.2.2.2.2.1, M.2.2.2.2.2.2⟩ V L hB_ hcc hpc (ob (FA B k 1)) (by omega) 1 (by omega)) cv_F_79 d_F_isProcessFit_31 M.1 rfl rfl rfl (Nat.le_of_ble_eq_true rfl) (by decide) (by decide) (by omega) (by omega) ?_
      have b_31 := FA_lt hB_ (ob (FA B k 1)) 1
      refine aw_if_eq (tgt := 56) d_F_isProcessFit_34 (by decide) (fun c_34 => ?_) (fun c_34 => ?_)
      · rw [w_eq0 (by omega)] at c_34
        refine aw_iconst (v := nI 0) d_F_isProcessFit_56 (by decide) ?_
        exact aw_iret d_F_isProcessFit_57 rfl nar0 (rt_f (by unfold xCX; grind))
      · rw [w_eq0 (by omega)] at c_34
        refine aw_aload_n d_F_isProcessFit_37 rfl ?_
        refine aw_iload_n d_F_isProcessFit_38 rfl ?_
        refine aw_iconst (v := nI 2) d_F_isProcessFit_39 (by decide) ?_
        refine aw_callVi (mc2 := 0) (ms2 := 0) (r := nI (FA B k 2)) (As := [.int (nI k), .int (nI 2)]) (rest := []) (c_I_fieldAt ⟨M.1, M.2.1, M.2.2.1, M.2.2.2.1, M.2.2.2.2.1, M.2.2.2.2.2.1, M.2.2.2.2.2.2⟩ V L hB_ hcc hpc k (by omega) 2 (by omega)) cv_F_79 d_F_isProcessFit_40 M.1 rfl rfl rfl (Nat.le_of_ble_eq_true rfl) (by decide) (by decide) (by omega) (by omega) ?_
        have b_40 := FA_lt hB_ k 2
        refine aw_iconst (v := nI 1) d_F_isProcessFit_43 (by decide) ?_
        refine aw_bipush (v := nI 8) d_F_isProcessFit_44 (by decide) ?_
        refine aw_callSi (mc2 := 0) (ms2 := 0) (r := bP (NI (FA B k 2) 1 8)) (As := [.int (nI (FA B k 2)), .int (nI 1), .int (nI 8)]) (rest := []) (c_R_isNumberWithin (FA B k 2) (by omega) 1 8 (by omega) (by omega)) cs_F_101 d_F_isProcessFit_46 rfl rfl (Nat.le_of_ble_eq_true rfl) (by decide) (by decide) (by omega) (by omega) ?_
        refine aw_if_eq (tgt := 56) d_F_isProcessFit_49 (by decide) (fun c_49 => ?_) (fun c_49 => ?_)
        · rw [bP_eq0] at c_49
          refine aw_iconst (v := nI 0) d_F_isProcessFit_56 (by decide) ?_
          exact aw_iret d_F_isProcessFit_57 rfl nar0 (rt_f (by unfold xCX; grind))
        · rw [bP_eq0, Classical.not_not] at c_49
          refine aw_iconst (v := nI 1) d_F_isProcessFit_52 (by decide) ?_
          refine aw_goto (tgt := 57) d_F_isProcessFit_53 (by decide) ?_
          exact aw_iret d_F_isProcessFit_57 rfl nar1 (rt_t (by unfold xCX; grind))

theorem xPR_iff {B : Nat → Nat} (L : LX B) (h : HF B (sp B 14) 2) : ((xPL B (ob (FA B (ob (sp B 14)) 0)) 8 ∧ ∀ i, i < 8 → xPL B (ob (FA B (ob (FA B (ob (sp B 14)) 0)) i)) 2) ∧ (xPL B (ob (FA B (ob (sp B 14)) 1)) 4 ∧ xCX B (ob (FA B (ob (FA B (ob (sp B 14)) 1)) 1)) ∧ FA B (ob (FA B (ob (FA B (ob (sp B 14)) 1)) 1)) 1 ≠ 0 ∧ NI (FA B (ob (FA B (ob (sp B 14)) 1)) 2) 1 8)) ↔ PR B := by
  have hv := L.s (show 14 < 50 by decide)
  have e0 := xFA (i := 0) hv h (by decide)
  have e1 := xFA (i := 1) hv h (by decide)
  have v0 := L.fa (ob (sp B 14)) 0
  have v1 := L.fa (ob (sp B 14)) 1
  rw [e0] at v0 ⊢
  rw [e1] at v1 ⊢
  rw [xPL_iff v0 (by decide), xPL_iff v1 (by decide)]
  unfold PR
  constructor
  · rintro ⟨⟨a, b⟩, c, d, e, f⟩
    have e2 := xFA (i := 1) v1 c.1 (by decide)
    have e3 := xFA (i := 2) v1 c.1 (by decide)
    have v2 := L.fa (ob (fd B (ob (sp B 14)) 1)) 1
    rw [e2] at d e v2
    rw [e3] at f
    rw [xCX_iff v2] at d
    obtain ⟨q1, q2, q3, q4, q5⟩ := FA_nz e
    refine ⟨a, fun i hi => ?_, c, d, ⟨d.1, q3, by omega⟩, by rw [← q5]; exact e, f⟩
    have v3 := L.fa (ob (fd B (ob (sp B 14)) 0)) i
    have e4 := xFA (i := i) v0 a.1 (by omega)
    rw [e4] at v3
    have b1 := b i hi
    rw [e4] at b1
    exact (xPL_iff v3 (by decide)).mp b1
  · rintro ⟨a, b, c, d, d2, e, f⟩
    have e2 := xFA (i := 1) v1 c.1 (by decide)
    have e3 := xFA (i := 2) v1 c.1 (by decide)
    have v2 := L.fa (ob (fd B (ob (sp B 14)) 1)) 1
    rw [e2] at v2 ⊢
    rw [e3, xCX_iff v2]
    refine ⟨⟨a, fun i hi => ?_⟩, c, d, by rw [xFA (i := 1) v2 d2 (by decide)]; exact e, f⟩
    have v3 := L.fa (ob (fd B (ob (sp B 14)) 0)) i
    have e4 := xFA (i := i) v0 a.1 (by omega)
    rw [e4] at v3 ⊢
    exact (xPL_iff v3 (by decide)).mpr (b i hi)

set_option maxHeartbeats 4000000 in
theorem c_F_schedulerPlace {tb : Nat → Nat} {h : AH} {im a0 a1 a2 a3 a4 a5 cc pc us iw wp cp : Nat} {B : Nat → Nat} {f0 f1 f2 f3 f4 f5 : Nat → Int32} (M : iS h im a0 a1 a2 a3 a4 a5 cc pc us (nn B) iw wp cp f0 f1 f2 f3 f4 f5) (V : IV B f0 f1 f2 f3 f4 f5 cc pc) (L : LX B) (hB_ : ∀ i, B i < 256) (hcc : cc ≤ 1048576) (hpc : pc ≤ 1048576) (h14 : HF B (sp B 14) 2) : AM tb y_F_schedulerPlace b_F_schedulerPlace 4 (some .int) 4 87 [.ref im] h 0 0 (av_Pi (pI (plQ B)) h) := by
  have nV_im := V.1
  have nL_im := L.1
  have xq := xPR_iff L h14
  refine am_of (ini := false) [some (.ref im), none, none, none] (by decide) (fun z => by cases z) (Nat.le_of_ble_eq_true rfl) rfl ?_
  refine aw_aload_n d_F_schedulerPlace_0 rfl ?_
  refine aw_aload_n d_F_schedulerPlace_1 rfl ?_
  refine aw_bipush (v := nI 14) d_F_schedulerPlace_2 (by decide) ?_
  refine aw_callVi (mc2 := 0) (ms2 := 0) (r := nI (sp B 14)) (As := [.int (nI 14)]) (rest := [.ref im]) (c_I_specialAt ⟨M.1, M.2.1, M.2.2.1, M.2.2.2.1, M.2.2.2.2.1, M.2.2.2.2.2.1, M.2.2.2.2.2.2⟩ V L hB_ hcc hpc 14 (by omega)) cv_F_30 d_F_schedulerPlace_4 M.1 rfl rfl rfl (Nat.le_of_ble_eq_true rfl) (by decide) (by decide) (by omega) (by omega) ?_
  have b_4 := sp_lt hB_ 14
  refine aw_callVi (mc2 := 0) (ms2 := 0) (r := nI (ob (sp B 14))) (As := [.int (nI (sp B 14))]) (rest := []) (c_I_objectOf ⟨M.1, M.2.1, M.2.2.1, M.2.2.2.1, M.2.2.2.2.1, M.2.2.2.2.2.1, M.2.2.2.2.2.2⟩ V L hB_ hcc hpc (sp B 14) (by omega) (L.s (by omega))) cv_F_34 d_F_schedulerPlace_7 M.1 rfl rfl rfl (Nat.le_of_ble_eq_true rfl) (by decide) (by decide) (by omega) (by omega) ?_
  have ol_7 : ob (sp B 14) ≤ nn B := ob_le (L.s (by omega))
  refine aw_istore_n (L' := [some (.ref im), some (.int (nI (ob (sp B 14)))), none, none]) d_F_schedulerPlace_10 (by decide) rfl rfl ?_
  refine aw_aload_n d_F_schedulerPlace_11 rfl ?_
  refine aw_aload_n d_F_schedulerPlace_12 rfl ?_
  refine aw_iload_n d_F_schedulerPlace_13 rfl ?_
  refine aw_iconst (v := nI 0) d_F_schedulerPlace_14 (by decide) ?_
  refine aw_callVi (mc2 := 0) (ms2 := 0) (r := nI (FA B (ob (sp B 14)) 0)) (As := [.int (nI (ob (sp B 14))), .int (nI 0)]) (rest := [.ref im]) (c_I_fieldAt ⟨M.1, M.2.1, M.2.2.1, M.2.2.2.1, M.2.2.2.2.1, M.2.2.2.2.2.1, M.2.2.2.2.2.2⟩ V L hB_ hcc hpc (ob (sp B 14)) (by omega) 0 (by omega)) cv_F_79 d_F_schedulerPlace_15 M.1 rfl rfl rfl (Nat.le_of_ble_eq_true rfl) (by decide) (by decide) (by omega) (by omega) ?_
  have b_15 := FA_lt hB_ (ob (sp B 14)) 0
  refine aw_callVi (mc2 := 0) (ms2 := 0) (r := nI (ob (FA B (ob (sp B 14)) 0))) (As := [.int (nI (FA B (ob (sp B 14)) 0))]) (rest := []) (c_I_objectOf ⟨M.1, M.2.1, M.2.2.1, M.2.2.2.1, M.2.2.2.2.1, M.2.2.2.2.2.1, M.2.2.2.2.2.2⟩ V L hB_ hcc hpc (FA B (ob (sp B 14)) 0) (by omega) (L.fa _ _)) cv_F_34 d_F_schedulerPlace_18 M.1 rfl rfl rfl (Nat.le_of_ble_eq_true rfl) (by decide) (by decide) (by omega) (by omega) ?_
  have ol_18 : ob (FA B (ob (sp B 14)) 0) ≤ nn B := ob_le (L.fa _ _)
  refine aw_istore_n (L' := [some (.ref im), some (.int (nI (ob (sp B 14)))), some (.int (nI (ob (FA B (ob (sp B 14)) 0)))), none]) d_F_schedulerPlace_21 (by decide) rfl rfl ?_
  refine aw_aload_n d_F_schedulerPlace_22 rfl ?_
  refine aw_aload_n d_F_schedulerPlace_23 rfl ?_
  refine aw_iload_n d_F_schedulerPlace_24 rfl ?_
  refine aw_iconst (v := nI 1) d_F_schedulerPlace_25 (by decide) ?_
  refine aw_callVi (mc2 := 0) (ms2 := 0) (r := nI (FA B (ob (sp B 14)) 1)) (As := [.int (nI (ob (sp B 14))), .int (nI 1)]) (rest := [.ref im]) (c_I_fieldAt ⟨M.1, M.2.1, M.2.2.1, M.2.2.2.1, M.2.2.2.2.1, M.2.2.2.2.2.1, M.2.2.2.2.2.2⟩ V L hB_ hcc hpc (ob (sp B 14)) (by omega) 1 (by omega)) cv_F_79 d_F_schedulerPlace_26 M.1 rfl rfl rfl (Nat.le_of_ble_eq_true rfl) (by decide) (by decide) (by omega) (by omega) ?_
  have b_26 := FA_lt hB_ (ob (sp B 14)) 1
  refine aw_callVi (mc2 := 0) (ms2 := 0) (r := nI (ob (FA B (ob (sp B 14)) 1))) (As := [.int (nI (FA B (ob (sp B 14)) 1))]) (rest := []) (c_I_objectOf ⟨M.1, M.2.1, M.2.2.1, M.2.2.2.1, M.2.2.2.2.1, M.2.2.2.2.2.1, M.2.2.2.2.2.2⟩ V L hB_ hcc hpc (FA B (ob (sp B 14)) 1) (by omega) (L.fa _ _)) cv_F_34 d_F_schedulerPlace_29 M.1 rfl rfl rfl (Nat.le_of_ble_eq_true rfl) (by decide) (by decide) (by omega) (by omega) ?_
  have ol_29 : ob (FA B (ob (sp B 14)) 1) ≤ nn B := ob_le (L.fa _ _)
  refine aw_istore_n (L' := [some (.ref im), some (.int (nI (ob (sp B 14)))), some (.int (nI (ob (FA B (ob (sp B 14)) 0)))), some (.int (nI (ob (FA B (ob (sp B 14)) 1))))]) d_F_schedulerPlace_32 (by decide) rfl rfl ?_
  refine aw_aload_n d_F_schedulerPlace_33 rfl ?_
  refine aw_iload_n d_F_schedulerPlace_34 rfl ?_
  refine aw_callSi (mc2 := 0) (ms2 := 0) (r := bP (xPL B (ob (FA B (ob (sp B 14)) 0)) 8 ∧ ∀ i, i < 8 → xPL B (ob (FA B (ob (FA B (ob (sp B 14)) 0)) i)) 2)) (As := [.ref im, .int (nI (ob (FA B (ob (sp B 14)) 0)))]) (rest := []) (c_F_areListsFit ⟨M.1, M.2.1, M.2.2.1, M.2.2.2.1, M.2.2.2.2.1, M.2.2.2.2.2.1, M.2.2.2.2.2.2⟩ V L hB_ hcc hpc (ob (FA B (ob (sp B 14)) 0)) (by omega)) cs_F_122 d_F_schedulerPlace_35 rfl rfl (Nat.le_of_ble_eq_true rfl) (by decide) (by decide) (by omega) (by omega) ?_
  refine aw_if_eq (tgt := 53) d_F_schedulerPlace_38 (by decide) (fun c_38 => ?_) (fun c_38 => ?_)
  · rw [bP_eq0] at c_38
    refine aw_bipush (v := nI 64) d_F_schedulerPlace_53 (by decide) ?_
    exact aw_iret d_F_schedulerPlace_55 rfl rfl (rt_i (by unfold plQ; first | (rw [if_pos (xq.mp ⟨c_38, c_46⟩)]; rfl) | (rw [if_neg (fun z => by have y := xq.mpr z; first | exact c_38 y.1 | exact c_46 y.2)]; rfl)))
  · rw [bP_eq0, Classical.not_not] at c_38
    refine aw_aload_n d_F_schedulerPlace_41 rfl ?_
    refine aw_iload_n d_F_schedulerPlace_42 rfl ?_
    refine aw_callSi (mc2 := 0) (ms2 := 0) (r := bP (xPL B (ob (FA B (ob (sp B 14)) 1)) 4 ∧ xCX B (ob (FA B (ob (FA B (ob (sp B 14)) 1)) 1)) ∧ FA B (ob (FA B (ob (FA B (ob (sp B 14)) 1)) 1)) 1 ≠ 0 ∧ NI (FA B (ob (FA B (ob (sp B 14)) 1)) 2) 1 8)) (As := [.ref im, .int (nI (ob (FA B (ob (sp B 14)) 1)))]) (rest := []) (c_F_isProcessFit ⟨M.1, M.2.1, M.2.2.1, M.2.2.2.1, M.2.2.2.2.1, M.2.2.2.2.2.1, M.2.2.2.2.2.2⟩ V L hB_ hcc hpc (ob (FA B (ob (sp B 14)) 1)) (by omega)) cs_F_125 d_F_schedulerPlace_43 rfl rfl (Nat.le_of_ble_eq_true rfl) (by decide) (by decide) (by omega) (by omega) ?_
    refine aw_if_eq (tgt := 53) d_F_schedulerPlace_46 (by decide) (fun c_46 => ?_) (fun c_46 => ?_)
    · rw [bP_eq0] at c_46
      refine aw_bipush (v := nI 64) d_F_schedulerPlace_53 (by decide) ?_
      exact aw_iret d_F_schedulerPlace_55 rfl rfl (rt_i (by unfold plQ; first | (rw [if_pos (xq.mp ⟨c_38, c_46⟩)]; rfl) | (rw [if_neg (fun z => by have y := xq.mpr z; first | exact c_38 y.1 | exact c_46 y.2)]; rfl)))
    · rw [bP_eq0, Classical.not_not] at c_46
      refine aw_iconst (v := (-1)) d_F_schedulerPlace_49 (by decide) ?_
      refine aw_goto (tgt := 55) d_F_schedulerPlace_50 (by decide) ?_
      exact aw_iret d_F_schedulerPlace_55 rfl rfl (rt_i (by unfold plQ; first | (rw [if_pos (xq.mp ⟨c_38, c_46⟩)]; rfl) | (rw [if_neg (fun z => by have y := xq.mpr z; first | exact c_38 y.1 | exact c_46 y.2)]; rfl)))
