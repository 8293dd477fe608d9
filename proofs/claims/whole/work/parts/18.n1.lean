def mS (h : AH) (m ai am ak as_ aks ar an ab : Nat) (cd : Int32) (cn ln kl mn : Nat) (B HB KB : Nat → Nat) (fs fks fq fn fb : Nat → Int32) : Prop :=
  h m = some (mO cd ai cn am ln ak kl as_ aks ar an ab mn) ∧ h ai = some (.inl (1, 65536, .inl (bsf B))) ∧ h am = some (.inl (1, 65536, .inl (bsf HB))) ∧ h ak = some (.inl (1, 65536, .inl (bsf KB))) ∧
  h as_ = some (.inl (0, 8192, .inl fs)) ∧ h aks = some (.inl (0, 8192, .inl fks)) ∧ h ar = some (.inl (0, 8192, .inl fq)) ∧ h an = some (.inl (0, 8192, .inl fn)) ∧ h ab = some (.inl (0, 8192, .inl fb))
def mND (ai am ak as_ aks ar an ab : Nat) : Prop := (ai ≠ am ∧ ai ≠ ak ∧ am ≠ ak) ∧ (as_ ≠ aks ∧ as_ ≠ ar ∧ as_ ≠ an ∧ as_ ≠ ab) ∧ (aks ≠ ar ∧ aks ≠ an ∧ aks ≠ ab) ∧ (ar ≠ an ∧ ar ≠ ab) ∧ an ≠ ab
/-- the bytes are bytes; the image at hand and the one remembered are such -/
def mOK (cn ln kl : Nat) (B HB KB : Nat → Nat) (fs : Nat → Int32) : Prop := (∀ i, B i < 256) ∧ (∀ i, HB i < 256) ∧ (∀ i, KB i < 256) ∧ cn ≤ 65536 ∧ ln ≤ 65536 ∧ kl ≤ 65536 ∧ (0 < ln → laid HB ln (nn HB) ∧ VX HB ln fs) ∧ (0 < kl → laid KB kl (nn KB))
def mFr (m ai am ak as_ aks ar an ab : Nat) (h h' : AH) : Prop := ∀ q, q ≠ m → q ≠ ai → q ≠ am → q ≠ ak → q ≠ as_ → q ≠ aks → q ≠ ar → q ≠ an → q ≠ ab → h' q = h q
/-- a looking call: only 'code' is written -/
abbrev m_PC (x : Int32) (h : AH) (m ai cn am ln ak kl as_ aks ar an ab mn : Nat) : Option Value → AH → Prop := fun v h' => v = some (.int x) ∧ h' = av_up h m (mO (nI 0) ai cn am ln ak kl as_ aks ar an ab mn)
noncomputable def there (ln j : Nat) (B : Nat → Nat) : Prop := 0 < ln ∧ 1 ≤ j ∧ j ≤ nn B
noncomputable def rKind (ln j : Nat) (B : Nat → Nat) : Int32 := @ite Int32 (there ln j B) (Classical.propDecidable _) (if cl B j = sp B 7 then nI 2 else if cl B j = sp B 8 then nI 3 else nI (kd B j)) (-1)
noncomputable def rClass (ln j : Nat) (B : Nat → Nat) : Int32 := @ite Int32 (there ln j B) (Classical.propDecidable _) (nI (cl B j)) (nI 0)
noncomputable def rSize (ln j : Nat) (B : Nat → Nat) : Int32 := @ite Int32 (there ln j B) (Classical.propDecidable _) (nI (sz B j)) (-1)
noncomputable def rField (ln j i : Nat) (B : Nat → Nat) : Int32 := @ite Int32 (there ln j B ∧ kd B j ≠ 1 ∧ i < sz B j) (Classical.propDecidable _) (nI (fd B j i)) (nI 0)
noncomputable def rByte (ln j i : Nat) (B : Nat → Nat) : Int32 := @ite Int32 (there ln j B ∧ kd B j = 1 ∧ i < sz B j) (Classical.propDecidable _) (nI (bt B j i)) (-1)
theorem rt_P {P : Prop} {a b : Int32} (h : P) : @ite Int32 P (Classical.propDecidable P) a b = a := if_pos h
theorem rt_N {P : Prop} {a b : Int32} (h : ¬ P) : @ite Int32 P (Classical.propDecidable P) a b = b := if_neg h
theorem bs_01 : ∀ b, b < 2 → bs b = nI b := by decide +kernel

set_option maxHeartbeats 4000000 in
theorem c_M_isThere {tb : Nat → Nat} {h : AH} {m ai am ak as_ aks ar an ab cn ln kl mn : Nat} {cd : Int32} {HB : Nat → Nat} (hm : h m = some (mO cd ai cn am ln ak kl as_ aks ar an ab mn)) (him : h am = some (.inl (1, 65536, .inl (bsf HB)))) (hHB : ∀ i, HB i < 256) (hln : ln ≤ 65536) (k : Nat) (hk : k < 2147483648) : AM tb y_M_isThere b_M_isThere 2 (some .boolean) 2 41 [.ref m, .int (nI k)] h 0 0 (av_Pi (bP (there ln k HB)) h) := by
  refine am_of (ini := false) [some (.ref m), some (.int (nI k))] (by decide) (fun z => by cases z) (Nat.le_of_ble_eq_true rfl) rfl ?_
  refine aw_aload_n d_M_isThere_0 rfl ?_
  refine aw_get fl_M_149 d_M_isThere_1 hm rfl ?_
  refine aw_if_le (tgt := 26) d_M_isThere_4 (by decide) (fun c_4 => ?_) (fun c_4 => ?_)
  · rw [z_le (by omega)] at c_4
    refine aw_iconst (v := nI 0) d_M_isThere_26 (by decide) ?_
    exact aw_iret d_M_isThere_27 rfl nar0 (rt_f (by unfold there; omega))
  · rw [z_le (by omega)] at c_4
    refine aw_iload_n d_M_isThere_7 rfl ?_
    refine aw_if_le (tgt := 26) d_M_isThere_8 (by decide) (fun c_8 => ?_) (fun c_8 => ?_)
    · rw [z_le (by omega)] at c_8
      refine aw_iconst (v := nI 0) d_M_isThere_26 (by decide) ?_
      exact aw_iret d_M_isThere_27 rfl nar0 (rt_f (by unfold there; omega))
    · rw [z_le (by omega)] at c_8
      refine aw_iload_n d_M_isThere_11 rfl ?_
      refine aw_aload_n d_M_isThere_12 rfl ?_
      refine aw_get fl_M_14 d_M_isThere_13 hm rfl ?_
      refine aw_callSi (mc2 := 0) (ms2 := 0) (r := nI (nn HB)) (As := [.ref am]) (rest := [.int (nI k)]) (c_M_objects_aB hHB him (by omega) (by omega)) cs_M_101 d_M_isThere_16 rfl rfl (Nat.le_of_ble_eq_true rfl) (by decide) (by decide) (by omega) (by omega) ?_
      have b_16 : nn HB < 65536 := bh_lt hHB 6
      refine aw_icmp_gt (tgt := 26) d_M_isThere_19 (by decide) (fun c_19 => ?_) (fun c_19 => ?_)
      · rw [nI_ltI (by omega) (by omega)] at c_19
        refine aw_iconst (v := nI 0) d_M_isThere_26 (by decide) ?_
        exact aw_iret d_M_isThere_27 rfl nar0 (rt_f (by unfold there; omega))
      · rw [nI_ltI (by omega) (by omega)] at c_19
        refine aw_iconst (v := nI 1) d_M_isThere_22 (by decide) ?_
        refine aw_goto (tgt := 27) d_M_isThere_23 (by decide) ?_
        exact aw_iret d_M_isThere_27 rfl nar1 (rt_t (by unfold there; omega))

set_option maxHeartbeats 4000000 in
theorem c_M_isThere_neg {tb : Nat → Nat} {h : AH} {m ai am ak as_ aks ar an ab cn ln kl mn : Nat} {cd : Int32} {HB : Nat → Nat} (hm : h m = some (mO cd ai cn am ln ak kl as_ aks ar an ab mn)) (him : h am = some (.inl (1, 65536, .inl (bsf HB)))) (hHB : ∀ i, HB i < 256) (hln : ln ≤ 65536) (k : Int32) (hk : k < 0) : AM tb y_M_isThere b_M_isThere 2 (some .boolean) 0 0 [.ref m, .int k] h 0 0 (av_Pi (bP False) h) := by
  refine am_of (ini := false) [some (.ref m), some (.int k)] (by decide) (fun z => by cases z) (Nat.le_of_ble_eq_true rfl) rfl ?_
  refine aw_aload_n d_M_isThere_0 rfl ?_
  refine aw_get fl_M_149 d_M_isThere_1 hm rfl ?_
  refine aw_if_le (tgt := 26) d_M_isThere_4 (by decide) (fun c_4 => ?_) (fun c_4 => ?_)
  · rw [z_le (by omega)] at c_4
    refine aw_iconst (v := nI 0) d_M_isThere_26 (by decide) ?_
    exact aw_iret d_M_isThere_27 rfl nar0 (rt_f (by exact fun z => z))
  · rw [z_le (by omega)] at c_4
    refine aw_iload_n d_M_isThere_7 rfl ?_
    refine aw_if_le (tgt := 26) d_M_isThere_8 (by decide) (fun c_8 => ?_) (fun c_8 => absurd c_8 (by exact fun z => z (Int32.le_of_lt hk)))
    refine aw_iconst (v := nI 0) d_M_isThere_26 (by decide) ?_
    exact aw_iret d_M_isThere_27 rfl nar0 (rt_f (by exact fun z => z))

set_option maxHeartbeats 4000000 in
theorem c_M_objects_ {tb : Nat → Nat} {h : AH} {m ai am ak as_ aks ar an ab cn ln kl mn : Nat} {cd : Int32} {B HB KB : Nat → Nat} {fs fks fq fn fb : Nat → Int32} (M0 : mS h m ai am ak as_ aks ar an ab cd cn ln kl mn B HB KB fs fks fq fn fb) (K0 : mOK cn ln kl B HB KB fs)  : AM tb y_M_objects_ b_M_objects_ 1 (some .int) 2 41 [.ref m] h 0 0 (m_PC (nI (if ln = 0 then 0 else nn HB)) h m ai cn am ln ak kl as_ aks ar an ab mn) := by
  have k_ln := K0.2.2.2.2.1
  have k_nn : nn HB < 65536 := bh_lt K0.2.1 6
  refine am_of (ini := false) [some (.ref m)] (by decide) (fun z => by cases z) (Nat.le_of_ble_eq_true rfl) rfl ?_
  refine aw_aload_n d_M_objects__0 rfl ?_
  refine aw_iconst (v := nI 0) d_M_objects__1 (by decide) ?_
  refine aw_put (fs' := [.int (nI 0), .ref ai, .int (nI cn), .ref am, .int (nI ln), .ref ak, .int (nI kl), .ref as_, .ref aks, .ref ar, .ref an, .ref ab, .int (nI mn)]) (pt_M_36 _) d_M_objects__2 M0.1 rfl rfl (by simp) rfl ?_
  obtain ⟨k_1, e_k_1⟩ : ∃ z, z = av_up h m (.inr (5, [.int (nI 0), .ref ai, .int (nI cn), .ref am, .int (nI ln), .ref ak, .int (nI kl), .ref as_, .ref aks, .ref ar, .ref an, .ref ab, .int (nI mn)])) := ⟨_, rfl⟩
  refine aw_heap (h' := k_1) e_k_1.symm ?_
  have g1_ai : k_1 ai = some (.inl (1, 65536, .inl (bsf B))) := by rw [e_k_1, av_up_ne (av_apart M0.2.1 M0.1)]; exact M0.2.1
  have g1_am : k_1 am = some (.inl (1, 65536, .inl (bsf HB))) := by rw [e_k_1, av_up_ne (av_apart M0.2.2.1 M0.1)]; exact M0.2.2.1
  have g1_ak : k_1 ak = some (.inl (1, 65536, .inl (bsf KB))) := by rw [e_k_1, av_up_ne (av_apart M0.2.2.2.1 M0.1)]; exact M0.2.2.2.1
  have g1_as_ : k_1 as_ = some (.inl (0, 8192, .inl fs)) := by rw [e_k_1, av_up_ne (av_apart M0.2.2.2.2.1 M0.1)]; exact M0.2.2.2.2.1
  have g1_aks : k_1 aks = some (.inl (0, 8192, .inl fks)) := by rw [e_k_1, av_up_ne (av_apart M0.2.2.2.2.2.1 M0.1)]; exact M0.2.2.2.2.2.1
  have g1_ar : k_1 ar = some (.inl (0, 8192, .inl fq)) := by rw [e_k_1, av_up_ne (av_apart M0.2.2.2.2.2.2.1 M0.1)]; exact M0.2.2.2.2.2.2.1
  have g1_an : k_1 an = some (.inl (0, 8192, .inl fn)) := by rw [e_k_1, av_up_ne (av_apart M0.2.2.2.2.2.2.2.1 M0.1)]; exact M0.2.2.2.2.2.2.2.1
  have g1_ab : k_1 ab = some (.inl (0, 8192, .inl fb)) := by rw [e_k_1, av_up_ne (av_apart M0.2.2.2.2.2.2.2.2 M0.1)]; exact M0.2.2.2.2.2.2.2.2
  have g1_m : k_1 m = some (.inr (5, [.int (nI 0), .ref ai, .int (nI cn), .ref am, .int (nI ln), .ref ak, .int (nI kl), .ref as_, .ref aks, .ref ar, .ref an, .ref ab, .int (nI mn)])) := by rw [e_k_1]; exact av_up_self _ _ _
  refine aw_aload_n d_M_objects__5 rfl ?_
  refine aw_get fl_M_149 d_M_objects__6 g1_m rfl ?_
  refine aw_if_ne (tgt := 16) d_M_objects__9 (by decide) (fun c_9 => ?_) (fun c_9 => ?_)
  · rw [w_eq0 (by omega)] at c_9
    refine aw_aload_n d_M_objects__16 rfl ?_
    refine aw_get fl_M_14 d_M_objects__17 g1_m rfl ?_
    refine aw_callSi (mc2 := 0) (ms2 := 0) (r := nI (nn HB)) (As := [.ref am]) (rest := []) (c_M_objects_aB K0.2.1 g1_am (by omega) (by omega)) cs_M_101 d_M_objects__20 rfl rfl (Nat.le_of_ble_eq_true rfl) (by decide) (by decide) (by omega) (by omega) ?_
    have b_20 : nn HB < 65536 := bh_lt K0.2.1 6
    exact aw_iret d_M_objects__23 rfl rfl ⟨by first | rw [if_pos (by omega)] | rw [if_neg (by omega)] | (rw [if_pos (by omega)]; rfl) | (rw [if_neg (by omega)]; rfl), e_k_1⟩
  · rw [w_eq0 (by omega)] at c_9
    refine aw_iconst (v := nI 0) d_M_objects__12 (by decide) ?_
    refine aw_goto (tgt := 23) d_M_objects__13 (by decide) ?_
    exact aw_iret d_M_objects__23 rfl rfl ⟨by first | rw [if_pos (by omega)] | rw [if_neg (by omega)] | (rw [if_pos (by omega)]; rfl) | (rw [if_neg (by omega)]; rfl), e_k_1⟩

set_option maxHeartbeats 4000000 in
theorem c_M_words {tb : Nat → Nat} {h : AH} {m ai am ak as_ aks ar an ab cn ln kl mn : Nat} {cd : Int32} {B HB KB : Nat → Nat} {fs fks fq fn fb : Nat → Int32} (M0 : mS h m ai am ak as_ aks ar an ab cd cn ln kl mn B HB KB fs fks fq fn fb) (K0 : mOK cn ln kl B HB KB fs)  : AM tb y_M_words b_M_words 1 (some .int) 3 66 [.ref m] h 0 0 (m_PC (nI (if ln = 0 then 0 else wds HB (nn HB))) h m ai cn am ln ak kl as_ aks ar an ab mn) := by
  have k_ln := K0.2.2.2.2.1
  have k_nn : nn HB < 65536 := bh_lt K0.2.1 6
  refine am_of (ini := false) [some (.ref m)] (by decide) (fun z => by cases z) (Nat.le_of_ble_eq_true rfl) rfl ?_
  refine aw_aload_n d_M_words_0 rfl ?_
  refine aw_iconst (v := nI 0) d_M_words_1 (by decide) ?_
  refine aw_put (fs' := [.int (nI 0), .ref ai, .int (nI cn), .ref am, .int (nI ln), .ref ak, .int (nI kl), .ref as_, .ref aks, .ref ar, .ref an, .ref ab, .int (nI mn)]) (pt_M_36 _) d_M_words_2 M0.1 rfl rfl (by simp) rfl ?_
  obtain ⟨k_1, e_k_1⟩ : ∃ z, z = av_up h m (.inr (5, [.int (nI 0), .ref ai, .int (nI cn), .ref am, .int (nI ln), .ref ak, .int (nI kl), .ref as_, .ref aks, .ref ar, .ref an, .ref ab, .int (nI mn)])) := ⟨_, rfl⟩
  refine aw_heap (h' := k_1) e_k_1.symm ?_
  have g1_ai : k_1 ai = some (.inl (1, 65536, .inl (bsf B))) := by rw [e_k_1, av_up_ne (av_apart M0.2.1 M0.1)]; exact M0.2.1
  have g1_am : k_1 am = some (.inl (1, 65536, .inl (bsf HB))) := by rw [e_k_1, av_up_ne (av_apart M0.2.2.1 M0.1)]; exact M0.2.2.1
  have g1_ak : k_1 ak = some (.inl (1, 65536, .inl (bsf KB))) := by rw [e_k_1, av_up_ne (av_apart M0.2.2.2.1 M0.1)]; exact M0.2.2.2.1
  have g1_as_ : k_1 as_ = some (.inl (0, 8192, .inl fs)) := by rw [e_k_1, av_up_ne (av_apart M0.2.2.2.2.1 M0.1)]; exact M0.2.2.2.2.1
  have g1_aks : k_1 aks = some (.inl (0, 8192, .inl fks)) := by rw [e_k_1, av_up_ne (av_apart M0.2.2.2.2.2.1 M0.1)]; exact M0.2.2.2.2.2.1
  have g1_ar : k_1 ar = some (.inl (0, 8192, .inl fq)) := by rw [e_k_1, av_up_ne (av_apart M0.2.2.2.2.2.2.1 M0.1)]; exact M0.2.2.2.2.2.2.1
  have g1_an : k_1 an = some (.inl (0, 8192, .inl fn)) := by rw [e_k_1, av_up_ne (av_apart M0.2.2.2.2.2.2.2.1 M0.1)]; exact M0.2.2.2.2.2.2.2.1
  have g1_ab : k_1 ab = some (.inl (0, 8192, .inl fb)) := by rw [e_k_1, av_up_ne (av_apart M0.2.2.2.2.2.2.2.2 M0.1)]; exact M0.2.2.2.2.2.2.2.2
  have g1_m : k_1 m = some (.inr (5, [.int (nI 0), .ref ai, .int (nI cn), .ref am, .int (nI ln), .ref ak, .int (nI kl), .ref as_, .ref aks, .ref ar, .ref an, .ref ab, .int (nI mn)])) := by rw [e_k_1]; exact av_up_self _ _ _
  refine aw_aload_n d_M_words_5 rfl ?_
  refine aw_get fl_M_149 d_M_words_6 g1_m rfl ?_
  refine aw_if_ne (tgt := 16) d_M_words_9 (by decide) (fun c_9 => ?_) (fun c_9 => ?_)
  · rw [w_eq0 (by omega)] at c_9
    have X := (K0.2.2.2.2.2.2.1 (by omega)).2
    refine aw_aload_n d_M_words_16 rfl ?_
    refine aw_get fl_M_14 d_M_words_17 g1_m rfl ?_
    refine aw_aload_n d_M_words_20 rfl ?_
    refine aw_get fl_M_20 d_M_words_21 g1_m rfl ?_
    refine aw_callSi (mc2 := 0) (ms2 := 0) (r := nI (wds HB (nn HB))) (As := [.ref am, .ref as_]) (rest := []) (c_M_wordsOf K0.2.1 g1_am g1_as_ X) cs_M_108 d_M_words_24 rfl rfl (Nat.le_of_ble_eq_true rfl) (by decide) (by decide) (by omega) (by omega) ?_
    have b_24 := wds_le K0.2.1 (nn HB)
    exact aw_iret d_M_words_27 rfl rfl ⟨by first | rw [if_pos (by omega)] | rw [if_neg (by omega)] | (rw [if_pos (by omega)]; rfl) | (rw [if_neg (by omega)]; rfl), e_k_1⟩
  · rw [w_eq0 (by omega)] at c_9
    refine aw_iconst (v := nI 0) d_M_words_12 (by decide) ?_
    refine aw_goto (tgt := 27) d_M_words_13 (by decide) ?_
    exact aw_iret d_M_words_27 rfl rfl ⟨by first | rw [if_pos (by omega)] | rw [if_neg (by omega)] | (rw [if_pos (by omega)]; rfl) | (rw [if_neg (by omega)]; rfl), e_k_1⟩

set_option maxHeartbeats 4000000 in
theorem c_M_special_I {tb : Nat → Nat} {h : AH} {m ai am ak as_ aks ar an ab cn ln kl mn : Nat} {cd : Int32} {B HB KB : Nat → Nat} {fs fks fq fn fb : Nat → Int32} (M0 : mS h m ai am ak as_ aks ar an ab cd cn ln kl mn B HB KB fs fks fq fn fb) (K0 : mOK cn ln kl B HB KB fs) (k : Nat) (hk : k < 2147483648) : AM tb y_M_special_I b_M_special_I 2 (some .int) 2 42 [.ref m, .int (nI k)] h 0 0 (m_PC (nI (if ln = 0 ∨ 49 < k then 0 else sp HB k)) h m ai cn am ln ak kl as_ aks ar an ab mn) := by
  have k_ln := K0.2.2.2.2.1
  have k_nn : nn HB < 65536 := bh_lt K0.2.1 6
  refine am_of (ini := false) [some (.ref m), some (.int (nI k))] (by decide) (fun z => by cases z) (Nat.le_of_ble_eq_true rfl) rfl ?_
  refine aw_aload_n d_M_special_I_0 rfl ?_
  refine aw_iconst (v := nI 0) d_M_special_I_1 (by decide) ?_
  refine aw_put (fs' := [.int (nI 0), .ref ai, .int (nI cn), .ref am, .int (nI ln), .ref ak, .int (nI kl), .ref as_, .ref aks, .ref ar, .ref an, .ref ab, .int (nI mn)]) (pt_M_36 _) d_M_special_I_2 M0.1 rfl rfl (by simp) rfl ?_
  obtain ⟨k_1, e_k_1⟩ : ∃ z, z = av_up h m (.inr (5, [.int (nI 0), .ref ai, .int (nI cn), .ref am, .int (nI ln), .ref ak, .int (nI kl), .ref as_, .ref aks, .ref ar, .ref an, .ref ab, .int (nI mn)])) := ⟨_, rfl⟩
  refine aw_heap (h' := k_1) e_k_1.symm ?_
  have g1_ai : k_1 ai = some (.inl (1, 65536, .inl (bsf B))) := by rw [e_k_1, av_up_ne (av_apart M0.2.1 M0.1)]; exact M0.2.1
  have g1_am : k_1 am = some (.inl (1, 65536, .inl (bsf HB))) := by rw [e_k_1, av_up_ne (av_apart M0.2.2.1 M0.1)]; exact M0.2.2.1
  have g1_ak : k_1 ak = some (.inl (1, 65536, .inl (bsf KB))) := by rw [e_k_1, av_up_ne (av_apart M0.2.2.2.1 M0.1)]; exact M0.2.2.2.1
  have g1_as_ : k_1 as_ = some (.inl (0, 8192, .inl fs)) := by rw [e_k_1, av_up_ne (av_apart M0.2.2.2.2.1 M0.1)]; exact M0.2.2.2.2.1
  have g1_aks : k_1 aks = some (.inl (0, 8192, .inl fks)) := by rw [e_k_1, av_up_ne (av_apart M0.2.2.2.2.2.1 M0.1)]; exact M0.2.2.2.2.2.1
  have g1_ar : k_1 ar = some (.inl (0, 8192, .inl fq)) := by rw [e_k_1, av_up_ne (av_apart M0.2.2.2.2.2.2.1 M0.1)]; exact M0.2.2.2.2.2.2.1
  have g1_an : k_1 an = some (.inl (0, 8192, .inl fn)) := by rw [e_k_1, av_up_ne (av_apart M0.2.2.2.2.2.2.2.1 M0.1)]; exact M0.2.2.2.2.2.2.2.1
  have g1_ab : k_1 ab = some (.inl (0, 8192, .inl fb)) := by rw [e_k_1, av_up_ne (av_apart M0.2.2.2.2.2.2.2.2 M0.1)]; exact M0.2.2.2.2.2.2.2.2
  have g1_m : k_1 m = some (.inr (5, [.int (nI 0), .ref ai, .int (nI cn), .ref am, .int (nI ln), .ref ak, .int (nI kl), .ref as_, .ref aks, .ref ar, .ref an, .ref ab, .int (nI mn)])) := by rw [e_k_1]; exact av_up_self _ _ _
  refine aw_aload_n d_M_special_I_5 rfl ?_
  refine aw_get fl_M_149 d_M_special_I_6 g1_m rfl ?_
  refine aw_if_eq (tgt := 22) d_M_special_I_9 (by decide) (fun c_9 => ?_) (fun c_9 => ?_)
  · rw [w_eq0 (by omega)] at c_9
    refine aw_iconst (v := nI 0) d_M_special_I_22 (by decide) ?_
    refine aw_goto (tgt := 34) d_M_special_I_23 (by decide) ?_
    exact aw_iret d_M_special_I_34 rfl rfl ⟨by first | rw [if_pos (by omega)] | rw [if_neg (by omega)] | (rw [if_pos (by omega)]; rfl) | (rw [if_neg (by omega)]; rfl), e_k_1⟩
  · rw [w_eq0 (by omega)] at c_9
    refine aw_iload_n d_M_special_I_12 rfl ?_
    refine aw_if_lt (tgt := 22) d_M_special_I_13 (by decide) (fun c_13 => absurd c_13 (nI_pos (by omega))) (fun _ => ?_)
    refine aw_iload_n d_M_special_I_16 rfl ?_
    refine aw_bipush (v := nI 49) d_M_special_I_17 (by decide) ?_
    refine aw_icmp_le (tgt := 26) d_M_special_I_19 (by decide) (fun c_19 => ?_) (fun c_19 => ?_)
    · rw [nI_leI (by omega) (by omega)] at c_19
      refine aw_aload_n d_M_special_I_26 rfl ?_
      refine aw_get fl_M_14 d_M_special_I_27 g1_m rfl ?_
      refine aw_iload_n d_M_special_I_30 rfl ?_
      refine aw_callSi (mc2 := 0) (ms2 := 0) (r := nI (sp HB k)) (As := [.ref am, .int (nI k)]) (rest := []) (c_M_special_aBI K0.2.1 g1_am (by omega) k (by omega)) cs_M_65 d_M_special_I_31 rfl rfl (Nat.le_of_ble_eq_true rfl) (by decide) (by decide) (by omega) (by omega) ?_
      have b_31 : sp HB k < 4294967296 := bw_lt K0.2.1 _
      exact aw_iret d_M_special_I_34 rfl rfl ⟨by first | rw [if_pos (by omega)] | rw [if_neg (by omega)] | (rw [if_pos (by omega)]; rfl) | (rw [if_neg (by omega)]; rfl), e_k_1⟩
    · rw [nI_leI (by omega) (by omega)] at c_19
      refine aw_iconst (v := nI 0) d_M_special_I_22 (by decide) ?_
      refine aw_goto (tgt := 34) d_M_special_I_23 (by decide) ?_
      exact aw_iret d_M_special_I_34 rfl rfl ⟨by first | rw [if_pos (by omega)] | rw [if_neg (by omega)] | (rw [if_pos (by omega)]; rfl) | (rw [if_neg (by omega)]; rfl), e_k_1⟩

set_option maxHeartbeats 4000000 in
theorem c_M_special_I_neg {tb : Nat → Nat} {h : AH} {m ai am ak as_ aks ar an ab cn ln kl mn : Nat} {cd : Int32} {B HB KB : Nat → Nat} {fs fks fq fn fb : Nat → Int32} (M0 : mS h m ai am ak as_ aks ar an ab cd cn ln kl mn B HB KB fs fks fq fn fb) (K0 : mOK cn ln kl B HB KB fs) (k : Int32) (hk : k < 0) : AM tb y_M_special_I b_M_special_I 2 (some .int) 0 0 [.ref m, .int k] h 0 0 (m_PC (nI 0) h m ai cn am ln ak kl as_ aks ar an ab mn) := by
  have k_ln := K0.2.2.2.2.1
  have k_nn : nn HB < 65536 := bh_lt K0.2.1 6
  refine am_of (ini := false) [some (.ref m), some (.int k)] (by decide) (fun z => by cases z) (Nat.le_of_ble_eq_true rfl) rfl ?_
  refine aw_aload_n d_M_special_I_0 rfl ?_
  refine aw_iconst (v := nI 0) d_M_special_I_1 (by decide) ?_
  refine aw_put (fs' := [.int (nI 0), .ref ai, .int (nI cn), .ref am, .int (nI ln), .ref ak, .int (nI kl), .ref as_, .ref aks, .ref ar, .ref an, .ref ab, .int (nI mn)]) (pt_M_36 _) d_M_special_I_2 M0.1 rfl rfl (by simp) rfl ?_
  obtain ⟨k_1, e_k_1⟩ : ∃ z, z = av_up h m (.inr (5, [.int (nI 0), .ref ai, .int (nI cn), .ref am, .int (nI ln), .ref ak, .int (nI kl), .ref as_, .ref aks, .ref ar, .ref an, .ref ab, .int (nI mn)])) := ⟨_, rfl⟩
  refine aw_heap (h' := k_1) e_k_1.symm ?_
  have g1_ai : k_1 ai = some (.inl (1, 65536, .inl (bsf B))) := by rw [e_k_1, av_up_ne (av_apart M0.2.1 M0.1)]; exact M0.2.1
  have g1_am : k_1 am = some (.inl (1, 65536, .inl (bsf HB))) := by rw [e_k_1, av_up_ne (av_apart M0.2.2.1 M0.1)]; exact M0.2.2.1
  have g1_ak : k_1 ak = some (.inl (1, 65536, .inl (bsf KB))) := by rw [e_k_1, av_up_ne (av_apart M0.2.2.2.1 M0.1)]; exact M0.2.2.2.1
  have g1_as_ : k_1 as_ = some (.inl (0, 8192, .inl fs)) := by rw [e_k_1, av_up_ne (av_apart M0.2.2.2.2.1 M0.1)]; exact M0.2.2.2.2.1
  have g1_aks : k_1 aks = some (.inl (0, 8192, .inl fks)) := by rw [e_k_1, av_up_ne (av_apart M0.2.2.2.2.2.1 M0.1)]; exact M0.2.2.2.2.2.1
  have g1_ar : k_1 ar = some (.inl (0, 8192, .inl fq)) := by rw [e_k_1, av_up_ne (av_apart M0.2.2.2.2.2.2.1 M0.1)]; exact M0.2.2.2.2.2.2.1
  have g1_an : k_1 an = some (.inl (0, 8192, .inl fn)) := by rw [e_k_1, av_up_ne (av_apart M0.2.2.2.2.2.2.2.1 M0.1)]; exact M0.2.2.2.2.2.2.2.1
  have g1_ab : k_1 ab = some (.inl (0, 8192, .inl fb)) := by rw [e_k_1, av_up_ne (av_apart M0.2.2.2.2.2.2.2.2 M0.1)]; exact M0.2.2.2.2.2.2.2.2
  have g1_m : k_1 m = some (.inr (5, [.int (nI 0), .ref ai, .int (nI cn), .ref am, .int (nI ln), .ref ak, .int (nI kl), .ref as_, .ref aks, .ref ar, .ref an, .ref ab, .int (nI mn)])) := by rw [e_k_1]; exact av_up_self _ _ _
  refine aw_aload_n d_M_special_I_5 rfl ?_
  refine aw_get fl_M_149 d_M_special_I_6 g1_m rfl ?_
  refine aw_if_eq (tgt := 22) d_M_special_I_9 (by decide) (fun c_9 => ?_) (fun c_9 => ?_)
  · rw [w_eq0 (by omega)] at c_9
    refine aw_iconst (v := nI 0) d_M_special_I_22 (by decide) ?_
    refine aw_goto (tgt := 34) d_M_special_I_23 (by decide) ?_
    exact aw_iret d_M_special_I_34 rfl rfl ⟨by rfl, e_k_1⟩
  · rw [w_eq0 (by omega)] at c_9
    refine aw_iload_n d_M_special_I_12 rfl ?_
    refine aw_if_lt (tgt := 22) d_M_special_I_13 (by decide) (fun c_13 => ?_) (fun c_13 => absurd c_13 (by exact fun z => z hk))
    refine aw_iconst (v := nI 0) d_M_special_I_22 (by decide) ?_
    refine aw_goto (tgt := 34) d_M_special_I_23 (by decide) ?_
    exact aw_iret d_M_special_I_34 rfl rfl ⟨by rfl, e_k_1⟩

set_option maxHeartbeats 4000000 in
theorem c_M_kind {tb : Nat → Nat} {h : AH} {m ai am ak as_ aks ar an ab cn ln kl mn : Nat} {cd : Int32} {B HB KB : Nat → Nat} {fs fks fq fn fb : Nat → Int32} (M0 : mS h m ai am ak as_ aks ar an ab cd cn ln kl mn B HB KB fs fks fq fn fb) (K0 : mOK cn ln kl B HB KB fs) (k : Nat) (hk : k < 2147483648) : AM tb y_M_kind b_M_kind 3 (some .int) 3 62 [.ref m, .int (nI k)] h 0 0 (m_PC (rKind ln k HB) h m ai cn am ln ak kl as_ aks ar an ab mn) := by
  have k_ln := K0.2.2.2.2.1
  have k_nn : nn HB < 65536 := bh_lt K0.2.1 6
  refine am_of (ini := false) [some (.ref m), some (.int (nI k)), none] (by decide) (fun z => by cases z) (Nat.le_of_ble_eq_true rfl) rfl ?_
  refine aw_aload_n d_M_kind_0 rfl ?_
  refine aw_iconst (v := nI 0) d_M_kind_1 (by decide) ?_
  refine aw_put (fs' := [.int (nI 0), .ref ai, .int (nI cn), .ref am, .int (nI ln), .ref ak, .int (nI kl), .ref as_, .ref aks, .ref ar, .ref an, .ref ab, .int (nI mn)]) (pt_M_36 _) d_M_kind_2 M0.1 rfl rfl (by simp) rfl ?_
  obtain ⟨k_1, e_k_1⟩ : ∃ z, z = av_up h m (.inr (5, [.int (nI 0), .ref ai, .int (nI cn), .ref am, .int (nI ln), .ref ak, .int (nI kl), .ref as_, .ref aks, .ref ar, .ref an, .ref ab, .int (nI mn)])) := ⟨_, rfl⟩
  refine aw_heap (h' := k_1) e_k_1.symm ?_
  have g1_ai : k_1 ai = some (.inl (1, 65536, .inl (bsf B))) := by rw [e_k_1, av_up_ne (av_apart M0.2.1 M0.1)]; exact M0.2.1
  have g1_am : k_1 am = some (.inl (1, 65536, .inl (bsf HB))) := by rw [e_k_1, av_up_ne (av_apart M0.2.2.1 M0.1)]; exact M0.2.2.1
  have g1_ak : k_1 ak = some (.inl (1, 65536, .inl (bsf KB))) := by rw [e_k_1, av_up_ne (av_apart M0.2.2.2.1 M0.1)]; exact M0.2.2.2.1
  have g1_as_ : k_1 as_ = some (.inl (0, 8192, .inl fs)) := by rw [e_k_1, av_up_ne (av_apart M0.2.2.2.2.1 M0.1)]; exact M0.2.2.2.2.1
  have g1_aks : k_1 aks = some (.inl (0, 8192, .inl fks)) := by rw [e_k_1, av_up_ne (av_apart M0.2.2.2.2.2.1 M0.1)]; exact M0.2.2.2.2.2.1
  have g1_ar : k_1 ar = some (.inl (0, 8192, .inl fq)) := by rw [e_k_1, av_up_ne (av_apart M0.2.2.2.2.2.2.1 M0.1)]; exact M0.2.2.2.2.2.2.1
  have g1_an : k_1 an = some (.inl (0, 8192, .inl fn)) := by rw [e_k_1, av_up_ne (av_apart M0.2.2.2.2.2.2.2.1 M0.1)]; exact M0.2.2.2.2.2.2.2.1
  have g1_ab : k_1 ab = some (.inl (0, 8192, .inl fb)) := by rw [e_k_1, av_up_ne (av_apart M0.2.2.2.2.2.2.2.2 M0.1)]; exact M0.2.2.2.2.2.2.2.2
  have g1_m : k_1 m = some (.inr (5, [.int (nI 0), .ref ai, .int (nI cn), .ref am, .int (nI ln), .ref ak, .int (nI kl), .ref as_, .ref aks, .ref ar, .ref an, .ref ab, .int (nI mn)])) := by rw [e_k_1]; exact av_up_self _ _ _
  refine aw_aload_n d_M_kind_5 rfl ?_
  refine aw_iload_n d_M_kind_6 rfl ?_
  refine aw_callVi (mc2 := 0) (ms2 := 0) (r := bP (there ln k HB)) (As := [.int (nI k)]) (rest := []) (c_M_isThere g1_m g1_am K0.2.1 k_ln k (by omega)) cv_M_156 d_M_kind_7 g1_m rfl rfl rfl (Nat.le_of_ble_eq_true rfl) (by decide) (by decide) (by omega) (by omega) ?_
  refine aw_if_ne (tgt := 15) d_M_kind_10 (by decide) (fun c_10 => ?_) (fun c_10 => ?_)
  · rw [bP_eq0, Classical.not_not] at c_10
    have X := (K0.2.2.2.2.2.2.1 c_10.1).2
    have t_1 := c_10.2.1
    have t_2 := c_10.2.2
    have hn := X.n
    refine aw_aload_n d_M_kind_15 rfl ?_
    refine aw_get fl_M_14 d_M_kind_16 g1_m rfl ?_
    refine aw_aload_n d_M_kind_19 rfl ?_
    refine aw_get fl_M_20 d_M_kind_20 g1_m rfl ?_
    refine aw_iload_n d_M_kind_23 rfl ?_
    refine aw_iald (x := nI (oa HB k)) d_M_kind_24 g1_as_ (vp_in_nI (by omega) (by omega)) (by rw [nI_clamp (by omega)]; exact (X).2 _ (by omega) (by omega)) ?_
    have o_24 := (X).at k (by omega) (by omega)
    refine aw_callSi (mc2 := 0) (ms2 := 0) (r := nI (cl HB k)) (As := [.ref am, .int (nI (oa HB k))]) (rest := []) (c_M_word K0.2.1 g1_am (by omega) (oa HB k) (by omega)) cs_M_47 d_M_kind_25 rfl rfl (Nat.le_of_ble_eq_true rfl) (by decide) (by decide) (by omega) (by omega) ?_
    have b_25 := cl_lt K0.2.1 k
    refine aw_istore_n (L' := [some (.ref m), some (.int (nI k)), some (.int (nI (cl HB k)))]) d_M_kind_28 (by decide) rfl rfl ?_
    refine aw_iload_n d_M_kind_29 rfl ?_
    refine aw_aload_n d_M_kind_30 rfl ?_
    refine aw_get fl_M_14 d_M_kind_31 g1_m rfl ?_
    refine aw_bipush (v := nI 7) d_M_kind_34 (by decide) ?_
    refine aw_callSi (mc2 := 0) (ms2 := 0) (r := nI (sp HB 7)) (As := [.ref am, .int (nI 7)]) (rest := [.int (nI (cl HB k))]) (c_M_special_aBI K0.2.1 g1_am (by omega) 7 (by omega)) cs_M_65 d_M_kind_36 rfl rfl (Nat.le_of_ble_eq_true rfl) (by decide) (by decide) (by omega) (by omega) ?_
    have b_36 : sp HB 7 < 4294967296 := bw_lt K0.2.1 _
    refine aw_icmp_ne (tgt := 46) d_M_kind_39 (by decide) (fun c_39 => ?_) (fun c_39 => ?_)
    · rw [w_eq (by omega) (by omega)] at c_39
      refine aw_iload_n d_M_kind_46 rfl ?_
      refine aw_aload_n d_M_kind_47 rfl ?_
      refine aw_get fl_M_14 d_M_kind_48 g1_m rfl ?_
      refine aw_bipush (v := nI 8) d_M_kind_51 (by decide) ?_
      refine aw_callSi (mc2 := 0) (ms2 := 0) (r := nI (sp HB 8)) (As := [.ref am, .int (nI 8)]) (rest := [.int (nI (cl HB k))]) (c_M_special_aBI K0.2.1 g1_am (by omega) 8 (by omega)) cs_M_65 d_M_kind_53 rfl rfl (Nat.le_of_ble_eq_true rfl) (by decide) (by decide) (by omega) (by omega) ?_
      have b_53 : sp HB 8 < 4294967296 := bw_lt K0.2.1 _
      refine aw_icmp_ne (tgt := 63) d_M_kind_56 (by decide) (fun c_56 => ?_) (fun c_56 => ?_)
      · rw [w_eq (by omega) (by omega)] at c_56
        refine aw_aload_n d_M_kind_63 rfl ?_
        refine aw_get fl_M_14 d_M_kind_64 g1_m rfl ?_
        refine aw_aload_n d_M_kind_67 rfl ?_
        refine aw_get fl_M_20 d_M_kind_68 g1_m rfl ?_
        refine aw_iload_n d_M_kind_71 rfl ?_
        refine aw_iald (x := nI (oa HB k)) d_M_kind_72 g1_as_ (vp_in_nI (by omega) (by omega)) (by rw [nI_clamp (by omega)]; exact (X).2 _ (by omega) (by omega)) ?_
        have o_72 := (X).at k (by omega) (by omega)
        refine aw_iconst (v := nI 4) d_M_kind_73 (by decide) ?_
        refine aw_iadd (v := nI (oa HB k + 4)) d_M_kind_74 (nI_add _ _) ?_
        refine aw_bald (x := nI (kd HB k)) d_M_kind_75 g1_am (vp_in_nI (by omega) (by omega)) (by rw [nI_clamp (by omega)]; exact bs_01 (kd HB k) (by have q := (X.1.2.2.2.2.2 k t_1 t_2).2.1; omega)) ?_
        exact aw_iret d_M_kind_76 rfl rfl ⟨by unfold rKind; first | rw [rt_N c_10] | (rw [rt_P c_10]; first | rw [if_pos c_39] | rw [if_neg c_39, if_pos c_56] | rw [if_neg c_39, if_neg c_56]), e_k_1⟩
      · rw [w_eq (by omega) (by omega)] at c_56
        refine aw_iconst (v := nI 3) d_M_kind_59 (by decide) ?_
        refine aw_goto (tgt := 76) d_M_kind_60 (by decide) ?_
        exact aw_iret d_M_kind_76 rfl rfl ⟨by unfold rKind; first | rw [rt_N c_10] | (rw [rt_P c_10]; first | rw [if_pos c_39] | rw [if_neg c_39, if_pos c_56] | rw [if_neg c_39, if_neg c_56]), e_k_1⟩
    · rw [w_eq (by omega) (by omega)] at c_39
      refine aw_iconst (v := nI 2) d_M_kind_42 (by decide) ?_
      refine aw_goto (tgt := 76) d_M_kind_43 (by decide) ?_
      exact aw_iret d_M_kind_76 rfl rfl ⟨by unfold rKind; first | rw [rt_N c_10] | (rw [rt_P c_10]; first | rw [if_pos c_39] | rw [if_neg c_39, if_pos c_56] | rw [if_neg c_39, if_neg c_56]), e_k_1⟩
  · rw [bP_eq0] at c_10
    refine aw_iconst (v := (-1)) d_M_kind_13 (by decide) ?_
    exact aw_iret d_M_kind_14 rfl rfl ⟨by unfold rKind; first | rw [rt_N c_10] | (rw [rt_P c_10]; first | rw [if_pos c_39] | rw [if_neg c_39, if_pos c_56] | rw [if_neg c_39, if_neg c_56]), e_k_1⟩

set_option maxHeartbeats 4000000 in
theorem c_M_kind_neg {tb : Nat → Nat} {h : AH} {m ai am ak as_ aks ar an ab cn ln kl mn : Nat} {cd : Int32} {B HB KB : Nat → Nat} {fs fks fq fn fb : Nat → Int32} (M0 : mS h m ai am ak as_ aks ar an ab cd cn ln kl mn B HB KB fs fks fq fn fb) (K0 : mOK cn ln kl B HB KB fs) (k : Int32) (hk : k < 0) : AM tb y_M_kind b_M_kind 3 (some .int) 1 21 [.ref m, .int k] h 0 0 (m_PC (-1) h m ai cn am ln ak kl as_ aks ar an ab mn) := by
  have k_ln := K0.2.2.2.2.1
  have k_nn : nn HB < 65536 := bh_lt K0.2.1 6
  refine am_of (ini := false) [some (.ref m), some (.int k), none] (by decide) (fun z => by cases z) (Nat.le_of_ble_eq_true rfl) rfl ?_
  refine aw_aload_n d_M_kind_0 rfl ?_
  refine aw_iconst (v := nI 0) d_M_kind_1 (by decide) ?_
  refine aw_put (fs' := [.int (nI 0), .ref ai, .int (nI cn), .ref am, .int (nI ln), .ref ak, .int (nI kl), .ref as_, .ref aks, .ref ar, .ref an, .ref ab, .int (nI mn)]) (pt_M_36 _) d_M_kind_2 M0.1 rfl rfl (by simp) rfl ?_
  obtain ⟨k_1, e_k_1⟩ : ∃ z, z = av_up h m (.inr (5, [.int (nI 0), .ref ai, .int (nI cn), .ref am, .int (nI ln), .ref ak, .int (nI kl), .ref as_, .ref aks, .ref ar, .ref an, .ref ab, .int (nI mn)])) := ⟨_, rfl⟩
  refine aw_heap (h' := k_1) e_k_1.symm ?_
  have g1_ai : k_1 ai = some (.inl (1, 65536, .inl (bsf B))) := by rw [e_k_1, av_up_ne (av_apart M0.2.1 M0.1)]; exact M0.2.1
  have g1_am : k_1 am = some (.inl (1, 65536, .inl (bsf HB))) := by rw [e_k_1, av_up_ne (av_apart M0.2.2.1 M0.1)]; exact M0.2.2.1
  have g1_ak : k_1 ak = some (.inl (1, 65536, .inl (bsf KB))) := by rw [e_k_1, av_up_ne (av_apart M0.2.2.2.1 M0.1)]; exact M0.2.2.2.1
  have g1_as_ : k_1 as_ = some (.inl (0, 8192, .inl fs)) := by rw [e_k_1, av_up_ne (av_apart M0.2.2.2.2.1 M0.1)]; exact M0.2.2.2.2.1
  have g1_aks : k_1 aks = some (.inl (0, 8192, .inl fks)) := by rw [e_k_1, av_up_ne (av_apart M0.2.2.2.2.2.1 M0.1)]; exact M0.2.2.2.2.2.1
  have g1_ar : k_1 ar = some (.inl (0, 8192, .inl fq)) := by rw [e_k_1, av_up_ne (av_apart M0.2.2.2.2.2.2.1 M0.1)]; exact M0.2.2.2.2.2.2.1
  have g1_an : k_1 an = some (.inl (0, 8192, .inl fn)) := by rw [e_k_1, av_up_ne (av_apart M0.2.2.2.2.2.2.2.1 M0.1)]; exact M0.2.2.2.2.2.2.2.1
  have g1_ab : k_1 ab = some (.inl (0, 8192, .inl fb)) := by rw [e_k_1, av_up_ne (av_apart M0.2.2.2.2.2.2.2.2 M0.1)]; exact M0.2.2.2.2.2.2.2.2
  have g1_m : k_1 m = some (.inr (5, [.int (nI 0), .ref ai, .int (nI cn), .ref am, .int (nI ln), .ref ak, .int (nI kl), .ref as_, .ref aks, .ref ar, .ref an, .ref ab, .int (nI mn)])) := by rw [e_k_1]; exact av_up_self _ _ _
  refine aw_aload_n d_M_kind_5 rfl ?_
  refine aw_iload_n d_M_kind_6 rfl ?_
  refine aw_callVi (mc2 := 0) (ms2 := 0) (r := bP False) (As := [.int k]) (rest := []) (c_M_isThere_neg g1_m g1_am K0.2.1 k_ln k hk) cv_M_156 d_M_kind_7 g1_m rfl rfl rfl (Nat.le_of_ble_eq_true rfl) (by decide) (by decide) (by omega) (by omega) ?_
  refine aw_if_ne (tgt := 15) d_M_kind_10 (by decide) (fun c_10 => ?_) (fun c_10 => ?_)
  · rw [bP_eq0, Classical.not_not] at c_10
    exact c_10.elim
  · rw [bP_eq0] at c_10
    refine aw_iconst (v := (-1)) d_M_kind_13 (by decide) ?_
    exact aw_iret d_M_kind_14 rfl rfl ⟨by rfl, e_k_1⟩

set_option maxHeartbeats 4000000 in
theorem c_M_classOf {tb : Nat → Nat} {h : AH} {m ai am ak as_ aks ar an ab cn ln kl mn : Nat} {cd : Int32} {B HB KB : Nat → Nat} {fs fks fq fn fb : Nat → Int32} (M0 : mS h m ai am ak as_ aks ar an ab cd cn ln kl mn B HB KB fs fks fq fn fb) (K0 : mOK cn ln kl B HB KB fs) (k : Nat) (hk : k < 2147483648) : AM tb y_M_classOf b_M_classOf 2 (some .int) 3 62 [.ref m, .int (nI k)] h 0 0 (m_PC (rClass ln k HB) h m ai cn am ln ak kl as_ aks ar an ab mn) := by
  have k_ln := K0.2.2.2.2.1
  have k_nn : nn HB < 65536 := bh_lt K0.2.1 6
  refine am_of (ini := false) [some (.ref m), some (.int (nI k))] (by decide) (fun z => by cases z) (Nat.le_of_ble_eq_true rfl) rfl ?_
  refine aw_aload_n d_M_classOf_0 rfl ?_
  refine aw_iconst (v := nI 0) d_M_classOf_1 (by decide) ?_
  refine aw_put (fs' := [.int (nI 0), .ref ai, .int (nI cn), .ref am, .int (nI ln), .ref ak, .int (nI kl), .ref as_, .ref aks, .ref ar, .ref an, .ref ab, .int (nI mn)]) (pt_M_36 _) d_M_classOf_2 M0.1 rfl rfl (by simp) rfl ?_
  obtain ⟨k_1, e_k_1⟩ : ∃ z, z = av_up h m (.inr (5, [.int (nI 0), .ref ai, .int (nI cn), .ref am, .int (nI ln), .ref ak, .int (nI kl), .ref as_, .ref aks, .ref ar, .ref an, .ref ab, .int (nI mn)])) := ⟨_, rfl⟩
  refine aw_heap (h' := k_1) e_k_1.symm ?_
  have g1_ai : k_1 ai = some (.inl (1, 65536, .inl (bsf B))) := by rw [e_k_1, av_up_ne (av_apart M0.2.1 M0.1)]; exact M0.2.1
  have g1_am : k_1 am = some (.inl (1, 65536, .inl (bsf HB))) := by rw [e_k_1, av_up_ne (av_apart M0.2.2.1 M0.1)]; exact M0.2.2.1
  have g1_ak : k_1 ak = some (.inl (1, 65536, .inl (bsf KB))) := by rw [e_k_1, av_up_ne (av_apart M0.2.2.2.1 M0.1)]; exact M0.2.2.2.1
  have g1_as_ : k_1 as_ = some (.inl (0, 8192, .inl fs)) := by rw [e_k_1, av_up_ne (av_apart M0.2.2.2.2.1 M0.1)]; exact M0.2.2.2.2.1
  have g1_aks : k_1 aks = some (.inl (0, 8192, .inl fks)) := by rw [e_k_1, av_up_ne (av_apart M0.2.2.2.2.2.1 M0.1)]; exact M0.2.2.2.2.2.1
  have g1_ar : k_1 ar = some (.inl (0, 8192, .inl fq)) := by rw [e_k_1, av_up_ne (av_apart M0.2.2.2.2.2.2.1 M0.1)]; exact M0.2.2.2.2.2.2.1
  have g1_an : k_1 an = some (.inl (0, 8192, .inl fn)) := by rw [e_k_1, av_up_ne (av_apart M0.2.2.2.2.2.2.2.1 M0.1)]; exact M0.2.2.2.2.2.2.2.1
  have g1_ab : k_1 ab = some (.inl (0, 8192, .inl fb)) := by rw [e_k_1, av_up_ne (av_apart M0.2.2.2.2.2.2.2.2 M0.1)]; exact M0.2.2.2.2.2.2.2.2
  have g1_m : k_1 m = some (.inr (5, [.int (nI 0), .ref ai, .int (nI cn), .ref am, .int (nI ln), .ref ak, .int (nI kl), .ref as_, .ref aks, .ref ar, .ref an, .ref ab, .int (nI mn)])) := by rw [e_k_1]; exact av_up_self _ _ _
  refine aw_aload_n d_M_classOf_5 rfl ?_
  refine aw_iload_n d_M_classOf_6 rfl ?_
  refine aw_callVi (mc2 := 0) (ms2 := 0) (r := bP (there ln k HB)) (As := [.int (nI k)]) (rest := []) (c_M_isThere g1_m g1_am K0.2.1 k_ln k (by omega)) cv_M_156 d_M_classOf_7 g1_m rfl rfl rfl (Nat.le_of_ble_eq_true rfl) (by decide) (by decide) (by omega) (by omega) ?_
  refine aw_if_eq (tgt := 29) d_M_classOf_10 (by decide) (fun c_10 => ?_) (fun c_10 => ?_)
  · rw [bP_eq0] at c_10
    refine aw_iconst (v := nI 0) d_M_classOf_29 (by decide) ?_
    exact aw_iret d_M_classOf_30 rfl rfl ⟨by unfold rClass; first | rw [rt_N c_10] | rw [rt_P c_10], e_k_1⟩
  · rw [bP_eq0, Classical.not_not] at c_10
    have X := (K0.2.2.2.2.2.2.1 c_10.1).2
    have t_1 := c_10.2.1
    have t_2 := c_10.2.2
    have hn := X.n
    refine aw_aload_n d_M_classOf_13 rfl ?_
    refine aw_get fl_M_14 d_M_classOf_14 g1_m rfl ?_
    refine aw_aload_n d_M_classOf_17 rfl ?_
    refine aw_get fl_M_20 d_M_classOf_18 g1_m rfl ?_
    refine aw_iload_n d_M_classOf_21 rfl ?_
    refine aw_iald (x := nI (oa HB k)) d_M_classOf_22 g1_as_ (vp_in_nI (by omega) (by omega)) (by rw [nI_clamp (by omega)]; exact (X).2 _ (by omega) (by omega)) ?_
    have o_22 := (X).at k (by omega) (by omega)
    refine aw_callSi (mc2 := 0) (ms2 := 0) (r := nI (cl HB k)) (As := [.ref am, .int (nI (oa HB k))]) (rest := []) (c_M_word K0.2.1 g1_am (by omega) (oa HB k) (by omega)) cs_M_47 d_M_classOf_23 rfl rfl (Nat.le_of_ble_eq_true rfl) (by decide) (by decide) (by omega) (by omega) ?_
    have b_23 := cl_lt K0.2.1 k
    refine aw_goto (tgt := 30) d_M_classOf_26 (by decide) ?_
    exact aw_iret d_M_classOf_30 rfl rfl ⟨by unfold rClass; first | rw [rt_N c_10] | rw [rt_P c_10], e_k_1⟩

set_option maxHeartbeats 4000000 in
theorem c_M_classOf_neg {tb : Nat → Nat} {h : AH} {m ai am ak as_ aks ar an ab cn ln kl mn : Nat} {cd : Int32} {B HB KB : Nat → Nat} {fs fks fq fn fb : Nat → Int32} (M0 : mS h m ai am ak as_ aks ar an ab cd cn ln kl mn B HB KB fs fks fq fn fb) (K0 : mOK cn ln kl B HB KB fs) (k : Int32) (hk : k < 0) : AM tb y_M_classOf b_M_classOf 2 (some .int) 1 21 [.ref m, .int k] h 0 0 (m_PC (nI 0) h m ai cn am ln ak kl as_ aks ar an ab mn) := by
  have k_ln := K0.2.2.2.2.1
  have k_nn : nn HB < 65536 := bh_lt K0.2.1 6
  refine am_of (ini := false) [some (.ref m), some (.int k)] (by decide) (fun z => by cases z) (Nat.le_of_ble_eq_true rfl) rfl ?_
  refine aw_aload_n d_M_classOf_0 rfl ?_
  refine aw_iconst (v := nI 0) d_M_classOf_1 (by decide) ?_
  refine aw_put (fs' := [.int (nI 0), .ref ai, .int (nI cn), .ref am, .int (nI ln), .ref ak, .int (nI kl), .ref as_, .ref aks, .ref ar, .ref an, .ref ab, .int (nI mn)]) (pt_M_36 _) d_M_classOf_2 M0.1 rfl rfl (by simp) rfl ?_
  obtain ⟨k_1, e_k_1⟩ : ∃ z, z = av_up h m (.inr (5, [.int (nI 0), .ref ai, .int (nI cn), .ref am, .int (nI ln), .ref ak, .int (nI kl), .ref as_, .ref aks, .ref ar, .ref an, .ref ab, .int (nI mn)])) := ⟨_, rfl⟩
  refine aw_heap (h' := k_1) e_k_1.symm ?_
  have g1_ai : k_1 ai = some (.inl (1, 65536, .inl (bsf B))) := by rw [e_k_1, av_up_ne (av_apart M0.2.1 M0.1)]; exact M0.2.1
  have g1_am : k_1 am = some (.inl (1, 65536, .inl (bsf HB))) := by rw [e_k_1, av_up_ne (av_apart M0.2.2.1 M0.1)]; exact M0.2.2.1
  have g1_ak : k_1 ak = some (.inl (1, 65536, .inl (bsf KB))) := by rw [e_k_1, av_up_ne (av_apart M0.2.2.2.1 M0.1)]; exact M0.2.2.2.1
  have g1_as_ : k_1 as_ = some (.inl (0, 8192, .inl fs)) := by rw [e_k_1, av_up_ne (av_apart M0.2.2.2.2.1 M0.1)]; exact M0.2.2.2.2.1
  have g1_aks : k_1 aks = some (.inl (0, 8192, .inl fks)) := by rw [e_k_1, av_up_ne (av_apart M0.2.2.2.2.2.1 M0.1)]; exact M0.2.2.2.2.2.1
  have g1_ar : k_1 ar = some (.inl (0, 8192, .inl fq)) := by rw [e_k_1, av_up_ne (av_apart M0.2.2.2.2.2.2.1 M0.1)]; exact M0.2.2.2.2.2.2.1
  have g1_an : k_1 an = some (.inl (0, 8192, .inl fn)) := by rw [e_k_1, av_up_ne (av_apart M0.2.2.2.2.2.2.2.1 M0.1)]; exact M0.2.2.2.2.2.2.2.1
  have g1_ab : k_1 ab = some (.inl (0, 8192, .inl fb)) := by rw [e_k_1, av_up_ne (av_apart M0.2.2.2.2.2.2.2.2 M0.1)]; exact M0.2.2.2.2.2.2.2.2
  have g1_m : k_1 m = some (.inr (5, [.int (nI 0), .ref ai, .int (nI cn), .ref am, .int (nI ln), .ref ak, .int (nI kl), .ref as_, .ref aks, .ref ar, .ref an, .ref ab, .int (nI mn)])) := by rw [e_k_1]; exact av_up_self _ _ _
  refine aw_aload_n d_M_classOf_5 rfl ?_
  refine aw_iload_n d_M_classOf_6 rfl ?_
  refine aw_callVi (mc2 := 0) (ms2 := 0) (r := bP False) (As := [.int k]) (rest := []) (c_M_isThere_neg g1_m g1_am K0.2.1 k_ln k hk) cv_M_156 d_M_classOf_7 g1_m rfl rfl rfl (Nat.le_of_ble_eq_true rfl) (by decide) (by decide) (by omega) (by omega) ?_
  refine aw_if_eq (tgt := 29) d_M_classOf_10 (by decide) (fun c_10 => ?_) (fun c_10 => ?_)
  · rw [bP_eq0] at c_10
    refine aw_iconst (v := nI 0) d_M_classOf_29 (by decide) ?_
    exact aw_iret d_M_classOf_30 rfl rfl ⟨by rfl, e_k_1⟩
  · rw [bP_eq0, Classical.not_not] at c_10
    exact c_10.elim

set_option maxHeartbeats 4000000 in
theorem c_M_size {tb : Nat → Nat} {h : AH} {m ai am ak as_ aks ar an ab cn ln kl mn : Nat} {cd : Int32} {B HB KB : Nat → Nat} {fs fks fq fn fb : Nat → Int32} (M0 : mS h m ai am ak as_ aks ar an ab cd cn ln kl mn B HB KB fs fks fq fn fb) (K0 : mOK cn ln kl B HB KB fs) (k : Nat) (hk : k < 2147483648) : AM tb y_M_size b_M_size 2 (some .int) 3 62 [.ref m, .int (nI k)] h 0 0 (m_PC (rSize ln k HB) h m ai cn am ln ak kl as_ aks ar an ab mn) := by
  have k_ln := K0.2.2.2.2.1
  have k_nn : nn HB < 65536 := bh_lt K0.2.1 6
  refine am_of (ini := false) [some (.ref m), some (.int (nI k))] (by decide) (fun z => by cases z) (Nat.le_of_ble_eq_true rfl) rfl ?_
  refine aw_aload_n d_M_size_0 rfl ?_
  refine aw_iconst (v := nI 0) d_M_size_1 (by decide) ?_
  refine aw_put (fs' := [.int (nI 0), .ref ai, .int (nI cn), .ref am, .int (nI ln), .ref ak, .int (nI kl), .ref as_, .ref aks, .ref ar, .ref an, .ref ab, .int (nI mn)]) (pt_M_36 _) d_M_size_2 M0.1 rfl rfl (by simp) rfl ?_
  obtain ⟨k_1, e_k_1⟩ : ∃ z, z = av_up h m (.inr (5, [.int (nI 0), .ref ai, .int (nI cn), .ref am, .int (nI ln), .ref ak, .int (nI kl), .ref as_, .ref aks, .ref ar, .ref an, .ref ab, .int (nI mn)])) := ⟨_, rfl⟩
  refine aw_heap (h' := k_1) e_k_1.symm ?_
  have g1_ai : k_1 ai = some (.inl (1, 65536, .inl (bsf B))) := by rw [e_k_1, av_up_ne (av_apart M0.2.1 M0.1)]; exact M0.2.1
  have g1_am : k_1 am = some (.inl (1, 65536, .inl (bsf HB))) := by rw [e_k_1, av_up_ne (av_apart M0.2.2.1 M0.1)]; exact M0.2.2.1
  have g1_ak : k_1 ak = some (.inl (1, 65536, .inl (bsf KB))) := by rw [e_k_1, av_up_ne (av_apart M0.2.2.2.1 M0.1)]; exact M0.2.2.2.1
  have g1_as_ : k_1 as_ = some (.inl (0, 8192, .inl fs)) := by rw [e_k_1, av_up_ne (av_apart M0.2.2.2.2.1 M0.1)]; exact M0.2.2.2.2.1
  have g1_aks : k_1 aks = some (.inl (0, 8192, .inl fks)) := by rw [e_k_1, av_up_ne (av_apart M0.2.2.2.2.2.1 M0.1)]; exact M0.2.2.2.2.2.1
  have g1_ar : k_1 ar = some (.inl (0, 8192, .inl fq)) := by rw [e_k_1, av_up_ne (av_apart M0.2.2.2.2.2.2.1 M0.1)]; exact M0.2.2.2.2.2.2.1
  have g1_an : k_1 an = some (.inl (0, 8192, .inl fn)) := by rw [e_k_1, av_up_ne (av_apart M0.2.2.2.2.2.2.2.1 M0.1)]; exact M0.2.2.2.2.2.2.2.1
  have g1_ab : k_1 ab = some (.inl (0, 8192, .inl fb)) := by rw [e_k_1, av_up_ne (av_apart M0.2.2.2.2.2.2.2.2 M0.1)]; exact M0.2.2.2.2.2.2.2.2
  have g1_m : k_1 m = some (.inr (5, [.int (nI 0), .ref ai, .int (nI cn), .ref am, .int (nI ln), .ref ak, .int (nI kl), .ref as_, .ref aks, .ref ar, .ref an, .ref ab, .int (nI mn)])) := by rw [e_k_1]; exact av_up_self _ _ _
  refine aw_aload_n d_M_size_5 rfl ?_
  refine aw_iload_n d_M_size_6 rfl ?_
  refine aw_callVi (mc2 := 0) (ms2 := 0) (r := bP (there ln k HB)) (As := [.int (nI k)]) (rest := []) (c_M_isThere g1_m g1_am K0.2.1 k_ln k (by omega)) cv_M_156 d_M_size_7 g1_m rfl rfl rfl (Nat.le_of_ble_eq_true rfl) (by decide) (by decide) (by omega) (by omega) ?_
  refine aw_if_eq (tgt := 29) d_M_size_10 (by decide) (fun c_10 => ?_) (fun c_10 => ?_)
  · rw [bP_eq0] at c_10
    refine aw_iconst (v := (-1)) d_M_size_29 (by decide) ?_
    exact aw_iret d_M_size_30 rfl rfl ⟨by unfold rSize; first | rw [rt_N c_10] | rw [rt_P c_10], e_k_1⟩
  · rw [bP_eq0, Classical.not_not] at c_10
    have X := (K0.2.2.2.2.2.2.1 c_10.1).2
    have t_1 := c_10.2.1
    have t_2 := c_10.2.2
    have hn := X.n
    refine aw_aload_n d_M_size_13 rfl ?_
    refine aw_get fl_M_14 d_M_size_14 g1_m rfl ?_
    refine aw_aload_n d_M_size_17 rfl ?_
    refine aw_get fl_M_20 d_M_size_18 g1_m rfl ?_
    refine aw_iload_n d_M_size_21 rfl ?_
    refine aw_iald (x := nI (oa HB k)) d_M_size_22 g1_as_ (vp_in_nI (by omega) (by omega)) (by rw [nI_clamp (by omega)]; exact (X).2 _ (by omega) (by omega)) ?_
    have o_22 := (X).at k (by omega) (by omega)
    refine aw_callSi (mc2 := 0) (ms2 := 0) (r := nI (sz HB k)) (As := [.ref am, .int (nI (oa HB k))]) (rest := []) (c_M_sizeAt K0.2.1 g1_am (by omega) (oa HB k) (by omega)) cs_M_54 d_M_size_23 rfl rfl (Nat.le_of_ble_eq_true rfl) (by decide) (by decide) (by omega) (by omega) ?_
    have b_23 := sz_lt K0.2.1 k
    refine aw_goto (tgt := 30) d_M_size_26 (by decide) ?_
    exact aw_iret d_M_size_30 rfl rfl ⟨by unfold rSize; first | rw [rt_N c_10] | rw [rt_P c_10], e_k_1⟩

set_option maxHeartbeats 4000000 in
theorem c_M_size_neg {tb : Nat → Nat} {h : AH} {m ai am ak as_ aks ar an ab cn ln kl mn : Nat} {cd : Int32} {B HB KB : Nat → Nat} {fs fks fq fn fb : Nat → Int32} (M0 : mS h m ai am ak as_ aks ar an ab cd cn ln kl mn B HB KB fs fks fq fn fb) (K0 : mOK cn ln kl B HB KB fs) (k : Int32) (hk : k < 0) : AM tb y_M_size b_M_size 2 (some .int) 1 21 [.ref m, .int k] h 0 0 (m_PC (-1) h m ai cn am ln ak kl as_ aks ar an ab mn) := by
  have k_ln := K0.2.2.2.2.1
  have k_nn : nn HB < 65536 := bh_lt K0.2.1 6
  refine am_of (ini := false) [some (.ref m), some (.int k)] (by decide) (fun z => by cases z) (Nat.le_of_ble_eq_true rfl) rfl ?_
  refine aw_aload_n d_M_size_0 rfl ?_
  refine aw_iconst (v := nI 0) d_M_size_1 (by decide) ?_
  refine aw_put (fs' := [.int (nI 0), .ref ai, .int (nI cn), .ref am, .int (nI ln), .ref ak, .int (nI kl), .ref as_, .ref aks, .ref ar, .ref an, .ref ab, .int (nI mn)]) (pt_M_36 _) d_M_size_2 M0.1 rfl rfl (by simp) rfl ?_
  obtain ⟨k_1, e_k_1⟩ : ∃ z, z = av_up h m (.inr (5, [.int (nI 0), .ref ai, .int (nI cn), .ref am, .int (nI ln), .ref ak, .int (nI kl), .ref as_, .ref aks, .ref ar, .ref an, .ref ab, .int (nI mn)])) := ⟨_, rfl⟩
  refine aw_heap (h' := k_1) e_k_1.symm ?_
  have g1_ai : k_1 ai = some (.inl (1, 65536, .inl (bsf B))) := by rw [e_k_1, av_up_ne (av_apart M0.2.1 M0.1)]; exact M0.2.1
  have g1_am : k_1 am = some (.inl (1, 65536, .inl (bsf HB))) := by rw [e_k_1, av_up_ne (av_apart M0.2.2.1 M0.1)]; exact M0.2.2.1
  have g1_ak : k_1 ak = some (.inl (1, 65536, .inl (bsf KB))) := by rw [e_k_1, av_up_ne (av_apart M0.2.2.2.1 M0.1)]; exact M0.2.2.2.1
  have g1_as_ : k_1 as_ = some (.inl (0, 8192, .inl fs)) := by rw [e_k_1, av_up_ne (av_apart M0.2.2.2.2.1 M0.1)]; exact M0.2.2.2.2.1
  have g1_aks : k_1 aks = some (.inl (0, 8192, .inl fks)) := by rw [e_k_1, av_up_ne (av_apart M0.2.2.2.2.2.1 M0.1)]; exact M0.2.2.2.2.2.1
  have g1_ar : k_1 ar = some (.inl (0, 8192, .inl fq)) := by rw [e_k_1, av_up_ne (av_apart M0.2.2.2.2.2.2.1 M0.1)]; exact M0.2.2.2.2.2.2.1
  have g1_an : k_1 an = some (.inl (0, 8192, .inl fn)) := by rw [e_k_1, av_up_ne (av_apart M0.2.2.2.2.2.2.2.1 M0.1)]; exact M0.2.2.2.2.2.2.2.1
  have g1_ab : k_1 ab = some (.inl (0, 8192, .inl fb)) := by rw [e_k_1, av_up_ne (av_apart M0.2.2.2.2.2.2.2.2 M0.1)]; exact M0.2.2.2.2.2.2.2.2
  have g1_m : k_1 m = some (.inr (5, [.int (nI 0), .ref ai, .int (nI cn), .ref am, .int (nI ln), .ref ak, .int (nI kl), .ref as_, .ref aks, .ref ar, .ref an, .ref ab, .int (nI mn)])) := by rw [e_k_1]; exact av_up_self _ _ _
  refine aw_aload_n d_M_size_5 rfl ?_
  refine aw_iload_n d_M_size_6 rfl ?_
  refine aw_callVi (mc2 := 0) (ms2 := 0) (r := bP False) (As := [.int k]) (rest := []) (c_M_isThere_neg g1_m g1_am K0.2.1 k_ln k hk) cv_M_156 d_M_size_7 g1_m rfl rfl rfl (Nat.le_of_ble_eq_true rfl) (by decide) (by decide) (by omega) (by omega) ?_
  refine aw_if_eq (tgt := 29) d_M_size_10 (by decide) (fun c_10 => ?_) (fun c_10 => ?_)
  · rw [bP_eq0] at c_10
    refine aw_iconst (v := (-1)) d_M_size_29 (by decide) ?_
    exact aw_iret d_M_size_30 rfl rfl ⟨by rfl, e_k_1⟩
  · rw [bP_eq0, Classical.not_not] at c_10
    exact c_10.elim

set_option maxHeartbeats 4000000 in
theorem c_M_field {tb : Nat → Nat} {h : AH} {m ai am ak as_ aks ar an ab cn ln kl mn : Nat} {cd : Int32} {B HB KB : Nat → Nat} {fs fks fq fn fb : Nat → Int32} (M0 : mS h m ai am ak as_ aks ar an ab cd cn ln kl mn B HB KB fs fks fq fn fb) (K0 : mOK cn ln kl B HB KB fs) (k : Nat) (hk : k < 2147483648) (i : Nat) (hi : i < 2147483648) : AM tb y_M_field b_M_field 4 (some .int) 3 62 [.ref m, .int (nI k), .int (nI i)] h 0 0 (m_PC (rField ln k i HB) h m ai cn am ln ak kl as_ aks ar an ab mn) := by
  have k_ln := K0.2.2.2.2.1
  have k_nn : nn HB < 65536 := bh_lt K0.2.1 6
  refine am_of (ini := false) [some (.ref m), some (.int (nI k)), some (.int (nI i)), none] (by decide) (fun z => by cases z) (Nat.le_of_ble_eq_true rfl) rfl ?_
  refine aw_aload_n d_M_field_0 rfl ?_
  refine aw_iconst (v := nI 0) d_M_field_1 (by decide) ?_
  refine aw_put (fs' := [.int (nI 0), .ref ai, .int (nI cn), .ref am, .int (nI ln), .ref ak, .int (nI kl), .ref as_, .ref aks, .ref ar, .ref an, .ref ab, .int (nI mn)]) (pt_M_36 _) d_M_field_2 M0.1 rfl rfl (by simp) rfl ?_
  obtain ⟨k_1, e_k_1⟩ : ∃ z, z = av_up h m (.inr (5, [.int (nI 0), .ref ai, .int (nI cn), .ref am, .int (nI ln), .ref ak, .int (nI kl), .ref as_, .ref aks, .ref ar, .ref an, .ref ab, .int (nI mn)])) := ⟨_, rfl⟩
  refine aw_heap (h' := k_1) e_k_1.symm ?_
  have g1_ai : k_1 ai = some (.inl (1, 65536, .inl (bsf B))) := by rw [e_k_1, av_up_ne (av_apart M0.2.1 M0.1)]; exact M0.2.1
  have g1_am : k_1 am = some (.inl (1, 65536, .inl (bsf HB))) := by rw [e_k_1, av_up_ne (av_apart M0.2.2.1 M0.1)]; exact M0.2.2.1
  have g1_ak : k_1 ak = some (.inl (1, 65536, .inl (bsf KB))) := by rw [e_k_1, av_up_ne (av_apart M0.2.2.2.1 M0.1)]; exact M0.2.2.2.1
  have g1_as_ : k_1 as_ = some (.inl (0, 8192, .inl fs)) := by rw [e_k_1, av_up_ne (av_apart M0.2.2.2.2.1 M0.1)]; exact M0.2.2.2.2.1
  have g1_aks : k_1 aks = some (.inl (0, 8192, .inl fks)) := by rw [e_k_1, av_up_ne (av_apart M0.2.2.2.2.2.1 M0.1)]; exact M0.2.2.2.2.2.1
  have g1_ar : k_1 ar = some (.inl (0, 8192, .inl fq)) := by rw [e_k_1, av_up_ne (av_apart M0.2.2.2.2.2.2.1 M0.1)]; exact M0.2.2.2.2.2.2.1
  have g1_an : k_1 an = some (.inl (0, 8192, .inl fn)) := by rw [e_k_1, av_up_ne (av_apart M0.2.2.2.2.2.2.2.1 M0.1)]; exact M0.2.2.2.2.2.2.2.1
  have g1_ab : k_1 ab = some (.inl (0, 8192, .inl fb)) := by rw [e_k_1, av_up_ne (av_apart M0.2.2.2.2.2.2.2.2 M0.1)]; exact M0.2.2.2.2.2.2.2.2
  have g1_m : k_1 m = some (.inr (5, [.int (nI 0), .ref ai, .int (nI cn), .ref am, .int (nI ln), .ref ak, .int (nI kl), .ref as_, .ref aks, .ref ar, .ref an, .ref ab, .int (nI mn)])) := by rw [e_k_1]; exact av_up_self _ _ _
  refine aw_aload_n d_M_field_5 rfl ?_
  refine aw_iload_n d_M_field_6 rfl ?_
  refine aw_callVi (mc2 := 0) (ms2 := 0) (r := bP (there ln k HB)) (As := [.int (nI k)]) (rest := []) (c_M_isThere g1_m g1_am K0.2.1 k_ln k (by omega)) cv_M_156 d_M_field_7 g1_m rfl rfl rfl (Nat.le_of_ble_eq_true rfl) (by decide) (by decide) (by omega) (by omega) ?_
  refine aw_if_eq (tgt := 54) d_M_field_10 (by decide) (fun c_10 => ?_) (fun c_10 => ?_)
  · rw [bP_eq0] at c_10
    refine aw_iconst (v := nI 0) d_M_field_54 (by decide) ?_
    refine aw_istore_n (L' := [some (.ref m), some (.int (nI k)), some (.int (nI i)), some (.int (nI 0))]) d_M_field_55 (by decide) rfl rfl ?_
    refine aw_iload_n d_M_field_56 rfl ?_
    refine aw_if_eq (tgt := 77) d_M_field_57 (by decide) (fun _ => ?_) (fun z => absurd (by decide) z)
    refine aw_iconst (v := nI 0) d_M_field_77 (by decide) ?_
    exact aw_iret d_M_field_78 rfl rfl ⟨by unfold rField; first | rw [rt_P (P := there ln k HB ∧ kd HB k ≠ 1 ∧ i < sz HB k) ⟨c_10, c_26, by omega⟩] | rw [rt_N (P := there ln k HB ∧ kd HB k ≠ 1 ∧ i < sz HB k) (fun q => c_10 q.1)] | rw [rt_N (P := there ln k HB ∧ kd HB k ≠ 1 ∧ i < sz HB k) (fun q => q.2.1 c_26)] | rw [rt_N (P := there ln k HB ∧ kd HB k ≠ 1 ∧ i < sz HB k) (fun q => c_26 q.2.1)] | rw [rt_N (P := there ln k HB ∧ kd HB k ≠ 1 ∧ i < sz HB k) (fun q => absurd q.2.2 (by omega))], e_k_1⟩
  · rw [bP_eq0, Classical.not_not] at c_10
    have X := (K0.2.2.2.2.2.2.1 c_10.1).2
    have t_1 := c_10.2.1
    have t_2 := c_10.2.2
    have hn := X.n
    refine aw_aload_n d_M_field_13 rfl ?_
    refine aw_get fl_M_14 d_M_field_14 g1_m rfl ?_
    refine aw_aload_n d_M_field_17 rfl ?_
    refine aw_get fl_M_20 d_M_field_18 g1_m rfl ?_
    refine aw_iload_n d_M_field_21 rfl ?_
    refine aw_iald (x := nI (oa HB k)) d_M_field_22 g1_as_ (vp_in_nI (by omega) (by omega)) (by rw [nI_clamp (by omega)]; exact (X).2 _ (by omega) (by omega)) ?_
    have o_22 := (X).at k (by omega) (by omega)
    refine aw_callSi (mc2 := 0) (ms2 := 0) (r := bP (kd HB k = 1)) (As := [.ref am, .int (nI (oa HB k))]) (rest := []) (c_M_isOfBytes K0.2.1 g1_am (by omega) (oa HB k) (by omega)) cs_M_50 d_M_field_23 rfl rfl (Nat.le_of_ble_eq_true rfl) (by decide) (by decide) (by omega) (by omega) ?_
    refine aw_if_ne (tgt := 54) d_M_field_26 (by decide) (fun c_26 => ?_) (fun c_26 => ?_)
    · rw [bP_eq0, Classical.not_not] at c_26
      refine aw_iconst (v := nI 0) d_M_field_54 (by decide) ?_
      refine aw_istore_n (L' := [some (.ref m), some (.int (nI k)), some (.int (nI i)), some (.int (nI 0))]) d_M_field_55 (by decide) rfl rfl ?_
      refine aw_iload_n d_M_field_56 rfl ?_
      refine aw_if_eq (tgt := 77) d_M_field_57 (by decide) (fun _ => ?_) (fun z => absurd (by decide) z)
      refine aw_iconst (v := nI 0) d_M_field_77 (by decide) ?_
      exact aw_iret d_M_field_78 rfl rfl ⟨by unfold rField; first | rw [rt_P (P := there ln k HB ∧ kd HB k ≠ 1 ∧ i < sz HB k) ⟨c_10, c_26, by omega⟩] | rw [rt_N (P := there ln k HB ∧ kd HB k ≠ 1 ∧ i < sz HB k) (fun q => c_10 q.1)] | rw [rt_N (P := there ln k HB ∧ kd HB k ≠ 1 ∧ i < sz HB k) (fun q => q.2.1 c_26)] | rw [rt_N (P := there ln k HB ∧ kd HB k ≠ 1 ∧ i < sz HB k) (fun q => c_26 q.2.1)] | rw [rt_N (P := there ln k HB ∧ kd HB k ≠ 1 ∧ i < sz HB k) (fun q => absurd q.2.2 (by omega))], e_k_1⟩
    · rw [bP_eq0] at c_26
      refine aw_iload_n d_M_field_29 rfl ?_
      refine aw_if_lt (tgt := 54) d_M_field_30 (by decide) (fun c_30 => absurd c_30 (nI_pos (by omega))) (fun _ => ?_)
      refine aw_iload_n d_M_field_33 rfl ?_
      refine aw_aload_n d_M_field_34 rfl ?_
      refine aw_get fl_M_14 d_M_field_35 g1_m rfl ?_
      refine aw_aload_n d_M_field_38 rfl ?_
      refine aw_get fl_M_20 d_M_field_39 g1_m rfl ?_
      refine aw_iload_n d_M_field_42 rfl ?_
      refine aw_iald (x := nI (oa HB k)) d_M_field_43 g1_as_ (vp_in_nI (by omega) (by omega)) (by rw [nI_clamp (by omega)]; exact (X).2 _ (by omega) (by omega)) ?_
      have o_43 := (X).at k (by omega) (by omega)
      refine aw_callSi (mc2 := 0) (ms2 := 0) (r := nI (sz HB k)) (As := [.ref am, .int (nI (oa HB k))]) (rest := [.int (nI i)]) (c_M_sizeAt K0.2.1 g1_am (by omega) (oa HB k) (by omega)) cs_M_54 d_M_field_44 rfl rfl (Nat.le_of_ble_eq_true rfl) (by decide) (by decide) (by omega) (by omega) ?_
      have b_44 := sz_lt K0.2.1 k
      refine aw_icmp_ge (tgt := 54) d_M_field_47 (by decide) (fun c_47 => ?_) (fun c_47 => ?_)
      · rw [nI_leI (by omega) (by omega)] at c_47
        refine aw_iconst (v := nI 0) d_M_field_54 (by decide) ?_
        refine aw_istore_n (L' := [some (.ref m), some (.int (nI k)), some (.int (nI i)), some (.int (nI 0))]) d_M_field_55 (by decide) rfl rfl ?_
        refine aw_iload_n d_M_field_56 rfl ?_
        refine aw_if_eq (tgt := 77) d_M_field_57 (by decide) (fun _ => ?_) (fun z => absurd (by decide) z)
        refine aw_iconst (v := nI 0) d_M_field_77 (by decide) ?_
        exact aw_iret d_M_field_78 rfl rfl ⟨by unfold rField; first | rw [rt_P (P := there ln k HB ∧ kd HB k ≠ 1 ∧ i < sz HB k) ⟨c_10, c_26, by omega⟩] | rw [rt_N (P := there ln k HB ∧ kd HB k ≠ 1 ∧ i < sz HB k) (fun q => c_10 q.1)] | rw [rt_N (P := there ln k HB ∧ kd HB k ≠ 1 ∧ i < sz HB k) (fun q => q.2.1 c_26)] | rw [rt_N (P := there ln k HB ∧ kd HB k ≠ 1 ∧ i < sz HB k) (fun q => c_26 q.2.1)] | rw [rt_N (P := there ln k HB ∧ kd HB k ≠ 1 ∧ i < sz HB k) (fun q => absurd q.2.2 (by omega))], e_k_1⟩
      · rw [nI_leI (by omega) (by omega)] at c_47
        have o_47 := X.fp k i t_1 t_2 c_26 (by omega)
        refine aw_iconst (v := nI 1) d_M_field_50 (by decide) ?_
        refine aw_goto (tgt := 55) d_M_field_51 (by decide) ?_
        refine aw_istore_n (L' := [some (.ref m), some (.int (nI k)), some (.int (nI i)), some (.int (nI 1))]) d_M_field_55 (by decide) rfl rfl ?_
        refine aw_iload_n d_M_field_56 rfl ?_
        refine aw_if_eq (tgt := 77) d_M_field_57 (by decide) (fun z => absurd z (by decide)) (fun _ => ?_)
        refine aw_aload_n d_M_field_60 rfl ?_
        refine aw_get fl_M_14 d_M_field_61 g1_m rfl ?_
        refine aw_aload_n d_M_field_64 rfl ?_
        refine aw_get fl_M_20 d_M_field_65 g1_m rfl ?_
        refine aw_iload_n d_M_field_68 rfl ?_
        refine aw_iald (x := nI (oa HB k)) d_M_field_69 g1_as_ (vp_in_nI (by omega) (by omega)) (by rw [nI_clamp (by omega)]; exact (X).2 _ (by omega) (by omega)) ?_
        have o_69 := (X).at k (by omega) (by omega)
        refine aw_iload_n d_M_field_70 rfl ?_
        refine aw_callSi (mc2 := 0) (ms2 := 0) (r := nI (fd HB k i)) (As := [.ref am, .int (nI (oa HB k)), .int (nI i)]) (rest := []) (c_M_fieldAt K0.2.1 g1_am (by omega) (oa HB k) i (by omega)) cs_M_61 d_M_field_71 rfl rfl (Nat.le_of_ble_eq_true rfl) (by decide) (by decide) (by omega) (by omega) ?_
        have b_71 := fd_lt K0.2.1 k i
        refine aw_goto (tgt := 78) d_M_field_74 (by decide) ?_
        exact aw_iret d_M_field_78 rfl rfl ⟨by unfold rField; first | rw [rt_P (P := there ln k HB ∧ kd HB k ≠ 1 ∧ i < sz HB k) ⟨c_10, c_26, by omega⟩] | rw [rt_N (P := there ln k HB ∧ kd HB k ≠ 1 ∧ i < sz HB k) (fun q => c_10 q.1)] | rw [rt_N (P := there ln k HB ∧ kd HB k ≠ 1 ∧ i < sz HB k) (fun q => q.2.1 c_26)] | rw [rt_N (P := there ln k HB ∧ kd HB k ≠ 1 ∧ i < sz HB k) (fun q => c_26 q.2.1)] | rw [rt_N (P := there ln k HB ∧ kd HB k ≠ 1 ∧ i < sz HB k) (fun q => absurd q.2.2 (by omega))], e_k_1⟩

set_option maxHeartbeats 4000000 in
theorem c_M_field_ineg {tb : Nat → Nat} {h : AH} {m ai am ak as_ aks ar an ab cn ln kl mn : Nat} {cd : Int32} {B HB KB : Nat → Nat} {fs fks fq fn fb : Nat → Int32} (M0 : mS h m ai am ak as_ aks ar an ab cd cn ln kl mn B HB KB fs fks fq fn fb) (K0 : mOK cn ln kl B HB KB fs) (k : Nat) (hk : k < 2147483648) (i : Int32) (hi : i < 0) : AM tb y_M_field b_M_field 4 (some .int) 3 62 [.ref m, .int (nI k), .int i] h 0 0 (m_PC (nI 0) h m ai cn am ln ak kl as_ aks ar an ab mn) := by
  have k_ln := K0.2.2.2.2.1
  have k_nn : nn HB < 65536 := bh_lt K0.2.1 6
  refine am_of (ini := false) [some (.ref m), some (.int (nI k)), some (.int i), none] (by decide) (fun z => by cases z) (Nat.le_of_ble_eq_true rfl) rfl ?_
  refine aw_aload_n d_M_field_0 rfl ?_
  refine aw_iconst (v := nI 0) d_M_field_1 (by decide) ?_
  refine aw_put (fs' := [.int (nI 0), .ref ai, .int (nI cn), .ref am, .int (nI ln), .ref ak, .int (nI kl), .ref as_, .ref aks, .ref ar, .ref an, .ref ab, .int (nI mn)]) (pt_M_36 _) d_M_field_2 M0.1 rfl rfl (by simp) rfl ?_
  obtain ⟨k_1, e_k_1⟩ : ∃ z, z = av_up h m (.inr (5, [.int (nI 0), .ref ai, .int (nI cn), .ref am, .int (nI ln), .ref ak, .int (nI kl), .ref as_, .ref aks, .ref ar, .ref an, .ref ab, .int (nI mn)])) := ⟨_, rfl⟩
  refine aw_heap (h' := k_1) e_k_1.symm ?_
  have g1_ai : k_1 ai = some (.inl (1, 65536, .inl (bsf B))) := by rw [e_k_1, av_up_ne (av_apart M0.2.1 M0.1)]; exact M0.2.1
  have g1_am : k_1 am = some (.inl (1, 65536, .inl (bsf HB))) := by rw [e_k_1, av_up_ne (av_apart M0.2.2.1 M0.1)]; exact M0.2.2.1
  have g1_ak : k_1 ak = some (.inl (1, 65536, .inl (bsf KB))) := by rw [e_k_1, av_up_ne (av_apart M0.2.2.2.1 M0.1)]; exact M0.2.2.2.1
  have g1_as_ : k_1 as_ = some (.inl (0, 8192, .inl fs)) := by rw [e_k_1, av_up_ne (av_apart M0.2.2.2.2.1 M0.1)]; exact M0.2.2.2.2.1
  have g1_aks : k_1 aks = some (.inl (0, 8192, .inl fks)) := by rw [e_k_1, av_up_ne (av_apart M0.2.2.2.2.2.1 M0.1)]; exact M0.2.2.2.2.2.1
  have g1_ar : k_1 ar = some (.inl (0, 8192, .inl fq)) := by rw [e_k_1, av_up_ne (av_apart M0.2.2.2.2.2.2.1 M0.1)]; exact M0.2.2.2.2.2.2.1
  have g1_an : k_1 an = some (.inl (0, 8192, .inl fn)) := by rw [e_k_1, av_up_ne (av_apart M0.2.2.2.2.2.2.2.1 M0.1)]; exact M0.2.2.2.2.2.2.2.1
  have g1_ab : k_1 ab = some (.inl (0, 8192, .inl fb)) := by rw [e_k_1, av_up_ne (av_apart M0.2.2.2.2.2.2.2.2 M0.1)]; exact M0.2.2.2.2.2.2.2.2
  have g1_m : k_1 m = some (.inr (5, [.int (nI 0), .ref ai, .int (nI cn), .ref am, .int (nI ln), .ref ak, .int (nI kl), .ref as_, .ref aks, .ref ar, .ref an, .ref ab, .int (nI mn)])) := by rw [e_k_1]; exact av_up_self _ _ _
  refine aw_aload_n d_M_field_5 rfl ?_
  refine aw_iload_n d_M_field_6 rfl ?_
  refine aw_callVi (mc2 := 0) (ms2 := 0) (r := bP (there ln k HB)) (As := [.int (nI k)]) (rest := []) (c_M_isThere g1_m g1_am K0.2.1 k_ln k (by omega)) cv_M_156 d_M_field_7 g1_m rfl rfl rfl (Nat.le_of_ble_eq_true rfl) (by decide) (by decide) (by omega) (by omega) ?_
  refine aw_if_eq (tgt := 54) d_M_field_10 (by decide) (fun c_10 => ?_) (fun c_10 => ?_)
  · rw [bP_eq0] at c_10
    refine aw_iconst (v := nI 0) d_M_field_54 (by decide) ?_
    refine aw_istore_n (L' := [some (.ref m), some (.int (nI k)), some (.int i), some (.int (nI 0))]) d_M_field_55 (by decide) rfl rfl ?_
    refine aw_iload_n d_M_field_56 rfl ?_
    refine aw_if_eq (tgt := 77) d_M_field_57 (by decide) (fun _ => ?_) (fun z => absurd (by decide) z)
    refine aw_iconst (v := nI 0) d_M_field_77 (by decide) ?_
    exact aw_iret d_M_field_78 rfl rfl ⟨by rfl, e_k_1⟩
  · rw [bP_eq0, Classical.not_not] at c_10
    have X := (K0.2.2.2.2.2.2.1 c_10.1).2
    have t_1 := c_10.2.1
    have t_2 := c_10.2.2
    have hn := X.n
    refine aw_aload_n d_M_field_13 rfl ?_
    refine aw_get fl_M_14 d_M_field_14 g1_m rfl ?_
    refine aw_aload_n d_M_field_17 rfl ?_
    refine aw_get fl_M_20 d_M_field_18 g1_m rfl ?_
    refine aw_iload_n d_M_field_21 rfl ?_
    refine aw_iald (x := nI (oa HB k)) d_M_field_22 g1_as_ (vp_in_nI (by omega) (by omega)) (by rw [nI_clamp (by omega)]; exact (X).2 _ (by omega) (by omega)) ?_
    have o_22 := (X).at k (by omega) (by omega)
    refine aw_callSi (mc2 := 0) (ms2 := 0) (r := bP (kd HB k = 1)) (As := [.ref am, .int (nI (oa HB k))]) (rest := []) (c_M_isOfBytes K0.2.1 g1_am (by omega) (oa HB k) (by omega)) cs_M_50 d_M_field_23 rfl rfl (Nat.le_of_ble_eq_true rfl) (by decide) (by decide) (by omega) (by omega) ?_
    refine aw_if_ne (tgt := 54) d_M_field_26 (by decide) (fun c_26 => ?_) (fun c_26 => ?_)
    · rw [bP_eq0, Classical.not_not] at c_26
      refine aw_iconst (v := nI 0) d_M_field_54 (by decide) ?_
      refine aw_istore_n (L' := [some (.ref m), some (.int (nI k)), some (.int i), some (.int (nI 0))]) d_M_field_55 (by decide) rfl rfl ?_
      refine aw_iload_n d_M_field_56 rfl ?_
      refine aw_if_eq (tgt := 77) d_M_field_57 (by decide) (fun _ => ?_) (fun z => absurd (by decide) z)
      refine aw_iconst (v := nI 0) d_M_field_77 (by decide) ?_
      exact aw_iret d_M_field_78 rfl rfl ⟨by rfl, e_k_1⟩
    · rw [bP_eq0] at c_26
      refine aw_iload_n d_M_field_29 rfl ?_
      refine aw_if_lt (tgt := 54) d_M_field_30 (by decide) (fun c_30 => ?_) (fun c_30 => absurd c_30 (by exact fun z => z hi))
      refine aw_iconst (v := nI 0) d_M_field_54 (by decide) ?_
      refine aw_istore_n (L' := [some (.ref m), some (.int (nI k)), some (.int i), some (.int (nI 0))]) d_M_field_55 (by decide) rfl rfl ?_
      refine aw_iload_n d_M_field_56 rfl ?_
      refine aw_if_eq (tgt := 77) d_M_field_57 (by decide) (fun _ => ?_) (fun z => absurd (by decide) z)
      refine aw_iconst (v := nI 0) d_M_field_77 (by decide) ?_
      exact aw_iret d_M_field_78 rfl rfl ⟨by rfl, e_k_1⟩

set_option maxHeartbeats 4000000 in
theorem c_M_field_neg {tb : Nat → Nat} {h : AH} {m ai am ak as_ aks ar an ab cn ln kl mn : Nat} {cd : Int32} {B HB KB : Nat → Nat} {fs fks fq fn fb : Nat → Int32} (M0 : mS h m ai am ak as_ aks ar an ab cd cn ln kl mn B HB KB fs fks fq fn fb) (K0 : mOK cn ln kl B HB KB fs) (k : Int32) (hk : k < 0) (i : Int32) : AM tb y_M_field b_M_field 4 (some .int) 1 21 [.ref m, .int k, .int i] h 0 0 (m_PC (nI 0) h m ai cn am ln ak kl as_ aks ar an ab mn) := by
  have k_ln := K0.2.2.2.2.1
  have k_nn : nn HB < 65536 := bh_lt K0.2.1 6
  refine am_of (ini := false) [some (.ref m), some (.int k), some (.int i), none] (by decide) (fun z => by cases z) (Nat.le_of_ble_eq_true rfl) rfl ?_
  refine aw_aload_n d_M_field_0 rfl ?_
  refine aw_iconst (v := nI 0) d_M_field_1 (by decide) ?_
  refine aw_put (fs' := [.int (nI 0), .ref ai, .int (nI cn), .ref am, .int (nI ln), .ref ak, .int (nI kl), .ref as_, .ref aks, .ref ar, .ref an, .ref ab, .int (nI mn)]) (pt_M_36 _) d_M_field_2 M0.1 rfl rfl (by simp) rfl ?_
  obtain ⟨k_1, e_k_1⟩ : ∃ z, z = av_up h m (.inr (5, [.int (nI 0), .ref ai, .int (nI cn), .ref am, .int (nI ln), .ref ak, .int (nI kl), .ref as_, .ref aks, .ref ar, .ref an, .ref ab, .int (nI mn)])) := ⟨_, rfl⟩
  refine aw_heap (h' := k_1) e_k_1.symm ?_
  have g1_ai : k_1 ai = some (.inl (1, 65536, .inl (bsf B))) := by rw [e_k_1, av_up_ne (av_apart M0.2.1 M0.1)]; exact M0.2.1
  have g1_am : k_1 am = some (.inl (1, 65536, .inl (bsf HB))) := by rw [e_k_1, av_up_ne (av_apart M0.2.2.1 M0.1)]; exact M0.2.2.1
  have g1_ak : k_1 ak = some (.inl (1, 65536, .inl (bsf KB))) := by rw [e_k_1, av_up_ne (av_apart M0.2.2.2.1 M0.1)]; exact M0.2.2.2.1
  have g1_as_ : k_1 as_ = some (.inl (0, 8192, .inl fs)) := by rw [e_k_1, av_up_ne (av_apart M0.2.2.2.2.1 M0.1)]; exact M0.2.2.2.2.1
  have g1_aks : k_1 aks = some (.inl (0, 8192, .inl fks)) := by rw [e_k_1, av_up_ne (av_apart M0.2.2.2.2.2.1 M0.1)]; exact M0.2.2.2.2.2.1
  have g1_ar : k_1 ar = some (.inl (0, 8192, .inl fq)) := by rw [e_k_1, av_up_ne (av_apart M0.2.2.2.2.2.2.1 M0.1)]; exact M0.2.2.2.2.2.2.1
  have g1_an : k_1 an = some (.inl (0, 8192, .inl fn)) := by rw [e_k_1, av_up_ne (av_apart M0.2.2.2.2.2.2.2.1 M0.1)]; exact M0.2.2.2.2.2.2.2.1
  have g1_ab : k_1 ab = some (.inl (0, 8192, .inl fb)) := by rw [e_k_1, av_up_ne (av_apart M0.2.2.2.2.2.2.2.2 M0.1)]; exact M0.2.2.2.2.2.2.2.2
  have g1_m : k_1 m = some (.inr (5, [.int (nI 0), .ref ai, .int (nI cn), .ref am, .int (nI ln), .ref ak, .int (nI kl), .ref as_, .ref aks, .ref ar, .ref an, .ref ab, .int (nI mn)])) := by rw [e_k_1]; exact av_up_self _ _ _
  refine aw_aload_n d_M_field_5 rfl ?_
  refine aw_iload_n d_M_field_6 rfl ?_
  refine aw_callVi (mc2 := 0) (ms2 := 0) (r := bP False) (As := [.int k]) (rest := []) (c_M_isThere_neg g1_m g1_am K0.2.1 k_ln k hk) cv_M_156 d_M_field_7 g1_m rfl rfl rfl (Nat.le_of_ble_eq_true rfl) (by decide) (by decide) (by omega) (by omega) ?_
  refine aw_if_eq (tgt := 54) d_M_field_10 (by decide) (fun c_10 => ?_) (fun c_10 => ?_)
  · rw [bP_eq0] at c_10
    refine aw_iconst (v := nI 0) d_M_field_54 (by decide) ?_
    refine aw_istore_n (L' := [some (.ref m), some (.int k), some (.int i), some (.int (nI 0))]) d_M_field_55 (by decide) rfl rfl ?_
    refine aw_iload_n d_M_field_56 rfl ?_
    refine aw_if_eq (tgt := 77) d_M_field_57 (by decide) (fun _ => ?_) (fun z => absurd (by decide) z)
    refine aw_iconst (v := nI 0) d_M_field_77 (by decide) ?_
    exact aw_iret d_M_field_78 rfl rfl ⟨by rfl, e_k_1⟩
  · rw [bP_eq0, Classical.not_not] at c_10
    exact c_10.elim

set_option maxHeartbeats 4000000 in
theorem c_M_byteAt {tb : Nat → Nat} {h : AH} {m ai am ak as_ aks ar an ab cn ln kl mn : Nat} {cd : Int32} {B HB KB : Nat → Nat} {fs fks fq fn fb : Nat → Int32} (M0 : mS h m ai am ak as_ aks ar an ab cd cn ln kl mn B HB KB fs fks fq fn fb) (K0 : mOK cn ln kl B HB KB fs) (k : Nat) (hk : k < 2147483648) (i : Nat) (hi : i < 2147483648) : AM tb y_M_byteAt b_M_byteAt 4 (some .int) 3 62 [.ref m, .int (nI k), .int (nI i)] h 0 0 (m_PC (rByte ln k i HB) h m ai cn am ln ak kl as_ aks ar an ab mn) := by
  have k_ln := K0.2.2.2.2.1
  have k_nn : nn HB < 65536 := bh_lt K0.2.1 6
  refine am_of (ini := false) [some (.ref m), some (.int (nI k)), some (.int (nI i)), none] (by decide) (fun z => by cases z) (Nat.le_of_ble_eq_true rfl) rfl ?_
  refine aw_aload_n d_M_byteAt_0 rfl ?_
  refine aw_iconst (v := nI 0) d_M_byteAt_1 (by decide) ?_
  refine aw_put (fs' := [.int (nI 0), .ref ai, .int (nI cn), .ref am, .int (nI ln), .ref ak, .int (nI kl), .ref as_, .ref aks, .ref ar, .ref an, .ref ab, .int (nI mn)]) (pt_M_36 _) d_M_byteAt_2 M0.1 rfl rfl (by simp) rfl ?_
  obtain ⟨k_1, e_k_1⟩ : ∃ z, z = av_up h m (.inr (5, [.int (nI 0), .ref ai, .int (nI cn), .ref am, .int (nI ln), .ref ak, .int (nI kl), .ref as_, .ref aks, .ref ar, .ref an, .ref ab, .int (nI mn)])) := ⟨_, rfl⟩
  refine aw_heap (h' := k_1) e_k_1.symm ?_
  have g1_ai : k_1 ai = some (.inl (1, 65536, .inl (bsf B))) := by rw [e_k_1, av_up_ne (av_apart M0.2.1 M0.1)]; exact M0.2.1
  have g1_am : k_1 am = some (.inl (1, 65536, .inl (bsf HB))) := by rw [e_k_1, av_up_ne (av_apart M0.2.2.1 M0.1)]; exact M0.2.2.1
  have g1_ak : k_1 ak = some (.inl (1, 65536, .inl (bsf KB))) := by rw [e_k_1, av_up_ne (av_apart M0.2.2.2.1 M0.1)]; exact M0.2.2.2.1
  have g1_as_ : k_1 as_ = some (.inl (0, 8192, .inl fs)) := by rw [e_k_1, av_up_ne (av_apart M0.2.2.2.2.1 M0.1)]; exact M0.2.2.2.2.1
  have g1_aks : k_1 aks = some (.inl (0, 8192, .inl fks)) := by rw [e_k_1, av_up_ne (av_apart M0.2.2.2.2.2.1 M0.1)]; exact M0.2.2.2.2.2.1
  have g1_ar : k_1 ar = some (.inl (0, 8192, .inl fq)) := by rw [e_k_1, av_up_ne (av_apart M0.2.2.2.2.2.2.1 M0.1)]; exact M0.2.2.2.2.2.2.1
  have g1_an : k_1 an = some (.inl (0, 8192, .inl fn)) := by rw [e_k_1, av_up_ne (av_apart M0.2.2.2.2.2.2.2.1 M0.1)]; exact M0.2.2.2.2.2.2.2.1
  have g1_ab : k_1 ab = some (.inl (0, 8192, .inl fb)) := by rw [e_k_1, av_up_ne (av_apart M0.2.2.2.2.2.2.2.2 M0.1)]; exact M0.2.2.2.2.2.2.2.2
  have g1_m : k_1 m = some (.inr (5, [.int (nI 0), .ref ai, .int (nI cn), .ref am, .int (nI ln), .ref ak, .int (nI kl), .ref as_, .ref aks, .ref ar, .ref an, .ref ab, .int (nI mn)])) := by rw [e_k_1]; exact av_up_self _ _ _
  refine aw_aload_n d_M_byteAt_5 rfl ?_
  refine aw_iload_n d_M_byteAt_6 rfl ?_
  refine aw_callVi (mc2 := 0) (ms2 := 0) (r := bP (there ln k HB)) (As := [.int (nI k)]) (rest := []) (c_M_isThere g1_m g1_am K0.2.1 k_ln k (by omega)) cv_M_156 d_M_byteAt_7 g1_m rfl rfl rfl (Nat.le_of_ble_eq_true rfl) (by decide) (by decide) (by omega) (by omega) ?_
  refine aw_if_eq (tgt := 54) d_M_byteAt_10 (by decide) (fun c_10 => ?_) (fun c_10 => ?_)
  · rw [bP_eq0] at c_10
    refine aw_iconst (v := nI 0) d_M_byteAt_54 (by decide) ?_
    refine aw_istore_n (L' := [some (.ref m), some (.int (nI k)), some (.int (nI i)), some (.int (nI 0))]) d_M_byteAt_55 (by decide) rfl rfl ?_
    refine aw_iload_n d_M_byteAt_56 rfl ?_
    refine aw_if_eq (tgt := 83) d_M_byteAt_57 (by decide) (fun _ => ?_) (fun z => absurd (by decide) z)
    refine aw_iconst (v := (-1)) d_M_byteAt_83 (by decide) ?_
    exact aw_iret d_M_byteAt_84 rfl rfl ⟨by unfold rByte; first | rw [rt_P (P := there ln k HB ∧ kd HB k = 1 ∧ i < sz HB k) ⟨c_10, c_26, by omega⟩] | rw [rt_N (P := there ln k HB ∧ kd HB k = 1 ∧ i < sz HB k) (fun q => c_10 q.1)] | rw [rt_N (P := there ln k HB ∧ kd HB k = 1 ∧ i < sz HB k) (fun q => q.2.1 c_26)] | rw [rt_N (P := there ln k HB ∧ kd HB k = 1 ∧ i < sz HB k) (fun q => c_26 q.2.1)] | rw [rt_N (P := there ln k HB ∧ kd HB k = 1 ∧ i < sz HB k) (fun q => absurd q.2.2 (by omega))], e_k_1⟩
  · rw [bP_eq0, Classical.not_not] at c_10
    have X := (K0.2.2.2.2.2.2.1 c_10.1).2
    have t_1 := c_10.2.1
    have t_2 := c_10.2.2
    have hn := X.n
    refine aw_aload_n d_M_byteAt_13 rfl ?_
    refine aw_get fl_M_14 d_M_byteAt_14 g1_m rfl ?_
    refine aw_aload_n d_M_byteAt_17 rfl ?_
    refine aw_get fl_M_20 d_M_byteAt_18 g1_m rfl ?_
    refine aw_iload_n d_M_byteAt_21 rfl ?_
    refine aw_iald (x := nI (oa HB k)) d_M_byteAt_22 g1_as_ (vp_in_nI (by omega) (by omega)) (by rw [nI_clamp (by omega)]; exact (X).2 _ (by omega) (by omega)) ?_
    have o_22 := (X).at k (by omega) (by omega)
    refine aw_callSi (mc2 := 0) (ms2 := 0) (r := bP (kd HB k = 1)) (As := [.ref am, .int (nI (oa HB k))]) (rest := []) (c_M_isOfBytes K0.2.1 g1_am (by omega) (oa HB k) (by omega)) cs_M_50 d_M_byteAt_23 rfl rfl (Nat.le_of_ble_eq_true rfl) (by decide) (by decide) (by omega) (by omega) ?_
    refine aw_if_eq (tgt := 54) d_M_byteAt_26 (by decide) (fun c_26 => ?_) (fun c_26 => ?_)
    · rw [bP_eq0] at c_26
      refine aw_iconst (v := nI 0) d_M_byteAt_54 (by decide) ?_
      refine aw_istore_n (L' := [some (.ref m), some (.int (nI k)), some (.int (nI i)), some (.int (nI 0))]) d_M_byteAt_55 (by decide) rfl rfl ?_
      refine aw_iload_n d_M_byteAt_56 rfl ?_
      refine aw_if_eq (tgt := 83) d_M_byteAt_57 (by decide) (fun _ => ?_) (fun z => absurd (by decide) z)
      refine aw_iconst (v := (-1)) d_M_byteAt_83 (by decide) ?_
      exact aw_iret d_M_byteAt_84 rfl rfl ⟨by unfold rByte; first | rw [rt_P (P := there ln k HB ∧ kd HB k = 1 ∧ i < sz HB k) ⟨c_10, c_26, by omega⟩] | rw [rt_N (P := there ln k HB ∧ kd HB k = 1 ∧ i < sz HB k) (fun q => c_10 q.1)] | rw [rt_N (P := there ln k HB ∧ kd HB k = 1 ∧ i < sz HB k) (fun q => q.2.1 c_26)] | rw [rt_N (P := there ln k HB ∧ kd HB k = 1 ∧ i < sz HB k) (fun q => c_26 q.2.1)] | rw [rt_N (P := there ln k HB ∧ kd HB k = 1 ∧ i < sz HB k) (fun q => absurd q.2.2 (by omega))], e_k_1⟩
    · rw [bP_eq0, Classical.not_not] at c_26
      refine aw_iload_n d_M_byteAt_29 rfl ?_
      refine aw_if_lt (tgt := 54) d_M_byteAt_30 (by decide) (fun c_30 => absurd c_30 (nI_pos (by omega))) (fun _ => ?_)
      refine aw_iload_n d_M_byteAt_33 rfl ?_
      refine aw_aload_n d_M_byteAt_34 rfl ?_
      refine aw_get fl_M_14 d_M_byteAt_35 g1_m rfl ?_
      refine aw_aload_n d_M_byteAt_38 rfl ?_
      refine aw_get fl_M_20 d_M_byteAt_39 g1_m rfl ?_
      refine aw_iload_n d_M_byteAt_42 rfl ?_
      refine aw_iald (x := nI (oa HB k)) d_M_byteAt_43 g1_as_ (vp_in_nI (by omega) (by omega)) (by rw [nI_clamp (by omega)]; exact (X).2 _ (by omega) (by omega)) ?_
      have o_43 := (X).at k (by omega) (by omega)
      refine aw_callSi (mc2 := 0) (ms2 := 0) (r := nI (sz HB k)) (As := [.ref am, .int (nI (oa HB k))]) (rest := [.int (nI i)]) (c_M_sizeAt K0.2.1 g1_am (by omega) (oa HB k) (by omega)) cs_M_54 d_M_byteAt_44 rfl rfl (Nat.le_of_ble_eq_true rfl) (by decide) (by decide) (by omega) (by omega) ?_
      have b_44 := sz_lt K0.2.1 k
      refine aw_icmp_ge (tgt := 54) d_M_byteAt_47 (by decide) (fun c_47 => ?_) (fun c_47 => ?_)
      · rw [nI_leI (by omega) (by omega)] at c_47
        refine aw_iconst (v := nI 0) d_M_byteAt_54 (by decide) ?_
        refine aw_istore_n (L' := [some (.ref m), some (.int (nI k)), some (.int (nI i)), some (.int (nI 0))]) d_M_byteAt_55 (by decide) rfl rfl ?_
        refine aw_iload_n d_M_byteAt_56 rfl ?_
        refine aw_if_eq (tgt := 83) d_M_byteAt_57 (by decide) (fun _ => ?_) (fun z => absurd (by decide) z)
        refine aw_iconst (v := (-1)) d_M_byteAt_83 (by decide) ?_
        exact aw_iret d_M_byteAt_84 rfl rfl ⟨by unfold rByte; first | rw [rt_P (P := there ln k HB ∧ kd HB k = 1 ∧ i < sz HB k) ⟨c_10, c_26, by omega⟩] | rw [rt_N (P := there ln k HB ∧ kd HB k = 1 ∧ i < sz HB k) (fun q => c_10 q.1)] | rw [rt_N (P := there ln k HB ∧ kd HB k = 1 ∧ i < sz HB k) (fun q => q.2.1 c_26)] | rw [rt_N (P := there ln k HB ∧ kd HB k = 1 ∧ i < sz HB k) (fun q => c_26 q.2.1)] | rw [rt_N (P := there ln k HB ∧ kd HB k = 1 ∧ i < sz HB k) (fun q => absurd q.2.2 (by omega))], e_k_1⟩
      · rw [nI_leI (by omega) (by omega)] at c_47
        have o_47 := X.bp k i t_1 t_2 c_26 (by omega)
        refine aw_iconst (v := nI 1) d_M_byteAt_50 (by decide) ?_
        refine aw_goto (tgt := 55) d_M_byteAt_51 (by decide) ?_
        refine aw_istore_n (L' := [some (.ref m), some (.int (nI k)), some (.int (nI i)), some (.int (nI 1))]) d_M_byteAt_55 (by decide) rfl rfl ?_
        refine aw_iload_n d_M_byteAt_56 rfl ?_
        refine aw_if_eq (tgt := 83) d_M_byteAt_57 (by decide) (fun z => absurd z (by decide)) (fun _ => ?_)
        refine aw_aload_n d_M_byteAt_60 rfl ?_
        refine aw_get fl_M_14 d_M_byteAt_61 g1_m rfl ?_
        refine aw_aload_n d_M_byteAt_64 rfl ?_
        refine aw_get fl_M_20 d_M_byteAt_65 g1_m rfl ?_
        refine aw_iload_n d_M_byteAt_68 rfl ?_
        refine aw_iald (x := nI (oa HB k)) d_M_byteAt_69 g1_as_ (vp_in_nI (by omega) (by omega)) (by rw [nI_clamp (by omega)]; exact (X).2 _ (by omega) (by omega)) ?_
        have o_69 := (X).at k (by omega) (by omega)
        refine aw_bipush (v := nI 7) d_M_byteAt_70 (by decide) ?_
        refine aw_iadd (v := nI (oa HB k + 7)) d_M_byteAt_72 (nI_add _ _) ?_
        refine aw_iload_n d_M_byteAt_73 rfl ?_
        refine aw_iadd (v := nI (oa HB k + 7 + i)) d_M_byteAt_74 (nI_add _ _) ?_
        refine aw_bald (x := bs (HB (oa HB k + 7 + i))) d_M_byteAt_75 g1_am (vp_in_nI (by omega) (by omega)) (by rw [nI_clamp (by omega)]; rfl) ?_
        refine aw_sipush (v := nI 255) d_M_byteAt_76 (by decide) ?_
        refine aw_iand (v := nI (bt HB k i)) d_M_byteAt_79 (bs_and (K0.2.1 _)) ?_
        refine aw_goto (tgt := 84) d_M_byteAt_80 (by decide) ?_
        exact aw_iret d_M_byteAt_84 rfl rfl ⟨by unfold rByte; first | rw [rt_P (P := there ln k HB ∧ kd HB k = 1 ∧ i < sz HB k) ⟨c_10, c_26, by omega⟩] | rw [rt_N (P := there ln k HB ∧ kd HB k = 1 ∧ i < sz HB k) (fun q => c_10 q.1)] | rw [rt_N (P := there ln k HB ∧ kd HB k = 1 ∧ i < sz HB k) (fun q => q.2.1 c_26)] | rw [rt_N (P := there ln k HB ∧ kd HB k = 1 ∧ i < sz HB k) (fun q => c_26 q.2.1)] | rw [rt_N (P := there ln k HB ∧ kd HB k = 1 ∧ i < sz HB k) (fun q => absurd q.2.2 (by omega))], e_k_1⟩

set_option maxHeartbeats 4000000 in
theorem c_M_byteAt_ineg {tb : Nat → Nat} {h : AH} {m ai am ak as_ aks ar an ab cn ln kl mn : Nat} {cd : Int32} {B HB KB : Nat → Nat} {fs fks fq fn fb : Nat → Int32} (M0 : mS h m ai am ak as_ aks ar an ab cd cn ln kl mn B HB KB fs fks fq fn fb) (K0 : mOK cn ln kl B HB KB fs) (k : Nat) (hk : k < 2147483648) (i : Int32) (hi : i < 0) : AM tb y_M_byteAt b_M_byteAt 4 (some .int) 3 62 [.ref m, .int (nI k), .int i] h 0 0 (m_PC (-1) h m ai cn am ln ak kl as_ aks ar an ab mn) := by
  have k_ln := K0.2.2.2.2.1
  have k_nn : nn HB < 65536 := bh_lt K0.2.1 6
  refine am_of (ini := false) [some (.ref m), some (.int (nI k)), some (.int i), none] (by decide) (fun z => by cases z) (Nat.le_of_ble_eq_true rfl) rfl ?_
  refine aw_aload_n d_M_byteAt_0 rfl ?_
  refine aw_iconst (v := nI 0) d_M_byteAt_1 (by decide) ?_
  refine aw_put (fs' := [.int (nI 0), .ref ai, .int (nI cn), .ref am, .int (nI ln), .ref ak, .int (nI kl), .ref as_, .ref aks, .ref ar, .ref an, .ref ab, .int (nI mn)]) (pt_M_36 _) d_M_byteAt_2 M0.1 rfl rfl (by simp) rfl ?_
  obtain ⟨k_1, e_k_1⟩ : ∃ z, z = av_up h m (.inr (5, [.int (nI 0), .ref ai, .int (nI cn), .ref am, .int (nI ln), .ref ak, .int (nI kl), .ref as_, .ref aks, .ref ar, .ref an, .ref ab, .int (nI mn)])) := ⟨_, rfl⟩
  refine aw_heap (h' := k_1) e_k_1.symm ?_
  have g1_ai : k_1 ai = some (.inl (1, 65536, .inl (bsf B))) := by rw [e_k_1, av_up_ne (av_apart M0.2.1 M0.1)]; exact M0.2.1
  have g1_am : k_1 am = some (.inl (1, 65536, .inl (bsf HB))) := by rw [e_k_1, av_up_ne (av_apart M0.2.2.1 M0.1)]; exact M0.2.2.1
  have g1_ak : k_1 ak = some (.inl (1, 65536, .inl (bsf KB))) := by rw [e_k_1, av_up_ne (av_apart M0.2.2.2.1 M0.1)]; exact M0.2.2.2.1
  have g1_as_ : k_1 as_ = some (.inl (0, 8192, .inl fs)) := by rw [e_k_1, av_up_ne (av_apart M0.2.2.2.2.1 M0.1)]; exact M0.2.2.2.2.1
  have g1_aks : k_1 aks = some (.inl (0, 8192, .inl fks)) := by rw [e_k_1, av_up_ne (av_apart M0.2.2.2.2.2.1 M0.1)]; exact M0.2.2.2.2.2.1
  have g1_ar : k_1 ar = some (.inl (0, 8192, .inl fq)) := by rw [e_k_1, av_up_ne (av_apart M0.2.2.2.2.2.2.1 M0.1)]; exact M0.2.2.2.2.2.2.1
  have g1_an : k_1 an = some (.inl (0, 8192, .inl fn)) := by rw [e_k_1, av_up_ne (av_apart M0.2.2.2.2.2.2.2.1 M0.1)]; exact M0.2.2.2.2.2.2.2.1
  have g1_ab : k_1 ab = some (.inl (0, 8192, .inl fb)) := by rw [e_k_1, av_up_ne (av_apart M0.2.2.2.2.2.2.2.2 M0.1)]; exact M0.2.2.2.2.2.2.2.2
  have g1_m : k_1 m = some (.inr (5, [.int (nI 0), .ref ai, .int (nI cn), .ref am, .int (nI ln), .ref ak, .int (nI kl), .ref as_, .ref aks, .ref ar, .ref an, .ref ab, .int (nI mn)])) := by rw [e_k_1]; exact av_up_self _ _ _
  refine aw_aload_n d_M_byteAt_5 rfl ?_
  refine aw_iload_n d_M_byteAt_6 rfl ?_
  refine aw_callVi (mc2 := 0) (ms2 := 0) (r := bP (there ln k HB)) (As := [.int (nI k)]) (rest := []) (c_M_isThere g1_m g1_am K0.2.1 k_ln k (by omega)) cv_M_156 d_M_byteAt_7 g1_m rfl rfl rfl (Nat.le_of_ble_eq_true rfl) (by decide) (by decide) (by omega) (by omega) ?_
  refine aw_if_eq (tgt := 54) d_M_byteAt_10 (by decide) (fun c_10 => ?_) (fun c_10 => ?_)
  · rw [bP_eq0] at c_10
    refine aw_iconst (v := nI 0) d_M_byteAt_54 (by decide) ?_
    refine aw_istore_n (L' := [some (.ref m), some (.int (nI k)), some (.int i), some (.int (nI 0))]) d_M_byteAt_55 (by decide) rfl rfl ?_
    refine aw_iload_n d_M_byteAt_56 rfl ?_
    refine aw_if_eq (tgt := 83) d_M_byteAt_57 (by decide) (fun _ => ?_) (fun z => absurd (by decide) z)
    refine aw_iconst (v := (-1)) d_M_byteAt_83 (by decide) ?_
    exact aw_iret d_M_byteAt_84 rfl rfl ⟨by rfl, e_k_1⟩
  · rw [bP_eq0, Classical.not_not] at c_10
    have X := (K0.2.2.2.2.2.2.1 c_10.1).2
    have t_1 := c_10.2.1
    have t_2 := c_10.2.2
    have hn := X.n
    refine aw_aload_n d_M_byteAt_13 rfl ?_
    refine aw_get fl_M_14 d_M_byteAt_14 g1_m rfl ?_
    refine aw_aload_n d_M_byteAt_17 rfl ?_
    refine aw_get fl_M_20 d_M_byteAt_18 g1_m rfl ?_
    refine aw_iload_n d_M_byteAt_21 rfl ?_
    refine aw_iald (x := nI (oa HB k)) d_M_byteAt_22 g1_as_ (vp_in_nI (by omega) (by omega)) (by rw [nI_clamp (by omega)]; exact (X).2 _ (by omega) (by omega)) ?_
    have o_22 := (X).at k (by omega) (by omega)
    refine aw_callSi (mc2 := 0) (ms2 := 0) (r := bP (kd HB k = 1)) (As := [.ref am, .int (nI (oa HB k))]) (rest := []) (c_M_isOfBytes K0.2.1 g1_am (by omega) (oa HB k) (by omega)) cs_M_50 d_M_byteAt_23 rfl rfl (Nat.le_of_ble_eq_true rfl) (by decide) (by decide) (by omega) (by omega) ?_
    refine aw_if_eq (tgt := 54) d_M_byteAt_26 (by decide) (fun c_26 => ?_) (fun c_26 => ?_)
    · rw [bP_eq0] at c_26
      refine aw_iconst (v := nI 0) d_M_byteAt_54 (by decide) ?_
      refine aw_istore_n (L' := [some (.ref m), some (.int (nI k)), some (.int i), some (.int (nI 0))]) d_M_byteAt_55 (by decide) rfl rfl ?_
      refine aw_iload_n d_M_byteAt_56 rfl ?_
      refine aw_if_eq (tgt := 83) d_M_byteAt_57 (by decide) (fun _ => ?_) (fun z => absurd (by decide) z)
      refine aw_iconst (v := (-1)) d_M_byteAt_83 (by decide) ?_
      exact aw_iret d_M_byteAt_84 rfl rfl ⟨by rfl, e_k_1⟩
    · rw [bP_eq0, Classical.not_not] at c_26
      refine aw_iload_n d_M_byteAt_29 rfl ?_
      refine aw_if_lt (tgt := 54) d_M_byteAt_30 (by decide) (fun c_30 => ?_) (fun c_30 => absurd c_30 (by exact fun z => z hi))
      refine aw_iconst (v := nI 0) d_M_byteAt_54 (by decide) ?_
      refine aw_istore_n (L' := [some (.ref m), some (.int (nI k)), some (.int i), some (.int (nI 0))]) d_M_byteAt_55 (by decide) rfl rfl ?_
      refine aw_iload_n d_M_byteAt_56 rfl ?_
      refine aw_if_eq (tgt := 83) d_M_byteAt_57 (by decide) (fun _ => ?_) (fun z => absurd (by decide) z)
      refine aw_iconst (v := (-1)) d_M_byteAt_83 (by decide) ?_
      exact aw_iret d_M_byteAt_84 rfl rfl ⟨by rfl, e_k_1⟩

set_option maxHeartbeats 4000000 in
theorem c_M_byteAt_neg {tb : Nat → Nat} {h : AH} {m ai am ak as_ aks ar an ab cn ln kl mn : Nat} {cd : Int32} {B HB KB : Nat → Nat} {fs fks fq fn fb : Nat → Int32} (M0 : mS h m ai am ak as_ aks ar an ab cd cn ln kl mn B HB KB fs fks fq fn fb) (K0 : mOK cn ln kl B HB KB fs) (k : Int32) (hk : k < 0) (i : Int32) : AM tb y_M_byteAt b_M_byteAt 4 (some .int) 1 21 [.ref m, .int k, .int i] h 0 0 (m_PC (-1) h m ai cn am ln ak kl as_ aks ar an ab mn) := by
  have k_ln := K0.2.2.2.2.1
  have k_nn : nn HB < 65536 := bh_lt K0.2.1 6
  refine am_of (ini := false) [some (.ref m), some (.int k), some (.int i), none] (by decide) (fun z => by cases z) (Nat.le_of_ble_eq_true rfl) rfl ?_
  refine aw_aload_n d_M_byteAt_0 rfl ?_
  refine aw_iconst (v := nI 0) d_M_byteAt_1 (by decide) ?_
  refine aw_put (fs' := [.int (nI 0), .ref ai, .int (nI cn), .ref am, .int (nI ln), .ref ak, .int (nI kl), .ref as_, .ref aks, .ref ar, .ref an, .ref ab, .int (nI mn)]) (pt_M_36 _) d_M_byteAt_2 M0.1 rfl rfl (by simp) rfl ?_
  obtain ⟨k_1, e_k_1⟩ : ∃ z, z = av_up h m (.inr (5, [.int (nI 0), .ref ai, .int (nI cn), .ref am, .int (nI ln), .ref ak, .int (nI kl), .ref as_, .ref aks, .ref ar, .ref an, .ref ab, .int (nI mn)])) := ⟨_, rfl⟩
  refine aw_heap (h' := k_1) e_k_1.symm ?_
  have g1_ai : k_1 ai = some (.inl (1, 65536, .inl (bsf B))) := by rw [e_k_1, av_up_ne (av_apart M0.2.1 M0.1)]; exact M0.2.1
  have g1_am : k_1 am = some (.inl (1, 65536, .inl (bsf HB))) := by rw [e_k_1, av_up_ne (av_apart M0.2.2.1 M0.1)]; exact M0.2.2.1
  have g1_ak : k_1 ak = some (.inl (1, 65536, .inl (bsf KB))) := by rw [e_k_1, av_up_ne (av_apart M0.2.2.2.1 M0.1)]; exact M0.2.2.2.1
  have g1_as_ : k_1 as_ = some (.inl (0, 8192, .inl fs)) := by rw [e_k_1, av_up_ne (av_apart M0.2.2.2.2.1 M0.1)]; exact M0.2.2.2.2.1
  have g1_aks : k_1 aks = some (.inl (0, 8192, .inl fks)) := by rw [e_k_1, av_up_ne (av_apart M0.2.2.2.2.2.1 M0.1)]; exact M0.2.2.2.2.2.1
  have g1_ar : k_1 ar = some (.inl (0, 8192, .inl fq)) := by rw [e_k_1, av_up_ne (av_apart M0.2.2.2.2.2.2.1 M0.1)]; exact M0.2.2.2.2.2.2.1
  have g1_an : k_1 an = some (.inl (0, 8192, .inl fn)) := by rw [e_k_1, av_up_ne (av_apart M0.2.2.2.2.2.2.2.1 M0.1)]; exact M0.2.2.2.2.2.2.2.1
  have g1_ab : k_1 ab = some (.inl (0, 8192, .inl fb)) := by rw [e_k_1, av_up_ne (av_apart M0.2.2.2.2.2.2.2.2 M0.1)]; exact M0.2.2.2.2.2.2.2.2
  have g1_m : k_1 m = some (.inr (5, [.int (nI 0), .ref ai, .int (nI cn), .ref am, .int (nI ln), .ref ak, .int (nI kl), .ref as_, .ref aks, .ref ar, .ref an, .ref ab, .int (nI mn)])) := by rw [e_k_1]; exact av_up_self _ _ _
  refine aw_aload_n d_M_byteAt_5 rfl ?_
  refine aw_iload_n d_M_byteAt_6 rfl ?_
  refine aw_callVi (mc2 := 0) (ms2 := 0) (r := bP False) (As := [.int k]) (rest := []) (c_M_isThere_neg g1_m g1_am K0.2.1 k_ln k hk) cv_M_156 d_M_byteAt_7 g1_m rfl rfl rfl (Nat.le_of_ble_eq_true rfl) (by decide) (by decide) (by omega) (by omega) ?_
  refine aw_if_eq (tgt := 54) d_M_byteAt_10 (by decide) (fun c_10 => ?_) (fun c_10 => ?_)
  · rw [bP_eq0] at c_10
    refine aw_iconst (v := nI 0) d_M_byteAt_54 (by decide) ?_
    refine aw_istore_n (L' := [some (.ref m), some (.int k), some (.int i), some (.int (nI 0))]) d_M_byteAt_55 (by decide) rfl rfl ?_
    refine aw_iload_n d_M_byteAt_56 rfl ?_
    refine aw_if_eq (tgt := 83) d_M_byteAt_57 (by decide) (fun _ => ?_) (fun z => absurd (by decide) z)
    refine aw_iconst (v := (-1)) d_M_byteAt_83 (by decide) ?_
    exact aw_iret d_M_byteAt_84 rfl rfl ⟨by rfl, e_k_1⟩
  · rw [bP_eq0, Classical.not_not] at c_10
    exact c_10.elim

set_option maxHeartbeats 4000000 in
theorem c_M_thrown {tb : Nat → Nat} {h : AH} {m ai am ak as_ aks ar an ab cn ln kl mn : Nat} {cd : Int32} {B HB KB : Nat → Nat} {fs fks fq fn fb : Nat → Int32} (M0 : mS h m ai am ak as_ aks ar an ab cd cn ln kl mn B HB KB fs fks fq fn fb)  : AM tb y_M_thrown b_M_thrown 1 (some .int) 0 0 [.ref m] h 0 0 (av_Pi cd h) := by
  refine am_of (ini := false) [some (.ref m)] (by decide) (fun z => by cases z) (Nat.le_of_ble_eq_true rfl) rfl ?_
  refine aw_aload_n d_M_thrown_0 rfl ?_
  refine aw_get fl_M_36 d_M_thrown_1 M0.1 rfl ?_
  exact aw_iret d_M_thrown_4 rfl rfl ⟨rfl, rfl⟩

set_option maxHeartbeats 4000000 in
theorem c_M_came {tb : Nat → Nat} {h : AH} {m ai am ak as_ aks ar an ab cn ln kl mn : Nat} {cd : Int32} {B HB KB : Nat → Nat} {fs fks fq fn fb : Nat → Int32} (M0 : mS h m ai am ak as_ aks ar an ab cd cn ln kl mn B HB KB fs fks fq fn fb) (K0 : mOK cn ln kl B HB KB fs) (k : Nat) (hk : k < 2147483648) : AM tb y_M_came b_M_came 2 (some .int) 0 0 [.ref m, .int (nI k)] h 0 0 (m_PC (if k < cn then nI (B k) else -1) h m ai cn am ln ak kl as_ aks ar an ab mn) := by
  have k_cn := K0.2.2.2.1
  refine am_of (ini := false) [some (.ref m), some (.int (nI k))] (by decide) (fun z => by cases z) (Nat.le_of_ble_eq_true rfl) rfl ?_
  refine aw_aload_n d_M_came_0 rfl ?_
  refine aw_iconst (v := nI 0) d_M_came_1 (by decide) ?_
  refine aw_put (fs' := [.int (nI 0), .ref ai, .int (nI cn), .ref am, .int (nI ln), .ref ak, .int (nI kl), .ref as_, .ref aks, .ref ar, .ref an, .ref ab, .int (nI mn)]) (pt_M_36 _) d_M_came_2 M0.1 rfl rfl (by simp) rfl ?_
  obtain ⟨k_1, e_k_1⟩ : ∃ z, z = av_up h m (.inr (5, [.int (nI 0), .ref ai, .int (nI cn), .ref am, .int (nI ln), .ref ak, .int (nI kl), .ref as_, .ref aks, .ref ar, .ref an, .ref ab, .int (nI mn)])) := ⟨_, rfl⟩
  refine aw_heap (h' := k_1) e_k_1.symm ?_
  have g1_ai : k_1 ai = some (.inl (1, 65536, .inl (bsf B))) := by rw [e_k_1, av_up_ne (av_apart M0.2.1 M0.1)]; exact M0.2.1
  have g1_am : k_1 am = some (.inl (1, 65536, .inl (bsf HB))) := by rw [e_k_1, av_up_ne (av_apart M0.2.2.1 M0.1)]; exact M0.2.2.1
  have g1_ak : k_1 ak = some (.inl (1, 65536, .inl (bsf KB))) := by rw [e_k_1, av_up_ne (av_apart M0.2.2.2.1 M0.1)]; exact M0.2.2.2.1
  have g1_as_ : k_1 as_ = some (.inl (0, 8192, .inl fs)) := by rw [e_k_1, av_up_ne (av_apart M0.2.2.2.2.1 M0.1)]; exact M0.2.2.2.2.1
  have g1_aks : k_1 aks = some (.inl (0, 8192, .inl fks)) := by rw [e_k_1, av_up_ne (av_apart M0.2.2.2.2.2.1 M0.1)]; exact M0.2.2.2.2.2.1
  have g1_ar : k_1 ar = some (.inl (0, 8192, .inl fq)) := by rw [e_k_1, av_up_ne (av_apart M0.2.2.2.2.2.2.1 M0.1)]; exact M0.2.2.2.2.2.2.1
  have g1_an : k_1 an = some (.inl (0, 8192, .inl fn)) := by rw [e_k_1, av_up_ne (av_apart M0.2.2.2.2.2.2.2.1 M0.1)]; exact M0.2.2.2.2.2.2.2.1
  have g1_ab : k_1 ab = some (.inl (0, 8192, .inl fb)) := by rw [e_k_1, av_up_ne (av_apart M0.2.2.2.2.2.2.2.2 M0.1)]; exact M0.2.2.2.2.2.2.2.2
  have g1_m : k_1 m = some (.inr (5, [.int (nI 0), .ref ai, .int (nI cn), .ref am, .int (nI ln), .ref ak, .int (nI kl), .ref as_, .ref aks, .ref ar, .ref an, .ref ab, .int (nI mn)])) := by rw [e_k_1]; exact av_up_self _ _ _
  refine aw_iload_n d_M_came_5 rfl ?_
  refine aw_if_lt (tgt := 17) d_M_came_6 (by decide) (fun c_6 => absurd c_6 (nI_pos (by omega))) (fun _ => ?_)
  refine aw_iload_n d_M_came_9 rfl ?_
  refine aw_aload_n d_M_came_10 rfl ?_
  refine aw_get fl_M_40 d_M_came_11 g1_m rfl ?_
  refine aw_icmp_lt (tgt := 21) d_M_came_14 (by decide) (fun c_14 => ?_) (fun c_14 => ?_)
  · rw [nI_ltI (by omega) (by omega)] at c_14
    refine aw_aload_n d_M_came_21 rfl ?_
    refine aw_get fl_M_8 d_M_came_22 g1_m rfl ?_
    refine aw_iload_n d_M_came_25 rfl ?_
    refine aw_bald (x := bs (B k)) d_M_came_26 g1_ai (vp_in_nI (by omega) (by omega)) (by rw [nI_clamp (by omega)]; rfl) ?_
    refine aw_sipush (v := nI 255) d_M_came_27 (by decide) ?_
    refine aw_iand (v := nI (B k)) d_M_came_30 (bs_and (K0.1 _)) ?_
    have b_30 := K0.1 k
    exact aw_iret d_M_came_31 rfl rfl ⟨by first | rw [if_pos (by omega)] | rw [if_neg (by omega)], e_k_1⟩
  · rw [nI_ltI (by omega) (by omega)] at c_14
    refine aw_iconst (v := (-1)) d_M_came_17 (by decide) ?_
    refine aw_goto (tgt := 31) d_M_came_18 (by decide) ?_
    exact aw_iret d_M_came_31 rfl rfl ⟨by first | rw [if_pos (by omega)] | rw [if_neg (by omega)], e_k_1⟩

set_option maxHeartbeats 4000000 in
theorem c_M_came_neg {tb : Nat → Nat} {h : AH} {m ai am ak as_ aks ar an ab cn ln kl mn : Nat} {cd : Int32} {B HB KB : Nat → Nat} {fs fks fq fn fb : Nat → Int32} (M0 : mS h m ai am ak as_ aks ar an ab cd cn ln kl mn B HB KB fs fks fq fn fb) (K0 : mOK cn ln kl B HB KB fs) (k : Int32) (hk : k < 0) : AM tb y_M_came b_M_came 2 (some .int) 0 0 [.ref m, .int k] h 0 0 (m_PC (-1) h m ai cn am ln ak kl as_ aks ar an ab mn) := by
  have k_cn := K0.2.2.2.1
  refine am_of (ini := false) [some (.ref m), some (.int k)] (by decide) (fun z => by cases z) (Nat.le_of_ble_eq_true rfl) rfl ?_
  refine aw_aload_n d_M_came_0 rfl ?_
  refine aw_iconst (v := nI 0) d_M_came_1 (by decide) ?_
  refine aw_put (fs' := [.int (nI 0), .ref ai, .int (nI cn), .ref am, .int (nI ln), .ref ak, .int (nI kl), .ref as_, .ref aks, .ref ar, .ref an, .ref ab, .int (nI mn)]) (pt_M_36 _) d_M_came_2 M0.1 rfl rfl (by simp) rfl ?_
  obtain ⟨k_1, e_k_1⟩ : ∃ z, z = av_up h m (.inr (5, [.int (nI 0), .ref ai, .int (nI cn), .ref am, .int (nI ln), .ref ak, .int (nI kl), .ref as_, .ref aks, .ref ar, .ref an, .ref ab, .int (nI mn)])) := ⟨_, rfl⟩
  refine aw_heap (h' := k_1) e_k_1.symm ?_
  have g1_ai : k_1 ai = some (.inl (1, 65536, .inl (bsf B))) := by rw [e_k_1, av_up_ne (av_apart M0.2.1 M0.1)]; exact M0.2.1
  have g1_am : k_1 am = some (.inl (1, 65536, .inl (bsf HB))) := by rw [e_k_1, av_up_ne (av_apart M0.2.2.1 M0.1)]; exact M0.2.2.1
  have g1_ak : k_1 ak = some (.inl (1, 65536, .inl (bsf KB))) := by rw [e_k_1, av_up_ne (av_apart M0.2.2.2.1 M0.1)]; exact M0.2.2.2.1
  have g1_as_ : k_1 as_ = some (.inl (0, 8192, .inl fs)) := by rw [e_k_1, av_up_ne (av_apart M0.2.2.2.2.1 M0.1)]; exact M0.2.2.2.2.1
  have g1_aks : k_1 aks = some (.inl (0, 8192, .inl fks)) := by rw [e_k_1, av_up_ne (av_apart M0.2.2.2.2.2.1 M0.1)]; exact M0.2.2.2.2.2.1
  have g1_ar : k_1 ar = some (.inl (0, 8192, .inl fq)) := by rw [e_k_1, av_up_ne (av_apart M0.2.2.2.2.2.2.1 M0.1)]; exact M0.2.2.2.2.2.2.1
  have g1_an : k_1 an = some (.inl (0, 8192, .inl fn)) := by rw [e_k_1, av_up_ne (av_apart M0.2.2.2.2.2.2.2.1 M0.1)]; exact M0.2.2.2.2.2.2.2.1
  have g1_ab : k_1 ab = some (.inl (0, 8192, .inl fb)) := by rw [e_k_1, av_up_ne (av_apart M0.2.2.2.2.2.2.2.2 M0.1)]; exact M0.2.2.2.2.2.2.2.2
  have g1_m : k_1 m = some (.inr (5, [.int (nI 0), .ref ai, .int (nI cn), .ref am, .int (nI ln), .ref ak, .int (nI kl), .ref as_, .ref aks, .ref ar, .ref an, .ref ab, .int (nI mn)])) := by rw [e_k_1]; exact av_up_self _ _ _
  refine aw_iload_n d_M_came_5 rfl ?_
  refine aw_if_lt (tgt := 17) d_M_came_6 (by decide) (fun c_6 => ?_) (fun c_6 => absurd c_6 (by exact fun z => z hk))
  refine aw_iconst (v := (-1)) d_M_came_17 (by decide) ?_
  refine aw_goto (tgt := 31) d_M_came_18 (by decide) ?_
  exact aw_iret d_M_came_31 rfl rfl ⟨by rfl, e_k_1⟩
