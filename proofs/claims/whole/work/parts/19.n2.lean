def uB (B : Nat → Nat) (k j : Nat) : Nat → Nat := fun i => if i = k then j else B i
theorem uB_upd (B : Nat → Nat) (k j : Nat) : upd (bsf B) k (vp_nar .byte (bs j)) = bsf (uB B k j) := by
  rw [bs_nar, bs_bs]
  exact bsf_upd B k j
theorem uB_lt {B : Nat → Nat} (hB : ∀ i, B i < 256) {j : Nat} (hj : j < 256) (k : Nat) : ∀ i, uB B k j i < 256 := fun i => by
  unfold uB
  split
  · exact hj
  · exact hB i
theorem shr_b {u t : Nat} (hu : u < 4294967296) (ht : t ≤ 24) : (nI u >>> (nI t &&& 31)).toInt8.toInt32 = bs (u / 2 ^ t % 256) := by
  rw [bs_toInt8]
  congr 1
  have e : ((nI t &&& 31).toBitVec.smod 32).toNat = t := (by decide +kernel : ∀ t, t ≤ 24 → ((nI t &&& 31).toBitVec.smod 32).toNat = t) t ht
  show ((nI u).toBitVec.sshiftRight (((nI t &&& 31).toBitVec.smod 32).toNat)).toNat % 256 = _
  rw [e]
  apply Nat.eq_of_testBit_eq
  intro i
  rw [show (256 : Nat) = 2 ^ 8 from rfl, Nat.testBit_mod_two_pow, Nat.testBit_mod_two_pow, Nat.testBit_div_two_pow]
  by_cases hi : i < 8
  · simp only [hi, decide_true, Bool.true_and]
    have q : ((nI u).toBitVec.sshiftRight t).getLsbD i = (nI u).toBitVec.getLsbD (t + i) := by
      rw [BitVec.getLsbD_sshiftRight]
      simp only [show ¬ 32 ≤ i by omega, decide_false, Bool.not_false, Bool.true_and, show t + i < 32 by omega, if_true]
    have q2 : (nI u).toBitVec.toNat = u := pk_tn hu
    show ((nI u).toBitVec.sshiftRight t).getLsbD i = _
    rw [q]
    show (nI u).toBitVec.toNat.testBit (t + i) = _
    rw [q2, Nat.add_comm]
  · simp only [hi, decide_false, Bool.false_and]
/-- byte k of the five ints -/
def wB (a b c d e k : Nat) : Nat := (if k < 4 then a else if k < 8 then b else if k < 12 then c else if k < 16 then d else e) / 2 ^ (24 - 8 * (k % 4)) % 256
/-- the first n of w behind the first c bytes -/
def apB (B : Nat → Nat) (c n : Nat) (w : Nat → Nat) : Nat → Nat := fun i => if c ≤ i ∧ i < c + n then w (i - c) else B i
theorem apB_0 (B : Nat → Nat) (c : Nat) (w : Nat → Nat) : apB B c 0 w = B := by
  funext i
  unfold apB
  rw [if_neg (by omega)]
theorem apB_s (B : Nat → Nat) (c n : Nat) (w : Nat → Nat) : uB (apB B c n w) (c + n) (w n) = apB B c (n + 1) w := by
  funext i
  unfold uB apB
  by_cases h : i = c + n
  · rw [if_pos h, if_pos (by omega), h]
    congr 1
    omega
  · rw [if_neg h]
    by_cases h2 : c ≤ i ∧ i < c + n
    · rw [if_pos h2, if_pos (by omega)]
    · rw [if_neg h2, if_neg (by omega)]
theorem apB_lt {B : Nat → Nat} (hB : ∀ i, B i < 256) {w : Nat → Nat} (hw : ∀ i, w i < 256) (c n : Nat) : ∀ i, apB B c n w i < 256 := fun i => by
  unfold apB
  split
  · exact hw _
  · exact hB i
theorem wB_lt (a b c d e k : Nat) : wB a b c d e k < 256 := Nat.mod_lt _ (by decide)
theorem av_up4 {h : AH} {a m : Nat} (hn : a ≠ m) (e1 e2 e3 e4 : AE) : av_up (av_up (av_up (av_up h a e1) m e2) a e3) m e4 = av_up (av_up h a e3) m e4 := by
  funext q
  unfold av_up
  by_cases h1 : q = m
  · simp [h1]
  · by_cases h2 : q = a
    · simp [h2, hn]
    · simp [h1, h2]
theorem av_upc {h : AH} {a m : Nat} (hn : a ≠ m) (e1 e2 : AE) : av_up (av_up h a e1) m e2 = av_up (av_up h m e2) a e1 := by
  funext q
  unfold av_up
  by_cases h1 : q = m
  · have : ¬ q = a := fun z => hn (z.symm.trans h1)
    simp [h1, Ne.symm hn]
  · by_cases h2 : q = a
    · simp [h2, hn]
    · simp [h1, h2]

set_option maxHeartbeats 4000000 in
theorem c_M_end {tb : Nat → Nat} {h : AH} {m ai am ak as_ aks ar an ab cn ln kl mn : Nat} {cd : Int32} {B HB KB : Nat → Nat} {fs fks fq fn fb : Nat → Int32} (M0 : mS h m ai am ak as_ aks ar an ab cd cn ln kl mn B HB KB fs fks fq fn fb) (K0 : mOK cn ln kl B HB KB fs) (k : Nat) (hk : k < 2147483648) : AM tb y_M_end b_M_end 3 (some .int) 0 0 [.ref m, .int (nI k)] h 0 0 (fun v h' => (k ≤ cn → v = some (.int (nI cn)) ∧ h' = av_up h m (mO (nI 0) ai k am ln ak kl as_ aks ar an ab mn)) ∧ (cn < k → v = some (.int (nI 0)) ∧ h' = av_up h m (mO (nI 1) ai cn am ln ak kl as_ aks ar an ab mn))) := by
  have k_cn := K0.2.2.2.1
  refine am_of (ini := false) [some (.ref m), some (.int (nI k)), none] (by decide) (fun z => by cases z) (Nat.le_of_ble_eq_true rfl) rfl ?_
  refine aw_aload_n d_M_end_0 rfl ?_
  refine aw_iload_n d_M_end_1 rfl ?_
  refine aw_if_lt (tgt := 13) d_M_end_2 (by decide) (fun c_2 => absurd c_2 (nI_pos (by omega))) (fun _ => ?_)
  refine aw_iload_n d_M_end_5 rfl ?_
  refine aw_aload_n d_M_end_6 rfl ?_
  refine aw_get fl_M_40 d_M_end_7 M0.1 rfl ?_
  refine aw_icmp_le (tgt := 17) d_M_end_10 (by decide) (fun c_10 => ?_) (fun c_10 => ?_)
  · rw [nI_leI (by omega) (by omega)] at c_10
    refine aw_iconst (v := nI 0) d_M_end_17 (by decide) ?_
    refine aw_put (fs' := [.int (nI 0), .ref ai, .int (nI cn), .ref am, .int (nI ln), .ref ak, .int (nI kl), .ref as_, .ref aks, .ref ar, .ref an, .ref ab, .int (nI mn)]) (pt_M_36 _) d_M_end_18 M0.1 rfl rfl (by simp) rfl ?_
    obtain ⟨k_1, e_k_1⟩ : ∃ z, z = av_up h m (.inr (5, [.int (nI 0), .ref ai, .int (nI cn), .ref am, .int (nI ln), .ref ak, .int (nI kl), .ref as_, .ref aks, .ref ar, .ref an, .ref ab, .int (nI mn)])) := ⟨_, rfl⟩
    refine aw_heap (h' := k_1) e_k_1.symm ?_
    have g1_ai : k_1 ai = some (.inl (1, 65536, .inl (bsf B))) := by rw [e_k_1, av_up_ne (av_apart M0.2.1 M0.1)]; exact M0.2.1
    have g1_am : k_1 am = some (.inl (1, 65536, .inl (bsf HB))) := by rw [e_k_1, av_up_ne (av_apart M0.2.2.1 M0.1)]; exact M0.2.2.1
    have g1_ak : k_1 ak = some (.inl (1, 65536, .inl (bsf KB))) := by rw [e_k_1, av_up_ne (av_apart M0.2.2.2.1 M0.1)]; exact M0.2.2.2.1
    have g1_as_ : k_1 as_ = some (.inl (0, 8192, .inl fs)) := by rw [e_k_1, av_up_ne (av_apart M0.2.2.2.2.1 M0.1)]; exact M0.2.2.2.2.1
    have g1_aks : k_1 aks = some (.inl (0, 8192, .inl fks)) := by rw [e_k_1, av_up_ne (av_apart M0.2.2.2.2.2.1 M0.1)]; exact M0.2.2.2.2.2.1
    have g1_ar : k_1 ar = some (.inl (0, 8192, .inl fq)) := by rw [e_k_1, av_up_ne (av_apart M0.2.2.2.2.2.2.1 M0.1)]; exact M0.2.2.2.2.2.2.1
    have g1_an : k_1 an = some (.inl (0, 8192, .inl fn)) := by rw [e_k_1, av_up_ne (av_apart M0.2.2.2.2.2.2.2.1 M0.1)]; exact M0.2.2.2.2.2.2.2.1
    have g1_ab : k_1 ab = some (.inl (0, 8192, .inl fb)) := by rw [e_k_1, av_up_ne (av_apart M0.2.2.2.2.2.2.2.2 M0.1)]; exact M0.2.2.2.2.2.2.2.2
    have g1_m : k_1 m = some (.inr (5, [.int (nI 0), .ref ai, .int (nI cn), .ref am, .int (nI ln), .ref ak, .int (nI kl), .ref as_, .ref aks, .ref ar, .ref an, .ref ab, .int (nI mn)])) := by rw [e_k_1]; exact av_up_self _ _ _
    refine aw_aload_n d_M_end_21 rfl ?_
    refine aw_get fl_M_36 d_M_end_22 g1_m rfl ?_
    refine aw_if_le (tgt := 30) d_M_end_25 (by decide) (fun _ => ?_) (fun z => absurd (by decide) z)
    refine aw_aload_n d_M_end_30 rfl ?_
    refine aw_get fl_M_40 d_M_end_31 g1_m rfl ?_
    refine aw_istore_n (L' := [some (.ref m), some (.int (nI k)), some (.int (nI cn))]) d_M_end_34 (by decide) rfl rfl ?_
    refine aw_aload_n d_M_end_35 rfl ?_
    refine aw_iload_n d_M_end_36 rfl ?_
    refine aw_put (fs' := [.int (nI 0), .ref ai, .int (nI k), .ref am, .int (nI ln), .ref ak, .int (nI kl), .ref as_, .ref aks, .ref ar, .ref an, .ref ab, .int (nI mn)]) (pt_M_40 _) d_M_end_37 g1_m rfl rfl (by simp) rfl ?_
    obtain ⟨k_2, e_k_2⟩ : ∃ z, z = av_up k_1 m (.inr (5, [.int (nI 0), .ref ai, .int (nI k), .ref am, .int (nI ln), .ref ak, .int (nI kl), .ref as_, .ref aks, .ref ar, .ref an, .ref ab, .int (nI mn)])) := ⟨_, rfl⟩
    refine aw_heap (h' := k_2) e_k_2.symm ?_
    have g2_ai : k_2 ai = some (.inl (1, 65536, .inl (bsf B))) := by rw [e_k_2, av_up_ne (av_apart g1_ai g1_m)]; exact g1_ai
    have g2_am : k_2 am = some (.inl (1, 65536, .inl (bsf HB))) := by rw [e_k_2, av_up_ne (av_apart g1_am g1_m)]; exact g1_am
    have g2_ak : k_2 ak = some (.inl (1, 65536, .inl (bsf KB))) := by rw [e_k_2, av_up_ne (av_apart g1_ak g1_m)]; exact g1_ak
    have g2_as_ : k_2 as_ = some (.inl (0, 8192, .inl fs)) := by rw [e_k_2, av_up_ne (av_apart g1_as_ g1_m)]; exact g1_as_
    have g2_aks : k_2 aks = some (.inl (0, 8192, .inl fks)) := by rw [e_k_2, av_up_ne (av_apart g1_aks g1_m)]; exact g1_aks
    have g2_ar : k_2 ar = some (.inl (0, 8192, .inl fq)) := by rw [e_k_2, av_up_ne (av_apart g1_ar g1_m)]; exact g1_ar
    have g2_an : k_2 an = some (.inl (0, 8192, .inl fn)) := by rw [e_k_2, av_up_ne (av_apart g1_an g1_m)]; exact g1_an
    have g2_ab : k_2 ab = some (.inl (0, 8192, .inl fb)) := by rw [e_k_2, av_up_ne (av_apart g1_ab g1_m)]; exact g1_ab
    have g2_m : k_2 m = some (.inr (5, [.int (nI 0), .ref ai, .int (nI k), .ref am, .int (nI ln), .ref ak, .int (nI kl), .ref as_, .ref aks, .ref ar, .ref an, .ref ab, .int (nI mn)])) := by rw [e_k_2]; exact av_up_self _ _ _
    refine aw_iload_n d_M_end_40 rfl ?_
    exact aw_iret d_M_end_41 rfl rfl ⟨fun _ => ⟨rfl, by rw [e_k_2, e_k_1, av_up_up]⟩, fun q => absurd q (by omega)⟩
  · rw [nI_leI (by omega) (by omega)] at c_10
    refine aw_iconst (v := nI 1) d_M_end_13 (by decide) ?_
    refine aw_goto (tgt := 18) d_M_end_14 (by decide) ?_
    refine aw_put (fs' := [.int (nI 1), .ref ai, .int (nI cn), .ref am, .int (nI ln), .ref ak, .int (nI kl), .ref as_, .ref aks, .ref ar, .ref an, .ref ab, .int (nI mn)]) (pt_M_36 _) d_M_end_18 M0.1 rfl rfl (by simp) rfl ?_
    obtain ⟨k_3, e_k_3⟩ : ∃ z, z = av_up h m (.inr (5, [.int (nI 1), .ref ai, .int (nI cn), .ref am, .int (nI ln), .ref ak, .int (nI kl), .ref as_, .ref aks, .ref ar, .ref an, .ref ab, .int (nI mn)])) := ⟨_, rfl⟩
    refine aw_heap (h' := k_3) e_k_3.symm ?_
    have g3_ai : k_3 ai = some (.inl (1, 65536, .inl (bsf B))) := by rw [e_k_3, av_up_ne (av_apart M0.2.1 M0.1)]; exact M0.2.1
    have g3_am : k_3 am = some (.inl (1, 65536, .inl (bsf HB))) := by rw [e_k_3, av_up_ne (av_apart M0.2.2.1 M0.1)]; exact M0.2.2.1
    have g3_ak : k_3 ak = some (.inl (1, 65536, .inl (bsf KB))) := by rw [e_k_3, av_up_ne (av_apart M0.2.2.2.1 M0.1)]; exact M0.2.2.2.1
    have g3_as_ : k_3 as_ = some (.inl (0, 8192, .inl fs)) := by rw [e_k_3, av_up_ne (av_apart M0.2.2.2.2.1 M0.1)]; exact M0.2.2.2.2.1
    have g3_aks : k_3 aks = some (.inl (0, 8192, .inl fks)) := by rw [e_k_3, av_up_ne (av_apart M0.2.2.2.2.2.1 M0.1)]; exact M0.2.2.2.2.2.1
    have g3_ar : k_3 ar = some (.inl (0, 8192, .inl fq)) := by rw [e_k_3, av_up_ne (av_apart M0.2.2.2.2.2.2.1 M0.1)]; exact M0.2.2.2.2.2.2.1
    have g3_an : k_3 an = some (.inl (0, 8192, .inl fn)) := by rw [e_k_3, av_up_ne (av_apart M0.2.2.2.2.2.2.2.1 M0.1)]; exact M0.2.2.2.2.2.2.2.1
    have g3_ab : k_3 ab = some (.inl (0, 8192, .inl fb)) := by rw [e_k_3, av_up_ne (av_apart M0.2.2.2.2.2.2.2.2 M0.1)]; exact M0.2.2.2.2.2.2.2.2
    have g3_m : k_3 m = some (.inr (5, [.int (nI 1), .ref ai, .int (nI cn), .ref am, .int (nI ln), .ref ak, .int (nI kl), .ref as_, .ref aks, .ref ar, .ref an, .ref ab, .int (nI mn)])) := by rw [e_k_3]; exact av_up_self _ _ _
    refine aw_aload_n d_M_end_21 rfl ?_
    refine aw_get fl_M_36 d_M_end_22 g3_m rfl ?_
    refine aw_if_le (tgt := 30) d_M_end_25 (by decide) (fun z => absurd z (by decide)) (fun _ => ?_)
    refine aw_iconst (v := nI 0) d_M_end_28 (by decide) ?_
    exact aw_iret d_M_end_29 rfl rfl ⟨fun q => absurd q (by omega), fun _ => ⟨rfl, e_k_3⟩⟩

set_option maxHeartbeats 4000000 in
theorem c_M_end_neg {tb : Nat → Nat} {h : AH} {m ai am ak as_ aks ar an ab cn ln kl mn : Nat} {cd : Int32} {B HB KB : Nat → Nat} {fs fks fq fn fb : Nat → Int32} (M0 : mS h m ai am ak as_ aks ar an ab cd cn ln kl mn B HB KB fs fks fq fn fb) (K0 : mOK cn ln kl B HB KB fs) (k : Int32) (hk : k < 0) : AM tb y_M_end b_M_end 3 (some .int) 0 0 [.ref m, .int k] h 0 0 (fun v h' => v = some (.int (nI 0)) ∧ h' = av_up h m (mO (nI 1) ai cn am ln ak kl as_ aks ar an ab mn)) := by
  have k_cn := K0.2.2.2.1
  refine am_of (ini := false) [some (.ref m), some (.int k), none] (by decide) (fun z => by cases z) (Nat.le_of_ble_eq_true rfl) rfl ?_
  refine aw_aload_n d_M_end_0 rfl ?_
  refine aw_iload_n d_M_end_1 rfl ?_
  refine aw_if_lt (tgt := 13) d_M_end_2 (by decide) (fun c_2 => ?_) (fun c_2 => absurd c_2 (by exact fun z => z hk))
  refine aw_iconst (v := nI 1) d_M_end_13 (by decide) ?_
  refine aw_goto (tgt := 18) d_M_end_14 (by decide) ?_
  refine aw_put (fs' := [.int (nI 1), .ref ai, .int (nI cn), .ref am, .int (nI ln), .ref ak, .int (nI kl), .ref as_, .ref aks, .ref ar, .ref an, .ref ab, .int (nI mn)]) (pt_M_36 _) d_M_end_18 M0.1 rfl rfl (by simp) rfl ?_
  obtain ⟨k_1, e_k_1⟩ : ∃ z, z = av_up h m (.inr (5, [.int (nI 1), .ref ai, .int (nI cn), .ref am, .int (nI ln), .ref ak, .int (nI kl), .ref as_, .ref aks, .ref ar, .ref an, .ref ab, .int (nI mn)])) := ⟨_, rfl⟩
  refine aw_heap (h' := k_1) e_k_1.symm ?_
  have g1_ai : k_1 ai = some (.inl (1, 65536, .inl (bsf B))) := by rw [e_k_1, av_up_ne (av_apart M0.2.1 M0.1)]; exact M0.2.1
  have g1_am : k_1 am = some (.inl (1, 65536, .inl (bsf HB))) := by rw [e_k_1, av_up_ne (av_apart M0.2.2.1 M0.1)]; exact M0.2.2.1
  have g1_ak : k_1 ak = some (.inl (1, 65536, .inl (bsf KB))) := by rw [e_k_1, av_up_ne (av_apart M0.2.2.2.1 M0.1)]; exact M0.2.2.2.1
  have g1_as_ : k_1 as_ = some (.inl (0, 8192, .inl fs)) := by rw [e_k_1, av_up_ne (av_apart M0.2.2.2.2.1 M0.1)]; exact M0.2.2.2.2.1
  have g1_aks : k_1 aks = some (.inl (0, 8192, .inl fks)) := by rw [e_k_1, av_up_ne (av_apart M0.2.2.2.2.2.1 M0.1)]; exact M0.2.2.2.2.2.1
  have g1_ar : k_1 ar = some (.inl (0, 8192, .inl fq)) := by rw [e_k_1, av_up_ne (av_apart M0.2.2.2.2.2.2.1 M0.1)]; exact M0.2.2.2.2.2.2.1
  have g1_an : k_1 an = some (.inl (0, 8192, .inl fn)) := by rw [e_k_1, av_up_ne (av_apart M0.2.2.2.2.2.2.2.1 M0.1)]; exact M0.2.2.2.2.2.2.2.1
  have g1_ab : k_1 ab = some (.inl (0, 8192, .inl fb)) := by rw [e_k_1, av_up_ne (av_apart M0.2.2.2.2.2.2.2.2 M0.1)]; exact M0.2.2.2.2.2.2.2.2
  have g1_m : k_1 m = some (.inr (5, [.int (nI 1), .ref ai, .int (nI cn), .ref am, .int (nI ln), .ref ak, .int (nI kl), .ref as_, .ref aks, .ref ar, .ref an, .ref ab, .int (nI mn)])) := by rw [e_k_1]; exact av_up_self _ _ _
  refine aw_aload_n d_M_end_21 rfl ?_
  refine aw_get fl_M_36 d_M_end_22 g1_m rfl ?_
  refine aw_if_le (tgt := 30) d_M_end_25 (by decide) (fun z => absurd z (by decide)) (fun _ => ?_)
  refine aw_iconst (v := nI 0) d_M_end_28 (by decide) ?_
  exact aw_iret d_M_end_29 rfl rfl ⟨rfl, e_k_1⟩

set_option maxHeartbeats 4000000 in
theorem c_M_change {tb : Nat → Nat} {h : AH} {m ai am ak as_ aks ar an ab cn ln kl mn : Nat} {cd : Int32} {B HB KB : Nat → Nat} {fs fks fq fn fb : Nat → Int32} (M0 : mS h m ai am ak as_ aks ar an ab cd cn ln kl mn B HB KB fs fks fq fn fb) (K0 : mOK cn ln kl B HB KB fs) (D0 : mND ai am ak as_ aks ar an ab) (k : Nat) (hk : k < 2147483648) (j : Nat) (hj : j < 2147483648) : AM tb y_M_change b_M_change 4 (some .int) 0 0 [.ref m, .int (nI k), .int (nI j)] h 0 0 (fun v h' => (k < cn ∧ j ≤ 255 → v = some (.int (nI (B k))) ∧ h' = av_up (av_up h m (mO (nI 0) ai cn am ln ak kl as_ aks ar an ab mn)) ai (.inl (1, 65536, .inl (bsf (uB B k j))))) ∧ (¬ (k < cn ∧ j ≤ 255) → v = some (.int (-1)) ∧ h' = av_up h m (mO (nI 0) ai cn am ln ak kl as_ aks ar an ab mn))) := by
  have k_cn := K0.2.2.2.1
  refine am_of (ini := false) [some (.ref m), some (.int (nI k)), some (.int (nI j)), none] (by decide) (fun z => by cases z) (Nat.le_of_ble_eq_true rfl) rfl ?_
  refine aw_aload_n d_M_change_0 rfl ?_
  refine aw_iconst (v := nI 0) d_M_change_1 (by decide) ?_
  refine aw_put (fs' := [.int (nI 0), .ref ai, .int (nI cn), .ref am, .int (nI ln), .ref ak, .int (nI kl), .ref as_, .ref aks, .ref ar, .ref an, .ref ab, .int (nI mn)]) (pt_M_36 _) d_M_change_2 M0.1 rfl rfl (by simp) rfl ?_
  obtain ⟨k_1, e_k_1⟩ : ∃ z, z = av_up h m (.inr (5, [.int (nI 0), .ref ai, .int (nI cn), .ref am, .int (nI ln), .ref ak, .int (nI kl), .ref as_, .ref aks, .ref ar, .ref an, .ref ab, .int (nI mn)])) := ⟨_, rfl⟩
  refine aw_heap (h' := k_1) e_k_1.symm ?_
  have g1_ai : k_1 ai = some (.inl (1, 65536, .inl (bsf B))) := by rw [e_k_1, av_up_ne (av_apart M0.2.1 M0.1)]; exact M0.2.1
  have g1_am : k_1 am = some (.inl (1, 65536, .inl (bsf HB))) := by rw [e_k_1, av_up_ne (av_apart M0.2.2.1 M0.1)]; exact M0.2.2.1
  have g1_ak : k_1 ak = some (.inl (1, 65536, .inl (bsf KB))) := by rw [e_k_1, av_up_ne (av_apart M0.2.2.2.1 M0.1)]; exact M0.2.2.2.1
  have g1_as_ : k_1 as_ = some (.inl (0, 8192, .inl fs)) := by rw [e_k_1, av_up_ne (av_apart M0.2.2.2.2.1 M0.1)]; exact M0.2.2.2.2.1
  have g1_aks : k_1 aks = some (.inl (0, 8192, .inl fks)) := by rw [e_k_1, av_up_ne (av_apart M0.2.2.2.2.2.1 M0.1)]; exact M0.2.2.2.2.2.1
  have g1_ar : k_1 ar = some (.inl (0, 8192, .inl fq)) := by rw [e_k_1, av_up_ne (av_apart M0.2.2.2.2.2.2.1 M0.1)]; exact M0.2.2.2.2.2.2.1
  have g1_an : k_1 an = some (.inl (0, 8192, .inl fn)) := by rw [e_k_1, av_up_ne (av_apart M0.2.2.2.2.2.2.2.1 M0.1)]; exact M0.2.2.2.2.2.2.2.1
  have g1_ab : k_1 ab = some (.inl (0, 8192, .inl fb)) := by rw [e_k_1, av_up_ne (av_apart M0.2.2.2.2.2.2.2.2 M0.1)]; exact M0.2.2.2.2.2.2.2.2
  have g1_m : k_1 m = some (.inr (5, [.int (nI 0), .ref ai, .int (nI cn), .ref am, .int (nI ln), .ref ak, .int (nI kl), .ref as_, .ref aks, .ref ar, .ref an, .ref ab, .int (nI mn)])) := by rw [e_k_1]; exact av_up_self _ _ _
  refine aw_iload_n d_M_change_5 rfl ?_
  refine aw_if_lt (tgt := 28) d_M_change_6 (by decide) (fun c_6 => absurd c_6 (nI_pos (by omega))) (fun _ => ?_)
  refine aw_iload_n d_M_change_9 rfl ?_
  refine aw_aload_n d_M_change_10 rfl ?_
  refine aw_get fl_M_40 d_M_change_11 g1_m rfl ?_
  refine aw_icmp_ge (tgt := 28) d_M_change_14 (by decide) (fun c_14 => ?_) (fun c_14 => ?_)
  · rw [nI_leI (by omega) (by omega)] at c_14
    refine aw_iconst (v := (-1)) d_M_change_28 (by decide) ?_
    exact aw_iret d_M_change_29 rfl rfl ⟨fun q => absurd q (by omega), fun _ => ⟨rfl, e_k_1⟩⟩
  · rw [nI_leI (by omega) (by omega)] at c_14
    refine aw_iload_n d_M_change_17 rfl ?_
    refine aw_if_lt (tgt := 28) d_M_change_18 (by decide) (fun c_18 => absurd c_18 (nI_pos (by omega))) (fun _ => ?_)
    refine aw_iload_n d_M_change_21 rfl ?_
    refine aw_sipush (v := nI 255) d_M_change_22 (by decide) ?_
    refine aw_icmp_le (tgt := 30) d_M_change_25 (by decide) (fun c_25 => ?_) (fun c_25 => ?_)
    · rw [nI_leI (by omega) (by omega)] at c_25
      refine aw_aload_n d_M_change_30 rfl ?_
      refine aw_get fl_M_8 d_M_change_31 g1_m rfl ?_
      refine aw_iload_n d_M_change_34 rfl ?_
      refine aw_bald (x := bs (B k)) d_M_change_35 g1_ai (vp_in_nI (by omega) (by omega)) (by rw [nI_clamp (by omega)]; rfl) ?_
      refine aw_sipush (v := nI 255) d_M_change_36 (by decide) ?_
      refine aw_iand (v := nI (B k)) d_M_change_39 (bs_and (K0.1 _)) ?_
      have b_39 := K0.1 k
      refine aw_istore_n (L' := [some (.ref m), some (.int (nI k)), some (.int (nI j)), some (.int (nI (B k)))]) d_M_change_40 (by decide) rfl rfl ?_
      refine aw_aload_n d_M_change_41 rfl ?_
      refine aw_get fl_M_8 d_M_change_42 g1_m rfl ?_
      refine aw_iload_n d_M_change_45 rfl ?_
      refine aw_iload_n d_M_change_46 rfl ?_
      refine aw_i2b (v := bs j) d_M_change_47 (by rw [bs_nI, Nat.mod_eq_of_lt (by omega)]) ?_
      refine aw_bast (f' := bsf (uB B k j)) d_M_change_48 g1_ai (vp_in_nI (by omega) (by omega)) (by rw [nI_clamp (by omega)]; exact uB_upd B k j) ?_
      obtain ⟨k_2, e_k_2⟩ : ∃ z, z = av_up k_1 ai (.inl (1, 65536, .inl (bsf (uB B k j)))) := ⟨_, rfl⟩
      refine aw_heap (h' := k_2) e_k_2.symm ?_
      have g2_am : k_2 am = some (.inl (1, 65536, .inl (bsf HB))) := by rw [e_k_2, av_up_ne (Ne.symm D0.1.1)]; exact g1_am
      have g2_ak : k_2 ak = some (.inl (1, 65536, .inl (bsf KB))) := by rw [e_k_2, av_up_ne (Ne.symm D0.1.2.1)]; exact g1_ak
      have g2_as_ : k_2 as_ = some (.inl (0, 8192, .inl fs)) := by rw [e_k_2, av_up_ne (av_apT g1_as_ g1_ai (by decide))]; exact g1_as_
      have g2_aks : k_2 aks = some (.inl (0, 8192, .inl fks)) := by rw [e_k_2, av_up_ne (av_apT g1_aks g1_ai (by decide))]; exact g1_aks
      have g2_ar : k_2 ar = some (.inl (0, 8192, .inl fq)) := by rw [e_k_2, av_up_ne (av_apT g1_ar g1_ai (by decide))]; exact g1_ar
      have g2_an : k_2 an = some (.inl (0, 8192, .inl fn)) := by rw [e_k_2, av_up_ne (av_apT g1_an g1_ai (by decide))]; exact g1_an
      have g2_ab : k_2 ab = some (.inl (0, 8192, .inl fb)) := by rw [e_k_2, av_up_ne (av_apT g1_ab g1_ai (by decide))]; exact g1_ab
      have g2_m : k_2 m = some (.inr (5, [.int (nI 0), .ref ai, .int (nI cn), .ref am, .int (nI ln), .ref ak, .int (nI kl), .ref as_, .ref aks, .ref ar, .ref an, .ref ab, .int (nI mn)])) := by rw [e_k_2, av_up_ne (av_apart' g1_m g1_ai)]; exact g1_m
      have g2_ai : k_2 ai = some (.inl (1, 65536, .inl (bsf (uB B k j)))) := by rw [e_k_2]; exact av_up_self _ _ _
      refine aw_iload_n d_M_change_49 rfl ?_
      exact aw_iret d_M_change_50 rfl rfl ⟨fun _ => ⟨rfl, by rw [e_k_2, e_k_1]⟩, fun q => absurd q (by omega)⟩
    · rw [nI_leI (by omega) (by omega)] at c_25
      refine aw_iconst (v := (-1)) d_M_change_28 (by decide) ?_
      exact aw_iret d_M_change_29 rfl rfl ⟨fun q => absurd q (by omega), fun _ => ⟨rfl, e_k_1⟩⟩

set_option maxHeartbeats 4000000 in
theorem c_M_change_neg {tb : Nat → Nat} {h : AH} {m ai am ak as_ aks ar an ab cn ln kl mn : Nat} {cd : Int32} {B HB KB : Nat → Nat} {fs fks fq fn fb : Nat → Int32} (M0 : mS h m ai am ak as_ aks ar an ab cd cn ln kl mn B HB KB fs fks fq fn fb) (K0 : mOK cn ln kl B HB KB fs) (k : Int32) (hk : k < 0) (j : Int32) : AM tb y_M_change b_M_change 4 (some .int) 0 0 [.ref m, .int k, .int j] h 0 0 (fun v h' => v = some (.int (-1)) ∧ h' = av_up h m (mO (nI 0) ai cn am ln ak kl as_ aks ar an ab mn)) := by
  have k_cn := K0.2.2.2.1
  refine am_of (ini := false) [some (.ref m), some (.int k), some (.int j), none] (by decide) (fun z => by cases z) (Nat.le_of_ble_eq_true rfl) rfl ?_
  refine aw_aload_n d_M_change_0 rfl ?_
  refine aw_iconst (v := nI 0) d_M_change_1 (by decide) ?_
  refine aw_put (fs' := [.int (nI 0), .ref ai, .int (nI cn), .ref am, .int (nI ln), .ref ak, .int (nI kl), .ref as_, .ref aks, .ref ar, .ref an, .ref ab, .int (nI mn)]) (pt_M_36 _) d_M_change_2 M0.1 rfl rfl (by simp) rfl ?_
  obtain ⟨k_1, e_k_1⟩ : ∃ z, z = av_up h m (.inr (5, [.int (nI 0), .ref ai, .int (nI cn), .ref am, .int (nI ln), .ref ak, .int (nI kl), .ref as_, .ref aks, .ref ar, .ref an, .ref ab, .int (nI mn)])) := ⟨_, rfl⟩
  refine aw_heap (h' := k_1) e_k_1.symm ?_
  have g1_ai : k_1 ai = some (.inl (1, 65536, .inl (bsf B))) := by rw [e_k_1, av_up_ne (av_apart M0.2.1 M0.1)]; exact M0.2.1
  have g1_am : k_1 am = some (.inl (1, 65536, .inl (bsf HB))) := by rw [e_k_1, av_up_ne (av_apart M0.2.2.1 M0.1)]; exact M0.2.2.1
  have g1_ak : k_1 ak = some (.inl (1, 65536, .inl (bsf KB))) := by rw [e_k_1, av_up_ne (av_apart M0.2.2.2.1 M0.1)]; exact M0.2.2.2.1
  have g1_as_ : k_1 as_ = some (.inl (0, 8192, .inl fs)) := by rw [e_k_1, av_up_ne (av_apart M0.2.2.2.2.1 M0.1)]; exact M0.2.2.2.2.1
  have g1_aks : k_1 aks = some (.inl (0, 8192, .inl fks)) := by rw [e_k_1, av_up_ne (av_apart M0.2.2.2.2.2.1 M0.1)]; exact M0.2.2.2.2.2.1
  have g1_ar : k_1 ar = some (.inl (0, 8192, .inl fq)) := by rw [e_k_1, av_up_ne (av_apart M0.2.2.2.2.2.2.1 M0.1)]; exact M0.2.2.2.2.2.2.1
  have g1_an : k_1 an = some (.inl (0, 8192, .inl fn)) := by rw [e_k_1, av_up_ne (av_apart M0.2.2.2.2.2.2.2.1 M0.1)]; exact M0.2.2.2.2.2.2.2.1
  have g1_ab : k_1 ab = some (.inl (0, 8192, .inl fb)) := by rw [e_k_1, av_up_ne (av_apart M0.2.2.2.2.2.2.2.2 M0.1)]; exact M0.2.2.2.2.2.2.2.2
  have g1_m : k_1 m = some (.inr (5, [.int (nI 0), .ref ai, .int (nI cn), .ref am, .int (nI ln), .ref ak, .int (nI kl), .ref as_, .ref aks, .ref ar, .ref an, .ref ab, .int (nI mn)])) := by rw [e_k_1]; exact av_up_self _ _ _
  refine aw_iload_n d_M_change_5 rfl ?_
  refine aw_if_lt (tgt := 28) d_M_change_6 (by decide) (fun c_6 => ?_) (fun c_6 => absurd c_6 (by exact fun z => z hk))
  refine aw_iconst (v := (-1)) d_M_change_28 (by decide) ?_
  exact aw_iret d_M_change_29 rfl rfl ⟨rfl, e_k_1⟩

set_option maxHeartbeats 4000000 in
theorem c_M_change_jneg {tb : Nat → Nat} {h : AH} {m ai am ak as_ aks ar an ab cn ln kl mn : Nat} {cd : Int32} {B HB KB : Nat → Nat} {fs fks fq fn fb : Nat → Int32} (M0 : mS h m ai am ak as_ aks ar an ab cd cn ln kl mn B HB KB fs fks fq fn fb) (K0 : mOK cn ln kl B HB KB fs) (k : Nat) (hk : k < 2147483648) (j : Int32) (hj : j < 0) : AM tb y_M_change b_M_change 4 (some .int) 0 0 [.ref m, .int (nI k), .int j] h 0 0 (fun v h' => v = some (.int (-1)) ∧ h' = av_up h m (mO (nI 0) ai cn am ln ak kl as_ aks ar an ab mn)) := by
  have k_cn := K0.2.2.2.1
  refine am_of (ini := false) [some (.ref m), some (.int (nI k)), some (.int j), none] (by decide) (fun z => by cases z) (Nat.le_of_ble_eq_true rfl) rfl ?_
  refine aw_aload_n d_M_change_0 rfl ?_
  refine aw_iconst (v := nI 0) d_M_change_1 (by decide) ?_
  refine aw_put (fs' := [.int (nI 0), .ref ai, .int (nI cn), .ref am, .int (nI ln), .ref ak, .int (nI kl), .ref as_, .ref aks, .ref ar, .ref an, .ref ab, .int (nI mn)]) (pt_M_36 _) d_M_change_2 M0.1 rfl rfl (by simp) rfl ?_
  obtain ⟨k_1, e_k_1⟩ : ∃ z, z = av_up h m (.inr (5, [.int (nI 0), .ref ai, .int (nI cn), .ref am, .int (nI ln), .ref ak, .int (nI kl), .ref as_, .ref aks, .ref ar, .ref an, .ref ab, .int (nI mn)])) := ⟨_, rfl⟩
  refine aw_heap (h' := k_1) e_k_1.symm ?_
  have g1_ai : k_1 ai = some (.inl (1, 65536, .inl (bsf B))) := by rw [e_k_1, av_up_ne (av_apart M0.2.1 M0.1)]; exact M0.2.1
  have g1_am : k_1 am = some (.inl (1, 65536, .inl (bsf HB))) := by rw [e_k_1, av_up_ne (av_apart M0.2.2.1 M0.1)]; exact M0.2.2.1
  have g1_ak : k_1 ak = some (.inl (1, 65536, .inl (bsf KB))) := by rw [e_k_1, av_up_ne (av_apart M0.2.2.2.1 M0.1)]; exact M0.2.2.2.1
  have g1_as_ : k_1 as_ = some (.inl (0, 8192, .inl fs)) := by rw [e_k_1, av_up_ne (av_apart M0.2.2.2.2.1 M0.1)]; exact M0.2.2.2.2.1
  have g1_aks : k_1 aks = some (.inl (0, 8192, .inl fks)) := by rw [e_k_1, av_up_ne (av_apart M0.2.2.2.2.2.1 M0.1)]; exact M0.2.2.2.2.2.1
  have g1_ar : k_1 ar = some (.inl (0, 8192, .inl fq)) := by rw [e_k_1, av_up_ne (av_apart M0.2.2.2.2.2.2.1 M0.1)]; exact M0.2.2.2.2.2.2.1
  have g1_an : k_1 an = some (.inl (0, 8192, .inl fn)) := by rw [e_k_1, av_up_ne (av_apart M0.2.2.2.2.2.2.2.1 M0.1)]; exact M0.2.2.2.2.2.2.2.1
  have g1_ab : k_1 ab = some (.inl (0, 8192, .inl fb)) := by rw [e_k_1, av_up_ne (av_apart M0.2.2.2.2.2.2.2.2 M0.1)]; exact M0.2.2.2.2.2.2.2.2
  have g1_m : k_1 m = some (.inr (5, [.int (nI 0), .ref ai, .int (nI cn), .ref am, .int (nI ln), .ref ak, .int (nI kl), .ref as_, .ref aks, .ref ar, .ref an, .ref ab, .int (nI mn)])) := by rw [e_k_1]; exact av_up_self _ _ _
  refine aw_iload_n d_M_change_5 rfl ?_
  refine aw_if_lt (tgt := 28) d_M_change_6 (by decide) (fun c_6 => absurd c_6 (nI_pos (by omega))) (fun _ => ?_)
  refine aw_iload_n d_M_change_9 rfl ?_
  refine aw_aload_n d_M_change_10 rfl ?_
  refine aw_get fl_M_40 d_M_change_11 g1_m rfl ?_
  refine aw_icmp_ge (tgt := 28) d_M_change_14 (by decide) (fun c_14 => ?_) (fun c_14 => ?_)
  · rw [nI_leI (by omega) (by omega)] at c_14
    refine aw_iconst (v := (-1)) d_M_change_28 (by decide) ?_
    exact aw_iret d_M_change_29 rfl rfl ⟨rfl, e_k_1⟩
  · rw [nI_leI (by omega) (by omega)] at c_14
    refine aw_iload_n d_M_change_17 rfl ?_
    refine aw_if_lt (tgt := 28) d_M_change_18 (by decide) (fun c_18 => ?_) (fun c_18 => absurd c_18 (by exact fun z => z hj))
    refine aw_iconst (v := (-1)) d_M_change_28 (by decide) ?_
    exact aw_iret d_M_change_29 rfl rfl ⟨rfl, e_k_1⟩

set_option maxHeartbeats 4000000 in
theorem lp_M_feed {tb : Nat → Nat} {h : AH} {fr lo : Nat} {mc ms : Nat} (hfr : 0 ≤ fr) (hlo : 0 ≤ lo) {m ai am ak as_ aks ar an ab cn ln kl mn : Nat} {B : Nat → Nat} (hne : ai ≠ m) (hcn : cn + 20 ≤ 65536) (a b c d e : Nat) (ha : a < 4294967296) (hb : b < 4294967296) (hc : c < 4294967296) (hd_ : d < 4294967296) (he : e < 4294967296) : ∀ (dd : Nat) (k : Nat) (x7 : Option Value), k ≤ 20 → 20 < k + dd → AW tb "ImageReaderModel" b_M_feed 8 none false none fr lo (fun v h' => v = none ∧ h' = (av_up (av_up h ai (.inl (1, 65536, .inl (bsf (apB B cn 20 (wB a b c d e)))))) m (mO (nI 0) ai (cn + 20) am ln ak kl as_ aks ar an ab mn))) 24 [some (.ref m), some (.int (nI a)), some (.int (nI b)), some (.int (nI c)), some (.int (nI d)), some (.int (nI e)), some (.int (nI k)), none] [] (av_up (av_up h ai (.inl (1, 65536, .inl (bsf (apB B cn k (wB a b c d e)))))) m (mO (nI 0) ai (cn + k) am ln ak kl as_ aks ar an ab mn)) mc ms := by
  intro dd
  induction dd with
  | zero => intro k x7 hk hd; omega
  | succ dd ih =>
    intro k x7 hk hd
    have hm1 : (av_up (av_up h ai (.inl (1, 65536, .inl (bsf (apB B cn k (wB a b c d e)))))) m (mO (nI 0) ai (cn + k) am ln ak kl as_ aks ar an ab mn)) m = some (mO (nI 0) ai (cn + k) am ln ak kl as_ aks ar an ab mn) := av_up_self _ _ _
    have hi1 : (av_up (av_up h ai (.inl (1, 65536, .inl (bsf (apB B cn k (wB a b c d e)))))) m (mO (nI 0) ai (cn + k) am ln ak kl as_ aks ar an ab mn)) ai = some (.inl (1, 65536, .inl (bsf (apB B cn k (wB a b c d e))))) := by rw [av_up_ne hne]; exact av_up_self _ _ _
    refine aw_iload d_M_feed_24 rfl ?_
    refine aw_bipush (v := nI 20) d_M_feed_26 (by decide) ?_
    refine aw_icmp_ge (tgt := 125) d_M_feed_28 (by decide) (fun c_28 => ?_) (fun c_28 => ?_)
    · rw [nI_leI (by omega) (by omega)] at c_28
      exact aw_vret d_M_feed_125 rfl ⟨rfl, by rw [show k = 20 by omega]⟩
    · rw [nI_leI (by omega) (by omega)] at c_28
      refine aw_aload_n d_M_feed_31 rfl ?_
      refine aw_get fl_M_36 d_M_feed_32 hm1 rfl ?_
      refine aw_if_ne (tgt := 125) d_M_feed_35 (by decide) (fun z => absurd (by decide) z) (fun _ => ?_)
      refine aw_iload d_M_feed_38 rfl ?_
      refine aw_iconst (v := nI 4) d_M_feed_40 (by decide) ?_
      refine aw_icmp_ge (tgt := 48) d_M_feed_41 (by decide) (fun c_41 => ?_) (fun c_41 => ?_)
      · rw [nI_leI (by omega) (by omega)] at c_41
        refine aw_iload d_M_feed_48 rfl ?_
        refine aw_bipush (v := nI 8) d_M_feed_50 (by decide) ?_
        refine aw_icmp_ge (tgt := 59) d_M_feed_52 (by decide) (fun c_52 => ?_) (fun c_52 => ?_)
        · rw [nI_leI (by omega) (by omega)] at c_52
          refine aw_iload d_M_feed_59 rfl ?_
          refine aw_bipush (v := nI 12) d_M_feed_61 (by decide) ?_
          refine aw_icmp_ge (tgt := 70) d_M_feed_63 (by decide) (fun c_63 => ?_) (fun c_63 => ?_)
          · rw [nI_leI (by omega) (by omega)] at c_63
            refine aw_iload d_M_feed_70 rfl ?_
            refine aw_bipush (v := nI 16) d_M_feed_72 (by decide) ?_
            refine aw_icmp_ge (tgt := 82) d_M_feed_74 (by decide) (fun c_74 => ?_) (fun c_74 => ?_)
            · rw [nI_leI (by omega) (by omega)] at c_74
              refine aw_iload d_M_feed_82 rfl ?_
              refine aw_istore (L' := [some (.ref m), some (.int (nI a)), some (.int (nI b)), some (.int (nI c)), some (.int (nI d)), some (.int (nI e)), some (.int (nI k)), some (.int (nI e))]) d_M_feed_84 (by decide) rfl rfl ?_
              refine aw_aload_n d_M_feed_86 rfl ?_
              refine aw_get fl_M_8 d_M_feed_87 hm1 rfl ?_
              refine aw_aload_n d_M_feed_90 rfl ?_
              refine aw_get fl_M_40 d_M_feed_91 hm1 rfl ?_
              refine aw_iload d_M_feed_94 rfl ?_
              refine aw_bipush (v := nI 24) d_M_feed_96 (by decide) ?_
              refine aw_bipush (v := nI 8) d_M_feed_98 (by decide) ?_
              refine aw_iload d_M_feed_100 rfl ?_
              refine aw_iconst (v := nI 4) d_M_feed_102 (by decide) ?_
              refine aw_irem (v := nI (k % 4)) d_M_feed_103 (by decide) (pk_rem (by omega) (by decide) (by decide)) ?_
              refine aw_imul (v := nI (8 * (k % 4))) d_M_feed_104 (pk_mul _ _) ?_
              refine aw_isub (v := nI (24 - (8 * (k % 4)))) d_M_feed_105 (pk_sub (by omega)) ?_
              refine aw_ishr (v := nI e >>> (nI (24 - 8 * (k % 4)) &&& 31)) d_M_feed_106 rfl ?_
              refine aw_i2b (v := bs (e / 2 ^ (24 - 8 * (k % 4)) % 256)) d_M_feed_107 (shr_b (by omega) (by omega)) ?_
              refine aw_bast (f' := bsf (apB B cn (k + 1) (wB a b c d e))) d_M_feed_108 hi1 (vp_in_nI (by omega) (by omega)) (by rw [nI_clamp (by omega), uB_upd, ← apB_s B cn k (wB a b c d e)]; congr 2; unfold wB; first | rw [if_pos (by omega)] | rw [if_neg (by omega), if_pos (by omega)] | rw [if_neg (by omega), if_neg (by omega), if_pos (by omega)] | rw [if_neg (by omega), if_neg (by omega), if_neg (by omega), if_pos (by omega)] | rw [if_neg (by omega), if_neg (by omega), if_neg (by omega), if_neg (by omega)]) ?_
              obtain ⟨k_1, e_k_1⟩ : ∃ z, z = av_up (av_up (av_up h ai (.inl (1, 65536, .inl (bsf (apB B cn k (wB a b c d e)))))) m (mO (nI 0) ai (cn + k) am ln ak kl as_ aks ar an ab mn)) ai (.inl (1, 65536, .inl (bsf (apB B cn (k + 1) (wB a b c d e))))) := ⟨_, rfl⟩
              refine aw_heap (h' := k_1) e_k_1.symm ?_
              have g1_m : k_1 m = some (.inr (5, [.int (nI 0), .ref ai, .int (nI (cn + k)), .ref am, .int (nI ln), .ref ak, .int (nI kl), .ref as_, .ref aks, .ref ar, .ref an, .ref ab, .int (nI mn)])) := by rw [e_k_1, av_up_ne (Ne.symm hne)]; exact hm1
              have g1_ai : k_1 ai = some (.inl (1, 65536, .inl (bsf (apB B cn (k + 1) (wB a b c d e))))) := by rw [e_k_1]; exact av_up_self _ _ _
              refine aw_aload_n d_M_feed_109 rfl ?_
              refine aw_dup d_M_feed_110 rfl ?_
              refine aw_get fl_M_40 d_M_feed_111 g1_m rfl ?_
              refine aw_iconst (v := nI 1) d_M_feed_114 (by decide) ?_
              refine aw_iadd (v := nI (cn + k + 1)) d_M_feed_115 (nI_add _ _) ?_
              refine aw_put (fs' := [.int (nI 0), .ref ai, .int (nI (cn + k + 1)), .ref am, .int (nI ln), .ref ak, .int (nI kl), .ref as_, .ref aks, .ref ar, .ref an, .ref ab, .int (nI mn)]) (pt_M_40 _) d_M_feed_116 g1_m rfl rfl (by simp) rfl ?_
              obtain ⟨k_2, e_k_2⟩ : ∃ z, z = av_up k_1 m (.inr (5, [.int (nI 0), .ref ai, .int (nI (cn + k + 1)), .ref am, .int (nI ln), .ref ak, .int (nI kl), .ref as_, .ref aks, .ref ar, .ref an, .ref ab, .int (nI mn)])) := ⟨_, rfl⟩
              refine aw_heap (h' := k_2) e_k_2.symm ?_
              have g2_ai : k_2 ai = some (.inl (1, 65536, .inl (bsf (apB B cn (k + 1) (wB a b c d e))))) := by rw [e_k_2, av_up_ne hne]; exact g1_ai
              have g2_m : k_2 m = some (.inr (5, [.int (nI 0), .ref ai, .int (nI (cn + k + 1)), .ref am, .int (nI ln), .ref ak, .int (nI kl), .ref as_, .ref aks, .ref ar, .ref an, .ref ab, .int (nI mn)])) := by rw [e_k_2]; exact av_up_self _ _ _
              refine aw_iinc (v := nI (k + 1)) (L' := [some (.ref m), some (.int (nI a)), some (.int (nI b)), some (.int (nI c)), some (.int (nI d)), some (.int (nI e)), some (.int (nI (k + 1))), some (.int (nI e))]) d_M_feed_119 rfl (nI_add k 1) (by decide) rfl rfl ?_
              refine aw_goto (tgt := 24) d_M_feed_122 (by decide) ?_
              refine aw_heap (h' := (av_up (av_up h ai (.inl (1, 65536, .inl (bsf (apB B cn (k + 1) (wB a b c d e)))))) m (mO (nI 0) ai (cn + (k + 1)) am ln ak kl as_ aks ar an ab mn))) (by rw [e_k_2, e_k_1, av_up4 hne]; rfl) ?_
              refine aw_loc (L' := [some (.ref m), some (.int (nI a)), some (.int (nI b)), some (.int (nI c)), some (.int (nI d)), some (.int (nI e)), some (.int (nI (k + 1))), none]) (by intro j v hv; match j, hv with | 0, hv => exact hv | 1, hv => exact hv | 2, hv => exact hv | 3, hv => exact hv | 4, hv => exact hv | 5, hv => exact hv | 6, hv => exact hv | 7, hv => cases hv | j + 8, hv => cases hv) ?_
              exact ih (k + 1) none (by omega) (by omega)
            · rw [nI_leI (by omega) (by omega)] at c_74
              refine aw_iload d_M_feed_77 rfl ?_
              refine aw_goto (tgt := 84) d_M_feed_79 (by decide) ?_
              refine aw_istore (L' := [some (.ref m), some (.int (nI a)), some (.int (nI b)), some (.int (nI c)), some (.int (nI d)), some (.int (nI e)), some (.int (nI k)), some (.int (nI d))]) d_M_feed_84 (by decide) rfl rfl ?_
              refine aw_aload_n d_M_feed_86 rfl ?_
              refine aw_get fl_M_8 d_M_feed_87 hm1 rfl ?_
              refine aw_aload_n d_M_feed_90 rfl ?_
              refine aw_get fl_M_40 d_M_feed_91 hm1 rfl ?_
              refine aw_iload d_M_feed_94 rfl ?_
              refine aw_bipush (v := nI 24) d_M_feed_96 (by decide) ?_
              refine aw_bipush (v := nI 8) d_M_feed_98 (by decide) ?_
              refine aw_iload d_M_feed_100 rfl ?_
              refine aw_iconst (v := nI 4) d_M_feed_102 (by decide) ?_
              refine aw_irem (v := nI (k % 4)) d_M_feed_103 (by decide) (pk_rem (by omega) (by decide) (by decide)) ?_
              refine aw_imul (v := nI (8 * (k % 4))) d_M_feed_104 (pk_mul _ _) ?_
              refine aw_isub (v := nI (24 - (8 * (k % 4)))) d_M_feed_105 (pk_sub (by omega)) ?_
              refine aw_ishr (v := nI d >>> (nI (24 - 8 * (k % 4)) &&& 31)) d_M_feed_106 rfl ?_
              refine aw_i2b (v := bs (d / 2 ^ (24 - 8 * (k % 4)) % 256)) d_M_feed_107 (shr_b (by omega) (by omega)) ?_
              refine aw_bast (f' := bsf (apB B cn (k + 1) (wB a b c d e))) d_M_feed_108 hi1 (vp_in_nI (by omega) (by omega)) (by rw [nI_clamp (by omega), uB_upd, ← apB_s B cn k (wB a b c d e)]; congr 2; unfold wB; first | rw [if_pos (by omega)] | rw [if_neg (by omega), if_pos (by omega)] | rw [if_neg (by omega), if_neg (by omega), if_pos (by omega)] | rw [if_neg (by omega), if_neg (by omega), if_neg (by omega), if_pos (by omega)] | rw [if_neg (by omega), if_neg (by omega), if_neg (by omega), if_neg (by omega)]) ?_
              obtain ⟨k_3, e_k_3⟩ : ∃ z, z = av_up (av_up (av_up h ai (.inl (1, 65536, .inl (bsf (apB B cn k (wB a b c d e)))))) m (mO (nI 0) ai (cn + k) am ln ak kl as_ aks ar an ab mn)) ai (.inl (1, 65536, .inl (bsf (apB B cn (k + 1) (wB a b c d e))))) := ⟨_, rfl⟩
              refine aw_heap (h' := k_3) e_k_3.symm ?_
              have g3_m : k_3 m = some (.inr (5, [.int (nI 0), .ref ai, .int (nI (cn + k)), .ref am, .int (nI ln), .ref ak, .int (nI kl), .ref as_, .ref aks, .ref ar, .ref an, .ref ab, .int (nI mn)])) := by rw [e_k_3, av_up_ne (Ne.symm hne)]; exact hm1
              have g3_ai : k_3 ai = some (.inl (1, 65536, .inl (bsf (apB B cn (k + 1) (wB a b c d e))))) := by rw [e_k_3]; exact av_up_self _ _ _
              refine aw_aload_n d_M_feed_109 rfl ?_
              refine aw_dup d_M_feed_110 rfl ?_
              refine aw_get fl_M_40 d_M_feed_111 g3_m rfl ?_
              refine aw_iconst (v := nI 1) d_M_feed_114 (by decide) ?_
              refine aw_iadd (v := nI (cn + k + 1)) d_M_feed_115 (nI_add _ _) ?_
              refine aw_put (fs' := [.int (nI 0), .ref ai, .int (nI (cn + k + 1)), .ref am, .int (nI ln), .ref ak, .int (nI kl), .ref as_, .ref aks, .ref ar, .ref an, .ref ab, .int (nI mn)]) (pt_M_40 _) d_M_feed_116 g3_m rfl rfl (by simp) rfl ?_
              obtain ⟨k_4, e_k_4⟩ : ∃ z, z = av_up k_3 m (.inr (5, [.int (nI 0), .ref ai, .int (nI (cn + k + 1)), .ref am, .int (nI ln), .ref ak, .int (nI kl), .ref as_, .ref aks, .ref ar, .ref an, .ref ab, .int (nI mn)])) := ⟨_, rfl⟩
              refine aw_heap (h' := k_4) e_k_4.symm ?_
              have g4_ai : k_4 ai = some (.inl (1, 65536, .inl (bsf (apB B cn (k + 1) (wB a b c d e))))) := by rw [e_k_4, av_up_ne hne]; exact g3_ai
              have g4_m : k_4 m = some (.inr (5, [.int (nI 0), .ref ai, .int (nI (cn + k + 1)), .ref am, .int (nI ln), .ref ak, .int (nI kl), .ref as_, .ref aks, .ref ar, .ref an, .ref ab, .int (nI mn)])) := by rw [e_k_4]; exact av_up_self _ _ _
              refine aw_iinc (v := nI (k + 1)) (L' := [some (.ref m), some (.int (nI a)), some (.int (nI b)), some (.int (nI c)), some (.int (nI d)), some (.int (nI e)), some (.int (nI (k + 1))), some (.int (nI d))]) d_M_feed_119 rfl (nI_add k 1) (by decide) rfl rfl ?_
              refine aw_goto (tgt := 24) d_M_feed_122 (by decide) ?_
              refine aw_heap (h' := (av_up (av_up h ai (.inl (1, 65536, .inl (bsf (apB B cn (k + 1) (wB a b c d e)))))) m (mO (nI 0) ai (cn + (k + 1)) am ln ak kl as_ aks ar an ab mn))) (by rw [e_k_4, e_k_3, av_up4 hne]; rfl) ?_
              refine aw_loc (L' := [some (.ref m), some (.int (nI a)), some (.int (nI b)), some (.int (nI c)), some (.int (nI d)), some (.int (nI e)), some (.int (nI (k + 1))), none]) (by intro j v hv; match j, hv with | 0, hv => exact hv | 1, hv => exact hv | 2, hv => exact hv | 3, hv => exact hv | 4, hv => exact hv | 5, hv => exact hv | 6, hv => exact hv | 7, hv => cases hv | j + 8, hv => cases hv) ?_
              exact ih (k + 1) none (by omega) (by omega)
          · rw [nI_leI (by omega) (by omega)] at c_63
            refine aw_iload_n d_M_feed_66 rfl ?_
            refine aw_goto (tgt := 84) d_M_feed_67 (by decide) ?_
            refine aw_istore (L' := [some (.ref m), some (.int (nI a)), some (.int (nI b)), some (.int (nI c)), some (.int (nI d)), some (.int (nI e)), some (.int (nI k)), some (.int (nI c))]) d_M_feed_84 (by decide) rfl rfl ?_
            refine aw_aload_n d_M_feed_86 rfl ?_
            refine aw_get fl_M_8 d_M_feed_87 hm1 rfl ?_
            refine aw_aload_n d_M_feed_90 rfl ?_
            refine aw_get fl_M_40 d_M_feed_91 hm1 rfl ?_
            refine aw_iload d_M_feed_94 rfl ?_
            refine aw_bipush (v := nI 24) d_M_feed_96 (by decide) ?_
            refine aw_bipush (v := nI 8) d_M_feed_98 (by decide) ?_
            refine aw_iload d_M_feed_100 rfl ?_
            refine aw_iconst (v := nI 4) d_M_feed_102 (by decide) ?_
            refine aw_irem (v := nI (k % 4)) d_M_feed_103 (by decide) (pk_rem (by omega) (by decide) (by decide)) ?_
            refine aw_imul (v := nI (8 * (k % 4))) d_M_feed_104 (pk_mul _ _) ?_
            refine aw_isub (v := nI (24 - (8 * (k % 4)))) d_M_feed_105 (pk_sub (by omega)) ?_
            refine aw_ishr (v := nI c >>> (nI (24 - 8 * (k % 4)) &&& 31)) d_M_feed_106 rfl ?_
            refine aw_i2b (v := bs (c / 2 ^ (24 - 8 * (k % 4)) % 256)) d_M_feed_107 (shr_b (by omega) (by omega)) ?_
            refine aw_bast (f' := bsf (apB B cn (k + 1) (wB a b c d e))) d_M_feed_108 hi1 (vp_in_nI (by omega) (by omega)) (by rw [nI_clamp (by omega), uB_upd, ← apB_s B cn k (wB a b c d e)]; congr 2; unfold wB; first | rw [if_pos (by omega)] | rw [if_neg (by omega), if_pos (by omega)] | rw [if_neg (by omega), if_neg (by omega), if_pos (by omega)] | rw [if_neg (by omega), if_neg (by omega), if_neg (by omega), if_pos (by omega)] | rw [if_neg (by omega), if_neg (by omega), if_neg (by omega), if_neg (by omega)]) ?_
            obtain ⟨k_5, e_k_5⟩ : ∃ z, z = av_up (av_up (av_up h ai (.inl (1, 65536, .inl (bsf (apB B cn k (wB a b c d e)))))) m (mO (nI 0) ai (cn + k) am ln ak kl as_ aks ar an ab mn)) ai (.inl (1, 65536, .inl (bsf (apB B cn (k + 1) (wB a b c d e))))) := ⟨_, rfl⟩
            refine aw_heap (h' := k_5) e_k_5.symm ?_
            have g5_m : k_5 m = some (.inr (5, [.int (nI 0), .ref ai, .int (nI (cn + k)), .ref am, .int (nI ln), .ref ak, .int (nI kl), .ref as_, .ref aks, .ref ar, .ref an, .ref ab, .int (nI mn)])) := by rw [e_k_5, av_up_ne (Ne.symm hne)]; exact hm1
            have g5_ai : k_5 ai = some (.inl (1, 65536, .inl (bsf (apB B cn (k + 1) (wB a b c d e))))) := by rw [e_k_5]; exact av_up_self _ _ _
            refine aw_aload_n d_M_feed_109 rfl ?_
            refine aw_dup d_M_feed_110 rfl ?_
            refine aw_get fl_M_40 d_M_feed_111 g5_m rfl ?_
            refine aw_iconst (v := nI 1) d_M_feed_114 (by decide) ?_
            refine aw_iadd (v := nI (cn + k + 1)) d_M_feed_115 (nI_add _ _) ?_
            refine aw_put (fs' := [.int (nI 0), .ref ai, .int (nI (cn + k + 1)), .ref am, .int (nI ln), .ref ak, .int (nI kl), .ref as_, .ref aks, .ref ar, .ref an, .ref ab, .int (nI mn)]) (pt_M_40 _) d_M_feed_116 g5_m rfl rfl (by simp) rfl ?_
            obtain ⟨k_6, e_k_6⟩ : ∃ z, z = av_up k_5 m (.inr (5, [.int (nI 0), .ref ai, .int (nI (cn + k + 1)), .ref am, .int (nI ln), .ref ak, .int (nI kl), .ref as_, .ref aks, .ref ar, .ref an, .ref ab, .int (nI mn)])) := ⟨_, rfl⟩
            refine aw_heap (h' := k_6) e_k_6.symm ?_
            have g6_ai : k_6 ai = some (.inl (1, 65536, .inl (bsf (apB B cn (k + 1) (wB a b c d e))))) := by rw [e_k_6, av_up_ne hne]; exact g5_ai
            have g6_m : k_6 m = some (.inr (5, [.int (nI 0), .ref ai, .int (nI (cn + k + 1)), .ref am, .int (nI ln), .ref ak, .int (nI kl), .ref as_, .ref aks, .ref ar, .ref an, .ref ab, .int (nI mn)])) := by rw [e_k_6]; exact av_up_self _ _ _
            refine aw_iinc (v := nI (k + 1)) (L' := [some (.ref m), some (.int (nI a)), some (.int (nI b)), some (.int (nI c)), some (.int (nI d)), some (.int (nI e)), some (.int (nI (k + 1))), some (.int (nI c))]) d_M_feed_119 rfl (nI_add k 1) (by decide) rfl rfl ?_
            refine aw_goto (tgt := 24) d_M_feed_122 (by decide) ?_
            refine aw_heap (h' := (av_up (av_up h ai (.inl (1, 65536, .inl (bsf (apB B cn (k + 1) (wB a b c d e)))))) m (mO (nI 0) ai (cn + (k + 1)) am ln ak kl as_ aks ar an ab mn))) (by rw [e_k_6, e_k_5, av_up4 hne]; rfl) ?_
            refine aw_loc (L' := [some (.ref m), some (.int (nI a)), some (.int (nI b)), some (.int (nI c)), some (.int (nI d)), some (.int (nI e)), some (.int (nI (k + 1))), none]) (by intro j v hv; match j, hv with | 0, hv => exact hv | 1, hv => exact hv | 2, hv => exact hv | 3, hv => exact hv | 4, hv => exact hv | 5, hv => exact hv | 6, hv => exact hv | 7, hv => cases hv | j + 8, hv => cases hv) ?_
            exact ih (k + 1) none (by omega) (by omega)
        · rw [nI_leI (by omega) (by omega)] at c_52
          refine aw_iload_n d_M_feed_55 rfl ?_
          refine aw_goto (tgt := 84) d_M_feed_56 (by decide) ?_
          refine aw_istore (L' := [some (.ref m), some (.int (nI a)), some (.int (nI b)), some (.int (nI c)), some (.int (nI d)), some (.int (nI e)), some (.int (nI k)), some (.int (nI b))]) d_M_feed_84 (by decide) rfl rfl ?_
          refine aw_aload_n d_M_feed_86 rfl ?_
          refine aw_get fl_M_8 d_M_feed_87 hm1 rfl ?_
          refine aw_aload_n d_M_feed_90 rfl ?_
          refine aw_get fl_M_40 d_M_feed_91 hm1 rfl ?_
          refine aw_iload d_M_feed_94 rfl ?_
          refine aw_bipush (v := nI 24) d_M_feed_96 (by decide) ?_
          refine aw_bipush (v := nI 8) d_M_feed_98 (by decide) ?_
          refine aw_iload d_M_feed_100 rfl ?_
          refine aw_iconst (v := nI 4) d_M_feed_102 (by decide) ?_
          refine aw_irem (v := nI (k % 4)) d_M_feed_103 (by decide) (pk_rem (by omega) (by decide) (by decide)) ?_
          refine aw_imul (v := nI (8 * (k % 4))) d_M_feed_104 (pk_mul _ _) ?_
          refine aw_isub (v := nI (24 - (8 * (k % 4)))) d_M_feed_105 (pk_sub (by omega)) ?_
          refine aw_ishr (v := nI b >>> (nI (24 - 8 * (k % 4)) &&& 31)) d_M_feed_106 rfl ?_
          refine aw_i2b (v := bs (b / 2 ^ (24 - 8 * (k % 4)) % 256)) d_M_feed_107 (shr_b (by omega) (by omega)) ?_
          refine aw_bast (f' := bsf (apB B cn (k + 1) (wB a b c d e))) d_M_feed_108 hi1 (vp_in_nI (by omega) (by omega)) (by rw [nI_clamp (by omega), uB_upd, ← apB_s B cn k (wB a b c d e)]; congr 2; unfold wB; first | rw [if_pos (by omega)] | rw [if_neg (by omega), if_pos (by omega)] | rw [if_neg (by omega), if_neg (by omega), if_pos (by omega)] | rw [if_neg (by omega), if_neg (by omega), if_neg (by omega), if_pos (by omega)] | rw [if_neg (by omega), if_neg (by omega), if_neg (by omega), if_neg (by omega)]) ?_
          obtain ⟨k_7, e_k_7⟩ : ∃ z, z = av_up (av_up (av_up h ai (.inl (1, 65536, .inl (bsf (apB B cn k (wB a b c d e)))))) m (mO (nI 0) ai (cn + k) am ln ak kl as_ aks ar an ab mn)) ai (.inl (1, 65536, .inl (bsf (apB B cn (k + 1) (wB a b c d e))))) := ⟨_, rfl⟩
          refine aw_heap (h' := k_7) e_k_7.symm ?_
          have g7_m : k_7 m = some (.inr (5, [.int (nI 0), .ref ai, .int (nI (cn + k)), .ref am, .int (nI ln), .ref ak, .int (nI kl), .ref as_, .ref aks, .ref ar, .ref an, .ref ab, .int (nI mn)])) := by rw [e_k_7, av_up_ne (Ne.symm hne)]; exact hm1
          have g7_ai : k_7 ai = some (.inl (1, 65536, .inl (bsf (apB B cn (k + 1) (wB a b c d e))))) := by rw [e_k_7]; exact av_up_self _ _ _
          refine aw_aload_n d_M_feed_109 rfl ?_
          refine aw_dup d_M_feed_110 rfl ?_
          refine aw_get fl_M_40 d_M_feed_111 g7_m rfl ?_
          refine aw_iconst (v := nI 1) d_M_feed_114 (by decide) ?_
          refine aw_iadd (v := nI (cn + k + 1)) d_M_feed_115 (nI_add _ _) ?_
          refine aw_put (fs' := [.int (nI 0), .ref ai, .int (nI (cn + k + 1)), .ref am, .int (nI ln), .ref ak, .int (nI kl), .ref as_, .ref aks, .ref ar, .ref an, .ref ab, .int (nI mn)]) (pt_M_40 _) d_M_feed_116 g7_m rfl rfl (by simp) rfl ?_
          obtain ⟨k_8, e_k_8⟩ : ∃ z, z = av_up k_7 m (.inr (5, [.int (nI 0), .ref ai, .int (nI (cn + k + 1)), .ref am, .int (nI ln), .ref ak, .int (nI kl), .ref as_, .ref aks, .ref ar, .ref an, .ref ab, .int (nI mn)])) := ⟨_, rfl⟩
          refine aw_heap (h' := k_8) e_k_8.symm ?_
          have g8_ai : k_8 ai = some (.inl (1, 65536, .inl (bsf (apB B cn (k + 1) (wB a b c d e))))) := by rw [e_k_8, av_up_ne hne]; exact g7_ai
          have g8_m : k_8 m = some (.inr (5, [.int (nI 0), .ref ai, .int (nI (cn + k + 1)), .ref am, .int (nI ln), .ref ak, .int (nI kl), .ref as_, .ref aks, .ref ar, .ref an, .ref ab, .int (nI mn)])) := by rw [e_k_8]; exact av_up_self _ _ _
          refine aw_iinc (v := nI (k + 1)) (L' := [some (.ref m), some (.int (nI a)), some (.int (nI b)), some (.int (nI c)), some (.int (nI d)), some (.int (nI e)), some (.int (nI (k + 1))), some (.int (nI b))]) d_M_feed_119 rfl (nI_add k 1) (by decide) rfl rfl ?_
          refine aw_goto (tgt := 24) d_M_feed_122 (by decide) ?_
          refine aw_heap (h' := (av_up (av_up h ai (.inl (1, 65536, .inl (bsf (apB B cn (k + 1) (wB a b c d e)))))) m (mO (nI 0) ai (cn + (k + 1)) am ln ak kl as_ aks ar an ab mn))) (by rw [e_k_8, e_k_7, av_up4 hne]; rfl) ?_
          refine aw_loc (L' := [some (.ref m), some (.int (nI a)), some (.int (nI b)), some (.int (nI c)), some (.int (nI d)), some (.int (nI e)), some (.int (nI (k + 1))), none]) (by intro j v hv; match j, hv with | 0, hv => exact hv | 1, hv => exact hv | 2, hv => exact hv | 3, hv => exact hv | 4, hv => exact hv | 5, hv => exact hv | 6, hv => exact hv | 7, hv => cases hv | j + 8, hv => cases hv) ?_
          exact ih (k + 1) none (by omega) (by omega)
      · rw [nI_leI (by omega) (by omega)] at c_41
        refine aw_iload_n d_M_feed_44 rfl ?_
        refine aw_goto (tgt := 84) d_M_feed_45 (by decide) ?_
        refine aw_istore (L' := [some (.ref m), some (.int (nI a)), some (.int (nI b)), some (.int (nI c)), some (.int (nI d)), some (.int (nI e)), some (.int (nI k)), some (.int (nI a))]) d_M_feed_84 (by decide) rfl rfl ?_
        refine aw_aload_n d_M_feed_86 rfl ?_
        refine aw_get fl_M_8 d_M_feed_87 hm1 rfl ?_
        refine aw_aload_n d_M_feed_90 rfl ?_
        refine aw_get fl_M_40 d_M_feed_91 hm1 rfl ?_
        refine aw_iload d_M_feed_94 rfl ?_
        refine aw_bipush (v := nI 24) d_M_feed_96 (by decide) ?_
        refine aw_bipush (v := nI 8) d_M_feed_98 (by decide) ?_
        refine aw_iload d_M_feed_100 rfl ?_
        refine aw_iconst (v := nI 4) d_M_feed_102 (by decide) ?_
        refine aw_irem (v := nI (k % 4)) d_M_feed_103 (by decide) (pk_rem (by omega) (by decide) (by decide)) ?_
        refine aw_imul (v := nI (8 * (k % 4))) d_M_feed_104 (pk_mul _ _) ?_
        refine aw_isub (v := nI (24 - (8 * (k % 4)))) d_M_feed_105 (pk_sub (by omega)) ?_
        refine aw_ishr (v := nI a >>> (nI (24 - 8 * (k % 4)) &&& 31)) d_M_feed_106 rfl ?_
        refine aw_i2b (v := bs (a / 2 ^ (24 - 8 * (k % 4)) % 256)) d_M_feed_107 (shr_b (by omega) (by omega)) ?_
        refine aw_bast (f' := bsf (apB B cn (k + 1) (wB a b c d e))) d_M_feed_108 hi1 (vp_in_nI (by omega) (by omega)) (by rw [nI_clamp (by omega), uB_upd, ← apB_s B cn k (wB a b c d e)]; congr 2; unfold wB; first | rw [if_pos (by omega)] | rw [if_neg (by omega), if_pos (by omega)] | rw [if_neg (by omega), if_neg (by omega), if_pos (by omega)] | rw [if_neg (by omega), if_neg (by omega), if_neg (by omega), if_pos (by omega)] | rw [if_neg (by omega), if_neg (by omega), if_neg (by omega), if_neg (by omega)]) ?_
        obtain ⟨k_9, e_k_9⟩ : ∃ z, z = av_up (av_up (av_up h ai (.inl (1, 65536, .inl (bsf (apB B cn k (wB a b c d e)))))) m (mO (nI 0) ai (cn + k) am ln ak kl as_ aks ar an ab mn)) ai (.inl (1, 65536, .inl (bsf (apB B cn (k + 1) (wB a b c d e))))) := ⟨_, rfl⟩
        refine aw_heap (h' := k_9) e_k_9.symm ?_
        have g9_m : k_9 m = some (.inr (5, [.int (nI 0), .ref ai, .int (nI (cn + k)), .ref am, .int (nI ln), .ref ak, .int (nI kl), .ref as_, .ref aks, .ref ar, .ref an, .ref ab, .int (nI mn)])) := by rw [e_k_9, av_up_ne (Ne.symm hne)]; exact hm1
        have g9_ai : k_9 ai = some (.inl (1, 65536, .inl (bsf (apB B cn (k + 1) (wB a b c d e))))) := by rw [e_k_9]; exact av_up_self _ _ _
        refine aw_aload_n d_M_feed_109 rfl ?_
        refine aw_dup d_M_feed_110 rfl ?_
        refine aw_get fl_M_40 d_M_feed_111 g9_m rfl ?_
        refine aw_iconst (v := nI 1) d_M_feed_114 (by decide) ?_
        refine aw_iadd (v := nI (cn + k + 1)) d_M_feed_115 (nI_add _ _) ?_
        refine aw_put (fs' := [.int (nI 0), .ref ai, .int (nI (cn + k + 1)), .ref am, .int (nI ln), .ref ak, .int (nI kl), .ref as_, .ref aks, .ref ar, .ref an, .ref ab, .int (nI mn)]) (pt_M_40 _) d_M_feed_116 g9_m rfl rfl (by simp) rfl ?_
        obtain ⟨k_10, e_k_10⟩ : ∃ z, z = av_up k_9 m (.inr (5, [.int (nI 0), .ref ai, .int (nI (cn + k + 1)), .ref am, .int (nI ln), .ref ak, .int (nI kl), .ref as_, .ref aks, .ref ar, .ref an, .ref ab, .int (nI mn)])) := ⟨_, rfl⟩
        refine aw_heap (h' := k_10) e_k_10.symm ?_
        have g10_ai : k_10 ai = some (.inl (1, 65536, .inl (bsf (apB B cn (k + 1) (wB a b c d e))))) := by rw [e_k_10, av_up_ne hne]; exact g9_ai
        have g10_m : k_10 m = some (.inr (5, [.int (nI 0), .ref ai, .int (nI (cn + k + 1)), .ref am, .int (nI ln), .ref ak, .int (nI kl), .ref as_, .ref aks, .ref ar, .ref an, .ref ab, .int (nI mn)])) := by rw [e_k_10]; exact av_up_self _ _ _
        refine aw_iinc (v := nI (k + 1)) (L' := [some (.ref m), some (.int (nI a)), some (.int (nI b)), some (.int (nI c)), some (.int (nI d)), some (.int (nI e)), some (.int (nI (k + 1))), some (.int (nI a))]) d_M_feed_119 rfl (nI_add k 1) (by decide) rfl rfl ?_
        refine aw_goto (tgt := 24) d_M_feed_122 (by decide) ?_
        refine aw_heap (h' := (av_up (av_up h ai (.inl (1, 65536, .inl (bsf (apB B cn (k + 1) (wB a b c d e)))))) m (mO (nI 0) ai (cn + (k + 1)) am ln ak kl as_ aks ar an ab mn))) (by rw [e_k_10, e_k_9, av_up4 hne]; rfl) ?_
        refine aw_loc (L' := [some (.ref m), some (.int (nI a)), some (.int (nI b)), some (.int (nI c)), some (.int (nI d)), some (.int (nI e)), some (.int (nI (k + 1))), none]) (by intro j v hv; match j, hv with | 0, hv => exact hv | 1, hv => exact hv | 2, hv => exact hv | 3, hv => exact hv | 4, hv => exact hv | 5, hv => exact hv | 6, hv => exact hv | 7, hv => cases hv | j + 8, hv => cases hv) ?_
        exact ih (k + 1) none (by omega) (by omega)

set_option maxHeartbeats 4000000 in
theorem c_M_feed {tb : Nat → Nat} {h : AH} {m ai am ak as_ aks ar an ab cn ln kl mn : Nat} {cd : Int32} {B HB KB : Nat → Nat} {fs fks fq fn fb : Nat → Int32} (M0 : mS h m ai am ak as_ aks ar an ab cd cn ln kl mn B HB KB fs fks fq fn fb) (K0 : mOK cn ln kl B HB KB fs) (hcn : cn + 20 ≤ 65536) (a b c d e : Nat) (ha : a < 4294967296) (hb : b < 4294967296) (hc : c < 4294967296) (hd_ : d < 4294967296) (he : e < 4294967296) : AM tb y_M_feed b_M_feed 8 none 0 0 [.ref m, .int (nI a), .int (nI b), .int (nI c), .int (nI d), .int (nI e)] h 0 0 (fun v h' => v = none ∧ h' = (av_up (av_up h ai (.inl (1, 65536, .inl (bsf (apB B cn 20 (wB a b c d e)))))) m (mO (nI 0) ai (cn + 20) am ln ak kl as_ aks ar an ab mn))) := by
  refine am_of (ini := false) [some (.ref m), some (.int (nI a)), some (.int (nI b)), some (.int (nI c)), some (.int (nI d)), some (.int (nI e)), none, none] (by decide) (fun z => by cases z) (Nat.le_of_ble_eq_true rfl) rfl ?_
  refine aw_aload_n d_M_feed_0 rfl ?_
  refine aw_aload_n d_M_feed_1 rfl ?_
  refine aw_get fl_M_40 d_M_feed_2 M0.1 rfl ?_
  refine aw_bipush (v := nI 20) d_M_feed_5 (by decide) ?_
  refine aw_iadd (v := nI (cn + 20)) d_M_feed_7 (nI_add _ _) ?_
  refine aw_ldc (v := nI 65536) d_M_feed_8 tw_624 ?_
  refine aw_icmp_le (tgt := 17) d_M_feed_10 (by decide) (fun c_10 => ?_) (fun c_10 => absurd c_10 (by rw [nI_leI (by omega) (by omega)]; omega))
  try rw [nI_leI (by omega) (by omega)] at c_10
  refine aw_iconst (v := nI 0) d_M_feed_17 (by decide) ?_
  refine aw_put (fs' := [.int (nI 0), .ref ai, .int (nI cn), .ref am, .int (nI ln), .ref ak, .int (nI kl), .ref as_, .ref aks, .ref ar, .ref an, .ref ab, .int (nI mn)]) (pt_M_36 _) d_M_feed_18 M0.1 rfl rfl (by simp) rfl ?_
  obtain ⟨k_1, e_k_1⟩ : ∃ z, z = av_up h m (.inr (5, [.int (nI 0), .ref ai, .int (nI cn), .ref am, .int (nI ln), .ref ak, .int (nI kl), .ref as_, .ref aks, .ref ar, .ref an, .ref ab, .int (nI mn)])) := ⟨_, rfl⟩
  refine aw_heap (h' := k_1) e_k_1.symm ?_
  have g1_ai : k_1 ai = some (.inl (1, 65536, .inl (bsf B))) := by rw [e_k_1, av_up_ne (av_apart M0.2.1 M0.1)]; exact M0.2.1
  have g1_am : k_1 am = some (.inl (1, 65536, .inl (bsf HB))) := by rw [e_k_1, av_up_ne (av_apart M0.2.2.1 M0.1)]; exact M0.2.2.1
  have g1_ak : k_1 ak = some (.inl (1, 65536, .inl (bsf KB))) := by rw [e_k_1, av_up_ne (av_apart M0.2.2.2.1 M0.1)]; exact M0.2.2.2.1
  have g1_as_ : k_1 as_ = some (.inl (0, 8192, .inl fs)) := by rw [e_k_1, av_up_ne (av_apart M0.2.2.2.2.1 M0.1)]; exact M0.2.2.2.2.1
  have g1_aks : k_1 aks = some (.inl (0, 8192, .inl fks)) := by rw [e_k_1, av_up_ne (av_apart M0.2.2.2.2.2.1 M0.1)]; exact M0.2.2.2.2.2.1
  have g1_ar : k_1 ar = some (.inl (0, 8192, .inl fq)) := by rw [e_k_1, av_up_ne (av_apart M0.2.2.2.2.2.2.1 M0.1)]; exact M0.2.2.2.2.2.2.1
  have g1_an : k_1 an = some (.inl (0, 8192, .inl fn)) := by rw [e_k_1, av_up_ne (av_apart M0.2.2.2.2.2.2.2.1 M0.1)]; exact M0.2.2.2.2.2.2.2.1
  have g1_ab : k_1 ab = some (.inl (0, 8192, .inl fb)) := by rw [e_k_1, av_up_ne (av_apart M0.2.2.2.2.2.2.2.2 M0.1)]; exact M0.2.2.2.2.2.2.2.2
  have g1_m : k_1 m = some (.inr (5, [.int (nI 0), .ref ai, .int (nI cn), .ref am, .int (nI ln), .ref ak, .int (nI kl), .ref as_, .ref aks, .ref ar, .ref an, .ref ab, .int (nI mn)])) := by rw [e_k_1]; exact av_up_self _ _ _
  refine aw_iconst (v := nI 0) d_M_feed_21 (by decide) ?_
  refine aw_istore (L' := [some (.ref m), some (.int (nI a)), some (.int (nI b)), some (.int (nI c)), some (.int (nI d)), some (.int (nI e)), some (.int (nI 0)), none]) d_M_feed_22 (by decide) rfl rfl ?_
  have hne : ai ≠ m := av_apart M0.2.1 M0.1
  refine aw_heap (h' := (av_up (av_up h ai (.inl (1, 65536, .inl (bsf (apB B cn 0 (wB a b c d e)))))) m (mO (nI 0) ai (cn + 0) am ln ak kl as_ aks ar an ab mn))) (by rw [e_k_1, apB_0, av_up_id M0.2.1]; rfl) ?_
  exact lp_M_feed (by decide) (by decide) hne hcn a b c d e ha hb hc hd_ he 21 0 none (by omega) (by omega)
