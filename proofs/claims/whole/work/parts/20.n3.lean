/-- the first c bytes are the same -/
def agr (B B' : Nat → Nat) (c : Nat) : Prop := ∀ i, i < c → B i = B' i
theorem bh_agr {B B' : Nat → Nat} {c a : Nat} (h : agr B B' c) (ha : a + 2 ≤ c) : bh B' a = bh B a := by unfold bh; rw [h a (by omega), h (a + 1) (by omega)]
theorem bw_agr {B B' : Nat → Nat} {c a : Nat} (h : agr B B' c) (ha : a + 4 ≤ c) : bw B' a = bw B a := by unfold bw; rw [h a (by omega), h (a + 1) (by omega), h (a + 2) (by omega), h (a + 3) (by omega)]
theorem bl_agr {B B' : Nat → Nat} {c a : Nat} (h : agr B B' c) (ha : a + 7 ≤ c) : bl B' a = bl B a := by unfold bl; rw [h (a + 4) (by omega), bh_agr h (by omega)]
theorem nn_agr {B B' : Nat → Nat} {c : Nat} (h : agr B B' c) (hc : 8 ≤ c) : nn B' = nn B := bh_agr h (by omega)
theorem oa_agr {B B' : Nat → Nat} {c : Nat} (h : agr B B' c) (hl : laid B c (nn B)) : ∀ k, 1 ≤ k → k ≤ nn B + 1 → oa B' k = oa B k
  | 0, h1, _ => absurd h1 (by decide)
  | 1, _, _ => rfl
  | k + 2, _, h2 => by
    have e := oa_agr h hl (k + 1) (by omega) (by omega)
    have a := (hl.2.2.2.2.2 (k + 1) (by omega) (by omega)).2.2.2.1
    rw [oa, oa, e, bl_agr h (by omega)]
theorem sp_agr {B B' : Nat → Nat} {c : Nat} (h : agr B B' c) (hc : 208 ≤ c) {k : Nat} (hk : k < 50) : sp B' k = sp B k := bw_agr h (by omega)
theorem ob_agr {B B' : Nat → Nat} {c : Nat} (h : agr B B' c) (hl : laid B c (nn B)) {k : Nat} (h1 : 1 ≤ k) (h2 : k ≤ nn B) : cl B' k = cl B k ∧ kd B' k = kd B k ∧ sz B' k = sz B k ∧ (kd B k ≠ 1 → ∀ i, i < sz B k → fd B' k i = fd B k i) ∧ (kd B k = 1 → ∀ i, i < sz B k → bt B' k i = bt B k i) := by
  have a := hl.2.2.2.2.2 k h1 h2
  have e := oa_agr h hl k h1 (by omega)
  have a4 := a.2.2.2.1
  refine ⟨?_, ?_, ?_, fun hk i hi => ?_, fun hk i hi => ?_⟩
  · unfold cl; rw [e]; exact bw_agr h (by omega)
  · unfold kd; rw [e]; exact (h _ (by omega)).symm
  · unfold sz; rw [e]; exact bh_agr h (by omega)
  · have b : bl B (oa B k) = 4 * sz B k := bl_0 hk
    unfold fd; rw [e]; exact bw_agr h (by omega)
  · have b : bl B (oa B k) = sz B k := bl_1 hk
    unfold bt; rw [e]; exact (h _ (by omega)).symm
theorem laid_agr {B B' : Nat → Nat} {c : Nat} (h : agr B B' c) (hl : laid B c (nn B)) : laid B' c (nn B') := by
  have en := nn_agr h (by have := hl.1; omega)
  refine ⟨hl.1, hl.2.1, by rw [en]; exact hl.2.2.1, by rw [en]; exact hl.2.2.2.1, fun k hk => by rw [sp_agr h hl.1 hk, en]; exact hl.2.2.2.2.1 k hk, fun k h1 h2 => ?_⟩
  rw [en] at h2
  obtain ⟨e1, e2, e3, e4, e5⟩ := ob_agr h hl h1 h2
  have a := hl.2.2.2.2.2 k h1 h2
  have e := oa_agr h hl k h1 (by omega)
  rw [e1, e2, e3, en, e, bl_agr h (by have := a.2.2.2.1; omega)]
  exact ⟨a.1, a.2.1, a.2.2.1, a.2.2.2.1, fun hk i hi => by rw [e4 (by omega) i hi]; exact a.2.2.2.2 hk i hi⟩
def cpB (A B : Nat → Nat) (n : Nat) : Nat → Nat := fun i => if i < n then B i else A i
theorem cpB_0 (A B : Nat → Nat) : cpB A B 0 = A := by
  funext i
  unfold cpB
  rw [if_neg (by omega)]
theorem cpB_s (A B : Nat → Nat) (n : Nat) : uB (cpB A B n) n (B n) = cpB A B (n + 1) := by
  funext i
  unfold uB cpB
  by_cases h : i = n
  · rw [if_pos h, if_pos (by omega), h]
  · rw [if_neg h]
    by_cases h2 : i < n
    · rw [if_pos h2, if_pos (by omega)]
    · rw [if_neg h2, if_neg (by omega)]
theorem cpB_agr (A B : Nat → Nat) (n : Nat) : agr B (cpB A B n) n := fun i hi => by unfold cpB; rw [if_pos hi]
theorem cpB_lt {A B : Nat → Nat} (hA : ∀ i, A i < 256) (hB : ∀ i, B i < 256) (n : Nat) : ∀ i, cpB A B n i < 256 := fun i => by
  unfold cpB
  split
  · exact hB i
  · exact hA i
theorem plc_lt {B : Nat → Nat} (hB : ∀ i, B i < 256) {c p : Nat} (hc : c ≤ 65536) (h : plc B c = some p) : p < 2 ^ 31 := by
  unfold plc at h
  cases q1 : plH B c with
  | some r => rw [q1] at h; have h1 := plH_lt q1; have h2 := Option.some.inj h; omega
  | none =>
    rw [q1, orE_r rfl] at h
    cases q2 : plS B c with
    | some r => rw [q2] at h; have h1 := plS_lt q2; have h2 := Option.some.inj h; omega
    | none =>
      rw [q2, orE_r rfl] at h
      cases q3 : plO B c (nn B) 208 with
      | some r => rw [q3] at h; have h1 := plO_lt hB (plS_c q2) q3; have h2 := Option.some.inj h; omega
      | none =>
        rw [q3, orE_r rfl] at h
        rcases orE_some h with h | h
        · exact plR_lt h
        rcases orE_some h with h | h
        · exact plP_lt h
        rcases orE_some h with h | h
        · exact plB_lt (laid_of hc q1 q2 q3).1 h
        · exact plQ_lt h
theorem plc_none {B : Nat → Nat} {c : Nat} (h : plc B c = none) : plH B c = none ∧ plS B c = none ∧ plO B c (nn B) 208 = none := by
  unfold plc at h
  have a := orE_none h
  have b := orE_none a.2
  exact ⟨a.1, b.1, (orE_none b.2).1⟩

set_option maxHeartbeats 4000000 in
theorem lp_M_note {tb : Nat → Nat} {h : AH} {fr lo : Nat} {mc ms : Nat} (hfr : 3 ≤ fr) (hlo : 63 ≤ lo) {a s_ c : Nat} {B : Nat → Nat} {fs : Nat → Int32} (hB_ : ∀ i, B i < 256) (hb : h a = some (.inl (1, 65536, .inl (bsf B)))) (hst : h s_ = some (.inl (0, 8192, .inl fs))) (hl : laid B c (nn B)) (hne : a ≠ s_) : ∀ (d : Nat) (k : Nat) (f : Nat → Int32), 1 ≤ k → k ≤ nn B + 1 → (∀ j, 1 ≤ j → j < k → f j = nI (oa B j)) → nn B + 1 < k + d → AW tb "ImageReaderModel" b_M_note 4 none false none fr lo (fun v h' => v = none ∧ ∃ f, h' = (av_up h s_ (.inl (0, 8192, .inl f))) ∧ ∀ k, 1 ≤ k → k ≤ nn B → f k = nI (oa B k)) 6 [some (.ref a), some (.ref s_), some (.int (nI (oa B k))), some (.int (nI k))] [] (av_up h s_ (.inl (0, 8192, .inl f))) mc ms := by
  intro d
  induction d with
  | zero => intro k f hk1 hk2 hz hd; omega
  | succ d ih =>
    intro k f hk1 hk2 hz hd
    have hn := hl.2.2.2.1
    have hb1 : (av_up h s_ (.inl (0, 8192, .inl f))) a = some (.inl (1, 65536, .inl (bsf B))) := by rw [av_up_ne hne]; exact hb
    have hs1 : (av_up h s_ (.inl (0, 8192, .inl f))) s_ = some (.inl (0, 8192, .inl f)) := av_up_self _ _ _
    refine aw_iload_n d_M_note_6 rfl ?_
    refine aw_aload_n d_M_note_7 rfl ?_
    refine aw_callSi (mc2 := mc) (ms2 := ms) (r := nI (nn B)) (As := [.ref a]) (rest := [.int (nI k)]) (c_M_objects_aB hB_ hb1 (by omega) (by omega)) cs_M_101 d_M_note_8 rfl rfl (Nat.le_of_ble_eq_true rfl) (by omega) (by omega) (by omega) (by omega) ?_
    have b_8 : nn B < 65536 := bh_lt hB_ 6
    refine aw_icmp_gt (tgt := 30) d_M_note_11 (by decide) (fun c_11 => ?_) (fun c_11 => ?_)
    · rw [nI_ltI (by omega) (by omega)] at c_11
      exact aw_vret d_M_note_30 rfl ⟨rfl, f, rfl, fun j h1 h2 => hz j h1 (by omega)⟩
    · rw [nI_ltI (by omega) (by omega)] at c_11
      have ho := (hl.2.2.2.2.2 k hk1 (by omega)).2.2.2.1
      have hc := hl.2.1
      refine aw_aload_n d_M_note_14 rfl ?_
      refine aw_iload_n d_M_note_15 rfl ?_
      refine aw_iload_n d_M_note_16 rfl ?_
      refine aw_iast (f' := upd f k (nI (oa B k))) d_M_note_17 hs1 (vp_in_nI (by omega) (by omega)) (by rw [nI_clamp (by omega)]) ?_
      obtain ⟨k_1, e_k_1⟩ : ∃ z, z = av_up (av_up h s_ (.inl (0, 8192, .inl f))) s_ (.inl (0, 8192, .inl (upd f k (nI (oa B k))))) := ⟨_, rfl⟩
      refine aw_heap (h' := k_1) e_k_1.symm ?_
      have g1_a : k_1 a = some (.inl (1, 65536, .inl (bsf B))) := by rw [e_k_1, av_up_ne hne]; exact hb1
      have g1_s_ : k_1 s_ = some (.inl (0, 8192, .inl (upd f k (nI (oa B k))))) := by rw [e_k_1]; exact av_up_self _ _ _
      refine aw_aload_n d_M_note_18 rfl ?_
      refine aw_iload_n d_M_note_19 rfl ?_
      refine aw_callSi (mc2 := mc) (ms2 := ms) (r := nI (oa B k + 7 + bl B (oa B k))) (As := [.ref a, .int (nI (oa B k))]) (rest := []) (c_M_endAt hB_ g1_a (by omega) (oa B k) (by omega)) cs_M_143 d_M_note_20 rfl rfl (Nat.le_of_ble_eq_true rfl) (by omega) (by omega) (by omega) (by omega) ?_
      refine aw_istore_n (L' := [some (.ref a), some (.ref s_), some (.int (nI (oa B k + 7 + bl B (oa B k)))), some (.int (nI k))]) d_M_note_23 (by decide) rfl rfl ?_
      refine aw_iinc (v := nI (k + 1)) (L' := [some (.ref a), some (.ref s_), some (.int (nI (oa B k + 7 + bl B (oa B k)))), some (.int (nI (k + 1)))]) d_M_note_24 rfl (nI_add k 1) (by decide) rfl rfl ?_
      refine aw_goto (tgt := 6) d_M_note_27 (by decide) ?_
      refine aw_heap (h' := (av_up h s_ (.inl (0, 8192, .inl (upd f k (nI (oa B k))))))) (by rw [e_k_1, av_up_up]) ?_
      refine aw_loc (L' := [some (.ref a), some (.ref s_), some (.int (nI (oa B (k + 1)))), some (.int (nI (k + 1)))]) (by intro j v hv; match j, hv with | 0, hv => exact hv | 1, hv => exact hv | 2, hv => (rw [oa_s B hk1] at hv; exact hv) | 3, hv => exact hv | j + 4, hv => cases hv) ?_
      exact ih (k + 1) _ (by omega) (by omega) (upd_all (g := fun j => nI (oa B j)) hz) (by omega)

set_option maxHeartbeats 4000000 in
theorem c_M_note {tb : Nat → Nat} {h : AH} {a s_ c : Nat} {B : Nat → Nat} {fs : Nat → Int32} (hB_ : ∀ i, B i < 256) (hb : h a = some (.inl (1, 65536, .inl (bsf B)))) (hst : h s_ = some (.inl (0, 8192, .inl fs))) (hl : laid B c (nn B)) : AM tb y_M_note b_M_note 4 none 3 63 [.ref a, .ref s_] h 0 0 (fun v h' => v = none ∧ ∃ f, h' = (av_up h s_ (.inl (0, 8192, .inl f))) ∧ ∀ k, 1 ≤ k → k ≤ nn B → f k = nI (oa B k)) := by
  refine am_of (ini := false) [some (.ref a), some (.ref s_), none, none] (by decide) (fun z => by cases z) (Nat.le_of_ble_eq_true rfl) rfl ?_
  refine aw_sipush (v := nI 208) d_M_note_0 (by decide) ?_
  refine aw_istore_n (L' := [some (.ref a), some (.ref s_), some (.int (nI 208)), none]) d_M_note_3 (by decide) rfl rfl ?_
  refine aw_iconst (v := nI 1) d_M_note_4 (by decide) ?_
  refine aw_istore_n (L' := [some (.ref a), some (.ref s_), some (.int (nI 208)), some (.int (nI 1))]) d_M_note_5 (by decide) rfl rfl ?_
  refine aw_heap (h' := (av_up h s_ (.inl (0, 8192, .inl fs)))) (av_up_id hst).symm ?_
  exact lp_M_note (by decide) (by decide) hB_ hb hst hl (av_apT hb hst (by decide)) (nn B + 1) 1 fs (by omega) (by omega) (fun j h1 h2 => by omega) (by omega)

set_option maxHeartbeats 4000000 in
theorem lp_M_readC {tb : Nat → Nat} {h : AH} {fr lo : Nat} {mc ms : Nat} (hfr : 0 ≤ fr) (hlo : 0 ≤ lo) {m ai am ak as_ aks ar an ab cn ln kl mn : Nat} {cd : Int32} {B HB : Nat → Nat} {Post : Option Value → AH → Prop} (hS_ : ∀ i, B i < 256) (hm : h m = some (mO cd ai cn am ln ak kl as_ aks ar an ab mn)) (hsrc : h ai = some (.inl (1, 65536, .inl (bsf B)))) (hdst : h am = some (.inl (1, 65536, .inl (bsf HB)))) (hne : ai ≠ am) (hcn : cn ≤ 65536) (x1 : Int32) (kx : AW tb "ImageReaderModel" b_M_read 3 (some .int) false none fr lo Post 43 [some (.ref m), some (.int x1), none] [] (av_up h am (.inl (1, 65536, .inl (bsf (cpB HB B cn))))) mc ms) : ∀ (d : Nat) (i : Nat), i ≤ cn → cn < i + d → AW tb "ImageReaderModel" b_M_read 3 (some .int) false none fr lo (Post) 17 [some (.ref m), some (.int x1), some (.int (nI i))] [] (av_up h am (.inl (1, 65536, .inl (bsf (cpB HB B i))))) mc ms := by
  intro d
  induction d with
  | zero => intro i hi hd; omega
  | succ d ih =>
    intro i hi hd
    have hm1 : (av_up h am (.inl (1, 65536, .inl (bsf (cpB HB B i))))) m = some (mO cd ai cn am ln ak kl as_ aks ar an ab mn) := by rw [av_up_ne (av_apart' hm hdst)]; exact hm
    have hs1 : (av_up h am (.inl (1, 65536, .inl (bsf (cpB HB B i))))) ai = some (.inl (1, 65536, .inl (bsf B))) := by rw [av_up_ne hne]; exact hsrc
    have hd1 : (av_up h am (.inl (1, 65536, .inl (bsf (cpB HB B i))))) am = some (.inl (1, 65536, .inl (bsf (cpB HB B i)))) := av_up_self _ _ _
    refine aw_iload_n d_M_read_17 rfl ?_
    refine aw_aload_n d_M_read_18 rfl ?_
    refine aw_get fl_M_40 d_M_read_19 hm1 rfl ?_
    refine aw_icmp_ge (tgt := 43) d_M_read_22 (by decide) (fun c_22 => ?_) (fun c_22 => ?_)
    · rw [nI_leI (by omega) (by omega)] at c_22
      refine aw_loc (L' := [some (.ref m), some (.int x1), none]) (by intro j v hv; match j, hv with | 0, hv => exact hv | 1, hv => exact hv | 2, hv => cases hv | j + 3, hv => cases hv) ?_
      exact aw_heap (h' := (av_up h am (.inl (1, 65536, .inl (bsf (cpB HB B cn)))))) (by rw [show i = cn by omega]) kx
    · rw [nI_leI (by omega) (by omega)] at c_22
      refine aw_aload_n d_M_read_25 rfl ?_
      refine aw_get fl_M_14 d_M_read_26 hm1 rfl ?_
      refine aw_iload_n d_M_read_29 rfl ?_
      refine aw_aload_n d_M_read_30 rfl ?_
      refine aw_get fl_M_8 d_M_read_31 hm1 rfl ?_
      refine aw_iload_n d_M_read_34 rfl ?_
      refine aw_bald (x := bs (B i)) d_M_read_35 hs1 (vp_in_nI (by omega) (by omega)) (by rw [nI_clamp (by omega)]; rfl) ?_
      refine aw_bast (f' := bsf (cpB HB B (i + 1))) d_M_read_36 hd1 (vp_in_nI (by omega) (by omega)) (by rw [nI_clamp (by omega), uB_upd, cpB_s]) ?_
      obtain ⟨k_1, e_k_1⟩ : ∃ z, z = av_up (av_up h am (.inl (1, 65536, .inl (bsf (cpB HB B i))))) am (.inl (1, 65536, .inl (bsf (cpB HB B (i + 1))))) := ⟨_, rfl⟩
      refine aw_heap (h' := k_1) e_k_1.symm ?_
      have g1_m : k_1 m = some (.inr (5, [.int cd, .ref ai, .int (nI cn), .ref am, .int (nI ln), .ref ak, .int (nI kl), .ref as_, .ref aks, .ref ar, .ref an, .ref ab, .int (nI mn)])) := by rw [e_k_1, av_up_ne (av_apart' hm hdst)]; exact hm1
      have g1_ai : k_1 ai = some (.inl (1, 65536, .inl (bsf B))) := by rw [e_k_1, av_up_ne hne]; exact hs1
      have g1_am : k_1 am = some (.inl (1, 65536, .inl (bsf (cpB HB B (i + 1))))) := by rw [e_k_1]; exact av_up_self _ _ _
      refine aw_iinc (v := nI (i + 1)) (L' := [some (.ref m), some (.int x1), some (.int (nI (i + 1)))]) d_M_read_37 rfl (nI_add i 1) (by decide) rfl rfl ?_
      refine aw_goto (tgt := 17) d_M_read_40 (by decide) ?_
      refine aw_heap (h' := (av_up h am (.inl (1, 65536, .inl (bsf (cpB HB B (i + 1))))))) (by rw [e_k_1, av_up_up]) ?_
      exact ih (i + 1) (by omega) (by omega)

set_option maxHeartbeats 4000000 in
theorem lp_M_keepC {tb : Nat → Nat} {h : AH} {fr lo : Nat} {mc ms : Nat} (hfr : 0 ≤ fr) (hlo : 0 ≤ lo) {m ai am ak as_ aks ar an ab cn ln kl mn : Nat} {cd : Int32} {HB KB : Nat → Nat} {Post : Option Value → AH → Prop} (hS_ : ∀ i, HB i < 256) (hm : h m = some (mO cd ai cn am ln ak kl as_ aks ar an ab mn)) (hsrc : h am = some (.inl (1, 65536, .inl (bsf HB)))) (hdst : h ak = some (.inl (1, 65536, .inl (bsf KB)))) (hne : am ≠ ak) (hcn : ln ≤ 65536)  (kx : AW tb "ImageReaderModel" b_M_keep 2 (some .boolean) false none fr lo Post 33 [some (.ref m), none] [] (av_up h ak (.inl (1, 65536, .inl (bsf (cpB KB HB ln))))) mc ms) : ∀ (d : Nat) (i : Nat), i ≤ ln → ln < i + d → AW tb "ImageReaderModel" b_M_keep 2 (some .boolean) false none fr lo (Post) 7 [some (.ref m), some (.int (nI i))] [] (av_up h ak (.inl (1, 65536, .inl (bsf (cpB KB HB i))))) mc ms := by
  intro d
  induction d with
  | zero => intro i hi hd; omega
  | succ d ih =>
    intro i hi hd
    have hm1 : (av_up h ak (.inl (1, 65536, .inl (bsf (cpB KB HB i))))) m = some (mO cd ai cn am ln ak kl as_ aks ar an ab mn) := by rw [av_up_ne (av_apart' hm hdst)]; exact hm
    have hs1 : (av_up h ak (.inl (1, 65536, .inl (bsf (cpB KB HB i))))) am = some (.inl (1, 65536, .inl (bsf HB))) := by rw [av_up_ne hne]; exact hsrc
    have hd1 : (av_up h ak (.inl (1, 65536, .inl (bsf (cpB KB HB i))))) ak = some (.inl (1, 65536, .inl (bsf (cpB KB HB i)))) := av_up_self _ _ _
    refine aw_iload_n d_M_keep_7 rfl ?_
    refine aw_aload_n d_M_keep_8 rfl ?_
    refine aw_get fl_M_149 d_M_keep_9 hm1 rfl ?_
    refine aw_icmp_ge (tgt := 33) d_M_keep_12 (by decide) (fun c_12 => ?_) (fun c_12 => ?_)
    · rw [nI_leI (by omega) (by omega)] at c_12
      refine aw_loc (L' := [some (.ref m), none]) (by intro j v hv; match j, hv with | 0, hv => exact hv | 1, hv => cases hv | j + 2, hv => cases hv) ?_
      exact aw_heap (h' := (av_up h ak (.inl (1, 65536, .inl (bsf (cpB KB HB ln)))))) (by rw [show i = ln by omega]) kx
    · rw [nI_leI (by omega) (by omega)] at c_12
      refine aw_aload_n d_M_keep_15 rfl ?_
      refine aw_get fl_M_17 d_M_keep_16 hm1 rfl ?_
      refine aw_iload_n d_M_keep_19 rfl ?_
      refine aw_aload_n d_M_keep_20 rfl ?_
      refine aw_get fl_M_14 d_M_keep_21 hm1 rfl ?_
      refine aw_iload_n d_M_keep_24 rfl ?_
      refine aw_bald (x := bs (HB i)) d_M_keep_25 hs1 (vp_in_nI (by omega) (by omega)) (by rw [nI_clamp (by omega)]; rfl) ?_
      refine aw_bast (f' := bsf (cpB KB HB (i + 1))) d_M_keep_26 hd1 (vp_in_nI (by omega) (by omega)) (by rw [nI_clamp (by omega), uB_upd, cpB_s]) ?_
      obtain ⟨k_1, e_k_1⟩ : ∃ z, z = av_up (av_up h ak (.inl (1, 65536, .inl (bsf (cpB KB HB i))))) ak (.inl (1, 65536, .inl (bsf (cpB KB HB (i + 1))))) := ⟨_, rfl⟩
      refine aw_heap (h' := k_1) e_k_1.symm ?_
      have g1_m : k_1 m = some (.inr (5, [.int cd, .ref ai, .int (nI cn), .ref am, .int (nI ln), .ref ak, .int (nI kl), .ref as_, .ref aks, .ref ar, .ref an, .ref ab, .int (nI mn)])) := by rw [e_k_1, av_up_ne (av_apart' hm hdst)]; exact hm1
      have g1_am : k_1 am = some (.inl (1, 65536, .inl (bsf HB))) := by rw [e_k_1, av_up_ne hne]; exact hs1
      have g1_ak : k_1 ak = some (.inl (1, 65536, .inl (bsf (cpB KB HB (i + 1))))) := by rw [e_k_1]; exact av_up_self _ _ _
      refine aw_iinc (v := nI (i + 1)) (L' := [some (.ref m), some (.int (nI (i + 1)))]) d_M_keep_27 rfl (nI_add i 1) (by decide) rfl rfl ?_
      refine aw_goto (tgt := 7) d_M_keep_30 (by decide) ?_
      refine aw_heap (h' := (av_up h ak (.inl (1, 65536, .inl (bsf (cpB KB HB (i + 1))))))) (by rw [e_k_1, av_up_up]) ?_
      exact ih (i + 1) (by omega) (by omega)

set_option maxHeartbeats 4000000 in
theorem c_M_read {tb : Nat → Nat} {h : AH} {m ai am ak as_ aks ar an ab cn ln kl mn : Nat} {cd : Int32} {B HB KB : Nat → Nat} {fs fks fq fn fb : Nat → Int32} (M0 : mS h m ai am ak as_ aks ar an ab cd cn ln kl mn B HB KB fs fks fq fn fb) (K0 : mOK cn ln kl B HB KB fs) (D0 : mND ai am ak as_ aks ar an ab)  : AM tb y_M_read b_M_read 3 (some .int) 8 185 [.ref m] h 0 0 (fun v h' => v = some (.int (pI (plc B cn))) ∧ ∃ f, (plc B cn = none → mS h' m ai am ak as_ aks ar an ab (nI 0) 0 cn kl mn B (cpB HB B cn) KB f fks fq fn fb ∧ VX (cpB HB B cn) cn f) ∧ (plc B cn ≠ none → mS h' m ai am ak as_ aks ar an ab (nI 0) 0 ln kl mn B HB KB f fks fq fn fb ∧ (0 < ln → VX HB ln f)) ∧ mFr m ai am ak as_ aks ar an ab h h') := by
  have k_cn := K0.2.2.2.1
  have k_ln := K0.2.2.2.2.1
  refine am_of (ini := false) [some (.ref m), none, none] (by decide) (fun z => by cases z) (Nat.le_of_ble_eq_true rfl) rfl ?_
  refine aw_aload_n d_M_read_0 rfl ?_
  refine aw_iconst (v := nI 0) d_M_read_1 (by decide) ?_
  refine aw_put (fs' := [.int (nI 0), .ref ai, .int (nI cn), .ref am, .int (nI ln), .ref ak, .int (nI kl), .ref as_, .ref aks, .ref ar, .ref an, .ref ab, .int (nI mn)]) (pt_M_36 _) d_M_read_2 M0.1 rfl rfl (by simp) rfl ?_
  obtain ⟨k_1, e_k_1⟩ : ∃ z, z = av_up h m (.inr (5, [.int (nI 0), .ref ai, .int (nI cn), .ref am, .int (nI ln), .ref ak, .int (nI kl), .ref as_, .ref aks, .ref ar, .ref an, .ref ab, .int (nI mn)])) := ⟨_, rfl⟩
  refine aw_heap (h' := k_1) e_k_1.symm ?_
  have g1_ai : k_1 ai = some (.inl (1, 65536, .inl (bsf B))) := by rw [e_k_1, av_up_ne (av_apart M0.2.1 M0.1)]; exact M0.2.1
  have g1_am : k_1 am = some (.inl (1, 65536, .inl (bsf HB))) := by rw [e_k_1, av_up_ne (av_apart M0.2.2.1 M0.1)]; exact M0.2.2.1
  have g1_ak : k_1 ak = some (.inl (1, 65536, .inl (bsf KB))) := by rw [e_k_1, av_up_ne (av_apart M0.2.2.2.1 M0.1)]; exact M0.2.2.2.1
  have g1_as_ : k_1 as_ = some (.inl (0, 8192, .inl fs)) := by rw [e_k_1, av_up_ne (av_apart M0.2.2.2.2.1 M0.1)]; exact M0.2.2.2.2.1
  have g1_aks : k_1 aks = some (.inl (0, 8192, .inl fks)) := by rw [e_k_1, av_up_ne (av_apart M0.2.2.2.2.2.1 M0.1)]; exact M0.2.2.2.2.2.1
  have g1_ar : k_1 ar = some (.inl (0, 8192, .inl fq)) := by rw [e_k_1, av_up_ne (av_apart M0.2.2.2.2.2.2.1 M0.1)]; exact M0.2.2.2.2.2.2.1
  have g1_an : k_1 an = some (.inl (0, 8192, .inl fn)) := by rw [e_k_1, av_up_ne (av_apart M0.2.2.2.2.2.2.2.1 M0.1)]; exact M0.2.2.2.2.2.2.2.1
  have g1_ab : k_1 ab = some (.inl (0, 8192, .inl fb)) := by rw [e_k_1, av_up_ne (av_apart M0.2.2.2.2.2.2.2.2 M0.1)]; exact M0.2.2.2.2.2.2.2.2
  have g1_m : k_1 m = some (.inr (5, [.int (nI 0), .ref ai, .int (nI cn), .ref am, .int (nI ln), .ref ak, .int (nI kl), .ref as_, .ref aks, .ref ar, .ref an, .ref ab, .int (nI mn)])) := by rw [e_k_1]; exact av_up_self _ _ _
  refine aw_aload_n d_M_read_5 rfl ?_
  refine aw_callV (mc2 := 0) (ms2 := 0) (As := []) (rest := []) (c_M_place K0.1 g1_m g1_ai k_cn g1_as_ (av_apart' g1_m g1_as_) (av_apT g1_ai g1_as_ (by decide))) cv_M_146 d_M_read_6 g1_m rfl rfl rfl (Nat.le_of_ble_eq_true rfl) (by decide) (by decide) (by omega) (by omega) (fun v_6 k_6c q_6 => ?_)
  obtain ⟨z1, fp, z2, z3⟩ := q_6
  refine aw_st (st' := .int (pI (plc B cn)) :: []) (by rw [z1]; rfl) ?_
  have gp_ai : k_6c ai = some (.inl (1, 65536, .inl (bsf B))) := by rw [z2, av_up_ne (av_apT g1_ai g1_as_ (by decide))]; exact g1_ai
  have gp_am : k_6c am = some (.inl (1, 65536, .inl (bsf HB))) := by rw [z2, av_up_ne (av_apT g1_am g1_as_ (by decide))]; exact g1_am
  have gp_ak : k_6c ak = some (.inl (1, 65536, .inl (bsf KB))) := by rw [z2, av_up_ne (av_apT g1_ak g1_as_ (by decide))]; exact g1_ak
  have gp_aks : k_6c aks = some (.inl (0, 8192, .inl fks)) := by rw [z2, av_up_ne (Ne.symm D0.2.1.1)]; exact g1_aks
  have gp_ar : k_6c ar = some (.inl (0, 8192, .inl fq)) := by rw [z2, av_up_ne (Ne.symm D0.2.1.2.1)]; exact g1_ar
  have gp_an : k_6c an = some (.inl (0, 8192, .inl fn)) := by rw [z2, av_up_ne (Ne.symm D0.2.1.2.2.1)]; exact g1_an
  have gp_ab : k_6c ab = some (.inl (0, 8192, .inl fb)) := by rw [z2, av_up_ne (Ne.symm D0.2.1.2.2.2)]; exact g1_ab
  have gp_m : k_6c m = some (.inr (5, [.int (nI 0), .ref ai, .int (nI cn), .ref am, .int (nI ln), .ref ak, .int (nI kl), .ref as_, .ref aks, .ref ar, .ref an, .ref ab, .int (nI mn)])) := by rw [z2, av_up_ne (av_apart' g1_m g1_as_)]; exact g1_m
  have gp_as_ : k_6c as_ = some (.inl (0, 8192, .inl fp)) := by rw [z2]; exact av_up_self _ _ _
  refine aw_istore_n (L' := [some (.ref m), some (.int (pI (plc B cn))), none]) d_M_read_9 (by decide) rfl rfl ?_
  refine aw_iload_n d_M_read_10 rfl ?_
  refine aw_iconst (v := (-1)) d_M_read_11 (by decide) ?_
  refine aw_icmp_ne (tgt := 51) d_M_read_12 (by decide) (fun c_12 => ?_) (fun c_12 => ?_)
  · rw [pI_m1 (fun p hp => plc_lt K0.1 k_cn hp)] at c_12
    refine aw_aload_n d_M_read_51 rfl ?_
    refine aw_iconst (v := nI 0) d_M_read_52 (by decide) ?_
    refine aw_put (fs' := [.int (nI 0), .ref ai, .int (nI 0), .ref am, .int (nI ln), .ref ak, .int (nI kl), .ref as_, .ref aks, .ref ar, .ref an, .ref ab, .int (nI mn)]) (pt_M_40 _) d_M_read_53 gp_m rfl rfl (by simp) rfl ?_
    obtain ⟨k_2, e_k_2⟩ : ∃ z, z = av_up k_6c m (.inr (5, [.int (nI 0), .ref ai, .int (nI 0), .ref am, .int (nI ln), .ref ak, .int (nI kl), .ref as_, .ref aks, .ref ar, .ref an, .ref ab, .int (nI mn)])) := ⟨_, rfl⟩
    refine aw_heap (h' := k_2) e_k_2.symm ?_
    have g2_ai : k_2 ai = some (.inl (1, 65536, .inl (bsf B))) := by rw [e_k_2, av_up_ne (av_apart gp_ai gp_m)]; exact gp_ai
    have g2_am : k_2 am = some (.inl (1, 65536, .inl (bsf HB))) := by rw [e_k_2, av_up_ne (av_apart gp_am gp_m)]; exact gp_am
    have g2_ak : k_2 ak = some (.inl (1, 65536, .inl (bsf KB))) := by rw [e_k_2, av_up_ne (av_apart gp_ak gp_m)]; exact gp_ak
    have g2_aks : k_2 aks = some (.inl (0, 8192, .inl fks)) := by rw [e_k_2, av_up_ne (av_apart gp_aks gp_m)]; exact gp_aks
    have g2_ar : k_2 ar = some (.inl (0, 8192, .inl fq)) := by rw [e_k_2, av_up_ne (av_apart gp_ar gp_m)]; exact gp_ar
    have g2_an : k_2 an = some (.inl (0, 8192, .inl fn)) := by rw [e_k_2, av_up_ne (av_apart gp_an gp_m)]; exact gp_an
    have g2_ab : k_2 ab = some (.inl (0, 8192, .inl fb)) := by rw [e_k_2, av_up_ne (av_apart gp_ab gp_m)]; exact gp_ab
    have g2_as_ : k_2 as_ = some (.inl (0, 8192, .inl fp)) := by rw [e_k_2, av_up_ne (av_apart gp_as_ gp_m)]; exact gp_as_
    have g2_m : k_2 m = some (.inr (5, [.int (nI 0), .ref ai, .int (nI 0), .ref am, .int (nI ln), .ref ak, .int (nI kl), .ref as_, .ref aks, .ref ar, .ref an, .ref ab, .int (nI mn)])) := by rw [e_k_2]; exact av_up_self _ _ _
    refine aw_aload_n d_M_read_56 rfl ?_
    refine aw_get fl_M_149 d_M_read_57 g2_m rfl ?_
    refine aw_if_le (tgt := 74) d_M_read_60 (by decide) (fun c_60 => ?_) (fun c_60 => ?_)
    · rw [z_le (by omega)] at c_60
      refine aw_iload_n d_M_read_74 rfl ?_
      exact aw_iret d_M_read_75 rfl rfl ⟨rfl, _, fun z => absurd z c_12, fun _ => ⟨⟨g2_m, g2_ai, g2_am, g2_ak, g2_as_, g2_aks, g2_ar, g2_an, g2_ab⟩, fun z => absurd z (by omega)⟩, fun q a_m a_ai a_am a_ak a_as_ a_aks a_ar a_an a_ab => by rw [e_k_2, av_up_ne a_m, z2, av_up_ne a_as_, e_k_1, av_up_ne a_m]⟩
    · rw [z_le (by omega)] at c_60
      have LO := (K0.2.2.2.2.2.2.1 (by omega)).1
      refine aw_aload_n d_M_read_63 rfl ?_
      refine aw_get fl_M_14 d_M_read_64 g2_m rfl ?_
      refine aw_aload_n d_M_read_67 rfl ?_
      refine aw_get fl_M_20 d_M_read_68 g2_m rfl ?_
      refine aw_callS (mc2 := 0) (ms2 := 0) (As := [.ref am, .ref as_]) (rest := []) (c_M_note K0.2.1 g2_am g2_as_ LO) cs_M_152 d_M_read_71 rfl rfl (Nat.le_of_ble_eq_true rfl) (by decide) (by decide) (by omega) (by omega) (fun v_71 k_71c q_71 => ?_)
      obtain ⟨n1_71, f_71, n2_71, n3_71⟩ := q_71
      refine aw_st (st' := []) (by rw [n1_71]; rfl) ?_
      have gn71_ai : k_71c ai = some (.inl (1, 65536, .inl (bsf B))) := by rw [n2_71, av_up_ne (av_apT g2_ai g2_as_ (by decide))]; exact g2_ai
      have gn71_am : k_71c am = some (.inl (1, 65536, .inl (bsf HB))) := by rw [n2_71, av_up_ne (av_apT g2_am g2_as_ (by decide))]; exact g2_am
      have gn71_ak : k_71c ak = some (.inl (1, 65536, .inl (bsf KB))) := by rw [n2_71, av_up_ne (av_apT g2_ak g2_as_ (by decide))]; exact g2_ak
      have gn71_aks : k_71c aks = some (.inl (0, 8192, .inl fks)) := by rw [n2_71, av_up_ne (Ne.symm D0.2.1.1)]; exact g2_aks
      have gn71_ar : k_71c ar = some (.inl (0, 8192, .inl fq)) := by rw [n2_71, av_up_ne (Ne.symm D0.2.1.2.1)]; exact g2_ar
      have gn71_an : k_71c an = some (.inl (0, 8192, .inl fn)) := by rw [n2_71, av_up_ne (Ne.symm D0.2.1.2.2.1)]; exact g2_an
      have gn71_ab : k_71c ab = some (.inl (0, 8192, .inl fb)) := by rw [n2_71, av_up_ne (Ne.symm D0.2.1.2.2.2)]; exact g2_ab
      have gn71_m : k_71c m = some (.inr (5, [.int (nI 0), .ref ai, .int (nI 0), .ref am, .int (nI ln), .ref ak, .int (nI kl), .ref as_, .ref aks, .ref ar, .ref an, .ref ab, .int (nI mn)])) := by rw [n2_71, av_up_ne (av_apart' g2_m g2_as_)]; exact g2_m
      have gn71_as_ : k_71c as_ = some (.inl (0, 8192, .inl f_71)) := by rw [n2_71]; exact av_up_self _ _ _
      refine aw_iload_n d_M_read_74 rfl ?_
      exact aw_iret d_M_read_75 rfl rfl ⟨rfl, _, fun z => absurd z c_12, fun _ => ⟨⟨gn71_m, gn71_ai, gn71_am, gn71_ak, gn71_as_, gn71_aks, gn71_ar, gn71_an, gn71_ab⟩, fun z => ⟨(K0.2.2.2.2.2.2.1 (by omega)).1, fun k h1 h2 => n3_71 k h1 h2⟩⟩, fun q a_m a_ai a_am a_ak a_as_ a_aks a_ar a_an a_ab => by rw [n2_71, av_up_ne a_as_, e_k_2, av_up_ne a_m, z2, av_up_ne a_as_, e_k_1, av_up_ne a_m]⟩
  · rw [pI_m1 (fun p hp => plc_lt K0.1 k_cn hp)] at c_12
    refine aw_iconst (v := nI 0) d_M_read_15 (by decide) ?_
    refine aw_istore_n (L' := [some (.ref m), some (.int (pI (plc B cn))), some (.int (nI 0))]) d_M_read_16 (by decide) rfl rfl ?_
    have z4 := plc_none c_12
    have LD := laid_of k_cn z4.1 z4.2.1 z4.2.2
    have LA := laid_agr (cpB_agr HB B cn) LD.1
    refine lp_M_readC (by decide) (by decide) K0.1 gp_m gp_ai gp_am D0.1.1 k_cn _ ?_ (cn + 1) 0 (by omega) (by omega) |> (fun z => aw_heap (by rw [cpB_0, av_up_id gp_am]) z)
    obtain ⟨k_L, e_L⟩ : ∃ z, z = av_up k_6c am (.inl (1, 65536, .inl (bsf (cpB HB B cn)))) := ⟨_, rfl⟩
    refine aw_heap (h' := k_L) e_L.symm ?_
    have gL_ai : k_L ai = some (.inl (1, 65536, .inl (bsf B))) := by rw [e_L, av_up_ne D0.1.1]; exact gp_ai
    have gL_ak : k_L ak = some (.inl (1, 65536, .inl (bsf KB))) := by rw [e_L, av_up_ne (Ne.symm D0.1.2.2)]; exact gp_ak
    have gL_aks : k_L aks = some (.inl (0, 8192, .inl fks)) := by rw [e_L, av_up_ne (av_apT gp_aks gp_am (by decide))]; exact gp_aks
    have gL_ar : k_L ar = some (.inl (0, 8192, .inl fq)) := by rw [e_L, av_up_ne (av_apT gp_ar gp_am (by decide))]; exact gp_ar
    have gL_an : k_L an = some (.inl (0, 8192, .inl fn)) := by rw [e_L, av_up_ne (av_apT gp_an gp_am (by decide))]; exact gp_an
    have gL_ab : k_L ab = some (.inl (0, 8192, .inl fb)) := by rw [e_L, av_up_ne (av_apT gp_ab gp_am (by decide))]; exact gp_ab
    have gL_m : k_L m = some (.inr (5, [.int (nI 0), .ref ai, .int (nI cn), .ref am, .int (nI ln), .ref ak, .int (nI kl), .ref as_, .ref aks, .ref ar, .ref an, .ref ab, .int (nI mn)])) := by rw [e_L, av_up_ne (av_apart' gp_m gp_am)]; exact gp_m
    have gL_as_ : k_L as_ = some (.inl (0, 8192, .inl fp)) := by rw [e_L, av_up_ne (av_apT gp_as_ gp_am (by decide))]; exact gp_as_
    have gL_am : k_L am = some (.inl (1, 65536, .inl (bsf (cpB HB B cn)))) := by rw [e_L]; exact av_up_self _ _ _
    refine aw_aload_n d_M_read_43 rfl ?_
    refine aw_aload_n d_M_read_44 rfl ?_
    refine aw_get fl_M_40 d_M_read_45 gL_m rfl ?_
    refine aw_put (fs' := [.int (nI 0), .ref ai, .int (nI cn), .ref am, .int (nI cn), .ref ak, .int (nI kl), .ref as_, .ref aks, .ref ar, .ref an, .ref ab, .int (nI mn)]) (pt_M_149 _) d_M_read_48 gL_m rfl rfl (by simp) rfl ?_
    obtain ⟨k_3, e_k_3⟩ : ∃ z, z = av_up k_L m (.inr (5, [.int (nI 0), .ref ai, .int (nI cn), .ref am, .int (nI cn), .ref ak, .int (nI kl), .ref as_, .ref aks, .ref ar, .ref an, .ref ab, .int (nI mn)])) := ⟨_, rfl⟩
    refine aw_heap (h' := k_3) e_k_3.symm ?_
    have g3_ai : k_3 ai = some (.inl (1, 65536, .inl (bsf B))) := by rw [e_k_3, av_up_ne (av_apart gL_ai gL_m)]; exact gL_ai
    have g3_ak : k_3 ak = some (.inl (1, 65536, .inl (bsf KB))) := by rw [e_k_3, av_up_ne (av_apart gL_ak gL_m)]; exact gL_ak
    have g3_aks : k_3 aks = some (.inl (0, 8192, .inl fks)) := by rw [e_k_3, av_up_ne (av_apart gL_aks gL_m)]; exact gL_aks
    have g3_ar : k_3 ar = some (.inl (0, 8192, .inl fq)) := by rw [e_k_3, av_up_ne (av_apart gL_ar gL_m)]; exact gL_ar
    have g3_an : k_3 an = some (.inl (0, 8192, .inl fn)) := by rw [e_k_3, av_up_ne (av_apart gL_an gL_m)]; exact gL_an
    have g3_ab : k_3 ab = some (.inl (0, 8192, .inl fb)) := by rw [e_k_3, av_up_ne (av_apart gL_ab gL_m)]; exact gL_ab
    have g3_as_ : k_3 as_ = some (.inl (0, 8192, .inl fp)) := by rw [e_k_3, av_up_ne (av_apart gL_as_ gL_m)]; exact gL_as_
    have g3_am : k_3 am = some (.inl (1, 65536, .inl (bsf (cpB HB B cn)))) := by rw [e_k_3, av_up_ne (av_apart gL_am gL_m)]; exact gL_am
    have g3_m : k_3 m = some (.inr (5, [.int (nI 0), .ref ai, .int (nI cn), .ref am, .int (nI cn), .ref ak, .int (nI kl), .ref as_, .ref aks, .ref ar, .ref an, .ref ab, .int (nI mn)])) := by rw [e_k_3]; exact av_up_self _ _ _
    refine aw_aload_n d_M_read_51 rfl ?_
    refine aw_iconst (v := nI 0) d_M_read_52 (by decide) ?_
    refine aw_put (fs' := [.int (nI 0), .ref ai, .int (nI 0), .ref am, .int (nI cn), .ref ak, .int (nI kl), .ref as_, .ref aks, .ref ar, .ref an, .ref ab, .int (nI mn)]) (pt_M_40 _) d_M_read_53 g3_m rfl rfl (by simp) rfl ?_
    obtain ⟨k_4, e_k_4⟩ : ∃ z, z = av_up k_3 m (.inr (5, [.int (nI 0), .ref ai, .int (nI 0), .ref am, .int (nI cn), .ref ak, .int (nI kl), .ref as_, .ref aks, .ref ar, .ref an, .ref ab, .int (nI mn)])) := ⟨_, rfl⟩
    refine aw_heap (h' := k_4) e_k_4.symm ?_
    have g4_ai : k_4 ai = some (.inl (1, 65536, .inl (bsf B))) := by rw [e_k_4, av_up_ne (av_apart g3_ai g3_m)]; exact g3_ai
    have g4_ak : k_4 ak = some (.inl (1, 65536, .inl (bsf KB))) := by rw [e_k_4, av_up_ne (av_apart g3_ak g3_m)]; exact g3_ak
    have g4_aks : k_4 aks = some (.inl (0, 8192, .inl fks)) := by rw [e_k_4, av_up_ne (av_apart g3_aks g3_m)]; exact g3_aks
    have g4_ar : k_4 ar = some (.inl (0, 8192, .inl fq)) := by rw [e_k_4, av_up_ne (av_apart g3_ar g3_m)]; exact g3_ar
    have g4_an : k_4 an = some (.inl (0, 8192, .inl fn)) := by rw [e_k_4, av_up_ne (av_apart g3_an g3_m)]; exact g3_an
    have g4_ab : k_4 ab = some (.inl (0, 8192, .inl fb)) := by rw [e_k_4, av_up_ne (av_apart g3_ab g3_m)]; exact g3_ab
    have g4_as_ : k_4 as_ = some (.inl (0, 8192, .inl fp)) := by rw [e_k_4, av_up_ne (av_apart g3_as_ g3_m)]; exact g3_as_
    have g4_am : k_4 am = some (.inl (1, 65536, .inl (bsf (cpB HB B cn)))) := by rw [e_k_4, av_up_ne (av_apart g3_am g3_m)]; exact g3_am
    have g4_m : k_4 m = some (.inr (5, [.int (nI 0), .ref ai, .int (nI 0), .ref am, .int (nI cn), .ref ak, .int (nI kl), .ref as_, .ref aks, .ref ar, .ref an, .ref ab, .int (nI mn)])) := by rw [e_k_4]; exact av_up_self _ _ _
    refine aw_aload_n d_M_read_56 rfl ?_
    refine aw_get fl_M_149 d_M_read_57 g4_m rfl ?_
    refine aw_if_le (tgt := 74) d_M_read_60 (by decide) (fun c_60 => absurd c_60 (by have q := LD.1.1; rw [z_le (by omega)]; omega)) (fun c_60 => ?_)
    try rw [z_le (by omega)] at c_60
    refine aw_aload_n d_M_read_63 rfl ?_
    refine aw_get fl_M_14 d_M_read_64 g4_m rfl ?_
    refine aw_aload_n d_M_read_67 rfl ?_
    refine aw_get fl_M_20 d_M_read_68 g4_m rfl ?_
    refine aw_callS (mc2 := 0) (ms2 := 0) (As := [.ref am, .ref as_]) (rest := []) (c_M_note (cpB_lt K0.2.1 K0.1 cn) g4_am g4_as_ LA) cs_M_152 d_M_read_71 rfl rfl (Nat.le_of_ble_eq_true rfl) (by decide) (by decide) (by omega) (by omega) (fun v_71 k_71c q_71 => ?_)
    obtain ⟨n1_71, f_71, n2_71, n3_71⟩ := q_71
    refine aw_st (st' := []) (by rw [n1_71]; rfl) ?_
    have gn71_ai : k_71c ai = some (.inl (1, 65536, .inl (bsf B))) := by rw [n2_71, av_up_ne (av_apT g4_ai g4_as_ (by decide))]; exact g4_ai
    have gn71_ak : k_71c ak = some (.inl (1, 65536, .inl (bsf KB))) := by rw [n2_71, av_up_ne (av_apT g4_ak g4_as_ (by decide))]; exact g4_ak
    have gn71_aks : k_71c aks = some (.inl (0, 8192, .inl fks)) := by rw [n2_71, av_up_ne (Ne.symm D0.2.1.1)]; exact g4_aks
    have gn71_ar : k_71c ar = some (.inl (0, 8192, .inl fq)) := by rw [n2_71, av_up_ne (Ne.symm D0.2.1.2.1)]; exact g4_ar
    have gn71_an : k_71c an = some (.inl (0, 8192, .inl fn)) := by rw [n2_71, av_up_ne (Ne.symm D0.2.1.2.2.1)]; exact g4_an
    have gn71_ab : k_71c ab = some (.inl (0, 8192, .inl fb)) := by rw [n2_71, av_up_ne (Ne.symm D0.2.1.2.2.2)]; exact g4_ab
    have gn71_am : k_71c am = some (.inl (1, 65536, .inl (bsf (cpB HB B cn)))) := by rw [n2_71, av_up_ne (av_apT g4_am g4_as_ (by decide))]; exact g4_am
    have gn71_m : k_71c m = some (.inr (5, [.int (nI 0), .ref ai, .int (nI 0), .ref am, .int (nI cn), .ref ak, .int (nI kl), .ref as_, .ref aks, .ref ar, .ref an, .ref ab, .int (nI mn)])) := by rw [n2_71, av_up_ne (av_apart' g4_m g4_as_)]; exact g4_m
    have gn71_as_ : k_71c as_ = some (.inl (0, 8192, .inl f_71)) := by rw [n2_71]; exact av_up_self _ _ _
    refine aw_iload_n d_M_read_74 rfl ?_
    exact aw_iret d_M_read_75 rfl rfl ⟨rfl, _, fun _ => ⟨⟨gn71_m, gn71_ai, gn71_am, gn71_ak, gn71_as_, gn71_aks, gn71_ar, gn71_an, gn71_ab⟩, LA, fun k h1 h2 => n3_71 k h1 h2⟩, fun z => absurd c_12 z, fun q a_m a_ai a_am a_ak a_as_ a_aks a_ar a_an a_ab => by rw [n2_71, av_up_ne a_as_, e_k_4, av_up_ne a_m, e_k_3, av_up_ne a_m, e_L, av_up_ne a_am, z2, av_up_ne a_as_, e_k_1, av_up_ne a_m]⟩

set_option maxHeartbeats 4000000 in
theorem c_M_keep {tb : Nat → Nat} {h : AH} {m ai am ak as_ aks ar an ab cn ln kl mn : Nat} {cd : Int32} {B HB KB : Nat → Nat} {fs fks fq fn fb : Nat → Int32} (M0 : mS h m ai am ak as_ aks ar an ab cd cn ln kl mn B HB KB fs fks fq fn fb) (K0 : mOK cn ln kl B HB KB fs) (D0 : mND ai am ak as_ aks ar an ab)  : AM tb y_M_keep b_M_keep 2 (some .boolean) 0 0 [.ref m] h 0 0 (fun v h' => v = some (.int (bP (0 < ln))) ∧ mS h' m ai am ak as_ aks ar an ab (nI 0) cn ln (if 0 < ln then ln else kl) mn B HB (cpB KB HB ln) fs fks fq fn fb ∧ mFr m ai am ak as_ aks ar an ab h h') := by
  have k_ln := K0.2.2.2.2.1
  have k_kl := K0.2.2.2.2.2.1
  refine am_of (ini := false) [some (.ref m), none] (by decide) (fun z => by cases z) (Nat.le_of_ble_eq_true rfl) rfl ?_
  refine aw_aload_n d_M_keep_0 rfl ?_
  refine aw_iconst (v := nI 0) d_M_keep_1 (by decide) ?_
  refine aw_put (fs' := [.int (nI 0), .ref ai, .int (nI cn), .ref am, .int (nI ln), .ref ak, .int (nI kl), .ref as_, .ref aks, .ref ar, .ref an, .ref ab, .int (nI mn)]) (pt_M_36 _) d_M_keep_2 M0.1 rfl rfl (by simp) rfl ?_
  obtain ⟨k_1, e_k_1⟩ : ∃ z, z = av_up h m (.inr (5, [.int (nI 0), .ref ai, .int (nI cn), .ref am, .int (nI ln), .ref ak, .int (nI kl), .ref as_, .ref aks, .ref ar, .ref an, .ref ab, .int (nI mn)])) := ⟨_, rfl⟩
  refine aw_heap (h' := k_1) e_k_1.symm ?_
  have g1_ai : k_1 ai = some (.inl (1, 65536, .inl (bsf B))) := by rw [e_k_1, av_up_ne (av_apart M0.2.1 M0.1)]; exact M0.2.1
  have g1_am : k_1 am = some (.inl (1, 65536, .inl (bsf HB))) := by rw [e_k_1, av_up_ne (av_apart M0.2.2.1 M0.1)]; exact M0.2.2.1
  have g1_ak : k_1 ak = some (.inl (1, 65536, .inl (bsf KB))) := by rw [e_k_1, av_up_ne (av_apart M0.2.2.2.1 M0.1)]; exact M0.2.2.2.1
  have g1_as_ : k_1 as_ = some (.inl (0, 8192, .inl fs)) := by rw [e_k_1, av_up_ne (av_apart M0.2.2.2.2.1 M0.1)]; exact M0.2.2.2.2.1
  have g1_aks : k_1 aks = some (.inl (0, 8192, .inl fks)) := by rw [e_k_1, av_up_ne (av_apart M0.2.2.2.2.2.1 M0.1)]; exact M0.2.2.2.2.2.1
  have g1_ar : k_1 ar = some (.inl (0, 8192, .inl fq)) := by rw [e_k_1, av_up_ne (av_apart M0.2.2.2.2.2.2.1 M0.1)]; exact M0.2.2.2.2.2.2.1
  have g1_an : k_1 an = some (.inl (0, 8192, .inl fn)) := by rw [e_k_1, av_up_ne (av_apart M0.2.2.2.2.2.2.2.1 M0.1)]; exact M0.2.2.2.2.2.2.2.1
  have g1_ab : k_1 ab = some (.inl (0, 8192, .inl fb)) := by rw [e_k_1, av_up_ne (av_apart M0.2.2.2.2.2.2.2.2 M0.1)]; exact M0.2.2.2.2.2.2.2.2
  have g1_m : k_1 m = some (.inr (5, [.int (nI 0), .ref ai, .int (nI cn), .ref am, .int (nI ln), .ref ak, .int (nI kl), .ref as_, .ref aks, .ref ar, .ref an, .ref ab, .int (nI mn)])) := by rw [e_k_1]; exact av_up_self _ _ _
  refine aw_iconst (v := nI 0) d_M_keep_5 (by decide) ?_
  refine aw_istore_n (L' := [some (.ref m), some (.int (nI 0))]) d_M_keep_6 (by decide) rfl rfl ?_
  refine lp_M_keepC (by decide) (by decide) K0.2.1 g1_m g1_am g1_ak D0.1.2.2 k_ln ?_ (ln + 1) 0 (by omega) (by omega) |> (fun z => aw_heap (by rw [cpB_0, av_up_id g1_ak]) z)
  obtain ⟨k_L, e_L⟩ : ∃ z, z = av_up k_1 ak (.inl (1, 65536, .inl (bsf (cpB KB HB ln)))) := ⟨_, rfl⟩
  refine aw_heap (h' := k_L) e_L.symm ?_
  have gL_ai : k_L ai = some (.inl (1, 65536, .inl (bsf B))) := by rw [e_L, av_up_ne D0.1.2.1]; exact g1_ai
  have gL_am : k_L am = some (.inl (1, 65536, .inl (bsf HB))) := by rw [e_L, av_up_ne D0.1.2.2]; exact g1_am
  have gL_as_ : k_L as_ = some (.inl (0, 8192, .inl fs)) := by rw [e_L, av_up_ne (av_apT g1_as_ g1_ak (by decide))]; exact g1_as_
  have gL_aks : k_L aks = some (.inl (0, 8192, .inl fks)) := by rw [e_L, av_up_ne (av_apT g1_aks g1_ak (by decide))]; exact g1_aks
  have gL_ar : k_L ar = some (.inl (0, 8192, .inl fq)) := by rw [e_L, av_up_ne (av_apT g1_ar g1_ak (by decide))]; exact g1_ar
  have gL_an : k_L an = some (.inl (0, 8192, .inl fn)) := by rw [e_L, av_up_ne (av_apT g1_an g1_ak (by decide))]; exact g1_an
  have gL_ab : k_L ab = some (.inl (0, 8192, .inl fb)) := by rw [e_L, av_up_ne (av_apT g1_ab g1_ak (by decide))]; exact g1_ab
  have gL_m : k_L m = some (.inr (5, [.int (nI 0), .ref ai, .int (nI cn), .ref am, .int (nI ln), .ref ak, .int (nI kl), .ref as_, .ref aks, .ref ar, .ref an, .ref ab, .int (nI mn)])) := by rw [e_L, av_up_ne (av_apart' g1_m g1_ak)]; exact g1_m
  have gL_ak : k_L ak = some (.inl (1, 65536, .inl (bsf (cpB KB HB ln)))) := by rw [e_L]; exact av_up_self _ _ _
  refine aw_aload_n d_M_keep_33 rfl ?_
  refine aw_aload_n d_M_keep_34 rfl ?_
  refine aw_get fl_M_149 d_M_keep_35 gL_m rfl ?_
  refine aw_if_le (tgt := 48) d_M_keep_38 (by decide) (fun c_38 => ?_) (fun c_38 => ?_)
  · rw [z_le (by omega)] at c_38
    refine aw_aload_n d_M_keep_48 rfl ?_
    refine aw_get fl_M_176 d_M_keep_49 gL_m rfl ?_
    refine aw_put (fs' := [.int (nI 0), .ref ai, .int (nI cn), .ref am, .int (nI ln), .ref ak, .int (nI kl), .ref as_, .ref aks, .ref ar, .ref an, .ref ab, .int (nI mn)]) (pt_M_176 _) d_M_keep_52 gL_m rfl rfl (by simp) rfl ?_
    obtain ⟨k_2, e_k_2⟩ : ∃ z, z = av_up k_L m (.inr (5, [.int (nI 0), .ref ai, .int (nI cn), .ref am, .int (nI ln), .ref ak, .int (nI kl), .ref as_, .ref aks, .ref ar, .ref an, .ref ab, .int (nI mn)])) := ⟨_, rfl⟩
    refine aw_heap (h' := k_2) e_k_2.symm ?_
    have g2_ai : k_2 ai = some (.inl (1, 65536, .inl (bsf B))) := by rw [e_k_2, av_up_ne (av_apart gL_ai gL_m)]; exact gL_ai
    have g2_am : k_2 am = some (.inl (1, 65536, .inl (bsf HB))) := by rw [e_k_2, av_up_ne (av_apart gL_am gL_m)]; exact gL_am
    have g2_as_ : k_2 as_ = some (.inl (0, 8192, .inl fs)) := by rw [e_k_2, av_up_ne (av_apart gL_as_ gL_m)]; exact gL_as_
    have g2_aks : k_2 aks = some (.inl (0, 8192, .inl fks)) := by rw [e_k_2, av_up_ne (av_apart gL_aks gL_m)]; exact gL_aks
    have g2_ar : k_2 ar = some (.inl (0, 8192, .inl fq)) := by rw [e_k_2, av_up_ne (av_apart gL_ar gL_m)]; exact gL_ar
    have g2_an : k_2 an = some (.inl (0, 8192, .inl fn)) := by rw [e_k_2, av_up_ne (av_apart gL_an gL_m)]; exact gL_an
    have g2_ab : k_2 ab = some (.inl (0, 8192, .inl fb)) := by rw [e_k_2, av_up_ne (av_apart gL_ab gL_m)]; exact gL_ab
    have g2_ak : k_2 ak = some (.inl (1, 65536, .inl (bsf (cpB KB HB ln)))) := by rw [e_k_2, av_up_ne (av_apart gL_ak gL_m)]; exact gL_ak
    have g2_m : k_2 m = some (.inr (5, [.int (nI 0), .ref ai, .int (nI cn), .ref am, .int (nI ln), .ref ak, .int (nI kl), .ref as_, .ref aks, .ref ar, .ref an, .ref ab, .int (nI mn)])) := by rw [e_k_2]; exact av_up_self _ _ _
    refine aw_aload_n d_M_keep_55 rfl ?_
    refine aw_get fl_M_149 d_M_keep_56 g2_m rfl ?_
    refine aw_if_le (tgt := 66) d_M_keep_59 (by decide) (fun c_59 => ?_) (fun c_59 => absurd c_59 (by rw [z_le (by omega)]; omega))
    try rw [z_le (by omega)] at c_59
    refine aw_iconst (v := nI 0) d_M_keep_66 (by decide) ?_
    exact aw_iret d_M_keep_67 rfl nar0 ⟨by rw [bP_f (by omega)], by rw [show (if 0 < ln then ln else kl) = kl from if_neg (by omega)]; exact ⟨g2_m, g2_ai, g2_am, g2_ak, g2_as_, g2_aks, g2_ar, g2_an, g2_ab⟩, fun q a_m a_ai a_am a_ak a_as_ a_aks a_ar a_an a_ab => by rw [e_k_2, av_up_ne a_m, e_L, av_up_ne a_ak, e_k_1, av_up_ne a_m]⟩
  · rw [z_le (by omega)] at c_38
    refine aw_aload_n d_M_keep_41 rfl ?_
    refine aw_get fl_M_149 d_M_keep_42 gL_m rfl ?_
    refine aw_goto (tgt := 52) d_M_keep_45 (by decide) ?_
    refine aw_put (fs' := [.int (nI 0), .ref ai, .int (nI cn), .ref am, .int (nI ln), .ref ak, .int (nI ln), .ref as_, .ref aks, .ref ar, .ref an, .ref ab, .int (nI mn)]) (pt_M_176 _) d_M_keep_52 gL_m rfl rfl (by simp) rfl ?_
    obtain ⟨k_3, e_k_3⟩ : ∃ z, z = av_up k_L m (.inr (5, [.int (nI 0), .ref ai, .int (nI cn), .ref am, .int (nI ln), .ref ak, .int (nI ln), .ref as_, .ref aks, .ref ar, .ref an, .ref ab, .int (nI mn)])) := ⟨_, rfl⟩
    refine aw_heap (h' := k_3) e_k_3.symm ?_
    have g3_ai : k_3 ai = some (.inl (1, 65536, .inl (bsf B))) := by rw [e_k_3, av_up_ne (av_apart gL_ai gL_m)]; exact gL_ai
    have g3_am : k_3 am = some (.inl (1, 65536, .inl (bsf HB))) := by rw [e_k_3, av_up_ne (av_apart gL_am gL_m)]; exact gL_am
    have g3_as_ : k_3 as_ = some (.inl (0, 8192, .inl fs)) := by rw [e_k_3, av_up_ne (av_apart gL_as_ gL_m)]; exact gL_as_
    have g3_aks : k_3 aks = some (.inl (0, 8192, .inl fks)) := by rw [e_k_3, av_up_ne (av_apart gL_aks gL_m)]; exact gL_aks
    have g3_ar : k_3 ar = some (.inl (0, 8192, .inl fq)) := by rw [e_k_3, av_up_ne (av_apart gL_ar gL_m)]; exact gL_ar
    have g3_an : k_3 an = some (.inl (0, 8192, .inl fn)) := by rw [e_k_3, av_up_ne (av_apart gL_an gL_m)]; exact gL_an
    have g3_ab : k_3 ab = some (.inl (0, 8192, .inl fb)) := by rw [e_k_3, av_up_ne (av_apart gL_ab gL_m)]; exact gL_ab
    have g3_ak : k_3 ak = some (.inl (1, 65536, .inl (bsf (cpB KB HB ln)))) := by rw [e_k_3, av_up_ne (av_apart gL_ak gL_m)]; exact gL_ak
    have g3_m : k_3 m = some (.inr (5, [.int (nI 0), .ref ai, .int (nI cn), .ref am, .int (nI ln), .ref ak, .int (nI ln), .ref as_, .ref aks, .ref ar, .ref an, .ref ab, .int (nI mn)])) := by rw [e_k_3]; exact av_up_self _ _ _
    refine aw_aload_n d_M_keep_55 rfl ?_
    refine aw_get fl_M_149 d_M_keep_56 g3_m rfl ?_
    refine aw_if_le (tgt := 66) d_M_keep_59 (by decide) (fun c_59 => absurd c_59 (by rw [z_le (by omega)]; omega)) (fun c_59 => ?_)
    try rw [z_le (by omega)] at c_59
    refine aw_iconst (v := nI 1) d_M_keep_62 (by decide) ?_
    refine aw_goto (tgt := 67) d_M_keep_63 (by decide) ?_
    exact aw_iret d_M_keep_67 rfl nar1 ⟨by rw [bP_t (by omega)], by rw [show (if 0 < ln then ln else kl) = ln from if_pos (by omega)]; exact ⟨g3_m, g3_ai, g3_am, g3_ak, g3_as_, g3_aks, g3_ar, g3_an, g3_ab⟩, fun q a_m a_ai a_am a_ak a_as_ a_aks a_ar a_an a_ab => by rw [e_k_3, av_up_ne a_m, e_L, av_up_ne a_ak, e_k_1, av_up_ne a_m]⟩
