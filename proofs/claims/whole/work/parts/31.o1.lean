/-! ===== the class: the JDK's leaves, Bytes ===== -/

set_option maxHeartbeats 4000000 in
theorem c_A_copyOf_aBI {tb : Nat → Nat} {h : AH} {a cap n : Nat} {B : Nat → Nat} (hB_ : ∀ i, B i < 256) (ha : h a = some (.inl (1, cap, .inl (bsf B)))) (h0 : 0 < cap) (hn : n = 2 * cap) (hc : cap ≤ 1048576) : AM tb y_A_copyOf_aBI b_A_copyOf_aBI 3 (some (.array .byte)) 1 26 [.ref a, .int (nI n)] h 1 n (fun v h' => ∃ q, v = some (.ref q) ∧ h q = none ∧ h' = av_up h q (.inl (1, n, .inl (bsf (cutB B cap))))) := by
  refine am_of (ini := false) [some (.ref a), some (.int (nI n)), none] (by decide) (fun z => by cases z) (Nat.le_of_ble_eq_true rfl) rfl ?_
  refine aw_iload_n d_A_copyOf_aBI_0 rfl ?_
  refine aw_aload_n d_A_copyOf_aBI_1 rfl ?_
  refine aw_alen (v := nI cap) d_A_copyOf_aBI_2 ha (fun _ => rfl) rfl ?_
  refine aw_icmp_ne (tgt := 14) d_A_copyOf_aBI_3 (by decide) (fun c_3 => ?_) (fun c_3 => absurd c_3 (by rw [w_eq (by omega) (by omega)]; omega))
  try rw [w_eq (by omega) (by omega)] at c_3
  refine aw_iload_n d_A_copyOf_aBI_14 rfl ?_
  refine aw_newa (t := 1) (N := n) (z := (n, .inl (fun _ => 0))) (mc2 := 0) (ms2 := 0) d_A_copyOf_aBI_15 tw_41 (fun _ => rfl) (fun _ _ z => z) (fun _ => rfl) (nI_pos (by omega)) (nI_clamp (by omega)) (by simp only [newarray.typeOf, componentBytes]; omega) (by omega) (by omega) (fun q_15 f_q_15 => ?_)
  obtain ⟨k_1, e_k_1⟩ : ∃ z, z = av_up h q_15 (.inl (1, n, .inl (fun _ => 0))) := ⟨_, rfl⟩
  refine aw_heap (h' := k_1) e_k_1.symm ?_
  have ne_a_q_15 : a ≠ q_15 := (fun z => by have z1 := ha; rw [z, f_q_15] at z1; cases z1)
  have g1_a : k_1 a = some (.inl (1, cap, .inl (bsf B))) := by rw [e_k_1, av_up_ne ne_a_q_15]; exact ha
  have g1_q_15 : k_1 q_15 = some (.inl (1, n, .inl (fun _ => 0))) := by rw [e_k_1]; exact av_up_self _ _ _
  refine aw_astore_n (L' := [some (.ref a), some (.int (nI n)), some (.ref q_15)]) d_A_copyOf_aBI_17 (by decide) rfl rfl ?_
  refine aw_aload_n d_A_copyOf_aBI_18 rfl ?_
  refine aw_iconst (v := nI 0) d_A_copyOf_aBI_19 (by decide) ?_
  refine aw_aload_n d_A_copyOf_aBI_20 rfl ?_
  refine aw_iconst (v := nI 0) d_A_copyOf_aBI_21 (by decide) ?_
  refine aw_aload_n d_A_copyOf_aBI_22 rfl ?_
  refine aw_alen (v := nI cap) d_A_copyOf_aBI_23 g1_a (fun _ => rfl) rfl ?_
  refine aw_iload_n d_A_copyOf_aBI_24 rfl ?_
  refine aw_mmin (r := nI (min cap n)) d_A_copyOf_aBI_25 tw_247 (nI_min (by omega) (by omega)) (by decide) (by decide) (Nat.le_of_ble_eq_true rfl) ?_
  refine aw_copy (f' := bsf (cutB B cap)) d_A_copyOf_aBI_28 tw_250 g1_a g1_q_15 (fun _ => rfl) rfl (by decide) (by decide) (nI_pos (by omega)) (by rw [nI_clamp (n := 0) (by omega), nI_clamp (by omega)]; omega) (by rw [nI_clamp (n := 0) (by omega), nI_clamp (by omega)]; omega) (fun i hi => fits_bs _ (hB_ _)) (by rw [nI_clamp (n := 0) (by omega), nI_clamp (by omega)]; rw [show min cap n = cap by omega]; exact cpy_bsf) (by decide) (by decide) (Nat.le_of_ble_eq_true rfl) ?_
  obtain ⟨k_2, e_k_2⟩ : ∃ z, z = av_up k_1 q_15 (.inl (1, n, .inl (bsf (cutB B cap)))) := ⟨_, rfl⟩
  refine aw_heap (h' := k_2) e_k_2.symm ?_
  have g2_a : k_2 a = some (.inl (1, cap, .inl (bsf B))) := by rw [e_k_2, av_up_ne ne_a_q_15]; exact g1_a
  have g2_q_15 : k_2 q_15 = some (.inl (1, n, .inl (bsf (cutB B cap)))) := by rw [e_k_2]; exact av_up_self _ _ _
  refine aw_aload_n d_A_copyOf_aBI_31 rfl ?_
  exact aw_aret d_A_copyOf_aBI_32 rfl (by first | exact Or.inl ⟨_, rfl⟩ | exact Or.inr ⟨_, rfl⟩) ⟨q_15, rfl, f_q_15, by rw [e_k_2, e_k_1, av_up_up]⟩

set_option maxHeartbeats 4000000 in
theorem c_A_copyOf_aII {tb : Nat → Nat} {h : AH} {a cap n : Nat} {f : Nat → Int32} (ha : h a = some (.inl (0, cap, .inl f))) (h0 : 0 < cap) (hn : n = 2 * cap) (hc : cap ≤ 1048576) : AM tb y_A_copyOf_aII b_A_copyOf_aII 3 (some (.array .int)) 1 26 [.ref a, .int (nI n)] h 1 n (fun v h' => ∃ q, v = some (.ref q) ∧ h q = none ∧ h' = av_up h q (.inl (0, n, .inl (va_cpy f (fun _ => 0) 0 0 cap)))) := by
  refine am_of (ini := false) [some (.ref a), some (.int (nI n)), none] (by decide) (fun z => by cases z) (Nat.le_of_ble_eq_true rfl) rfl ?_
  refine aw_iload_n d_A_copyOf_aII_0 rfl ?_
  refine aw_aload_n d_A_copyOf_aII_1 rfl ?_
  refine aw_alen (v := nI cap) d_A_copyOf_aII_2 ha (fun _ => rfl) rfl ?_
  refine aw_icmp_ne (tgt := 14) d_A_copyOf_aII_3 (by decide) (fun c_3 => ?_) (fun c_3 => absurd c_3 (by rw [w_eq (by omega) (by omega)]; omega))
  try rw [w_eq (by omega) (by omega)] at c_3
  refine aw_iload_n d_A_copyOf_aII_14 rfl ?_
  refine aw_newa (t := 0) (N := n) (z := (n, .inl (fun _ => 0))) (mc2 := 0) (ms2 := 0) d_A_copyOf_aII_15 tw_111 (fun _ => rfl) (fun _ _ z => z) (fun _ => rfl) (nI_pos (by omega)) (nI_clamp (by omega)) (by simp only [newarray.typeOf, componentBytes]; omega) (by omega) (by omega) (fun q_15 f_q_15 => ?_)
  obtain ⟨k_1, e_k_1⟩ : ∃ z, z = av_up h q_15 (.inl (0, n, .inl (fun _ => 0))) := ⟨_, rfl⟩
  refine aw_heap (h' := k_1) e_k_1.symm ?_
  have ne_a_q_15 : a ≠ q_15 := (fun z => by have z1 := ha; rw [z, f_q_15] at z1; cases z1)
  have g1_a : k_1 a = some (.inl (0, cap, .inl f)) := by rw [e_k_1, av_up_ne ne_a_q_15]; exact ha
  have g1_q_15 : k_1 q_15 = some (.inl (0, n, .inl (fun _ => 0))) := by rw [e_k_1]; exact av_up_self _ _ _
  refine aw_astore_n (L' := [some (.ref a), some (.int (nI n)), some (.ref q_15)]) d_A_copyOf_aII_17 (by decide) rfl rfl ?_
  refine aw_aload_n d_A_copyOf_aII_18 rfl ?_
  refine aw_iconst (v := nI 0) d_A_copyOf_aII_19 (by decide) ?_
  refine aw_aload_n d_A_copyOf_aII_20 rfl ?_
  refine aw_iconst (v := nI 0) d_A_copyOf_aII_21 (by decide) ?_
  refine aw_aload_n d_A_copyOf_aII_22 rfl ?_
  refine aw_alen (v := nI cap) d_A_copyOf_aII_23 g1_a (fun _ => rfl) rfl ?_
  refine aw_iload_n d_A_copyOf_aII_24 rfl ?_
  refine aw_mmin (r := nI (min cap n)) d_A_copyOf_aII_25 tw_247 (nI_min (by omega) (by omega)) (by decide) (by decide) (Nat.le_of_ble_eq_true rfl) ?_
  refine aw_copy (f' := va_cpy f (fun _ => 0) 0 0 cap) d_A_copyOf_aII_28 tw_250 g1_a g1_q_15 (fun _ => rfl) rfl (by decide) (by decide) (nI_pos (by omega)) (by rw [nI_clamp (n := 0) (by omega), nI_clamp (by omega)]; omega) (by rw [nI_clamp (n := 0) (by omega), nI_clamp (by omega)]; omega) (fun _ _ => rfl) (by rw [nI_clamp (n := 0) (by omega), nI_clamp (by omega)]; rw [show min cap n = cap by omega]) (by decide) (by decide) (Nat.le_of_ble_eq_true rfl) ?_
  obtain ⟨k_2, e_k_2⟩ : ∃ z, z = av_up k_1 q_15 (.inl (0, n, .inl (va_cpy f (fun _ => 0) 0 0 cap))) := ⟨_, rfl⟩
  refine aw_heap (h' := k_2) e_k_2.symm ?_
  have g2_a : k_2 a = some (.inl (0, cap, .inl f)) := by rw [e_k_2, av_up_ne ne_a_q_15]; exact g1_a
  have g2_q_15 : k_2 q_15 = some (.inl (0, n, .inl (va_cpy f (fun _ => 0) 0 0 cap))) := by rw [e_k_2]; exact av_up_self _ _ _
  refine aw_aload_n d_A_copyOf_aII_31 rfl ?_
  exact aw_aret d_A_copyOf_aII_32 rfl (by first | exact Or.inl ⟨_, rfl⟩ | exact Or.inr ⟨_, rfl⟩) ⟨q_15, rfl, f_q_15, by rw [e_k_2, e_k_1, av_up_up]⟩

set_option maxHeartbeats 4000000 in
theorem lp_A_fill {tb : Nat → Nat} {h : AH} {fr lo : Nat} {mc ms : Nat} (hfr : 0 ≤ fr) (hlo : 0 ≤ lo) {a n : Nat} (hn : n < 1048576) : ∀ (d : Nat) (k : Nat) (f : Nat → Int32), k ≤ n → (∀ j, j < k → f j = nI 0) → n < k + d → AW tb "java/util/Arrays" b_A_fill 4 none false none fr lo (fun v h' => v = none ∧ ∃ f', h' = av_up h a (.inl (0, n, .inl f')) ∧ ∀ k, k < n → f' k = nI 0) 5 [some (.ref a), some (.int (nI 0)), some (.int (nI k)), some (.int (nI n))] [] (av_up h a (.inl (0, n, .inl f))) mc ms := by
  intro d
  induction d with
  | zero => intro k f hk hz hd; omega
  | succ d ih =>
    intro k f hk hz hd
    have ha1 : (av_up h a (.inl (0, n, .inl f))) a = some (.inl (0, n, .inl f)) := av_up_self _ _ _
    refine aw_iload_n d_A_fill_5 rfl ?_
    refine aw_iload_n d_A_fill_6 rfl ?_
    refine aw_icmp_ge (tgt := 20) d_A_fill_7 (by decide) (fun c_7 => ?_) (fun c_7 => ?_)
    · rw [nI_leI (by omega) (by omega)] at c_7
      exact aw_vret d_A_fill_20 rfl ⟨rfl, f, rfl, fun j h => hz j (by omega)⟩
    · rw [nI_leI (by omega) (by omega)] at c_7
      refine aw_aload_n d_A_fill_10 rfl ?_
      refine aw_iload_n d_A_fill_11 rfl ?_
      refine aw_iload_n d_A_fill_12 rfl ?_
      refine aw_iast (f' := upd f k (nI 0)) d_A_fill_13 ha1 (vp_in_nI (by omega) (by omega)) (by rw [nI_clamp (by omega)]) ?_
      obtain ⟨k_1, e_k_1⟩ : ∃ z, z = av_up (av_up h a (.inl (0, n, .inl f))) a (.inl (0, n, .inl (upd f k (nI 0)))) := ⟨_, rfl⟩
      refine aw_heap (h' := k_1) e_k_1.symm ?_
      have g1_a : k_1 a = some (.inl (0, n, .inl (upd f k (nI 0)))) := by rw [e_k_1]; exact av_up_self _ _ _
      refine aw_iinc (v := nI (k + 1)) (L' := [some (.ref a), some (.int (nI 0)), some (.int (nI (k + 1))), some (.int (nI n))]) d_A_fill_14 rfl (nI_add k 1) (by decide) rfl rfl ?_
      refine aw_goto (tgt := 5) d_A_fill_17 (by decide) ?_
      refine aw_heap (h' := av_up h a (.inl (0, n, .inl (upd f k (nI 0))))) (by rw [e_k_1, av_up_up]) ?_
      exact ih (k + 1) _ (by omega) (fun j h => by unfold upd; by_cases z : j = k; (rw [if_pos z]); (rw [if_neg z]; exact hz j (by omega))) (by omega)

set_option maxHeartbeats 4000000 in
theorem c_A_fill {tb : Nat → Nat} {h : AH} {a n : Nat} {f : Nat → Int32} (ha : h a = some (.inl (0, n, .inl f))) (hn : n < 1048576) : AM tb y_A_fill b_A_fill 4 none 0 0 [.ref a, .int (nI 0)] h 0 0 (fun v h' => v = none ∧ ∃ f', h' = av_up h a (.inl (0, n, .inl f')) ∧ ∀ k, k < n → f' k = nI 0) := by
  refine am_of (ini := false) [some (.ref a), some (.int (nI 0)), none, none] (by decide) (fun z => by cases z) (Nat.le_of_ble_eq_true rfl) rfl ?_
  refine aw_iconst (v := nI 0) d_A_fill_0 (by decide) ?_
  refine aw_istore_n (L' := [some (.ref a), some (.int (nI 0)), some (.int (nI 0)), none]) d_A_fill_1 (by decide) rfl rfl ?_
  refine aw_aload_n d_A_fill_2 rfl ?_
  refine aw_alen (v := nI n) d_A_fill_3 ha (fun _ => rfl) rfl ?_
  refine aw_istore_n (L' := [some (.ref a), some (.int (nI 0)), some (.int (nI 0)), some (.int (nI n))]) d_A_fill_4 (by decide) rfl rfl ?_
  refine aw_heap (h' := av_up h a (.inl (0, n, .inl f))) (av_up_id ha).symm ?_
  exact lp_A_fill (by decide) (by decide) hn (n + 1) 0 f (by omega) (fun j h => by omega) (by omega)

set_option maxHeartbeats 4000000 in
theorem c_B_at {tb : Nat → Nat} {h : AH} {b ro cap c : Nat} {G B : Nat → Nat} (hG : ∀ i, G i < 256) (hB_ : ∀ i, B i < 256) (hW : ∀ i, i < c → G i = B i) (hb : h b = some (.inr (1, [.ref ro, .int (nI c)]))) (hr : h ro = some (.inl (1, cap, .inl (bsf G)))) (hc : c ≤ cap) (hcap : cap ≤ 1048576) (i : Nat) (hi : i < c) : AM tb y_B_at b_B_at 2 (some .int) 0 0 [.ref b, .int (nI i)] h 0 0 (av_Pi (nI (B i)) h) := by
  refine am_of (ini := false) [some (.ref b), some (.int (nI i))] (by decide) (fun z => by cases z) (Nat.le_of_ble_eq_true rfl) rfl ?_
  refine aw_iload_n d_B_at_0 rfl ?_
  refine aw_if_lt (tgt := 25) d_B_at_1 (by decide) (fun c_1 => absurd c_1 (nI_pos (by omega))) (fun _ => ?_)
  refine aw_iload_n d_B_at_4 rfl ?_
  refine aw_aload_n d_B_at_5 rfl ?_
  refine aw_get fl_B_15 d_B_at_6 hb rfl ?_
  refine aw_icmp_ge (tgt := 25) d_B_at_9 (by decide) (fun c_9 => absurd c_9 (by rw [nI_leI (by omega) (by omega)]; omega)) (fun c_9 => ?_)
  try rw [nI_leI (by omega) (by omega)] at c_9
  refine aw_aload_n d_B_at_12 rfl ?_
  refine aw_get fl_B_9 d_B_at_13 hb rfl ?_
  refine aw_iload_n d_B_at_16 rfl ?_
  refine aw_bald (x := bs (G i)) d_B_at_17 hr (vp_in_nI (by omega) (by omega)) (by rw [nI_clamp (by omega)]; rfl) ?_
  refine aw_sipush (v := nI 255) d_B_at_18 (by decide) ?_
  refine aw_iand (v := nI (G i)) d_B_at_21 (bs_and (hG _)) ?_
  have b_21 := hG i
  refine aw_goto (tgt := 26) d_B_at_22 (by decide) ?_
  exact aw_iret d_B_at_26 rfl rfl (rt_i (by rw [hW i hi]))

set_option maxHeartbeats 4000000 in
theorem c_B_at_out {tb : Nat → Nat} {h : AH} {b ro cap c : Nat} {G B : Nat → Nat} (hG : ∀ i, G i < 256) (hB_ : ∀ i, B i < 256) (hW : ∀ i, i < c → G i = B i) (hb : h b = some (.inr (1, [.ref ro, .int (nI c)]))) (hr : h ro = some (.inl (1, cap, .inl (bsf G)))) (hc : c ≤ cap) (hcap : cap ≤ 1048576) (i : Nat) (hi : c ≤ i) (hi2 : i < 2147483648) : AM tb y_B_at b_B_at 2 (some .int) 0 0 [.ref b, .int (nI i)] h 0 0 (av_Pi (-1) h) := by
  refine am_of (ini := false) [some (.ref b), some (.int (nI i))] (by decide) (fun z => by cases z) (Nat.le_of_ble_eq_true rfl) rfl ?_
  refine aw_iload_n d_B_at_0 rfl ?_
  refine aw_if_lt (tgt := 25) d_B_at_1 (by decide) (fun c_1 => absurd c_1 (nI_pos (by omega))) (fun _ => ?_)
  refine aw_iload_n d_B_at_4 rfl ?_
  refine aw_aload_n d_B_at_5 rfl ?_
  refine aw_get fl_B_15 d_B_at_6 hb rfl ?_
  refine aw_icmp_ge (tgt := 25) d_B_at_9 (by decide) (fun c_9 => ?_) (fun c_9 => absurd c_9 (by rw [nI_leI (by omega) (by omega)]; omega))
  try rw [nI_leI (by omega) (by omega)] at c_9
  refine aw_iconst (v := (-1)) d_B_at_25 (by decide) ?_
  exact aw_iret d_B_at_26 rfl rfl ⟨rfl, rfl⟩

set_option maxHeartbeats 4000000 in
theorem c_B_at_neg {tb : Nat → Nat} {h : AH} {b ro cap c : Nat} {G B : Nat → Nat} (hG : ∀ i, G i < 256) (hB_ : ∀ i, B i < 256) (hW : ∀ i, i < c → G i = B i) (hb : h b = some (.inr (1, [.ref ro, .int (nI c)]))) (hr : h ro = some (.inl (1, cap, .inl (bsf G)))) (hc : c ≤ cap) (hcap : cap ≤ 1048576) (i : Int32) (hi : i < 0) : AM tb y_B_at b_B_at 2 (some .int) 0 0 [.ref b, .int i] h 0 0 (av_Pi (-1) h) := by
  refine am_of (ini := false) [some (.ref b), some (.int i)] (by decide) (fun z => by cases z) (Nat.le_of_ble_eq_true rfl) rfl ?_
  refine aw_iload_n d_B_at_0 rfl ?_
  refine aw_if_lt (tgt := 25) d_B_at_1 (by decide) (fun c_1 => ?_) (fun c_1 => absurd c_1 (by exact fun z => z hi))
  refine aw_iconst (v := (-1)) d_B_at_25 (by decide) ?_
  exact aw_iret d_B_at_26 rfl rfl ⟨rfl, rfl⟩

set_option maxHeartbeats 4000000 in
theorem c_B_reaches {tb : Nat → Nat} {h : AH} {b ro cap c : Nat} {G B : Nat → Nat} (hG : ∀ i, G i < 256) (hB_ : ∀ i, B i < 256) (hW : ∀ i, i < c → G i = B i) (hb : h b = some (.inr (1, [.ref ro, .int (nI c)]))) (hr : h ro = some (.inl (1, cap, .inl (bsf G)))) (hc : c ≤ cap) (hcap : cap ≤ 1048576) (a n : Nat) (ha : a + n < 2147483648) : AM tb y_B_reaches b_B_reaches 3 (some .boolean) 0 0 [.ref b, .int (nI a), .int (nI n)] h 0 0 (av_Pi (bP (a + n ≤ c)) h) := by
  refine am_of (ini := false) [some (.ref b), some (.int (nI a)), some (.int (nI n))] (by decide) (fun z => by cases z) (Nat.le_of_ble_eq_true rfl) rfl ?_
  refine aw_iload_n d_B_reaches_0 rfl ?_
  refine aw_iload_n d_B_reaches_1 rfl ?_
  refine aw_iadd (v := nI (a + n)) d_B_reaches_2 (nI_add _ _) ?_
  refine aw_aload_n d_B_reaches_3 rfl ?_
  refine aw_get fl_B_15 d_B_reaches_4 hb rfl ?_
  refine aw_icmp_gt (tgt := 14) d_B_reaches_7 (by decide) (fun c_7 => ?_) (fun c_7 => ?_)
  · rw [nI_ltI (by omega) (by omega)] at c_7
    refine aw_iconst (v := nI 0) d_B_reaches_14 (by decide) ?_
    exact aw_iret d_B_reaches_15 rfl nar0 (rt_f (by omega))
  · rw [nI_ltI (by omega) (by omega)] at c_7
    refine aw_iconst (v := nI 1) d_B_reaches_10 (by decide) ?_
    refine aw_goto (tgt := 15) d_B_reaches_11 (by decide) ?_
    exact aw_iret d_B_reaches_15 rfl nar1 (rt_t (by omega))

set_option maxHeartbeats 4000000 in
theorem c_B_pairAt {tb : Nat → Nat} {h : AH} {b ro cap c : Nat} {G B : Nat → Nat} (hG : ∀ i, G i < 256) (hB_ : ∀ i, B i < 256) (hW : ∀ i, i < c → G i = B i) (hb : h b = some (.inr (1, [.ref ro, .int (nI c)]))) (hr : h ro = some (.inl (1, cap, .inl (bsf G)))) (hc : c ≤ cap) (hcap : cap ≤ 1048576) (j : Nat) (hj : j + 1 < c) : AM tb y_B_pairAt b_B_pairAt 2 (some .int) 1 21 [.ref b, .int (nI j)] h 0 0 (av_Pi (nI (bh B j)) h) := by
  refine am_of (ini := false) [some (.ref b), some (.int (nI j))] (by decide) (fun z => by cases z) (Nat.le_of_ble_eq_true rfl) rfl ?_
  refine aw_aload_n d_B_pairAt_0 rfl ?_
  refine aw_iload_n d_B_pairAt_1 rfl ?_
  refine aw_callVi (mc2 := 0) (ms2 := 0) (r := nI (B j)) (As := [.int (nI j)]) (rest := []) (c_B_at hG hB_ hW hb hr hc hcap j (by omega)) cv_B_19 d_B_pairAt_2 hb rfl rfl rfl (Nat.le_of_ble_eq_true rfl) (by decide) (by decide) (by omega) (by omega) ?_
  have b_2 := hB_ j
  refine aw_bipush (v := nI 8) d_B_pairAt_5 (by decide) ?_
  refine aw_ishl (v := nI (B j * 256)) d_B_pairAt_7 (shl_8 (by omega)) ?_
  refine aw_aload_n d_B_pairAt_8 rfl ?_
  refine aw_iload_n d_B_pairAt_9 rfl ?_
  refine aw_iconst (v := nI 1) d_B_pairAt_10 (by decide) ?_
  refine aw_iadd (v := nI (j + 1)) d_B_pairAt_11 (nI_add _ _) ?_
  refine aw_callVi (mc2 := 0) (ms2 := 0) (r := nI (B (j + 1))) (As := [.int (nI (j + 1))]) (rest := [.int (nI (B j * 256))]) (c_B_at hG hB_ hW hb hr hc hcap (j + 1) (by omega)) cv_B_19 d_B_pairAt_12 hb rfl rfl rfl (Nat.le_of_ble_eq_true rfl) (by decide) (by decide) (by omega) (by omega) ?_
  have b_12 := hB_ (j + 1)
  refine aw_ior (v := nI (B j * 256 + B (j + 1))) d_B_pairAt_15 (or_8 (by omega) (by omega)) ?_
  exact aw_iret d_B_pairAt_16 rfl rfl ⟨rfl, rfl⟩

set_option maxHeartbeats 4000000 in
theorem c_B_wordAt {tb : Nat → Nat} {h : AH} {b ro cap c : Nat} {G B : Nat → Nat} (hG : ∀ i, G i < 256) (hB_ : ∀ i, B i < 256) (hW : ∀ i, i < c → G i = B i) (hb : h b = some (.inr (1, [.ref ro, .int (nI c)]))) (hr : h ro = some (.inl (1, cap, .inl (bsf G)))) (hc : c ≤ cap) (hcap : cap ≤ 1048576) (j : Nat) (hj : j + 3 < c) : AM tb y_B_wordAt b_B_wordAt 2 (some .int) 1 21 [.ref b, .int (nI j)] h 0 0 (av_Pi (nI (bw B j)) h) := by
  refine am_of (ini := false) [some (.ref b), some (.int (nI j))] (by decide) (fun z => by cases z) (Nat.le_of_ble_eq_true rfl) rfl ?_
  refine aw_aload_n d_B_wordAt_0 rfl ?_
  refine aw_iload_n d_B_wordAt_1 rfl ?_
  refine aw_callVi (mc2 := 0) (ms2 := 0) (r := nI (B j)) (As := [.int (nI j)]) (rest := []) (c_B_at hG hB_ hW hb hr hc hcap j (by omega)) cv_B_19 d_B_wordAt_2 hb rfl rfl rfl (Nat.le_of_ble_eq_true rfl) (by decide) (by decide) (by omega) (by omega) ?_
  have b_2 := hB_ j
  refine aw_bipush (v := nI 24) d_B_wordAt_5 (by decide) ?_
  refine aw_ishl (v := nI (B j * 16777216)) d_B_wordAt_7 (shl_24 (by omega)) ?_
  refine aw_aload_n d_B_wordAt_8 rfl ?_
  refine aw_iload_n d_B_wordAt_9 rfl ?_
  refine aw_iconst (v := nI 1) d_B_wordAt_10 (by decide) ?_
  refine aw_iadd (v := nI (j + 1)) d_B_wordAt_11 (nI_add _ _) ?_
  refine aw_callVi (mc2 := 0) (ms2 := 0) (r := nI (B (j + 1))) (As := [.int (nI (j + 1))]) (rest := [.int (nI (B j * 16777216))]) (c_B_at hG hB_ hW hb hr hc hcap (j + 1) (by omega)) cv_B_19 d_B_wordAt_12 hb rfl rfl rfl (Nat.le_of_ble_eq_true rfl) (by decide) (by decide) (by omega) (by omega) ?_
  have b_12 := hB_ (j + 1)
  refine aw_bipush (v := nI 16) d_B_wordAt_15 (by decide) ?_
  refine aw_ishl (v := nI ((B (j + 1)) * 65536)) d_B_wordAt_17 (shl_16 (by omega)) ?_
  refine aw_ior (v := nI (B j * 16777216 + (B (j + 1)) * 65536)) d_B_wordAt_18 (or_24 (by omega) (by omega)) ?_
  refine aw_aload_n d_B_wordAt_19 rfl ?_
  refine aw_iload_n d_B_wordAt_20 rfl ?_
  refine aw_iconst (v := nI 2) d_B_wordAt_21 (by decide) ?_
  refine aw_iadd (v := nI (j + 2)) d_B_wordAt_22 (nI_add _ _) ?_
  refine aw_callVi (mc2 := 0) (ms2 := 0) (r := nI (B (j + 2))) (As := [.int (nI (j + 2))]) (rest := [.int (nI (B j * 16777216 + (B (j + 1)) * 65536))]) (c_B_at hG hB_ hW hb hr hc hcap (j + 2) (by omega)) cv_B_19 d_B_wordAt_23 hb rfl rfl rfl (Nat.le_of_ble_eq_true rfl) (by decide) (by decide) (by omega) (by omega) ?_
  have b_23 := hB_ (j + 2)
  refine aw_bipush (v := nI 8) d_B_wordAt_26 (by decide) ?_
  refine aw_ishl (v := nI ((B (j + 2)) * 256)) d_B_wordAt_28 (shl_8 (by omega)) ?_
  refine aw_ior (v := nI (B j * 16777216 + (B (j + 1)) * 65536 + (B (j + 2)) * 256)) d_B_wordAt_29 (or_16 (by omega) (by omega)) ?_
  refine aw_aload_n d_B_wordAt_30 rfl ?_
  refine aw_iload_n d_B_wordAt_31 rfl ?_
  refine aw_iconst (v := nI 3) d_B_wordAt_32 (by decide) ?_
  refine aw_iadd (v := nI (j + 3)) d_B_wordAt_33 (nI_add _ _) ?_
  refine aw_callVi (mc2 := 0) (ms2 := 0) (r := nI (B (j + 3))) (As := [.int (nI (j + 3))]) (rest := [.int (nI (B j * 16777216 + (B (j + 1)) * 65536 + (B (j + 2)) * 256))]) (c_B_at hG hB_ hW hb hr hc hcap (j + 3) (by omega)) cv_B_19 d_B_wordAt_34 hb rfl rfl rfl (Nat.le_of_ble_eq_true rfl) (by decide) (by decide) (by omega) (by omega) ?_
  have b_34 := hB_ (j + 3)
  refine aw_ior (v := nI (B j * 16777216 + (B (j + 1)) * 65536 + (B (j + 2)) * 256 + B (j + 3))) d_B_wordAt_37 (or_8 (by omega) (by omega)) ?_
  exact aw_iret d_B_wordAt_38 rfl rfl ⟨rfl, rfl⟩

theorem av_up_nz {h : AH} {a q : Nat} {e : AE} (hq : h q ≠ none) : av_up h a e q ≠ none := by
  by_cases z : q = a
  · subst z; rw [av_up_self]; exact Option.some_ne_none _
  · rw [av_up_ne z]; exact hq

theorem av_apO {h : AH} {a b : Nat} {t u : Nat} {x y : List Value} (h1 : h a = some (.inr (t, x))) (h2 : h b = some (.inr (u, y))) (hn : t ≠ u) : a ≠ b := fun z => by
  rw [z, h2] at h1
  cases h1
  exact hn rfl

set_option maxHeartbeats 4000000 in
theorem c_B_add {tb : Nat → Nat} {h : AH} {b ro cap : Nat} {o : OS} {G : Nat → Nat} (hb : h b = some (.inr (1, [.ref ro, .int (nI o.1)]))) (hr : h ro = some (.inl (1, cap, .inl (bsf G)))) (hW : RW o G) (hG : ∀ i, G i < 256) (hc : o.1 ≤ cap) (h0 : 0 < cap) (hcap : cap ≤ 1048576) (hK : o.1 + 1 ≤ 100000) (u : Nat) (hu : u < 4294967296) : AM tb y_B_add b_B_add 2 none 2 48 [.ref b, .int (nI u)] h (gN cap (o1 o u).1 - cap) (2 * (gN cap (o1 o u).1 - cap)) (fun v h' => v = none ∧ ∃ ro' G', h' b = some (.inr (1, [.ref ro', .int (nI (o1 o u).1)])) ∧ h' ro' = some (.inl (1, gN cap (o1 o u).1, .inl (bsf G'))) ∧ RW (o1 o u) G' ∧ (∀ i, G' i < 256) ∧ (ro' = ro ∨ h ro' = none) ∧ (∀ q, q ≠ b → q ≠ ro → h q ≠ none → h' q = h q) ∧ ∀ q, h q ≠ none → h' q ≠ none) := by
  refine am_of (ini := false) [some (.ref b), some (.int (nI u))] (by decide) (fun z => by cases z) (Nat.le_of_ble_eq_true rfl) rfl ?_
  refine aw_aload_n d_B_add_0 rfl ?_
  refine aw_get fl_B_15 d_B_add_1 hb rfl ?_
  refine aw_aload_n d_B_add_4 rfl ?_
  refine aw_get fl_B_9 d_B_add_5 hb rfl ?_
  refine aw_alen (v := nI cap) d_B_add_8 hr (fun _ => rfl) rfl ?_
  refine aw_icmp_lt (tgt := 30) d_B_add_9 (by decide) (fun c_9 => ?_) (fun c_9 => ?_)
  · rw [nI_ltI (by omega) (by omega)] at c_9
    have hg : gN cap (o.1 + 1) = cap := gN_le (by omega)
    refine aw_aload_n d_B_add_30 rfl ?_
    refine aw_get fl_B_9 d_B_add_31 hb rfl ?_
    refine aw_aload_n d_B_add_34 rfl ?_
    refine aw_get fl_B_15 d_B_add_35 hb rfl ?_
    refine aw_iload_n d_B_add_38 rfl ?_
    refine aw_i2b (v := bs (u % 256)) d_B_add_39 (bs_nI _) ?_
    refine aw_bast (f' := bsf (uB G o.1 (u % 256))) d_B_add_40 hr (vp_in_nI (by omega) (by omega)) (by rw [nI_clamp (by omega)]; exact uB_upd _ _ _) ?_
    obtain ⟨k_1, e_k_1⟩ : ∃ z, z = av_up h ro (.inl (1, cap, .inl (bsf (uB G o.1 (u % 256))))) := ⟨_, rfl⟩
    refine aw_heap (h' := k_1) e_k_1.symm ?_
    have g1_b : k_1 b = some (.inr (1, [.ref ro, .int (nI o.1)])) := by rw [e_k_1, av_up_ne (av_apart' hb hr)]; exact hb
    have g1_ro : k_1 ro = some (.inl (1, cap, .inl (bsf (uB G o.1 (u % 256))))) := by rw [e_k_1]; exact av_up_self _ _ _
    refine aw_aload_n d_B_add_41 rfl ?_
    refine aw_dup d_B_add_42 rfl ?_
    refine aw_get fl_B_15 d_B_add_43 g1_b rfl ?_
    refine aw_iconst (v := nI 1) d_B_add_46 (by decide) ?_
    refine aw_iadd (v := nI (o.1 + 1)) d_B_add_47 (nI_add _ _) ?_
    refine aw_put (fs' := [.ref ro, .int (nI (o.1 + 1))]) (pt_B_15 _) d_B_add_48 g1_b rfl rfl (by simp) rfl ?_
    obtain ⟨k_2, e_k_2⟩ : ∃ z, z = av_up k_1 b (.inr (1, [.ref ro, .int (nI (o.1 + 1))])) := ⟨_, rfl⟩
    refine aw_heap (h' := k_2) e_k_2.symm ?_
    have g2_ro : k_2 ro = some (.inl (1, cap, .inl (bsf (uB G o.1 (u % 256))))) := by rw [e_k_2, av_up_ne (av_apart g1_ro g1_b)]; exact g1_ro
    have g2_b : k_2 b = some (.inr (1, [.ref ro, .int (nI (o.1 + 1))])) := by rw [e_k_2]; exact av_up_self _ _ _
    exact aw_vret d_B_add_51 rfl ⟨rfl, ro, _, g2_b, (by rw [show gN cap (o1 o u).1 = cap from hg]; exact g2_ro), hW.o1 u, uB_lt hG (Nat.mod_lt _ (by decide)) _, Or.inl rfl, fun q a_b a_ro hq => by rw [e_k_2, av_up_ne a_b, e_k_1, av_up_ne a_ro], fun q hq => by rw [e_k_2, e_k_1]; exact (av_up_nz (av_up_nz hq))⟩
  · rw [nI_ltI (by omega) (by omega)] at c_9
    have hg : gN cap (o.1 + 1) = 2 * cap := by rw [gN_gt (by omega) h0, gN_le (by omega)]
    have hg2 : gN cap (o1 o u).1 = 2 * cap := hg
    have hW2 : RW o (cutB G cap) := fun i hi => by unfold cutB; rw [if_pos (by omega)]; exact hW i hi
    refine aw_aload_n d_B_add_12 rfl ?_
    refine aw_aload_n d_B_add_13 rfl ?_
    refine aw_get fl_B_9 d_B_add_14 hb rfl ?_
    refine aw_iconst (v := nI 2) d_B_add_17 (by decide) ?_
    refine aw_aload_n d_B_add_18 rfl ?_
    refine aw_get fl_B_9 d_B_add_19 hb rfl ?_
    refine aw_alen (v := nI cap) d_B_add_22 hr (fun _ => rfl) rfl ?_
    refine aw_imul (v := nI (2 * cap)) d_B_add_23 (pk_mul _ _) ?_
    refine aw_callS (mc2 := 0) (ms2 := 0) (As := [.ref ro, .int (nI (2 * cap))]) (rest := [.ref b]) (c_A_copyOf_aBI hG hr h0 rfl hcap) cs_B_23 d_B_add_24 rfl rfl (Nat.le_of_ble_eq_true rfl) (by decide) (by decide) (by omega) (by omega) (fun v_24 k_24c q_24 => ?_)
    obtain ⟨nr, y1_nr, f_nr, y3_nr⟩ := q_24
    refine aw_st (st' := [.ref nr, .ref b]) (by rw [y1_nr]; rfl) ?_
    have ne_b_nr : b ≠ nr := (fun z => by have z1 := hb; rw [z, f_nr] at z1; cases z1)
    have gnr_b : k_24c b = some (.inr (1, [.ref ro, .int (nI o.1)])) := by rw [y3_nr, av_up_ne ne_b_nr]; exact hb
    have ne_ro_nr : ro ≠ nr := (fun z => by have z1 := hr; rw [z, f_nr] at z1; cases z1)
    have gnr_ro : k_24c ro = some (.inl (1, cap, .inl (bsf G))) := by rw [y3_nr, av_up_ne ne_ro_nr]; exact hr
    have gnr_nr : k_24c nr = some (.inl (1, 2 * cap, .inl (bsf (cutB G cap)))) := by rw [y3_nr]; exact av_up_self _ _ _
    refine aw_put (fs' := [.ref nr, .int (nI o.1)]) (pt_B_9 _) d_B_add_27 gnr_b rfl rfl (by simp) rfl ?_
    obtain ⟨k_3, e_k_3⟩ : ∃ z, z = av_up k_24c b (.inr (1, [.ref nr, .int (nI o.1)])) := ⟨_, rfl⟩
    refine aw_heap (h' := k_3) e_k_3.symm ?_
    have g3_ro : k_3 ro = some (.inl (1, cap, .inl (bsf G))) := by rw [e_k_3, av_up_ne (av_apart gnr_ro gnr_b)]; exact gnr_ro
    have g3_nr : k_3 nr = some (.inl (1, 2 * cap, .inl (bsf (cutB G cap)))) := by rw [e_k_3, av_up_ne (Ne.symm ne_b_nr)]; exact gnr_nr
    have g3_b : k_3 b = some (.inr (1, [.ref nr, .int (nI o.1)])) := by rw [e_k_3]; exact av_up_self _ _ _
    refine aw_aload_n d_B_add_30 rfl ?_
    refine aw_get fl_B_9 d_B_add_31 g3_b rfl ?_
    refine aw_aload_n d_B_add_34 rfl ?_
    refine aw_get fl_B_15 d_B_add_35 g3_b rfl ?_
    refine aw_iload_n d_B_add_38 rfl ?_
    refine aw_i2b (v := bs (u % 256)) d_B_add_39 (bs_nI _) ?_
    refine aw_bast (f' := bsf (uB (cutB G cap) o.1 (u % 256))) d_B_add_40 g3_nr (vp_in_nI (by omega) (by omega)) (by rw [nI_clamp (by omega)]; exact uB_upd _ _ _) ?_
    obtain ⟨k_4, e_k_4⟩ : ∃ z, z = av_up k_3 nr (.inl (1, 2 * cap, .inl (bsf (uB (cutB G cap) o.1 (u % 256))))) := ⟨_, rfl⟩
    refine aw_heap (h' := k_4) e_k_4.symm ?_
    have g4_ro : k_4 ro = some (.inl (1, cap, .inl (bsf G))) := by rw [e_k_4, av_up_ne ne_ro_nr]; exact g3_ro
    have g4_b : k_4 b = some (.inr (1, [.ref nr, .int (nI o.1)])) := by rw [e_k_4, av_up_ne ne_b_nr]; exact g3_b
    have g4_nr : k_4 nr = some (.inl (1, 2 * cap, .inl (bsf (uB (cutB G cap) o.1 (u % 256))))) := by rw [e_k_4]; exact av_up_self _ _ _
    refine aw_aload_n d_B_add_41 rfl ?_
    refine aw_dup d_B_add_42 rfl ?_
    refine aw_get fl_B_15 d_B_add_43 g4_b rfl ?_
    refine aw_iconst (v := nI 1) d_B_add_46 (by decide) ?_
    refine aw_iadd (v := nI (o.1 + 1)) d_B_add_47 (nI_add _ _) ?_
    refine aw_put (fs' := [.ref nr, .int (nI (o.1 + 1))]) (pt_B_15 _) d_B_add_48 g4_b rfl rfl (by simp) rfl ?_
    obtain ⟨k_5, e_k_5⟩ : ∃ z, z = av_up k_4 b (.inr (1, [.ref nr, .int (nI (o.1 + 1))])) := ⟨_, rfl⟩
    refine aw_heap (h' := k_5) e_k_5.symm ?_
    have g5_ro : k_5 ro = some (.inl (1, cap, .inl (bsf G))) := by rw [e_k_5, av_up_ne (av_apart g4_ro g4_b)]; exact g4_ro
    have g5_nr : k_5 nr = some (.inl (1, 2 * cap, .inl (bsf (uB (cutB G cap) o.1 (u % 256))))) := by rw [e_k_5, av_up_ne (Ne.symm ne_b_nr)]; exact g4_nr
    have g5_b : k_5 b = some (.inr (1, [.ref nr, .int (nI (o.1 + 1))])) := by rw [e_k_5]; exact av_up_self _ _ _
    exact aw_vret d_B_add_51 rfl ⟨rfl, nr, _, g5_b, (by rw [show gN cap (o1 o u).1 = 2 * cap from hg]; exact g5_nr), hW2.o1 u, uB_lt (cutB_lt hG cap) (Nat.mod_lt _ (by decide)) _, Or.inr f_nr, fun q a_b a_ro hq => by rw [e_k_5, av_up_ne a_b, e_k_4, av_up_ne (fun z => hq (by rw [z]; exact f_nr)), e_k_3, av_up_ne a_b, y3_nr, av_up_ne (fun z => hq (by rw [z]; exact f_nr))], fun q hq => by rw [e_k_5, e_k_4, e_k_3, y3_nr]; exact (av_up_nz (av_up_nz (av_up_nz (av_up_nz hq))))⟩

set_option maxHeartbeats 4000000 in
theorem c_B_addPair {tb : Nat → Nat} {h : AH} {b ro cap : Nat} {o : OS} {G : Nat → Nat} (hb : h b = some (.inr (1, [.ref ro, .int (nI o.1)]))) (hr : h ro = some (.inl (1, cap, .inl (bsf G)))) (hW : RW o G) (hG : ∀ i, G i < 256) (hc : o.1 ≤ cap) (h0 : 0 < cap) (hcap : cap ≤ 1048576) (hK : o.1 + 2 ≤ 100000) (u : Nat) (hu : u < 4294967296) : AM tb y_B_addPair b_B_addPair 2 none 3 69 [.ref b, .int (nI u)] h (gN cap (o2 o u).1 - cap) (2 * (gN cap (o2 o u).1 - cap)) (fun v h' => v = none ∧ ∃ ro' G', h' b = some (.inr (1, [.ref ro', .int (nI (o2 o u).1)])) ∧ h' ro' = some (.inl (1, gN cap (o2 o u).1, .inl (bsf G'))) ∧ RW (o2 o u) G' ∧ (∀ i, G' i < 256) ∧ (ro' = ro ∨ h ro' = none) ∧ (∀ q, q ≠ b → q ≠ ro → h q ≠ none → h' q = h q) ∧ ∀ q, h q ≠ none → h' q ≠ none) := by
  have e1 : (o1 o (u / 256)).1 = o.1 + 1 := rfl
  have e2 : (o2 o u).1 = o.1 + 2 := rfl
  have e3 : (o1 (o1 o (u / 256)) u).1 = o.1 + 2 := rfl
  have ge : gN (gN cap (o1 o (u / 256)).1) (o1 (o1 o (u / 256)) u).1 = gN cap (o2 o u).1 := gN_gN h0 (by omega)
  have g1 := gN_b (n := (o1 o (u / 256)).1) h0
  have g2 := gN_b (cap := gN cap (o1 o (u / 256)).1) (n := (o1 (o1 o (u / 256)) u).1) (by omega)
  refine am_of (ini := false) [some (.ref b), some (.int (nI u))] (by decide) (fun z => by cases z) (Nat.le_of_ble_eq_true rfl) rfl ?_
  refine aw_aload_n d_B_addPair_0 rfl ?_
  refine aw_iload_n d_B_addPair_1 rfl ?_
  refine aw_bipush (v := nI 8) d_B_addPair_2 (by decide) ?_
  refine aw_iushr (v := nI (u / 256)) d_B_addPair_4 (pk_ushrN (by omega) _ 8 (by decide)) ?_
  have gz_5 := gN_b (n := (o1 (o) (u / 256)).1) h0
  have lz_5 : (o1 (o) (u / 256)).1 = (o).1 + 1 := rfl
  refine aw_callV (mc2 := (gN cap (o2 o u).1 - cap) - (gN cap (o1 (o) (u / 256)).1 - cap)) (ms2 := (2 * (gN cap (o2 o u).1 - cap)) - 2 * (gN cap (o1 (o) (u / 256)).1 - cap)) (As := [.int (nI (u / 256))]) (rest := []) (c_B_add hb hr hW hG hc h0 hcap (by omega) (u / 256) (by omega)) cv_B_29 d_B_addPair_5 hb rfl rfl rfl (Nat.le_of_ble_eq_true rfl) (by decide) (by decide) (by omega) (by omega) (fun v_5 k_5c q_5 => ?_)
  obtain ⟨p1_5, ro_5, G_5, p2_5, p3_5, p4_5, p5_5, p6_5, p7_5, p8_5⟩ := q_5
  refine aw_st (st' := []) (by rw [p1_5]; rfl) ?_
  have l_5 : (o1 (o) (u / 256)).1 = (o).1 + 1 := rfl
  have gb_5 := gN_b (n := (o1 (o) (u / 256)).1) h0
  have gk_5 : gN cap (o1 (o) (u / 256)).1 ≤ 1048576 := by omega
  refine aw_aload_n d_B_addPair_8 rfl ?_
  refine aw_iload_n d_B_addPair_9 rfl ?_
  have gz_10 := gN_b (n := (o1 (o1 (o) (u / 256)) (u)).1) (show 0 < gN cap (o1 (o) (u / 256)).1 by omega)
  have lz_10 : (o1 (o1 (o) (u / 256)) (u)).1 = (o1 (o) (u / 256)).1 + 1 := rfl
  refine aw_callV (mc2 := ((gN cap (o2 o u).1 - cap) - (gN cap (o1 (o) (u / 256)).1 - cap)) - (gN (gN cap (o1 (o) (u / 256)).1) (o1 (o1 (o) (u / 256)) (u)).1 - (gN cap (o1 (o) (u / 256)).1))) (ms2 := ((2 * (gN cap (o2 o u).1 - cap)) - 2 * (gN cap (o1 (o) (u / 256)).1 - cap)) - 2 * (gN (gN cap (o1 (o) (u / 256)).1) (o1 (o1 (o) (u / 256)) (u)).1 - (gN cap (o1 (o) (u / 256)).1))) (As := [.int (nI u)]) (rest := []) (c_B_add p2_5 p3_5 p4_5 p5_5 (show (o1 (o) (u / 256)).1 ≤ gN cap (o1 (o) (u / 256)).1 by omega) (show 0 < gN cap (o1 (o) (u / 256)).1 by omega) gk_5 (by omega) u (by omega)) cv_B_29 d_B_addPair_10 p2_5 rfl rfl rfl (Nat.le_of_ble_eq_true rfl) (by decide) (by decide) (by omega) (by omega) (fun v_10 k_10c q_10 => ?_)
  obtain ⟨p1_10, ro_10, G_10, p2_10, p3_10, p4_10, p5_10, p6_10, p7_10, p8_10⟩ := q_10
  refine aw_st (st' := []) (by rw [p1_10]; rfl) ?_
  have l_10 : (o1 (o1 (o) (u / 256)) (u)).1 = (o1 (o) (u / 256)).1 + 1 := rfl
  have gb_10 := gN_b (n := (o1 (o1 (o) (u / 256)) (u)).1) (show 0 < gN cap (o1 (o) (u / 256)).1 by omega)
  have gk_10 : gN (gN cap (o1 (o) (u / 256)).1) (o1 (o1 (o) (u / 256)) (u)).1 ≤ 1048576 := by omega
  exact aw_vret d_B_addPair_13 rfl ⟨rfl, ro_10, G_10, p2_10, (by rw [← ge]; exact p3_10), p4_10, p5_10, (p6_10.elim (fun y => (p6_5.elim (fun z => Or.inl (y.trans z)) (fun z => Or.inr (by rw [y]; exact z)))) (fun y => by by_cases z1 : h ro_10 = none; exact Or.inr z1; by_cases z2 : ro_10 = ro; exact Or.inl z2; by_cases z3 : ro_10 = b; (rw [z3] at y; rw [p2_5] at y; cases y); (rw [p7_5 _ z3 z2 z1] at y; exact absurd y z1))), fun q a_b a_ro hq => by rw [p7_10 q a_b (fun z => (p6_5).elim (fun y => a_ro (z.trans y)) (fun y => hq (by rw [z]; exact y))) (by rw [p7_5 q a_b a_ro hq]; exact hq), p7_5 q a_b a_ro hq], fun q hq => p8_10 q (p8_5 q hq)⟩

set_option maxHeartbeats 4000000 in
theorem c_B_addWord {tb : Nat → Nat} {h : AH} {b ro cap : Nat} {o : OS} {G : Nat → Nat} (hb : h b = some (.inr (1, [.ref ro, .int (nI o.1)]))) (hr : h ro = some (.inl (1, cap, .inl (bsf G)))) (hW : RW o G) (hG : ∀ i, G i < 256) (hc : o.1 ≤ cap) (h0 : 0 < cap) (hcap : cap ≤ 1048576) (hK : o.1 + 4 ≤ 100000) (u : Nat) (hu : u < 4294967296) : AM tb y_B_addWord b_B_addWord 2 none 4 90 [.ref b, .int (nI u)] h (gN cap (o4 o u).1 - cap) (2 * (gN cap (o4 o u).1 - cap)) (fun v h' => v = none ∧ ∃ ro' G', h' b = some (.inr (1, [.ref ro', .int (nI (o4 o u).1)])) ∧ h' ro' = some (.inl (1, gN cap (o4 o u).1, .inl (bsf G'))) ∧ RW (o4 o u) G' ∧ (∀ i, G' i < 256) ∧ (ro' = ro ∨ h ro' = none) ∧ (∀ q, q ≠ b → q ≠ ro → h q ≠ none → h' q = h q) ∧ ∀ q, h q ≠ none → h' q ≠ none) := by
  have e1 : (o2 o (u / 65536)).1 = o.1 + 2 := rfl
  have e2 : (o4 o u).1 = o.1 + 4 := rfl
  have e3 : (o2 (o2 o (u / 65536)) u).1 = o.1 + 4 := rfl
  have ge : gN (gN cap (o2 o (u / 65536)).1) (o2 (o2 o (u / 65536)) u).1 = gN cap (o4 o u).1 := gN_gN h0 (by omega)
  have g1 := gN_b (n := (o2 o (u / 65536)).1) h0
  have g2 := gN_b (cap := gN cap (o2 o (u / 65536)).1) (n := (o2 (o2 o (u / 65536)) u).1) (by omega)
  refine am_of (ini := false) [some (.ref b), some (.int (nI u))] (by decide) (fun z => by cases z) (Nat.le_of_ble_eq_true rfl) rfl ?_
  refine aw_aload_n d_B_addWord_0 rfl ?_
  refine aw_iload_n d_B_addWord_1 rfl ?_
  refine aw_bipush (v := nI 16) d_B_addWord_2 (by decide) ?_
  refine aw_iushr (v := nI (u / 65536)) d_B_addWord_4 (pk_ushrN (by omega) _ 16 (by decide)) ?_
  have gz_5 := gN_b (n := (o2 (o) (u / 65536)).1) h0
  have lz_5 : (o2 (o) (u / 65536)).1 = (o).1 + 2 := rfl
  refine aw_callV (mc2 := (gN cap (o4 o u).1 - cap) - (gN cap (o2 (o) (u / 65536)).1 - cap)) (ms2 := (2 * (gN cap (o4 o u).1 - cap)) - 2 * (gN cap (o2 (o) (u / 65536)).1 - cap)) (As := [.int (nI (u / 65536))]) (rest := []) (c_B_addPair hb hr hW hG hc h0 hcap (by omega) (u / 65536) (by omega)) cv_B_33 d_B_addWord_5 hb rfl rfl rfl (Nat.le_of_ble_eq_true rfl) (by decide) (by decide) (by omega) (by omega) (fun v_5 k_5c q_5 => ?_)
  obtain ⟨p1_5, ro_5, G_5, p2_5, p3_5, p4_5, p5_5, p6_5, p7_5, p8_5⟩ := q_5
  refine aw_st (st' := []) (by rw [p1_5]; rfl) ?_
  have l_5 : (o2 (o) (u / 65536)).1 = (o).1 + 2 := rfl
  have gb_5 := gN_b (n := (o2 (o) (u / 65536)).1) h0
  have gk_5 : gN cap (o2 (o) (u / 65536)).1 ≤ 1048576 := by omega
  refine aw_aload_n d_B_addWord_8 rfl ?_
  refine aw_iload_n d_B_addWord_9 rfl ?_
  have gz_10 := gN_b (n := (o2 (o2 (o) (u / 65536)) (u)).1) (show 0 < gN cap (o2 (o) (u / 65536)).1 by omega)
  have lz_10 : (o2 (o2 (o) (u / 65536)) (u)).1 = (o2 (o) (u / 65536)).1 + 2 := rfl
  refine aw_callV (mc2 := ((gN cap (o4 o u).1 - cap) - (gN cap (o2 (o) (u / 65536)).1 - cap)) - (gN (gN cap (o2 (o) (u / 65536)).1) (o2 (o2 (o) (u / 65536)) (u)).1 - (gN cap (o2 (o) (u / 65536)).1))) (ms2 := ((2 * (gN cap (o4 o u).1 - cap)) - 2 * (gN cap (o2 (o) (u / 65536)).1 - cap)) - 2 * (gN (gN cap (o2 (o) (u / 65536)).1) (o2 (o2 (o) (u / 65536)) (u)).1 - (gN cap (o2 (o) (u / 65536)).1))) (As := [.int (nI u)]) (rest := []) (c_B_addPair p2_5 p3_5 p4_5 p5_5 (show (o2 (o) (u / 65536)).1 ≤ gN cap (o2 (o) (u / 65536)).1 by omega) (show 0 < gN cap (o2 (o) (u / 65536)).1 by omega) gk_5 (by omega) u (by omega)) cv_B_33 d_B_addWord_10 p2_5 rfl rfl rfl (Nat.le_of_ble_eq_true rfl) (by decide) (by decide) (by omega) (by omega) (fun v_10 k_10c q_10 => ?_)
  obtain ⟨p1_10, ro_10, G_10, p2_10, p3_10, p4_10, p5_10, p6_10, p7_10, p8_10⟩ := q_10
  refine aw_st (st' := []) (by rw [p1_10]; rfl) ?_
  have l_10 : (o2 (o2 (o) (u / 65536)) (u)).1 = (o2 (o) (u / 65536)).1 + 2 := rfl
  have gb_10 := gN_b (n := (o2 (o2 (o) (u / 65536)) (u)).1) (show 0 < gN cap (o2 (o) (u / 65536)).1 by omega)
  have gk_10 : gN (gN cap (o2 (o) (u / 65536)).1) (o2 (o2 (o) (u / 65536)) (u)).1 ≤ 1048576 := by omega
  exact aw_vret d_B_addWord_13 rfl ⟨rfl, ro_10, G_10, p2_10, (by rw [← ge]; exact p3_10), p4_10, p5_10, (p6_10.elim (fun y => (p6_5.elim (fun z => Or.inl (y.trans z)) (fun z => Or.inr (by rw [y]; exact z)))) (fun y => by by_cases z1 : h ro_10 = none; exact Or.inr z1; by_cases z2 : ro_10 = ro; exact Or.inl z2; by_cases z3 : ro_10 = b; (rw [z3] at y; rw [p2_5] at y; cases y); (rw [p7_5 _ z3 z2 z1] at y; exact absurd y z1))), fun q a_b a_ro hq => by rw [p7_10 q a_b (fun z => (p6_5).elim (fun y => a_ro (z.trans y)) (fun y => hq (by rw [z]; exact y))) (by rw [p7_5 q a_b a_ro hq]; exact hq), p7_5 q a_b a_ro hq], fun q hq => p8_10 q (p8_5 q hq)⟩
