set_option maxHeartbeats 4000000 in
theorem c_M_isObject {tb : Nat → Nat} {h : AH} (u : Nat) (hu : u < 4294967296) (he : u % 2 = 0 → u < 2147483648) : AM tb y_M_isObject b_M_isObject 1 (some .boolean) 0 0 [.int (nI u)] h 0 0 (av_Pi (bP (ob u ≠ 0)) h) := by
  refine am_of (ini := false) [some (.int (nI u))] (by decide) (fun z => by cases z) (Nat.le_of_ble_eq_true rfl) rfl ?_
  refine aw_iload_n d_M_isObject_0 rfl ?_
  refine aw_if_le (tgt := 14) d_M_isObject_1 (by decide) (fun c_1 => ?_) (fun c_1 => ?_)
  · rw [w_le hu] at c_1
    refine aw_iconst (v := nI 0) d_M_isObject_14 (by decide) ?_
    exact aw_iret d_M_isObject_15 rfl nar0 (rt_f (by rw [ob_ne]; omega))
  · rw [w_le hu] at c_1
    refine aw_iload_n d_M_isObject_4 rfl ?_
    refine aw_iconst (v := nI 1) d_M_isObject_5 (by decide) ?_
    refine aw_iand (v := nI (u % 2)) d_M_isObject_6 (and_1 _) ?_
    refine aw_if_ne (tgt := 14) d_M_isObject_7 (by decide) (fun c_7 => ?_) (fun c_7 => ?_)
    · rw [w_eq0 (by omega)] at c_7
      refine aw_iconst (v := nI 0) d_M_isObject_14 (by decide) ?_
      exact aw_iret d_M_isObject_15 rfl nar0 (rt_f (by rw [ob_ne]; omega))
    · rw [w_eq0 (by omega)] at c_7
      refine aw_iconst (v := nI 1) d_M_isObject_10 (by decide) ?_
      refine aw_goto (tgt := 15) d_M_isObject_11 (by decide) ?_
      exact aw_iret d_M_isObject_15 rfl nar1 (rt_t (by rw [ob_ne]; omega))

set_option maxHeartbeats 4000000 in
theorem c_M_isNumber {tb : Nat → Nat} {h : AH} (u : Nat) : AM tb y_M_isNumber b_M_isNumber 1 (some .boolean) 0 0 [.int (nI u)] h 0 0 (av_Pi (bP (u % 2 = 1)) h) := by
  refine am_of (ini := false) [some (.int (nI u))] (by decide) (fun z => by cases z) (Nat.le_of_ble_eq_true rfl) rfl ?_
  refine aw_iload_n d_M_isNumber_0 rfl ?_
  refine aw_iconst (v := nI 1) d_M_isNumber_1 (by decide) ?_
  refine aw_iand (v := nI (u % 2)) d_M_isNumber_2 (and_1 _) ?_
  refine aw_iconst (v := nI 1) d_M_isNumber_3 (by decide) ?_
  refine aw_icmp_ne (tgt := 11) d_M_isNumber_4 (by decide) (fun c_4 => ?_) (fun c_4 => ?_)
  · rw [w_eq (by omega) (by omega)] at c_4
    refine aw_iconst (v := nI 0) d_M_isNumber_11 (by decide) ?_
    exact aw_iret d_M_isNumber_12 rfl nar0 (rt_f (by omega))
  · rw [w_eq (by omega) (by omega)] at c_4
    refine aw_iconst (v := nI 1) d_M_isNumber_7 (by decide) ?_
    refine aw_goto (tgt := 12) d_M_isNumber_8 (by decide) ?_
    exact aw_iret d_M_isNumber_12 rfl nar1 (rt_t (by omega))

set_option maxHeartbeats 4000000 in
theorem c_M_isOfBytes {tb : Nat → Nat} {h : AH} {a Nn : Nat} {B : Nat → Nat} (hB_ : ∀ i, B i < 256) (hb : h a = some (.inl (1, Nn, .inl (bsf B)))) (hN : Nn ≤ 65536) (j : Nat) (hj : j + 4 < Nn) : AM tb y_M_isOfBytes b_M_isOfBytes 2 (some .boolean) 0 0 [.ref a, .int (nI j)] h 0 0 (av_Pi (bP (B (j + 4) = 1)) h) := by
  refine am_of (ini := false) [some (.ref a), some (.int (nI j))] (by decide) (fun z => by cases z) (Nat.le_of_ble_eq_true rfl) rfl ?_
  refine aw_aload_n d_M_isOfBytes_0 rfl ?_
  refine aw_iload_n d_M_isOfBytes_1 rfl ?_
  refine aw_iconst (v := nI 4) d_M_isOfBytes_2 (by decide) ?_
  refine aw_iadd (v := nI (j + 4)) d_M_isOfBytes_3 (nI_add _ _) ?_
  refine aw_bald (x := bs (B (j + 4))) d_M_isOfBytes_4 hb (vp_in_nI (by omega) (by omega)) (by rw [nI_clamp (by omega)]; rfl) ?_
  refine aw_iconst (v := nI 1) d_M_isOfBytes_5 (by decide) ?_
  refine aw_icmp_ne (tgt := 13) d_M_isOfBytes_6 (by decide) (fun c_6 => ?_) (fun c_6 => ?_)
  · rw [bs_inj _ (hB_ _) 1 (by decide)] at c_6
    refine aw_iconst (v := nI 0) d_M_isOfBytes_13 (by decide) ?_
    exact aw_iret d_M_isOfBytes_14 rfl nar0 (rt_f (by assumption))
  · rw [bs_inj _ (hB_ _) 1 (by decide)] at c_6
    refine aw_iconst (v := nI 1) d_M_isOfBytes_9 (by decide) ?_
    refine aw_goto (tgt := 14) d_M_isOfBytes_10 (by decide) ?_
    exact aw_iret d_M_isOfBytes_14 rfl nar1 (rt_t (by assumption))

set_option maxHeartbeats 4000000 in
theorem c_M_sizeAt {tb : Nat → Nat} {h : AH} {a Nn : Nat} {B : Nat → Nat} (hB_ : ∀ i, B i < 256) (hb : h a = some (.inl (1, Nn, .inl (bsf B)))) (hN : Nn ≤ 65536) (j : Nat) (hj : j + 6 < Nn) : AM tb y_M_sizeAt b_M_sizeAt 2 (some .int) 1 21 [.ref a, .int (nI j)] h 0 0 (av_Pi (nI (bh B (j + 5))) h) := by
  refine am_of (ini := false) [some (.ref a), some (.int (nI j))] (by decide) (fun z => by cases z) (Nat.le_of_ble_eq_true rfl) rfl ?_
  refine aw_aload_n d_M_sizeAt_0 rfl ?_
  refine aw_iload_n d_M_sizeAt_1 rfl ?_
  refine aw_iconst (v := nI 5) d_M_sizeAt_2 (by decide) ?_
  refine aw_iadd (v := nI (j + 5)) d_M_sizeAt_3 (nI_add _ _) ?_
  refine aw_callSi (mc2 := 0) (ms2 := 0) (r := nI (bh B (j + 5))) (As := [.ref a, .int (nI (j + 5))]) (rest := []) (c_M_half hB_ hb (by omega) (j + 5) (by omega)) cs_M_43 d_M_sizeAt_4 rfl rfl (Nat.le_of_ble_eq_true rfl) (by decide) (by decide) (by omega) (by omega) ?_
  have b_4 := bh_lt hB_ (j + 5)
  exact aw_iret d_M_sizeAt_7 rfl rfl ⟨rfl, rfl⟩

set_option maxHeartbeats 4000000 in
theorem c_M_fieldAt {tb : Nat → Nat} {h : AH} {a Nn : Nat} {B : Nat → Nat} (hB_ : ∀ i, B i < 256) (hb : h a = some (.inl (1, Nn, .inl (bsf B)))) (hN : Nn ≤ 65536) (j i : Nat) (hj : j + 7 + 4 * i + 3 < Nn) : AM tb y_M_fieldAt b_M_fieldAt 3 (some .int) 1 21 [.ref a, .int (nI j), .int (nI i)] h 0 0 (av_Pi (nI (bw B (j + 7 + 4 * i))) h) := by
  refine am_of (ini := false) [some (.ref a), some (.int (nI j)), some (.int (nI i))] (by decide) (fun z => by cases z) (Nat.le_of_ble_eq_true rfl) rfl ?_
  refine aw_aload_n d_M_fieldAt_0 rfl ?_
  refine aw_iload_n d_M_fieldAt_1 rfl ?_
  refine aw_bipush (v := nI 7) d_M_fieldAt_2 (by decide) ?_
  refine aw_iadd (v := nI (j + 7)) d_M_fieldAt_4 (nI_add _ _) ?_
  refine aw_iconst (v := nI 4) d_M_fieldAt_5 (by decide) ?_
  refine aw_iload_n d_M_fieldAt_6 rfl ?_
  refine aw_imul (v := nI (4 * i)) d_M_fieldAt_7 (pk_mul _ _) ?_
  refine aw_iadd (v := nI (j + 7 + 4 * i)) d_M_fieldAt_8 (nI_add _ _) ?_
  refine aw_callSi (mc2 := 0) (ms2 := 0) (r := nI (bw B (j + 7 + 4 * i))) (As := [.ref a, .int (nI (j + 7 + 4 * i))]) (rest := []) (c_M_word hB_ hb (by omega) (j + 7 + 4 * i) (by omega)) cs_M_47 d_M_fieldAt_9 rfl rfl (Nat.le_of_ble_eq_true rfl) (by decide) (by decide) (by omega) (by omega) ?_
  have b_9 := bw_lt hB_ (j + 7 + 4 * i)
  exact aw_iret d_M_fieldAt_12 rfl rfl ⟨rfl, rfl⟩

set_option maxHeartbeats 4000000 in
theorem c_M_endAt {tb : Nat → Nat} {h : AH} {a Nn : Nat} {B : Nat → Nat} (hB_ : ∀ i, B i < 256) (hb : h a = some (.inl (1, Nn, .inl (bsf B)))) (hN : Nn ≤ 65536) (j : Nat) (hj : j + 6 < Nn) : AM tb y_M_endAt b_M_endAt 2 (some .int) 2 42 [.ref a, .int (nI j)] h 0 0 (av_Pi (nI (j + 7 + bl B j)) h) := by
  refine am_of (ini := false) [some (.ref a), some (.int (nI j))] (by decide) (fun z => by cases z) (Nat.le_of_ble_eq_true rfl) rfl ?_
  refine aw_iload_n d_M_endAt_0 rfl ?_
  refine aw_bipush (v := nI 7) d_M_endAt_1 (by decide) ?_
  refine aw_iadd (v := nI (j + 7)) d_M_endAt_3 (nI_add _ _) ?_
  refine aw_aload_n d_M_endAt_4 rfl ?_
  refine aw_iload_n d_M_endAt_5 rfl ?_
  refine aw_callSi (mc2 := 0) (ms2 := 0) (r := bP (B (j + 4) = 1)) (As := [.ref a, .int (nI j)]) (rest := [.int (nI (j + 7))]) (c_M_isOfBytes hB_ hb (by omega) j (by omega)) cs_M_50 d_M_endAt_6 rfl rfl (Nat.le_of_ble_eq_true rfl) (by decide) (by decide) (by omega) (by omega) ?_
  refine aw_if_eq (tgt := 16) d_M_endAt_9 (by decide) (fun c_9 => ?_) (fun c_9 => ?_)
  · rw [bP_eq0] at c_9
    refine aw_iconst (v := nI 4) d_M_endAt_16 (by decide) ?_
    refine aw_aload_n d_M_endAt_17 rfl ?_
    refine aw_iload_n d_M_endAt_18 rfl ?_
    refine aw_callSi (mc2 := 0) (ms2 := 0) (r := nI (bh B (j + 5))) (As := [.ref a, .int (nI j)]) (rest := [.int (nI 4), .int (nI (j + 7))]) (c_M_sizeAt hB_ hb (by omega) j (by omega)) cs_M_54 d_M_endAt_19 rfl rfl (Nat.le_of_ble_eq_true rfl) (by decide) (by decide) (by omega) (by omega) ?_
    have b_19 := bh_lt hB_ (j + 5)
    refine aw_imul (v := nI (4 * (bh B (j + 5)))) d_M_endAt_22 (pk_mul _ _) ?_
    refine aw_iadd (v := nI (j + 7 + (4 * (bh B (j + 5))))) d_M_endAt_23 (nI_add _ _) ?_
    exact aw_iret d_M_endAt_24 rfl rfl (rt_i (by unfold bl; simp [c_9]))
  · rw [bP_eq0, Classical.not_not] at c_9
    refine aw_iconst (v := nI 1) d_M_endAt_12 (by decide) ?_
    refine aw_goto (tgt := 17) d_M_endAt_13 (by decide) ?_
    refine aw_aload_n d_M_endAt_17 rfl ?_
    refine aw_iload_n d_M_endAt_18 rfl ?_
    refine aw_callSi (mc2 := 0) (ms2 := 0) (r := nI (bh B (j + 5))) (As := [.ref a, .int (nI j)]) (rest := [.int (nI 1), .int (nI (j + 7))]) (c_M_sizeAt hB_ hb (by omega) j (by omega)) cs_M_54 d_M_endAt_19 rfl rfl (Nat.le_of_ble_eq_true rfl) (by decide) (by decide) (by omega) (by omega) ?_
    have b_19 := bh_lt hB_ (j + 5)
    refine aw_imul (v := nI (1 * (bh B (j + 5)))) d_M_endAt_22 (pk_mul _ _) ?_
    refine aw_iadd (v := nI (j + 7 + (1 * (bh B (j + 5))))) d_M_endAt_23 (nI_add _ _) ?_
    exact aw_iret d_M_endAt_24 rfl rfl (rt_i (by unfold bl; simp [c_9]))
