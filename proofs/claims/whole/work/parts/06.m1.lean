set_option maxHeartbeats 4000000 in
theorem c_M_word {tb : Nat → Nat} {h : AH} {a Nn : Nat} {B : Nat → Nat} (hB_ : ∀ i, B i < 256) (hb : h a = some (.inl (1, Nn, .inl (bsf B)))) (hN : Nn ≤ 65536) (j : Nat) (hj : j + 3 < Nn) : AM tb y_M_word b_M_word 2 (some .int) 0 0 [.ref a, .int (nI j)] h 0 0 (av_Pi (nI (bw B j)) h) := by
  refine am_of (ini := false) [some (.ref a), some (.int (nI j))] (by decide) (fun z => by cases z) (Nat.le_of_ble_eq_true rfl) rfl ?_
  refine aw_aload_n d_M_word_0 rfl ?_
  refine aw_iload_n d_M_word_1 rfl ?_
  refine aw_bald (x := bs (B j)) d_M_word_2 hb (vp_in_nI (by omega) (by omega)) (by rw [nI_clamp (by omega)]; rfl) ?_
  refine aw_bipush (v := nI 24) d_M_word_3 (by decide) ?_
  refine aw_ishl (v := nI (B j * 16777216)) d_M_word_5 (bs_shl24 (hB_ _)) ?_
  have b_5 := hB_ j
  refine aw_aload_n d_M_word_6 rfl ?_
  refine aw_iload_n d_M_word_7 rfl ?_
  refine aw_iconst (v := nI 1) d_M_word_8 (by decide) ?_
  refine aw_iadd (v := nI (j + 1)) d_M_word_9 (nI_add _ _) ?_
  refine aw_bald (x := bs (B (j + 1))) d_M_word_10 hb (vp_in_nI (by omega) (by omega)) (by rw [nI_clamp (by omega)]; rfl) ?_
  refine aw_sipush (v := nI 255) d_M_word_11 (by decide) ?_
  refine aw_iand (v := nI (B (j + 1))) d_M_word_14 (bs_and (hB_ _)) ?_
  have b_14 := hB_ (j + 1)
  refine aw_bipush (v := nI 16) d_M_word_15 (by decide) ?_
  refine aw_ishl (v := nI ((B (j + 1)) * 65536)) d_M_word_17 (shl_16 (by omega)) ?_
  refine aw_ior (v := nI (B j * 16777216 + (B (j + 1)) * 65536)) d_M_word_18 (or_24 (by omega) (by omega)) ?_
  refine aw_aload_n d_M_word_19 rfl ?_
  refine aw_iload_n d_M_word_20 rfl ?_
  refine aw_iconst (v := nI 2) d_M_word_21 (by decide) ?_
  refine aw_iadd (v := nI (j + 2)) d_M_word_22 (nI_add _ _) ?_
  refine aw_bald (x := bs (B (j + 2))) d_M_word_23 hb (vp_in_nI (by omega) (by omega)) (by rw [nI_clamp (by omega)]; rfl) ?_
  refine aw_sipush (v := nI 255) d_M_word_24 (by decide) ?_
  refine aw_iand (v := nI (B (j + 2))) d_M_word_27 (bs_and (hB_ _)) ?_
  have b_27 := hB_ (j + 2)
  refine aw_bipush (v := nI 8) d_M_word_28 (by decide) ?_
  refine aw_ishl (v := nI ((B (j + 2)) * 256)) d_M_word_30 (shl_8 (by omega)) ?_
  refine aw_ior (v := nI (B j * 16777216 + (B (j + 1)) * 65536 + (B (j + 2)) * 256)) d_M_word_31 (or_16 (by omega) (by omega)) ?_
  refine aw_aload_n d_M_word_32 rfl ?_
  refine aw_iload_n d_M_word_33 rfl ?_
  refine aw_iconst (v := nI 3) d_M_word_34 (by decide) ?_
  refine aw_iadd (v := nI (j + 3)) d_M_word_35 (nI_add _ _) ?_
  refine aw_bald (x := bs (B (j + 3))) d_M_word_36 hb (vp_in_nI (by omega) (by omega)) (by rw [nI_clamp (by omega)]; rfl) ?_
  refine aw_sipush (v := nI 255) d_M_word_37 (by decide) ?_
  refine aw_iand (v := nI (B (j + 3))) d_M_word_40 (bs_and (hB_ _)) ?_
  have b_40 := hB_ (j + 3)
  refine aw_ior (v := nI (B j * 16777216 + (B (j + 1)) * 65536 + (B (j + 2)) * 256 + B (j + 3))) d_M_word_41 (or_8 (by omega) (by omega)) ?_
  exact aw_iret d_M_word_42 rfl rfl ⟨rfl, rfl⟩

set_option maxHeartbeats 4000000 in
theorem c_M_half {tb : Nat → Nat} {h : AH} {a Nn : Nat} {B : Nat → Nat} (hB_ : ∀ i, B i < 256) (hb : h a = some (.inl (1, Nn, .inl (bsf B)))) (hN : Nn ≤ 65536) (j : Nat) (hj : j + 1 < Nn) : AM tb y_M_half b_M_half 2 (some .int) 0 0 [.ref a, .int (nI j)] h 0 0 (av_Pi (nI (bh B j)) h) := by
  refine am_of (ini := false) [some (.ref a), some (.int (nI j))] (by decide) (fun z => by cases z) (Nat.le_of_ble_eq_true rfl) rfl ?_
  refine aw_aload_n d_M_half_0 rfl ?_
  refine aw_iload_n d_M_half_1 rfl ?_
  refine aw_bald (x := bs (B j)) d_M_half_2 hb (vp_in_nI (by omega) (by omega)) (by rw [nI_clamp (by omega)]; rfl) ?_
  refine aw_sipush (v := nI 255) d_M_half_3 (by decide) ?_
  refine aw_iand (v := nI (B j)) d_M_half_6 (bs_and (hB_ _)) ?_
  have b_6 := hB_ j
  refine aw_bipush (v := nI 8) d_M_half_7 (by decide) ?_
  refine aw_ishl (v := nI (B j * 256)) d_M_half_9 (shl_8 (by omega)) ?_
  refine aw_aload_n d_M_half_10 rfl ?_
  refine aw_iload_n d_M_half_11 rfl ?_
  refine aw_iconst (v := nI 1) d_M_half_12 (by decide) ?_
  refine aw_iadd (v := nI (j + 1)) d_M_half_13 (nI_add _ _) ?_
  refine aw_bald (x := bs (B (j + 1))) d_M_half_14 hb (vp_in_nI (by omega) (by omega)) (by rw [nI_clamp (by omega)]; rfl) ?_
  refine aw_sipush (v := nI 255) d_M_half_15 (by decide) ?_
  refine aw_iand (v := nI (B (j + 1))) d_M_half_18 (bs_and (hB_ _)) ?_
  have b_18 := hB_ (j + 1)
  refine aw_ior (v := nI (B j * 256 + B (j + 1))) d_M_half_19 (or_8 (by omega) (by omega)) ?_
  exact aw_iret d_M_half_20 rfl rfl ⟨rfl, rfl⟩

set_option maxHeartbeats 4000000 in
theorem c_M_objects_aB {tb : Nat → Nat} {h : AH} {a Nn : Nat} {B : Nat → Nat} (hB_ : ∀ i, B i < 256) (hb : h a = some (.inl (1, Nn, .inl (bsf B)))) (hN : Nn ≤ 65536) (h8 : 8 ≤ Nn) : AM tb y_M_objects_aB b_M_objects_aB 1 (some .int) 1 21 [.ref a] h 0 0 (av_Pi (nI (nn B)) h) := by
  refine am_of (ini := false) [some (.ref a)] (by decide) (fun z => by cases z) (Nat.le_of_ble_eq_true rfl) rfl ?_
  refine aw_aload_n d_M_objects_aB_0 rfl ?_
  refine aw_bipush (v := nI 6) d_M_objects_aB_1 (by decide) ?_
  refine aw_callSi (mc2 := 0) (ms2 := 0) (r := nI (bh B 6)) (As := [.ref a, .int (nI 6)]) (rest := []) (c_M_half hB_ hb (by omega) 6 (by omega)) cs_M_43 d_M_objects_aB_3 rfl rfl (Nat.le_of_ble_eq_true rfl) (by decide) (by decide) (by omega) (by omega) ?_
  have b_3 := bh_lt hB_ 6
  exact aw_iret d_M_objects_aB_6 rfl rfl ⟨rfl, rfl⟩

set_option maxHeartbeats 4000000 in
theorem c_M_special_aBI {tb : Nat → Nat} {h : AH} {a Nn : Nat} {B : Nat → Nat} (hB_ : ∀ i, B i < 256) (hb : h a = some (.inl (1, Nn, .inl (bsf B)))) (hN : Nn ≤ 65536) (k : Nat) (hk : 8 + 4 * k + 3 < Nn) : AM tb y_M_special_aBI b_M_special_aBI 2 (some .int) 1 21 [.ref a, .int (nI k)] h 0 0 (av_Pi (nI (sp B k)) h) := by
  refine am_of (ini := false) [some (.ref a), some (.int (nI k))] (by decide) (fun z => by cases z) (Nat.le_of_ble_eq_true rfl) rfl ?_
  refine aw_aload_n d_M_special_aBI_0 rfl ?_
  refine aw_bipush (v := nI 8) d_M_special_aBI_1 (by decide) ?_
  refine aw_iconst (v := nI 4) d_M_special_aBI_3 (by decide) ?_
  refine aw_iload_n d_M_special_aBI_4 rfl ?_
  refine aw_imul (v := nI (4 * k)) d_M_special_aBI_5 (pk_mul _ _) ?_
  refine aw_iadd (v := nI (8 + 4 * k)) d_M_special_aBI_6 (nI_add _ _) ?_
  refine aw_callSi (mc2 := 0) (ms2 := 0) (r := nI (bw B (8 + 4 * k))) (As := [.ref a, .int (nI (8 + 4 * k))]) (rest := []) (c_M_word hB_ hb (by omega) (8 + 4 * k) (by omega)) cs_M_47 d_M_special_aBI_7 rfl rfl (Nat.le_of_ble_eq_true rfl) (by decide) (by decide) (by omega) (by omega) ?_
  have b_7 := bw_lt hB_ (8 + 4 * k)
  exact aw_iret d_M_special_aBI_10 rfl rfl ⟨rfl, rfl⟩
