set_option maxHeartbeats 4000000 in
theorem lp_M_stepValuesS {tb : Nat → Nat} {h : AH} {fr lo : Nat} {mc ms : Nat} (hfr : 3 ≤ fr) (hlo : 63 ≤ lo) {m ai am ak as_ aks ar an ab cn ln kl mn : Nat} {cd : Int32} {B : Nat → Nat} (hB_ : ∀ i, B i < 256) (hm : h m = some (mO cd ai cn am ln ak kl as_ aks ar an ab mn)) (hin : h ai = some (.inl (1, 65536, .inl (bsf B)))) (hcn : cn ≤ 65536) {fs : Nat → Int32} (hst : h as_ = some (.inl (0, 8192, .inl fs))) (hn : nn B ≤ 8191) (hne1 : m ≠ as_) (hne2 : ai ≠ as_) : ∀ (d : Nat) (r k : Nat), r + k = 50 → ffst (fun k => vok B cn (8 + 4 * k)) (fun k => 8 + 4 * k) r k = plS B cn → r < d → AW tb "ImageReaderModel" b_M_stepValues 6 (some .int) false none fr lo (m_VP B cn h as_) 5 [some (.ref m), some (.int (nI (8 + 4 * k))), some (.int (nI k)), none, none, none] [] h mc ms := by
  intro d
  induction d with
  | zero => intro r k hrk hp hd; omega
  | succ d ih =>
    intro r k hrk hp hd
    refine aw_iload_n d_M_stepValues_5 rfl ?_
    refine aw_bipush (v := nI 50) d_M_stepValues_6 (by decide) ?_
    refine aw_icmp_ge (tgt := 30) d_M_stepValues_8 (by decide) (fun c_8 => ?_) (fun c_8 => ?_)
    · rw [nI_leI (by omega) (by omega)] at c_8
      have hS0 : plS B cn = none := by rw [← hp, show r = 0 by omega]; rfl
      refine aw_iconst (v := nI 1) d_M_stepValues_30 (by decide) ?_
      refine aw_istore_n (L' := [some (.ref m), some (.int (nI (8 + 4 * k))), some (.int (nI 1)), none, none, none]) d_M_stepValues_31 (by decide) rfl rfl ?_
      refine aw_loc (L' := [some (.ref m), some (.int (nI (oa B 1))), some (.int (nI 1)), none, none, none]) (by intro j v hv; match j, hv with | 0, hv => exact hv | 1, hv => (rw [oa_1] at hv; rw [show k = 50 by omega]; exact hv) | 2, hv => exact hv | 3, hv => cases hv | 4, hv => cases hv | 5, hv => cases hv | j + 6, hv => cases hv) ?_
      refine aw_heap (h' := av_up h as_ (.inl (0, 8192, .inl fs))) (av_up_id hst).symm ?_
      exact lp_M_stepValuesO (by omega) (by omega) hB_ hm hin hcn hst hn hne1 hne2 hS0 (nn B + 1) (nn B) 1 fs (by omega) (by omega) rfl (fun j h1 h2 => by omega) (plS_c hS0) (by omega)
    · rw [nI_leI (by omega) (by omega)] at c_8
      obtain ⟨r, rfl⟩ : ∃ q, r = q + 1 := ⟨r - 1, by omega⟩
      refine aw_aload_n d_M_stepValues_11 rfl ?_
      refine aw_iload_n d_M_stepValues_12 rfl ?_
      refine aw_callVi (mc2 := mc) (ms2 := ms) (r := bP (vok B cn (8 + 4 * k))) (As := [.int (nI (8 + 4 * k))]) (rest := []) (c_M_isValue hB_ hm hin hcn (8 + 4 * k) (by omega)) cv_M_105 d_M_stepValues_13 hm rfl rfl rfl (Nat.le_of_ble_eq_true rfl) (by omega) (by omega) (by omega) (by omega) ?_
      refine aw_if_ne (tgt := 21) d_M_stepValues_16 (by decide) (fun c_16 => ?_) (fun c_16 => ?_)
      · rw [bP_eq0, Classical.not_not] at c_16
        refine aw_iinc (v := nI (8 + 4 * (k + 1))) (L' := [some (.ref m), some (.int (nI (8 + 4 * (k + 1)))), some (.int (nI k)), none, none, none]) d_M_stepValues_21 rfl (by rw [show 8 + 4 * (k + 1) = 8 + 4 * k + 4 by omega]; exact nI_add (8 + 4 * k) 4) (by decide) rfl rfl ?_
        refine aw_iinc (v := nI (k + 1)) (L' := [some (.ref m), some (.int (nI (8 + 4 * (k + 1)))), some (.int (nI (k + 1))), none, none, none]) d_M_stepValues_24 rfl (nI_add k 1) (by decide) rfl rfl ?_
        refine aw_goto (tgt := 5) d_M_stepValues_27 (by decide) ?_
        exact ih r (k + 1) (by omega) (by rw [← hp, ffst_s (P := fun k => vok B cn (8 + 4 * k)) c_16]) (by omega)
      · rw [bP_eq0] at c_16
        refine aw_iload_n d_M_stepValues_19 rfl ?_
        exact aw_iret d_M_stepValues_20 rfl rfl (by have e := m_VPn (B := B) (cn := cn) (h := h) (as_ := as_) (p := 8 + 4 * k) (f := fs) (by rw [← hp, ffst_n (P := fun k => vok B cn (8 + 4 * k)) c_16]; rfl); rw [av_up_id hst] at e; exact e)

set_option maxHeartbeats 4000000 in
theorem c_M_stepValues {tb : Nat → Nat} {h : AH} {m ai am ak as_ aks ar an ab cn ln kl mn : Nat} {cd : Int32} {B : Nat → Nat} (hB_ : ∀ i, B i < 256) (hm : h m = some (mO cd ai cn am ln ak kl as_ aks ar an ab mn)) (hin : h ai = some (.inl (1, 65536, .inl (bsf B)))) (hcn : cn ≤ 65536) {fs : Nat → Int32} (hst : h as_ = some (.inl (0, 8192, .inl fs))) (hn : nn B ≤ 8191) (hne1 : m ≠ as_) (hne2 : ai ≠ as_) : AM tb y_M_stepValues b_M_stepValues 6 (some .int) 3 63 [.ref m] h 0 0 (m_VP B cn h as_) := by
  refine am_of (ini := false) [some (.ref m), none, none, none, none, none] (by decide) (fun z => by cases z) (Nat.le_of_ble_eq_true rfl) rfl ?_
  refine aw_bipush (v := nI 8) d_M_stepValues_0 (by decide) ?_
  refine aw_istore_n (L' := [some (.ref m), some (.int (nI 8)), none, none, none, none]) d_M_stepValues_2 (by decide) rfl rfl ?_
  refine aw_iconst (v := nI 0) d_M_stepValues_3 (by decide) ?_
  refine aw_istore_n (L' := [some (.ref m), some (.int (nI 8)), some (.int (nI 0)), none, none, none]) d_M_stepValues_4 (by decide) rfl rfl ?_
  exact lp_M_stepValuesS (by decide) (by decide) hB_ hm hin hcn hst hn hne1 hne2 51 50 0 (by omega) rfl (by omega)

set_option maxHeartbeats 4000000 in
theorem c_M_place {tb : Nat → Nat} {h : AH} {m ai am ak as_ aks ar an ab cn ln kl mn : Nat} {cd : Int32} {B : Nat → Nat} (hB_ : ∀ i, B i < 256) (hm : h m = some (mO cd ai cn am ln ak kl as_ aks ar an ab mn)) (hin : h ai = some (.inl (1, 65536, .inl (bsf B)))) (hcn : cn ≤ 65536) {fs : Nat → Int32} (hst : h as_ = some (.inl (0, 8192, .inl fs))) (hne1 : m ≠ as_) (hne2 : ai ≠ as_) : AM tb y_M_place b_M_place 2 (some .int) 7 164 [.ref m] h 0 0 (fun v h' => v = some (.int (pI (plc B cn))) ∧ ∃ f, h' = av_up h as_ (.inl (0, 8192, .inl f)) ∧ (plc B cn = none → VX B cn f)) := by
  refine am_of (ini := false) [some (.ref m), none] (by decide) (fun z => by cases z) (Nat.le_of_ble_eq_true rfl) rfl ?_
  refine aw_aload_n d_M_place_0 rfl ?_
  refine aw_callVi (mc2 := 0) (ms2 := 0) (r := pI (plH B cn)) (As := []) (rest := []) (c_M_stepHead hB_ hm hin hcn) cv_M_124 d_M_place_1 hm rfl rfl rfl (Nat.le_of_ble_eq_true rfl) (by decide) (by decide) (by omega) (by omega) ?_
  refine aw_istore_n (L' := [some (.ref m), some (.int (pI (plH B cn)))]) d_M_place_4 (by decide) rfl rfl ?_
  refine aw_iload_n d_M_place_5 rfl ?_
  refine aw_iconst (v := (-1)) d_M_place_6 (by decide) ?_
  refine aw_icmp_ne (tgt := 17) d_M_place_7 (by decide) (fun c_7 => ?_) (fun c_7 => ?_)
  · rw [pI_m1 (fun p hp => by have := plH_lt hp; omega)] at c_7
    refine aw_iload_n d_M_place_17 rfl ?_
    refine aw_istore_n (L' := [some (.ref m), some (.int (pI (plH B cn)))]) d_M_place_18 (by decide) rfl rfl ?_
    refine aw_iload_n d_M_place_19 rfl ?_
    refine aw_iconst (v := (-1)) d_M_place_20 (by decide) ?_
    refine aw_icmp_ne (tgt := 31) d_M_place_21 (by decide) (fun c_21 => ?_) (fun c_21 => absurd c_21 (by rw [pI_m1 (fun p hp => by have := plH_lt hp; omega)]; exact c_7))
    try rw [pI_m1 (by grind)] at c_21
    refine aw_iload_n d_M_place_31 rfl ?_
    refine aw_istore_n (L' := [some (.ref m), some (.int (pI (plH B cn)))]) d_M_place_32 (by decide) rfl rfl ?_
    refine aw_iload_n d_M_place_33 rfl ?_
    refine aw_iconst (v := (-1)) d_M_place_34 (by decide) ?_
    refine aw_icmp_ne (tgt := 45) d_M_place_35 (by decide) (fun c_35 => ?_) (fun c_35 => absurd c_35 (by rw [pI_m1 (fun p hp => by have := plH_lt hp; omega)]; exact c_7))
    try rw [pI_m1 (by grind)] at c_35
    refine aw_iload_n d_M_place_45 rfl ?_
    refine aw_istore_n (L' := [some (.ref m), some (.int (pI (plH B cn)))]) d_M_place_46 (by decide) rfl rfl ?_
    refine aw_iload_n d_M_place_47 rfl ?_
    refine aw_iconst (v := (-1)) d_M_place_48 (by decide) ?_
    refine aw_icmp_ne (tgt := 59) d_M_place_49 (by decide) (fun c_49 => ?_) (fun c_49 => absurd c_49 (by rw [pI_m1 (fun p hp => by have := plH_lt hp; omega)]; exact c_7))
    try rw [pI_m1 (by grind)] at c_49
    refine aw_iload_n d_M_place_59 rfl ?_
    refine aw_istore_n (L' := [some (.ref m), some (.int (pI (plH B cn)))]) d_M_place_60 (by decide) rfl rfl ?_
    refine aw_iload_n d_M_place_61 rfl ?_
    refine aw_iconst (v := (-1)) d_M_place_62 (by decide) ?_
    refine aw_icmp_ne (tgt := 73) d_M_place_63 (by decide) (fun c_63 => ?_) (fun c_63 => absurd c_63 (by rw [pI_m1 (fun p hp => by have := plH_lt hp; omega)]; exact c_7))
    try rw [pI_m1 (by grind)] at c_63
    refine aw_iload_n d_M_place_73 rfl ?_
    exact aw_iret d_M_place_74 rfl rfl ⟨by rw [show plc B cn = plH B cn from orE_l c_7], fs, (av_up_id hst).symm, fun z => absurd (orE_none z).1 c_7⟩
  · rw [pI_m1 (fun p hp => by have := plH_lt hp; omega)] at c_7
    have hn := (plH_none c_7).2.2
    refine aw_aload_n d_M_place_10 rfl ?_
    refine aw_callV (mc2 := 0) (ms2 := 0) (As := []) (rest := []) (c_M_stepValues hB_ hm hin hcn hst hn hne1 hne2) cv_M_128 d_M_place_11 hm rfl rfl rfl (Nat.le_of_ble_eq_true rfl) (by decide) (by decide) (by omega) (by omega) (fun v_11 k_11c q_11 => ?_)
    obtain ⟨z1, f, z2, z3⟩ := q_11
    refine aw_st (st' := .int (pI (orE (plS B cn) (plO B cn (nn B) 208))) :: []) (by rw [z1]; rfl) ?_
    have hm1 : k_11c m = some (mO cd ai cn am ln ak kl as_ aks ar an ab mn) := by rw [z2, av_up_ne hne1]; exact hm
    have hin1 : k_11c ai = some (.inl (1, 65536, .inl (bsf B))) := by rw [z2, av_up_ne hne2]; exact hin
    have hst1 : k_11c as_ = some (.inl (0, 8192, .inl f)) := by rw [z2]; exact av_up_self _ _ _
    refine aw_goto (tgt := 18) d_M_place_14 (by decide) ?_
    refine aw_istore_n (L' := [some (.ref m), some (.int (pI (orE (plS B cn) (plO B cn (nn B) 208))))]) d_M_place_18 (by decide) rfl rfl ?_
    refine aw_iload_n d_M_place_19 rfl ?_
    refine aw_iconst (v := (-1)) d_M_place_20 (by decide) ?_
    refine aw_icmp_ne (tgt := 31) d_M_place_21 (by decide) (fun c_21 => ?_) (fun c_21 => ?_)
    · rw [pI_m1 (fun p hp => plV_lt hB_ hcn hp)] at c_21
      refine aw_iload_n d_M_place_31 rfl ?_
      refine aw_istore_n (L' := [some (.ref m), some (.int (pI (orE (plS B cn) (plO B cn (nn B) 208))))]) d_M_place_32 (by decide) rfl rfl ?_
      refine aw_iload_n d_M_place_33 rfl ?_
      refine aw_iconst (v := (-1)) d_M_place_34 (by decide) ?_
      refine aw_icmp_ne (tgt := 45) d_M_place_35 (by decide) (fun c_35 => ?_) (fun c_35 => absurd c_35 (by rw [pI_m1 (fun p hp => plV_lt hB_ hcn hp)]; exact c_21))
      try rw [pI_m1 (by grind)] at c_35
      refine aw_iload_n d_M_place_45 rfl ?_
      refine aw_istore_n (L' := [some (.ref m), some (.int (pI (orE (plS B cn) (plO B cn (nn B) 208))))]) d_M_place_46 (by decide) rfl rfl ?_
      refine aw_iload_n d_M_place_47 rfl ?_
      refine aw_iconst (v := (-1)) d_M_place_48 (by decide) ?_
      refine aw_icmp_ne (tgt := 59) d_M_place_49 (by decide) (fun c_49 => ?_) (fun c_49 => absurd c_49 (by rw [pI_m1 (fun p hp => plV_lt hB_ hcn hp)]; exact c_21))
      try rw [pI_m1 (by grind)] at c_49
      refine aw_iload_n d_M_place_59 rfl ?_
      refine aw_istore_n (L' := [some (.ref m), some (.int (pI (orE (plS B cn) (plO B cn (nn B) 208))))]) d_M_place_60 (by decide) rfl rfl ?_
      refine aw_iload_n d_M_place_61 rfl ?_
      refine aw_iconst (v := (-1)) d_M_place_62 (by decide) ?_
      refine aw_icmp_ne (tgt := 73) d_M_place_63 (by decide) (fun c_63 => ?_) (fun c_63 => absurd c_63 (by rw [pI_m1 (fun p hp => plV_lt hB_ hcn hp)]; exact c_21))
      try rw [pI_m1 (by grind)] at c_63
      refine aw_iload_n d_M_place_73 rfl ?_
      exact aw_iret d_M_place_74 rfl rfl ⟨by rw [show plc B cn = orE (plS B cn) (plO B cn (nn B) 208) by unfold plc; rw [c_7, orE_r rfl]; cases q : plS B cn with | none => rw [q] at c_21; exact orE_l c_21 | some p => rfl], f, z2, fun z => absurd z (by rw [show plc B cn = orE (plS B cn) (plO B cn (nn B) 208) by unfold plc; rw [c_7, orE_r rfl]; cases q : plS B cn with | none => rw [q] at c_21; exact orE_l c_21 | some p => rfl]; exact c_21)⟩
    · rw [pI_m1 (fun p hp => plV_lt hB_ hcn hp)] at c_21
      have LD := laid_of hcn c_7 (orE_none c_21).1 (orE_none c_21).2
      have X : VX B cn f := ⟨LD.1, z3 c_21⟩
      have h4 := ((plH_none c_7).1 4 (by decide)).2.2.2.2.1 rfl
      have h5 := ((plH_none c_7).1 5 (by decide)).2.2.2.2.2 rfl
      refine aw_aload_n d_M_place_24 rfl ?_
      refine aw_callVi (mc2 := 0) (ms2 := 0) (r := pI (plR B)) (As := []) (rest := []) (c_M_stepRoom hB_ hm1 hin1 hst1 X h4 h5) cv_M_131 d_M_place_25 hm1 rfl rfl rfl (Nat.le_of_ble_eq_true rfl) (by decide) (by decide) (by omega) (by omega) ?_
      refine aw_goto (tgt := 32) d_M_place_28 (by decide) ?_
      refine aw_istore_n (L' := [some (.ref m), some (.int (pI (plR B)))]) d_M_place_32 (by decide) rfl rfl ?_
      refine aw_iload_n d_M_place_33 rfl ?_
      refine aw_iconst (v := (-1)) d_M_place_34 (by decide) ?_
      refine aw_icmp_ne (tgt := 45) d_M_place_35 (by decide) (fun c_35 => ?_) (fun c_35 => ?_)
      · rw [pI_m1 (fun p hp => plR_lt hp)] at c_35
        refine aw_iload_n d_M_place_45 rfl ?_
        refine aw_istore_n (L' := [some (.ref m), some (.int (pI (plR B)))]) d_M_place_46 (by decide) rfl rfl ?_
        refine aw_iload_n d_M_place_47 rfl ?_
        refine aw_iconst (v := (-1)) d_M_place_48 (by decide) ?_
        refine aw_icmp_ne (tgt := 59) d_M_place_49 (by decide) (fun c_49 => ?_) (fun c_49 => absurd c_49 (by rw [pI_m1 (fun p hp => plR_lt hp)]; exact c_35))
        try rw [pI_m1 (by grind)] at c_49
        refine aw_iload_n d_M_place_59 rfl ?_
        refine aw_istore_n (L' := [some (.ref m), some (.int (pI (plR B)))]) d_M_place_60 (by decide) rfl rfl ?_
        refine aw_iload_n d_M_place_61 rfl ?_
        refine aw_iconst (v := (-1)) d_M_place_62 (by decide) ?_
        refine aw_icmp_ne (tgt := 73) d_M_place_63 (by decide) (fun c_63 => ?_) (fun c_63 => absurd c_63 (by rw [pI_m1 (fun p hp => plR_lt hp)]; exact c_35))
        try rw [pI_m1 (by grind)] at c_63
        refine aw_iload_n d_M_place_73 rfl ?_
        exact aw_iret d_M_place_74 rfl rfl ⟨by rw [show plc B cn = plR B by unfold plc; rw [c_7, orE_r rfl, orE_r (orE_none c_21).1, orE_r (orE_none c_21).2]; exact orE_l c_35], f, z2, fun _ => X⟩
      · rw [pI_m1 (fun p hp => plR_lt hp)] at c_35
        refine aw_aload_n d_M_place_38 rfl ?_
        refine aw_callVi (mc2 := 0) (ms2 := 0) (r := pI (plP B)) (As := []) (rest := []) (c_M_stepSpecials hB_ hm1 hin1 hst1 X) cv_M_134 d_M_place_39 hm1 rfl rfl rfl (Nat.le_of_ble_eq_true rfl) (by decide) (by decide) (by omega) (by omega) ?_
        refine aw_goto (tgt := 46) d_M_place_42 (by decide) ?_
        refine aw_istore_n (L' := [some (.ref m), some (.int (pI (plP B)))]) d_M_place_46 (by decide) rfl rfl ?_
        refine aw_iload_n d_M_place_47 rfl ?_
        refine aw_iconst (v := (-1)) d_M_place_48 (by decide) ?_
        refine aw_icmp_ne (tgt := 59) d_M_place_49 (by decide) (fun c_49 => ?_) (fun c_49 => ?_)
        · rw [pI_m1 (fun p hp => plP_lt hp)] at c_49
          refine aw_iload_n d_M_place_59 rfl ?_
          refine aw_istore_n (L' := [some (.ref m), some (.int (pI (plP B)))]) d_M_place_60 (by decide) rfl rfl ?_
          refine aw_iload_n d_M_place_61 rfl ?_
          refine aw_iconst (v := (-1)) d_M_place_62 (by decide) ?_
          refine aw_icmp_ne (tgt := 73) d_M_place_63 (by decide) (fun c_63 => ?_) (fun c_63 => absurd c_63 (by rw [pI_m1 (fun p hp => plP_lt hp)]; exact c_49))
          try rw [pI_m1 (by grind)] at c_63
          refine aw_iload_n d_M_place_73 rfl ?_
          exact aw_iret d_M_place_74 rfl rfl ⟨by rw [show plc B cn = plP B by unfold plc; rw [c_7, orE_r rfl, orE_r (orE_none c_21).1, orE_r (orE_none c_21).2, orE_r c_35]; exact orE_l c_49], f, z2, fun _ => X⟩
        · rw [pI_m1 (fun p hp => plP_lt hp)] at c_49
          refine aw_aload_n d_M_place_52 rfl ?_
          refine aw_callVi (mc2 := 0) (ms2 := 0) (r := pI (plB B)) (As := []) (rest := []) (c_M_stepObjects hB_ hm1 hin1 hst1 X) cv_M_137 d_M_place_53 hm1 rfl rfl rfl (Nat.le_of_ble_eq_true rfl) (by decide) (by decide) (by omega) (by omega) ?_
          refine aw_goto (tgt := 60) d_M_place_56 (by decide) ?_
          refine aw_istore_n (L' := [some (.ref m), some (.int (pI (plB B)))]) d_M_place_60 (by decide) rfl rfl ?_
          refine aw_iload_n d_M_place_61 rfl ?_
          refine aw_iconst (v := (-1)) d_M_place_62 (by decide) ?_
          refine aw_icmp_ne (tgt := 73) d_M_place_63 (by decide) (fun c_63 => ?_) (fun c_63 => ?_)
          · rw [pI_m1 (fun p hp => plB_lt LD.1 hp)] at c_63
            refine aw_iload_n d_M_place_73 rfl ?_
            exact aw_iret d_M_place_74 rfl rfl ⟨by rw [show plc B cn = plB B by unfold plc; rw [c_7, orE_r rfl, orE_r (orE_none c_21).1, orE_r (orE_none c_21).2, orE_r c_35, orE_r c_49]; exact orE_l c_63], f, z2, fun _ => X⟩
          · rw [pI_m1 (fun p hp => plB_lt LD.1 hp)] at c_63
            refine aw_aload_n d_M_place_66 rfl ?_
            refine aw_callVi (mc2 := 0) (ms2 := 0) (r := pI (plQ B)) (As := []) (rest := []) (c_M_stepProcess hB_ hm1 hin1 hst1 X (plP_14 c_49)) cv_M_140 d_M_place_67 hm1 rfl rfl rfl (Nat.le_of_ble_eq_true rfl) (by decide) (by decide) (by omega) (by omega) ?_
            refine aw_goto (tgt := 74) d_M_place_70 (by decide) ?_
            exact aw_iret d_M_place_74 rfl rfl ⟨by unfold plc; rw [c_7, orE_r rfl, orE_r (orE_none c_21).1, orE_r (orE_none c_21).2, orE_r c_35, orE_r c_49, orE_r c_63], f, z2, fun _ => X⟩
