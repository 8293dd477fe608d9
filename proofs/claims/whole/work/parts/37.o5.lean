theorem gN_mono {cap a b : Nat} (h0 : 0 < cap) (h : a ≤ b) : gN cap a ≤ gN cap b := by
  have e := gN_gN (cap := cap) h0 h
  have g := gN_b (n := a) h0
  have g2 := gN_b (cap := gN cap a) (n := b) (by omega)
  rw [e] at g2
  omega
noncomputable def plOh (B : Nat → Nat) (c a : Nat) : Option Nat := @ite (Option Nat) (¬ vok B c a) (Classical.propDecidable _) (some a) (if ¬ (a + 5 ≤ c ∧ B (a + 4) ≤ 1) then some (a + 4) else if ¬ (a + 7 ≤ c) then some (a + 5) else none)
noncomputable def plOb (B : Nat → Nat) (c a : Nat) : Option Nat := if B (a + 4) = 1 then (if a + 7 + bh B (a + 5) ≤ c then none else some (a + 7)) else plF B c (a + 7) (bh B (a + 5)) 0
theorem plOh_1 {B : Nat → Nat} {c a : Nat} (h : ¬ vok B c a) : plOh B c a = some a := by unfold plOh; rw [if_pos h]
theorem plOh_2 {B : Nat → Nat} {c a : Nat} (h : vok B c a) (h2 : ¬ (a + 5 ≤ c ∧ B (a + 4) ≤ 1)) : plOh B c a = some (a + 4) := by unfold plOh; rw [if_neg (fun z => z h), if_pos h2]
theorem plOh_3 {B : Nat → Nat} {c a : Nat} (h : vok B c a) (h2 : a + 5 ≤ c ∧ B (a + 4) ≤ 1) (h3 : ¬ a + 7 ≤ c) : plOh B c a = some (a + 5) := by unfold plOh; rw [if_neg (fun z => z h), if_neg (fun z => z h2), if_pos h3]
theorem plOh_4 {B : Nat → Nat} {c a : Nat} (h : vok B c a) (h2 : a + 5 ≤ c ∧ B (a + 4) ≤ 1) (h3 : a + 7 ≤ c) : plOh B c a = none := by unfold plOh; rw [if_neg (fun z => z h), if_neg (fun z => z h2), if_neg (fun z => z h3)]
theorem plOh_n {B : Nat → Nat} {c a : Nat} (h : plOh B c a = none) : vok B c a ∧ B (a + 4) ≤ 1 ∧ a + 7 ≤ c := by
  by_cases h1 : vok B c a
  · by_cases h2 : a + 5 ≤ c ∧ B (a + 4) ≤ 1
    · by_cases h3 : a + 7 ≤ c
      · exact ⟨h1, h2.2, h3⟩
      · rw [plOh_3 h1 h2 h3] at h; cases h
    · rw [plOh_2 h1 h2] at h; cases h
  · rw [plOh_1 h1] at h; cases h
theorem plOh_lt {B : Nat → Nat} {c a p : Nat} (h : plOh B c a = some p) : p ≤ a + 5 := by
  by_cases h1 : vok B c a
  · by_cases h2 : a + 5 ≤ c ∧ B (a + 4) ≤ 1
    · by_cases h3 : a + 7 ≤ c
      · rw [plOh_4 h1 h2 h3] at h; cases h
      · rw [plOh_3 h1 h2 h3] at h; have := Option.some.inj h; omega
    · rw [plOh_2 h1 h2] at h; have := Option.some.inj h; omega
  · rw [plOh_1 h1] at h; have := Option.some.inj h; omega
theorem plO1_eq (B : Nat → Nat) (c a : Nat) : plO1 B c a = orE (plOh B c a) (plOb B c a) := by
  unfold plO1 plOb
  by_cases h1 : vok B c a
  · by_cases h2 : a + 5 ≤ c ∧ B (a + 4) ≤ 1
    · by_cases h3 : a + 7 ≤ c
      · rw [plOh_4 h1 h2 h3, if_neg (fun z => z h1), if_neg (fun z => z h2), if_neg (fun z => z h3)]; rfl
      · rw [plOh_3 h1 h2 h3, if_neg (fun z => z h1), if_neg (fun z => z h2), if_pos h3]; rfl
    · rw [plOh_2 h1 h2, if_neg (fun z => z h1), if_pos h2]; rfl
  · rw [plOh_1 h1, if_pos h1]; rfl

set_option maxHeartbeats 4000000 in
theorem c_L_headPlace {tb : Nat → Nat} {h : AH} {b ro cap c : Nat} {G B : Nat → Nat} (hG : ∀ i, G i < 256) (hB_ : ∀ i, B i < 256) (hW : ∀ i, i < c → G i = B i) (hb : h b = some (.inr (1, [.ref ro, .int (nI c)]))) (hr : h ro = some (.inl (1, cap, .inl (bsf G)))) (hc : c ≤ cap) (hcap : cap ≤ 1048576) : AM tb y_L_headPlace b_L_headPlace 3 (some .int) 2 42 [.ref b] h 0 0 (av_Pi (pI (plH B c)) h) := by
  refine am_of (ini := false) [some (.ref b), none, none] (by decide) (fun z => by cases z) (Nat.le_of_ble_eq_true rfl) rfl ?_
  refine aw_iconst (v := nI 0) d_L_headPlace_0 (by decide) ?_
  refine aw_istore_n (L' := [some (.ref b), some (.int (nI 0)), none]) d_L_headPlace_1 (by decide) rfl rfl ?_
  exact lp_L_headPlace (by decide) (by decide) hG hB_ hW hb hr hc hcap 9 8 0 none (by omega) (by omega) (by omega) (by intro v hv; cases hv) rfl (by omega)

set_option maxHeartbeats 4000000 in
theorem c_L_objectHeadPlace {tb : Nat → Nat} {h : AH} {b ro cap c : Nat} {G B : Nat → Nat} (hG : ∀ i, G i < 256) (hB_ : ∀ i, B i < 256) (hW : ∀ i, i < c → G i = B i) (hb : h b = some (.inr (1, [.ref ro, .int (nI c)]))) (hr : h ro = some (.inl (1, cap, .inl (bsf G)))) (hc : c ≤ cap) (hcap : cap ≤ 1048576) (a : Nat) (ha : a < 1000000) : AM tb y_L_objectHeadPlace b_L_objectHeadPlace 4 (some .int) 3 65 [.ref b, .int (nI a), .int (nI (nn B))] h 0 0 (av_Pi (pI (plOh B c a)) h) := by
  refine am_of (ini := false) [some (.ref b), some (.int (nI a)), some (.int (nI (nn B))), none] (by decide) (fun z => by cases z) (Nat.le_of_ble_eq_true rfl) rfl ?_
  refine aw_aload_n d_L_objectHeadPlace_0 rfl ?_
  refine aw_iload_n d_L_objectHeadPlace_1 rfl ?_
  refine aw_iload_n d_L_objectHeadPlace_2 rfl ?_
  refine aw_callSi (mc2 := 0) (ms2 := 0) (r := bP (vok B c a)) (As := [.ref b, .int (nI a), .int (nI (nn B))]) (rest := []) (c_L_isValueAt hG hB_ hW hb hr hc hcap a (by omega)) cs_L_44 d_L_objectHeadPlace_3 rfl rfl (Nat.le_of_ble_eq_true rfl) (by decide) (by decide) (by omega) (by omega) ?_
  refine aw_if_ne (tgt := 11) d_L_objectHeadPlace_6 (by decide) (fun c_6 => ?_) (fun c_6 => ?_)
  · rw [bP_eq0, Classical.not_not] at c_6
    by_cases hin : a + 5 ≤ c
    · refine aw_aload_n d_L_objectHeadPlace_11 rfl ?_
      refine aw_iload_n d_L_objectHeadPlace_12 rfl ?_
      refine aw_iconst (v := nI 4) d_L_objectHeadPlace_13 (by decide) ?_
      refine aw_iadd (v := nI (a + 4)) d_L_objectHeadPlace_14 (nI_add _ _) ?_
      refine aw_callVi (mc2 := 0) (ms2 := 0) (r := nI (B (a + 4))) (As := [.int (nI (a + 4))]) (rest := []) (c_B_at hG hB_ hW hb hr hc hcap (a + 4) (by omega)) cv_L_13 d_L_objectHeadPlace_15 hb rfl rfl rfl (Nat.le_of_ble_eq_true rfl) (by decide) (by decide) (by omega) (by omega) ?_
      have b_15 := hB_ (a + 4)
      refine aw_istore_n (L' := [some (.ref b), some (.int (nI a)), some (.int (nI (nn B))), some (.int (nI (B (a + 4))))]) d_L_objectHeadPlace_18 (by decide) rfl rfl ?_
      refine aw_iload_n d_L_objectHeadPlace_19 rfl ?_
      refine aw_if_eq (tgt := 32) d_L_objectHeadPlace_20 (by decide) (fun c_20 => ?_) (fun c_20 => ?_)
      · rw [w_eq0 (by omega)] at c_20
        refine aw_aload_n d_L_objectHeadPlace_32 rfl ?_
        refine aw_iload_n d_L_objectHeadPlace_33 rfl ?_
        refine aw_iconst (v := nI 5) d_L_objectHeadPlace_34 (by decide) ?_
        refine aw_iadd (v := nI (a + 5)) d_L_objectHeadPlace_35 (nI_add _ _) ?_
        refine aw_iconst (v := nI 2) d_L_objectHeadPlace_36 (by decide) ?_
        refine aw_callVi (mc2 := 0) (ms2 := 0) (r := bP (a + 5 + 2 ≤ c)) (As := [.int (nI (a + 5)), .int (nI 2)]) (rest := []) (c_B_reaches hG hB_ hW hb hr hc hcap (a + 5) 2 (by omega)) cv_L_22 d_L_objectHeadPlace_37 hb rfl rfl rfl (Nat.le_of_ble_eq_true rfl) (by decide) (by decide) (by omega) (by omega) ?_
        refine aw_if_eq (tgt := 47) d_L_objectHeadPlace_40 (by decide) (fun c_40 => ?_) (fun c_40 => ?_)
        · rw [bP_eq0] at c_40
          refine aw_iload_n d_L_objectHeadPlace_47 rfl ?_
          refine aw_iconst (v := nI 5) d_L_objectHeadPlace_48 (by decide) ?_
          refine aw_iadd (v := nI (a + 5)) d_L_objectHeadPlace_49 (nI_add _ _) ?_
          exact aw_iret d_L_objectHeadPlace_50 rfl rfl (rt_i (by rw [plOh_3 c_6 (by omega) (by omega)]; rfl))
        · rw [bP_eq0, Classical.not_not] at c_40
          refine aw_iconst (v := (-1)) d_L_objectHeadPlace_43 (by decide) ?_
          refine aw_goto (tgt := 50) d_L_objectHeadPlace_44 (by decide) ?_
          exact aw_iret d_L_objectHeadPlace_50 rfl rfl (rt_i (by rw [plOh_4 c_6 (by omega) (by omega)]; rfl))
      · rw [w_eq0 (by omega)] at c_20
        refine aw_iload_n d_L_objectHeadPlace_23 rfl ?_
        refine aw_iconst (v := nI 1) d_L_objectHeadPlace_24 (by decide) ?_
        refine aw_icmp_eq (tgt := 32) d_L_objectHeadPlace_25 (by decide) (fun c_25 => ?_) (fun c_25 => ?_)
        · rw [w_eq (by omega) (by omega)] at c_25
          refine aw_aload_n d_L_objectHeadPlace_32 rfl ?_
          refine aw_iload_n d_L_objectHeadPlace_33 rfl ?_
          refine aw_iconst (v := nI 5) d_L_objectHeadPlace_34 (by decide) ?_
          refine aw_iadd (v := nI (a + 5)) d_L_objectHeadPlace_35 (nI_add _ _) ?_
          refine aw_iconst (v := nI 2) d_L_objectHeadPlace_36 (by decide) ?_
          refine aw_callVi (mc2 := 0) (ms2 := 0) (r := bP (a + 5 + 2 ≤ c)) (As := [.int (nI (a + 5)), .int (nI 2)]) (rest := []) (c_B_reaches hG hB_ hW hb hr hc hcap (a + 5) 2 (by omega)) cv_L_22 d_L_objectHeadPlace_37 hb rfl rfl rfl (Nat.le_of_ble_eq_true rfl) (by decide) (by decide) (by omega) (by omega) ?_
          refine aw_if_eq (tgt := 47) d_L_objectHeadPlace_40 (by decide) (fun c_40 => ?_) (fun c_40 => ?_)
          · rw [bP_eq0] at c_40
            refine aw_iload_n d_L_objectHeadPlace_47 rfl ?_
            refine aw_iconst (v := nI 5) d_L_objectHeadPlace_48 (by decide) ?_
            refine aw_iadd (v := nI (a + 5)) d_L_objectHeadPlace_49 (nI_add _ _) ?_
            exact aw_iret d_L_objectHeadPlace_50 rfl rfl (rt_i (by rw [plOh_3 c_6 (by omega) (by omega)]; rfl))
          · rw [bP_eq0, Classical.not_not] at c_40
            refine aw_iconst (v := (-1)) d_L_objectHeadPlace_43 (by decide) ?_
            refine aw_goto (tgt := 50) d_L_objectHeadPlace_44 (by decide) ?_
            exact aw_iret d_L_objectHeadPlace_50 rfl rfl (rt_i (by rw [plOh_4 c_6 (by omega) (by omega)]; rfl))
        · rw [w_eq (by omega) (by omega)] at c_25
          refine aw_iload_n d_L_objectHeadPlace_28 rfl ?_
          refine aw_iconst (v := nI 4) d_L_objectHeadPlace_29 (by decide) ?_
          refine aw_iadd (v := nI (a + 4)) d_L_objectHeadPlace_30 (nI_add _ _) ?_
          exact aw_iret d_L_objectHeadPlace_31 rfl rfl (rt_i (by rw [plOh_2 c_6 (by omega)]; rfl))
    · refine aw_aload_n d_L_objectHeadPlace_11 rfl ?_
      refine aw_iload_n d_L_objectHeadPlace_12 rfl ?_
      refine aw_iconst (v := nI 4) d_L_objectHeadPlace_13 (by decide) ?_
      refine aw_iadd (v := nI (a + 4)) d_L_objectHeadPlace_14 (nI_add _ _) ?_
      refine aw_callVi (mc2 := 0) (ms2 := 0) (r := (-1)) (As := [.int (nI (a + 4))]) (rest := []) (c_B_at_out hG hB_ hW hb hr hc hcap (a + 4) (by omega) (by omega)) cv_L_13 d_L_objectHeadPlace_15 hb rfl rfl rfl (Nat.le_of_ble_eq_true rfl) (by decide) (by decide) (by omega) (by omega) ?_
      refine aw_istore_n (L' := [some (.ref b), some (.int (nI a)), some (.int (nI (nn B))), some (.int (-1))]) d_L_objectHeadPlace_18 (by decide) rfl rfl ?_
      refine aw_iload_n d_L_objectHeadPlace_19 rfl ?_
      refine aw_if_eq (tgt := 32) d_L_objectHeadPlace_20 (by decide) (fun z => absurd z (by decide)) (fun _ => ?_)
      refine aw_iload_n d_L_objectHeadPlace_23 rfl ?_
      refine aw_iconst (v := nI 1) d_L_objectHeadPlace_24 (by decide) ?_
      refine aw_icmp_eq (tgt := 32) d_L_objectHeadPlace_25 (by decide) (fun c_25 => absurd c_25 (by decide)) (fun c_25 => ?_)
      refine aw_iload_n d_L_objectHeadPlace_28 rfl ?_
      refine aw_iconst (v := nI 4) d_L_objectHeadPlace_29 (by decide) ?_
      refine aw_iadd (v := nI (a + 4)) d_L_objectHeadPlace_30 (nI_add _ _) ?_
      exact aw_iret d_L_objectHeadPlace_31 rfl rfl (rt_i (by rw [plOh_2 c_6 (by omega)]; rfl))
  · rw [bP_eq0] at c_6
    refine aw_iload_n d_L_objectHeadPlace_9 rfl ?_
    exact aw_iret d_L_objectHeadPlace_10 rfl rfl (rt_i (by rw [plOh_1 c_6]; rfl))

set_option maxHeartbeats 4000000 in
theorem lp_L_takeBytes {tb : Nat → Nat} {h : AH} {fr lo : Nat}  (hfr : 3 ≤ fr) (hlo : 69 ≤ lo) {b ro cap c : Nat} {G B : Nat → Nat} (hG : ∀ i, G i < 256) (hB_ : ∀ i, B i < 256) (hW : ∀ i, i < c → G i = B i) (hc : c ≤ cap) (hcap : cap ≤ 1048576) {im a0 a1 a2 a3 a4 v5 cc p0 u0 n iw wp cp : Nat} {f0 f1 f2 f3 f4 w5 : Nat → Int32} (s z K : Nat) (hs : s < 100000) (hz : z < 65536) (hK2 : K ≤ 200000) (h0 : 256 ≤ p0) (hp0 : p0 ≤ 500000) (hu0 : u0 ≤ p0) (hfit : s + z ≤ c) (hK1 : u0 + z ≤ K) : ∀ (d : Nat) (i : Nat) (g : AH) (a5 pc : Nat) (f5 : Nat → Int32) (mc ms : Nat), g b = some (.inr (1, [.ref ro, .int (nI c)])) → g ro = some (.inl (1, cap, .inl (bsf G))) → iS g im a0 a1 a2 a3 a4 a5 cc pc (u0 + i) n iw wp cp f0 f1 f2 f3 f4 f5 → iND a0 a1 a2 a3 a4 a5 → frm [im, a0, a1, a2, a3, a4, v5] [im, a0, a1, a2, a3, a4, a5] h g → i ≤ z → pc = gN p0 (u0 + i) → (gN p0 K - pc) / 256 ≤ mc → 2 * (gN p0 K - pc) ≤ ms → (∀ k, k < u0 → f5 k = w5 k) → (∀ j, j < i → f5 (u0 + j) = nI (B (s + j))) → z < i + d → AW tb "ImageReader$Layout" b_L_takeBytes 5 (some .int) false none fr lo (fun v h' => v = some (.int (pI ((none : Option Nat)))) ∧ ∃ m b5 g5, m ≤ z ∧ (((none : Option Nat)) = none → m = z) ∧ (m = 0 ∨ s + m ≤ c) ∧ iS h' im a0 a1 a2 a3 a4 b5 cc (gN p0 (u0 + m)) (u0 + m) n iw wp cp f0 f1 f2 f3 f4 g5 ∧ iND a0 a1 a2 a3 a4 b5 ∧ (∀ k, k < u0 → g5 k = w5 k) ∧ (∀ j, j < m → g5 (u0 + j) = nI (B (s + j))) ∧ u0 + m ≤ gN p0 (u0 + m) ∧ frm [im, a0, a1, a2, a3, a4, v5] [im, a0, a1, a2, a3, a4, b5] h h') 14 [some (.ref b), some (.int (nI s)), some (.int (nI z)), some (.ref im), some (.int (nI i))] [] g mc ms := by
  intro d
  induction d with
  | zero => intro i g a5 pc f5 mc ms gb gr gM gD gT hi hpc hmc hms hkp hne hd; omega
  | succ d ih =>
    intro i g a5 pc f5 mc ms gb gr gM gD gT hi hpc hmc hms hkp hne hd
    have gq := gN_b (cap := p0) (n := u0 + i) (by omega)
    have gq2 := gN_mono (cap := p0) (a := u0 + i) (b := K) (by omega) (by omega)
    have gq3 := gN_b (cap := p0) (n := K) (by omega)
    refine aw_iload d_L_takeBytes_14 rfl ?_
    refine aw_iload_n d_L_takeBytes_16 rfl ?_
    refine aw_icmp_ge (tgt := 38) d_L_takeBytes_17 (by decide) (fun c_17 => ?_) (fun c_17 => ?_)
    · rw [nI_leI (by omega) (by omega)] at c_17
      refine aw_iconst (v := (-1)) d_L_takeBytes_38 (by decide) ?_
      exact aw_iret d_L_takeBytes_39 rfl rfl ⟨rfl, i, a5, f5, hi, fun _ => by omega, by omega, by rw [← hpc]; exact gM, gD, hkp, hne, by omega, gT⟩
    · rw [nI_leI (by omega) (by omega)] at c_17
      refine aw_aload_n d_L_takeBytes_20 rfl ?_
      refine aw_aload_n d_L_takeBytes_21 rfl ?_
      refine aw_iload_n d_L_takeBytes_22 rfl ?_
      refine aw_iload d_L_takeBytes_23 rfl ?_
      refine aw_iadd (v := nI (s + i)) d_L_takeBytes_25 (nI_add _ _) ?_
      refine aw_callVi (mc2 := mc) (ms2 := ms) (r := nI (B (s + i))) (As := [.int (nI (s + i))]) (rest := [.ref im]) (c_B_at hG hB_ hW gb gr hc hcap (s + i) (by omega)) cv_L_13 d_L_takeBytes_26 gb rfl rfl rfl (Nat.le_of_ble_eq_true rfl) (by omega) (by omega) (by omega) (by omega) ?_
      have b_26 := hB_ (s + i)
      have gz_29 := gN_b (cap := pc) (n := u0 + i + 1) (by omega)
      have ge : gN pc (u0 + i + 1) = gN p0 (u0 + i + 1) := by rw [hpc]; exact gN_gN (by omega) (by omega)
      have gm := gN_mono (cap := p0) (a := u0 + i + 1) (b := K) (by omega) (by omega)
      refine aw_callV (mc2 := mc - (gN pc (u0 + i + 1) - pc) / 256) (ms2 := ms - 2 * (gN pc (u0 + i + 1) - pc)) (As := [.int (nI (B (s + i)))]) (rest := []) (c_I_addPart ⟨gM.1, gM.2.1, gM.2.2.1, gM.2.2.2.1, gM.2.2.2.2.1, gM.2.2.2.2.2.1, gM.2.2.2.2.2.2⟩ gD (by omega) (by omega) (by omega) (B (s + i))) cv_L_76 d_L_takeBytes_29 gM.1 rfl rfl rfl (Nat.le_of_ble_eq_true rfl) (by omega) (by omega) (by omega) (by omega) (fun v_29 k_29c q_29 => ?_)
      obtain ⟨p1_29, b5_29, g5_29, p2_29, p3_29, p4_29, p5_29, p6_29⟩ := q_29
      refine aw_st (st' := []) (by rw [p1_29]; rfl) ?_
      have p_29_b : k_29c b = some (.inr (1, [.ref ro, .int (nI c)])) := p6_29.at (nm7 (av_apO gb gM.1 (by decide)) (av_apart' gb gM.2.1) (av_apart' gb gM.2.2.1) (av_apart' gb gM.2.2.2.1) (av_apart' gb gM.2.2.2.2.1) (av_apart' gb gM.2.2.2.2.2.1) (av_apart' gb gM.2.2.2.2.2.2)) gb
      have p_29_ro : k_29c ro = some (.inl (1, cap, .inl (bsf G))) := p6_29.at (nm7 (av_apart gr gM.1) (av_apT gr gM.2.1 (by decide)) (av_apT gr gM.2.2.1 (by decide)) (av_apT gr gM.2.2.2.1 (by decide)) (av_apT gr gM.2.2.2.2.1 (by decide)) (av_apT gr gM.2.2.2.2.2.1 (by decide)) (av_apT gr gM.2.2.2.2.2.2 (by decide))) gr
      refine aw_iinc (v := nI (i + 1)) (L' := [some (.ref b), some (.int (nI s)), some (.int (nI z)), some (.ref im), some (.int (nI (i + 1)))]) d_L_takeBytes_32 rfl (nI_add i 1) (by decide) rfl rfl ?_
      refine aw_goto (tgt := 14) d_L_takeBytes_35 (by decide) ?_
      exact ih (i + 1) _ _ _ _ _ _ p_29_b p_29_ro p2_29 p3_29 (gT.tr p6_29) (by omega) ge (by omega) (by omega) (fun k hk => by rw [p5_29 k (by omega)]; exact hkp k hk) (fun j hj => by by_cases y : j = i; (rw [y]; exact p4_29); (rw [p5_29 _ (by omega)]; exact hne j (by omega))) (by omega)

set_option maxHeartbeats 4000000 in
theorem lp_L_takeFields {tb : Nat → Nat} {h : AH} {fr lo : Nat}  (hfr : 3 ≤ fr) (hlo : 69 ≤ lo) {b ro cap c : Nat} {G B : Nat → Nat} (hG : ∀ i, G i < 256) (hB_ : ∀ i, B i < 256) (hW : ∀ i, i < c → G i = B i) (hc : c ≤ cap) (hcap : cap ≤ 1048576) {im a0 a1 a2 a3 a4 v5 cc p0 u0 n iw wp cp : Nat} {f0 f1 f2 f3 f4 w5 : Nat → Int32} (s z K : Nat) (hs : s < 100000) (hz : z < 65536) (hK2 : K ≤ 200000) (h0 : 256 ≤ p0) (hp0 : p0 ≤ 500000) (hu0 : u0 ≤ p0) (hK1 : u0 + min z ((c - s) / 4) ≤ K) (hsc : s ≤ c) : ∀ (d : Nat) (r : Nat) (i : Nat) (g : AH) (a5 pc : Nat) (f5 : Nat → Int32) (mc ms : Nat), g b = some (.inr (1, [.ref ro, .int (nI c)])) → g ro = some (.inl (1, cap, .inl (bsf G))) → iS g im a0 a1 a2 a3 a4 a5 cc pc (u0 + i) n iw wp cp f0 f1 f2 f3 f4 f5 → iND a0 a1 a2 a3 a4 a5 → frm [im, a0, a1, a2, a3, a4, v5] [im, a0, a1, a2, a3, a4, a5] h g → i ≤ z → pc = gN p0 (u0 + i) → (gN p0 K - pc) / 256 ≤ mc → 2 * (gN p0 K - pc) ≤ ms → (∀ k, k < u0 → f5 k = w5 k) → (∀ j, j < i → f5 (u0 + j) = nI (bw B (s + 4 * j))) → r + i = z → s + 4 * i ≤ c → plF B c s r i = plF B c s z 0 → r < d → AW tb "ImageReader$Layout" b_L_takeFields 7 (some .int) false none fr lo (fun v h' => v = some (.int (pI (plF B c s z 0))) ∧ ∃ m b5 g5, m ≤ z ∧ ((plF B c s z 0) = none → m = z) ∧ (m = 0 ∨ s + m ≤ c) ∧ iS h' im a0 a1 a2 a3 a4 b5 cc (gN p0 (u0 + m)) (u0 + m) n iw wp cp f0 f1 f2 f3 f4 g5 ∧ iND a0 a1 a2 a3 a4 b5 ∧ (∀ k, k < u0 → g5 k = w5 k) ∧ (∀ j, j < m → g5 (u0 + j) = nI (bw B (s + 4 * j))) ∧ u0 + m ≤ gN p0 (u0 + m) ∧ frm [im, a0, a1, a2, a3, a4, v5] [im, a0, a1, a2, a3, a4, b5] h h') 3 [some (.ref b), some (.int (nI s)), some (.int (nI z)), some (.int (nI (nn B))), some (.ref im), some (.int (nI i)), none] [] g mc ms := by
  intro d
  induction d with
  | zero => intro r i g a5 pc f5 mc ms gb gr gM gD gT hi hpc hmc hms hkp hne hrz hfi hp hd; omega
  | succ d ih =>
    intro r i g a5 pc f5 mc ms gb gr gM gD gT hi hpc hmc hms hkp hne hrz hfi hp hd
    have gq := gN_b (cap := p0) (n := u0 + i) (by omega)
    have gq2 := gN_mono (cap := p0) (a := u0 + i) (b := K) (by omega) (by omega)
    have gq3 := gN_b (cap := p0) (n := K) (by omega)
    refine aw_iload d_L_takeFields_3 rfl ?_
    refine aw_iload_n d_L_takeFields_5 rfl ?_
    refine aw_icmp_ge (tgt := 47) d_L_takeFields_6 (by decide) (fun c_6 => ?_) (fun c_6 => ?_)
    · rw [nI_leI (by omega) (by omega)] at c_6
      have hp0_ : plF B c s z 0 = none := by rw [← hp, show r = 0 by omega]; rfl
      refine aw_iconst (v := (-1)) d_L_takeFields_47 (by decide) ?_
      exact aw_iret d_L_takeFields_48 rfl rfl ⟨by rw [hp0_]; rfl, i, a5, f5, hi, fun _ => by omega, by omega, by rw [← hpc]; exact gM, gD, hkp, hne, by omega, gT⟩
    · rw [nI_leI (by omega) (by omega)] at c_6
      obtain ⟨r, rfl⟩ : ∃ q, r = q + 1 := ⟨r - 1, by omega⟩
      refine aw_iload_n d_L_takeFields_9 rfl ?_
      refine aw_iconst (v := nI 4) d_L_takeFields_10 (by decide) ?_
      refine aw_iload d_L_takeFields_11 rfl ?_
      refine aw_imul (v := nI (4 * i)) d_L_takeFields_13 (pk_mul _ _) ?_
      refine aw_iadd (v := nI (s + 4 * i)) d_L_takeFields_14 (nI_add _ _) ?_
      refine aw_istore (L' := [some (.ref b), some (.int (nI s)), some (.int (nI z)), some (.int (nI (nn B))), some (.ref im), some (.int (nI i)), some (.int (nI (s + 4 * i)))]) d_L_takeFields_15 (by decide) rfl rfl ?_
      refine aw_aload_n d_L_takeFields_17 rfl ?_
      refine aw_iload d_L_takeFields_18 rfl ?_
      refine aw_iload_n d_L_takeFields_20 rfl ?_
      refine aw_callSi (mc2 := mc) (ms2 := ms) (r := bP (vok B c (s + 4 * i))) (As := [.ref b, .int (nI (s + 4 * i)), .int (nI (nn B))]) (rest := []) (c_L_isValueAt hG hB_ hW gb gr hc hcap (s + 4 * i) (by omega)) cs_L_44 d_L_takeFields_21 rfl rfl (Nat.le_of_ble_eq_true rfl) (by omega) (by omega) (by omega) (by omega) ?_
      refine aw_if_ne (tgt := 30) d_L_takeFields_24 (by decide) (fun c_24 => ?_) (fun c_24 => ?_)
      · rw [bP_eq0, Classical.not_not] at c_24
        have hv1 := c_24.1
        refine aw_aload d_L_takeFields_30 rfl ?_
        refine aw_aload_n d_L_takeFields_32 rfl ?_
        refine aw_iload d_L_takeFields_33 rfl ?_
        refine aw_callVi (mc2 := mc) (ms2 := ms) (r := nI (bw B (s + 4 * i))) (As := [.int (nI (s + 4 * i))]) (rest := [.ref im]) (c_B_wordAt hG hB_ hW gb gr hc hcap (s + 4 * i) (by omega)) cv_L_53 d_L_takeFields_35 gb rfl rfl rfl (Nat.le_of_ble_eq_true rfl) (by omega) (by omega) (by omega) (by omega) ?_
        have b_35 := bw_lt hB_ (s + 4 * i)
        have gz_38 := gN_b (cap := pc) (n := u0 + i + 1) (by omega)
        have ge : gN pc (u0 + i + 1) = gN p0 (u0 + i + 1) := by rw [hpc]; exact gN_gN (by omega) (by omega)
        have gm := gN_mono (cap := p0) (a := u0 + i + 1) (b := K) (by omega) (by omega)
        refine aw_callV (mc2 := mc - (gN pc (u0 + i + 1) - pc) / 256) (ms2 := ms - 2 * (gN pc (u0 + i + 1) - pc)) (As := [.int (nI (bw B (s + 4 * i)))]) (rest := []) (c_I_addPart ⟨gM.1, gM.2.1, gM.2.2.1, gM.2.2.2.1, gM.2.2.2.2.1, gM.2.2.2.2.2.1, gM.2.2.2.2.2.2⟩ gD (by omega) (by omega) (by omega) (bw B (s + 4 * i))) cv_L_76 d_L_takeFields_38 gM.1 rfl rfl rfl (Nat.le_of_ble_eq_true rfl) (by omega) (by omega) (by omega) (by omega) (fun v_38 k_38c q_38 => ?_)
        obtain ⟨p1_38, b5_38, g5_38, p2_38, p3_38, p4_38, p5_38, p6_38⟩ := q_38
        refine aw_st (st' := []) (by rw [p1_38]; rfl) ?_
        have p_38_b : k_38c b = some (.inr (1, [.ref ro, .int (nI c)])) := p6_38.at (nm7 (av_apO gb gM.1 (by decide)) (av_apart' gb gM.2.1) (av_apart' gb gM.2.2.1) (av_apart' gb gM.2.2.2.1) (av_apart' gb gM.2.2.2.2.1) (av_apart' gb gM.2.2.2.2.2.1) (av_apart' gb gM.2.2.2.2.2.2)) gb
        have p_38_ro : k_38c ro = some (.inl (1, cap, .inl (bsf G))) := p6_38.at (nm7 (av_apart gr gM.1) (av_apT gr gM.2.1 (by decide)) (av_apT gr gM.2.2.1 (by decide)) (av_apT gr gM.2.2.2.1 (by decide)) (av_apT gr gM.2.2.2.2.1 (by decide)) (av_apT gr gM.2.2.2.2.2.1 (by decide)) (av_apT gr gM.2.2.2.2.2.2 (by decide))) gr
        refine aw_iinc (v := nI (i + 1)) (L' := [some (.ref b), some (.int (nI s)), some (.int (nI z)), some (.int (nI (nn B))), some (.ref im), some (.int (nI (i + 1))), some (.int (nI (s + 4 * i)))]) d_L_takeFields_41 rfl (nI_add i 1) (by decide) rfl rfl ?_
        refine aw_goto (tgt := 3) d_L_takeFields_44 (by decide) ?_
        refine aw_loc (L' := [some (.ref b), some (.int (nI s)), some (.int (nI z)), some (.int (nI (nn B))), some (.ref im), some (.int (nI (i + 1))), none]) (by intro j v hv; match j, hv with | 0, hv => exact hv | 1, hv => exact hv | 2, hv => exact hv | 3, hv => exact hv | 4, hv => exact hv | 5, hv => exact hv | 6, hv => cases hv | j + 7, hv => cases hv) ?_
        exact ih r (i + 1) _ _ _ _ _ _ p_38_b p_38_ro p2_38 p3_38 (gT.tr p6_38) (by omega) ge (by omega) (by omega) (fun k hk => by rw [p5_38 k (by omega)]; exact hkp k hk) (fun j hj => by by_cases y : j = i; (rw [y]; exact p4_38); (rw [p5_38 _ (by omega)]; exact hne j (by omega))) (by omega) (by omega) (by rw [← hp, plF_s c_24]) (by omega)
      · rw [bP_eq0] at c_24
        have hp0_ : plF B c s z 0 = some (s + 4 * i) := by rw [← hp, plF_n c_24]
        refine aw_iload d_L_takeFields_27 rfl ?_
        exact aw_iret d_L_takeFields_29 rfl rfl ⟨by rw [hp0_]; rfl, i, a5, f5, hi, fun y => (by rw [hp0_] at y; cases y), by omega, by rw [← hpc]; exact gM, gD, hkp, hne, by omega, gT⟩

theorem tB_none {s z c : Nat} (h : s + z ≤ c) : (if s + z ≤ c then none else some s : Option Nat) = none := if_pos h
theorem tB_some {s z c : Nat} (h : ¬ s + z ≤ c) : (if s + z ≤ c then none else some s : Option Nat) = some s := if_neg h

set_option maxHeartbeats 4000000 in
theorem c_L_takeBytes {tb : Nat → Nat} {h : AH} {b ro cap c : Nat} {G B : Nat → Nat} (hG : ∀ i, G i < 256) (hB_ : ∀ i, B i < 256) (hW : ∀ i, i < c → G i = B i) (hb : h b = some (.inr (1, [.ref ro, .int (nI c)]))) (hr : h ro = some (.inl (1, cap, .inl (bsf G)))) (hc : c ≤ cap) (hcap : cap ≤ 1048576) {im a0 a1 a2 a3 a4 v5 cc p0 u0 n iw wp cp : Nat} {f0 f1 f2 f3 f4 w5 : Nat → Int32} (s z K : Nat) (hs : s < 100000) (hz : z < 65536) (hK2 : K ≤ 200000) (h0 : 256 ≤ p0) (hp0 : p0 ≤ 500000) (hu0 : u0 ≤ p0) (hK1 : u0 + min z (c - s) ≤ K) (M : iS h im a0 a1 a2 a3 a4 v5 cc p0 u0 n iw wp cp f0 f1 f2 f3 f4 w5) (D : iND a0 a1 a2 a3 a4 v5) : AM tb y_L_takeBytes b_L_takeBytes 5 (some .int) 3 69 [.ref b, .int (nI s), .int (nI z), .ref im] h ((gN p0 K - p0) / 256) (2 * (gN p0 K - p0)) (fun v h' => v = some (.int (pI (if s + z ≤ c then none else some s))) ∧ ∃ m b5 g5, m ≤ z ∧ ((if s + z ≤ c then none else some s) = none → m = z) ∧ (m = 0 ∨ s + m ≤ c) ∧ iS h' im a0 a1 a2 a3 a4 b5 cc (gN p0 (u0 + m)) (u0 + m) n iw wp cp f0 f1 f2 f3 f4 g5 ∧ iND a0 a1 a2 a3 a4 b5 ∧ (∀ k, k < u0 → g5 k = w5 k) ∧ (∀ j, j < m → g5 (u0 + j) = nI (B (s + j))) ∧ u0 + m ≤ gN p0 (u0 + m) ∧ frm [im, a0, a1, a2, a3, a4, v5] [im, a0, a1, a2, a3, a4, b5] h h') := by
  have g0 : gN p0 (u0 + 0) = p0 := gN_le (by omega)
  refine am_of (ini := false) [some (.ref b), some (.int (nI s)), some (.int (nI z)), some (.ref im), none] (by decide) (fun z => by cases z) (Nat.le_of_ble_eq_true rfl) rfl ?_
  refine aw_aload_n d_L_takeBytes_0 rfl ?_
  refine aw_iload_n d_L_takeBytes_1 rfl ?_
  refine aw_iload_n d_L_takeBytes_2 rfl ?_
  refine aw_callVi (mc2 := (gN p0 K - p0) / 256) (ms2 := 2 * (gN p0 K - p0)) (r := bP (s + z ≤ c)) (As := [.int (nI s), .int (nI z)]) (rest := []) (c_B_reaches hG hB_ hW hb hr hc hcap s z (by omega)) cv_L_22 d_L_takeBytes_3 hb rfl rfl rfl (Nat.le_of_ble_eq_true rfl) (by decide) (by decide) (by omega) (by omega) ?_
  refine aw_if_ne (tgt := 11) d_L_takeBytes_6 (by decide) (fun c_6 => ?_) (fun c_6 => ?_)
  · rw [bP_eq0, Classical.not_not] at c_6
    refine aw_iconst (v := nI 0) d_L_takeBytes_11 (by decide) ?_
    refine aw_istore (L' := [some (.ref b), some (.int (nI s)), some (.int (nI z)), some (.ref im), some (.int (nI 0))]) d_L_takeBytes_12 (by decide) rfl rfl ?_
    rw [tB_none c_6]
    exact lp_L_takeBytes (by decide) (by decide) hG hB_ hW hc hcap s z K hs hz hK2 h0 hp0 hu0 c_6 (by omega) (z + 1) 0 h v5 p0 w5 _ _ hb hr M D (frm.refl _) (Nat.zero_le _) g0.symm (Nat.le_refl _) (Nat.le_refl _) (fun _ _ => rfl) (fun j hj => absurd hj (Nat.not_lt_zero j)) (by omega)
  · rw [bP_eq0] at c_6
    refine aw_iload_n d_L_takeBytes_9 rfl ?_
    exact aw_iret d_L_takeBytes_10 rfl rfl ⟨by rw [tB_some c_6]; rfl, 0, v5, w5, Nat.zero_le _, fun y => (by rw [tB_some c_6] at y; cases y), Or.inl rfl, by rw [g0]; exact M, D, fun _ _ => rfl, fun j hj => absurd hj (Nat.not_lt_zero j), by omega, frm.refl _⟩

set_option maxHeartbeats 4000000 in
theorem c_L_takeFields {tb : Nat → Nat} {h : AH} {b ro cap c : Nat} {G B : Nat → Nat} (hG : ∀ i, G i < 256) (hB_ : ∀ i, B i < 256) (hW : ∀ i, i < c → G i = B i) (hb : h b = some (.inr (1, [.ref ro, .int (nI c)]))) (hr : h ro = some (.inl (1, cap, .inl (bsf G)))) (hc : c ≤ cap) (hcap : cap ≤ 1048576) {im a0 a1 a2 a3 a4 v5 cc p0 u0 n iw wp cp : Nat} {f0 f1 f2 f3 f4 w5 : Nat → Int32} (s z K : Nat) (hs : s < 100000) (hz : z < 65536) (hK2 : K ≤ 200000) (h0 : 256 ≤ p0) (hp0 : p0 ≤ 500000) (hu0 : u0 ≤ p0) (hK1 : u0 + min z ((c - s) / 4) ≤ K) (hsc : s ≤ c) (M : iS h im a0 a1 a2 a3 a4 v5 cc p0 u0 n iw wp cp f0 f1 f2 f3 f4 w5) (D : iND a0 a1 a2 a3 a4 v5) : AM tb y_L_takeFields b_L_takeFields 7 (some .int) 3 69 [.ref b, .int (nI s), .int (nI z), .int (nI (nn B)), .ref im] h ((gN p0 K - p0) / 256) (2 * (gN p0 K - p0)) (fun v h' => v = some (.int (pI (plF B c s z 0))) ∧ ∃ m b5 g5, m ≤ z ∧ ((plF B c s z 0) = none → m = z) ∧ (m = 0 ∨ s + m ≤ c) ∧ iS h' im a0 a1 a2 a3 a4 b5 cc (gN p0 (u0 + m)) (u0 + m) n iw wp cp f0 f1 f2 f3 f4 g5 ∧ iND a0 a1 a2 a3 a4 b5 ∧ (∀ k, k < u0 → g5 k = w5 k) ∧ (∀ j, j < m → g5 (u0 + j) = nI (bw B (s + 4 * j))) ∧ u0 + m ≤ gN p0 (u0 + m) ∧ frm [im, a0, a1, a2, a3, a4, v5] [im, a0, a1, a2, a3, a4, b5] h h') := by
  have g0 : gN p0 (u0 + 0) = p0 := gN_le (by omega)
  refine am_of (ini := false) [some (.ref b), some (.int (nI s)), some (.int (nI z)), some (.int (nI (nn B))), some (.ref im), none, none] (by decide) (fun z => by cases z) (Nat.le_of_ble_eq_true rfl) rfl ?_
  refine aw_iconst (v := nI 0) d_L_takeFields_0 (by decide) ?_
  refine aw_istore (L' := [some (.ref b), some (.int (nI s)), some (.int (nI z)), some (.int (nI (nn B))), some (.ref im), some (.int (nI 0)), none]) d_L_takeFields_1 (by decide) rfl rfl ?_
  exact lp_L_takeFields (by decide) (by decide) hG hB_ hW hc hcap s z K hs hz hK2 h0 hp0 hu0 hK1 hsc (z + 1) z 0 h v5 p0 w5 _ _ hb hr M D (frm.refl _) (Nat.zero_le _) g0.symm (Nat.le_refl _) (Nat.le_refl _) (fun _ _ => rfl) (fun j hj => absurd hj (Nat.not_lt_zero j)) (by omega) (by omega) rfl (by omega)
