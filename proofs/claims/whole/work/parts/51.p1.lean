/-! ===== the class: the place of refusal, read ===== -/
theorem iE.nr {h : AH} {K im : Nat} {l : List Nat} (E : iE h K im l) {r : Nat} {fs : List Value} (hr : h r = some (.inr (0, fs))) : r ∉ l := by
  obtain ⟨a0, a1, a2, a3, a4, a5, cc, pc, us, n, iw, wp, cp, f0, f1, f2, f3, f4, f5, rfl, M, _⟩ := E
  obtain ⟨m0, m1, m2, m3, m4, m5, m6⟩ := M
  exact nm7 (av_apO hr m0 (by decide)) (av_apart' hr m1) (av_apart' hr m2) (av_apart' hr m3) (av_apart' hr m4) (av_apart' hr m5) (av_apart' hr m6)
theorem plS_208 {B : Nat → Nat} {c : Nat} (h : plS B c = none) : 208 ≤ c := by
  have z := (ffst_none h 49 (by omega) (by omega)).1
  omega

set_option maxHeartbeats 4000000 in
theorem c_R_placeOfRefusal {tb : Nat → Nat} {h : AH} {b ro cap c : Nat} {G B : Nat → Nat} (hG : ∀ i, G i < 256) (hB_ : ∀ i, B i < 256) (hW : ∀ i, i < c → G i = B i) (hb : h b = some (.inr (1, [.ref ro, .int (nI c)]))) (hr : h ro = some (.inl (1, cap, .inl (bsf G)))) (hc : c ≤ cap) (hcap : cap ≤ 1048576) {r x0 x1 x2 w p hd kp : Nat} (hrd : h r = some (.inr (0, [.ref b, .ref x0, .ref x1, .ref x2, .ref w, .ref p, .ref hd, .ref kp]))) {im K : Nat} {l : List Nat} (E : iE h K im l) (hK : K ≤ 200000) (h2c : 2 * c ≤ K) (hcm : c ≤ 65536) (hnl : ∀ x ∈ [b, ro], x ∉ l) : AM tb y_R_placeOfRefusal b_R_placeOfRefusal 3 (some .int) 6 132 [.ref r, .ref im] h (c / 32) (4 * c) (fun v h' => v = some (.int (pI (plc B c))) ∧ ∃ l', iE h' K im l' ∧ (plc B c = none → iA h' K im l' B) ∧ frm l l' h h') := by
  obtain ⟨a0, a1, a2, a3, a4, a5, cc, pc, us, n, iw, wp, cp, f0, f1, f2, f3, f4, f5, rfl, M, D, h64, h256, hcK, hpK⟩ := E
  have hnb := hnl b (by simp)
  have hnr := hnl ro (by simp)
  have hnd := iE.nr (h := h) (K := K) ⟨a0, a1, a2, a3, a4, a5, cc, pc, us, n, iw, wp, cp, f0, f1, f2, f3, f4, f5, rfl, M, D, h64, h256, hcK, hpK⟩ hrd
  refine am_of (ini := false) [some (.ref r), some (.ref im), none] (by decide) (fun z => by cases z) (Nat.le_of_ble_eq_true rfl) rfl ?_
  refine aw_aload_n d_R_placeOfRefusal_0 rfl ?_
  refine aw_get fl_R_10 d_R_placeOfRefusal_1 hrd rfl ?_
  refine aw_callSi (mc2 := c / 32) (ms2 := 4 * c) (r := pI (plH B c)) (As := [.ref b]) (rest := []) (c_L_headPlace hG hB_ hW hb hr hc hcap) cs_R_147 d_R_placeOfRefusal_4 rfl rfl (Nat.le_of_ble_eq_true rfl) (by decide) (by decide) (by omega) (by omega) ?_
  refine aw_istore_n (L' := [some (.ref r), some (.ref im), some (.int (pI (plH B c)))]) d_R_placeOfRefusal_7 (by decide) rfl rfl ?_
  refine aw_iload_n d_R_placeOfRefusal_8 rfl ?_
  refine aw_iconst (v := (-1)) d_R_placeOfRefusal_9 (by decide) ?_
  refine aw_icmp_ne (tgt := 22) d_R_placeOfRefusal_10 (by decide) (fun c_10 => ?_) (fun c_10 => ?_)
  · rw [pI_m1 (fun p hp => by have := plH_lt hp; omega)] at c_10
    refine aw_iload_n d_R_placeOfRefusal_22 rfl ?_
    refine aw_iconst (v := (-1)) d_R_placeOfRefusal_23 (by decide) ?_
    refine aw_icmp_ne (tgt := 36) d_R_placeOfRefusal_24 (by decide) (fun c_24 => ?_) (fun c_24 => absurd c_24 (by rw [pI_m1 (fun p hp => by have := plH_lt hp; omega)]; exact c_10))
    try rw [pI_m1 (by grind)] at c_24
    refine aw_iload_n d_R_placeOfRefusal_36 rfl ?_
    refine aw_iconst (v := (-1)) d_R_placeOfRefusal_37 (by decide) ?_
    refine aw_icmp_ne (tgt := 46) d_R_placeOfRefusal_38 (by decide) (fun c_38 => ?_) (fun c_38 => absurd c_38 (by rw [pI_m1 (fun p hp => by have := plH_lt hp; omega)]; exact c_10))
    try rw [pI_m1 (by grind)] at c_38
    refine aw_iload_n d_R_placeOfRefusal_46 rfl ?_
    refine aw_iconst (v := (-1)) d_R_placeOfRefusal_47 (by decide) ?_
    refine aw_icmp_ne (tgt := 56) d_R_placeOfRefusal_48 (by decide) (fun c_48 => ?_) (fun c_48 => absurd c_48 (by rw [pI_m1 (fun p hp => by have := plH_lt hp; omega)]; exact c_10))
    try rw [pI_m1 (by grind)] at c_48
    refine aw_iload_n d_R_placeOfRefusal_56 rfl ?_
    refine aw_iconst (v := (-1)) d_R_placeOfRefusal_57 (by decide) ?_
    refine aw_icmp_ne (tgt := 66) d_R_placeOfRefusal_58 (by decide) (fun c_58 => ?_) (fun c_58 => absurd c_58 (by rw [pI_m1 (fun p hp => by have := plH_lt hp; omega)]; exact c_10))
    try rw [pI_m1 (by grind)] at c_58
    refine aw_iload_n d_R_placeOfRefusal_66 rfl ?_
    refine aw_iconst (v := (-1)) d_R_placeOfRefusal_67 (by decide) ?_
    refine aw_icmp_ne (tgt := 76) d_R_placeOfRefusal_68 (by decide) (fun c_68 => ?_) (fun c_68 => absurd c_68 (by rw [pI_m1 (fun p hp => by have := plH_lt hp; omega)]; exact c_10))
    try rw [pI_m1 (by grind)] at c_68
    refine aw_iload_n d_R_placeOfRefusal_76 rfl ?_
    exact aw_iret d_R_placeOfRefusal_77 rfl rfl ⟨by rw [show plc B c = plH B c by unfold plc; skip; exact orE_l c_10], _, ⟨a0, a1, a2, a3, a4, a5, cc, pc, us, n, iw, wp, cp, f0, f1, f2, f3, f4, f5, rfl, M, D, h64, h256, hcK, hpK⟩, fun z => absurd z (by rw [show plc B c = plH B c by unfold plc; skip; exact orE_l c_10]; exact c_10), frm.refl _⟩
  · rw [pI_m1 (fun p hp => by have := plH_lt hp; omega)] at c_10
    have h8 : 8 ≤ c := by have := ((plH_none c_10).1 7 (by decide)).1; omega
    have h4 := ((plH_none c_10).1 4 (by decide)).2.2.2.2.1 rfl
    have h5 := ((plH_none c_10).1 5 (by decide)).2.2.2.2.2 rfl
    refine aw_aload_n d_R_placeOfRefusal_13 rfl ?_
    refine aw_get fl_R_10 d_R_placeOfRefusal_14 hrd rfl ?_
    refine aw_aload_n d_R_placeOfRefusal_17 rfl ?_
    refine aw_callS (mc2 := c / 32) (ms2 := 4 * c) (As := [.ref b, .ref im]) (rest := []) (c_L_takeSpecials hG hB_ hW hb hr hc hcap M D h8) cs_R_153 d_R_placeOfRefusal_18 rfl rfl (Nat.le_of_ble_eq_true rfl) (by decide) (by decide) (by omega) (by omega) (fun v_18 k_18c q_18 => ?_)
    obtain ⟨y1, f, M1, hf, T1⟩ := q_18
    refine aw_st (st' := .int (pI (plS B c)) :: []) (by rw [y1]; rfl) ?_
    have hb1 := T1.at hnb hb
    have hr1 := T1.at hnr hr
    have hrd1 := T1.at hnd hrd
    refine aw_istore_n (L' := [some (.ref r), some (.ref im), some (.int (pI (plS B c)))]) d_R_placeOfRefusal_21 (by decide) rfl rfl ?_
    refine aw_iload_n d_R_placeOfRefusal_22 rfl ?_
    refine aw_iconst (v := (-1)) d_R_placeOfRefusal_23 (by decide) ?_
    refine aw_icmp_ne (tgt := 36) d_R_placeOfRefusal_24 (by decide) (fun c_24 => ?_) (fun c_24 => ?_)
    · rw [pI_m1 (fun p hp => plV_lt hB_ hcm (by rw [hp]; rfl))] at c_24
      refine aw_iload_n d_R_placeOfRefusal_36 rfl ?_
      refine aw_iconst (v := (-1)) d_R_placeOfRefusal_37 (by decide) ?_
      refine aw_icmp_ne (tgt := 46) d_R_placeOfRefusal_38 (by decide) (fun c_38 => ?_) (fun c_38 => absurd c_38 (by rw [pI_m1 (fun p hp => plV_lt hB_ hcm (by rw [hp]; rfl))]; exact c_24))
      try rw [pI_m1 (by grind)] at c_38
      refine aw_iload_n d_R_placeOfRefusal_46 rfl ?_
      refine aw_iconst (v := (-1)) d_R_placeOfRefusal_47 (by decide) ?_
      refine aw_icmp_ne (tgt := 56) d_R_placeOfRefusal_48 (by decide) (fun c_48 => ?_) (fun c_48 => absurd c_48 (by rw [pI_m1 (fun p hp => plV_lt hB_ hcm (by rw [hp]; rfl))]; exact c_24))
      try rw [pI_m1 (by grind)] at c_48
      refine aw_iload_n d_R_placeOfRefusal_56 rfl ?_
      refine aw_iconst (v := (-1)) d_R_placeOfRefusal_57 (by decide) ?_
      refine aw_icmp_ne (tgt := 66) d_R_placeOfRefusal_58 (by decide) (fun c_58 => ?_) (fun c_58 => absurd c_58 (by rw [pI_m1 (fun p hp => plV_lt hB_ hcm (by rw [hp]; rfl))]; exact c_24))
      try rw [pI_m1 (by grind)] at c_58
      refine aw_iload_n d_R_placeOfRefusal_66 rfl ?_
      refine aw_iconst (v := (-1)) d_R_placeOfRefusal_67 (by decide) ?_
      refine aw_icmp_ne (tgt := 76) d_R_placeOfRefusal_68 (by decide) (fun c_68 => ?_) (fun c_68 => absurd c_68 (by rw [pI_m1 (fun p hp => plV_lt hB_ hcm (by rw [hp]; rfl))]; exact c_24))
      try rw [pI_m1 (by grind)] at c_68
      refine aw_iload_n d_R_placeOfRefusal_76 rfl ?_
      exact aw_iret d_R_placeOfRefusal_77 rfl rfl ⟨by rw [show plc B c = plS B c by unfold plc; rw [orE_r c_10]; exact orE_l c_24], _, ⟨a0, a1, a2, a3, a4, a5, cc, pc, 0, 0, 0, B 4, B 5, f, f1, f2, f3, f4, f5, rfl, M1, D, h64, h256, hcK, hpK⟩, fun z => absurd z (by rw [show plc B c = plS B c by unfold plc; rw [orE_r c_10]; exact orE_l c_24]; exact c_24), T1⟩
    · rw [pI_m1 (fun p hp => plV_lt hB_ hcm (by rw [hp]; rfl))] at c_24
      have h208 := plS_208 c_24
      refine aw_aload_n d_R_placeOfRefusal_27 rfl ?_
      refine aw_get fl_R_10 d_R_placeOfRefusal_28 hrd1 rfl ?_
      refine aw_aload_n d_R_placeOfRefusal_31 rfl ?_
      refine aw_callS (mc2 := 0) (ms2 := 0) (As := [.ref b, .ref im]) (rest := []) (c_L_takeObjects hG hB_ hW hb1 hr1 hc hcap hcm (by omega) (by omega) h256 (us := 0) (iw := 0) M1 D h64 h208) cs_R_157 d_R_placeOfRefusal_32 rfl rfl (Nat.le_of_ble_eq_true rfl) (by decide) (by decide) (by omega) (by omega) (fun v_32 k_32c q_32 => ?_)
      obtain ⟨y2, b1, b2, b3, b4, b5, cc', pc', us', n', w', g1, g2, g3, g4, g5, M2, D2, q64, qc, qp, qcc, qpc, hok, T2⟩ := q_32
      refine aw_st (st' := .int (pI (plO B c (nn B) 208)) :: []) (by rw [y2]; rfl) ?_
      have hcK2 : cc' ≤ K := by rcases qcc with z | z <;> omega
      have hpK2 : pc' ≤ K := by rcases qpc with z | z <;> omega
      clear qcc qpc
      refine aw_istore_n (L' := [some (.ref r), some (.ref im), some (.int (pI (plO B c (nn B) 208)))]) d_R_placeOfRefusal_35 (by decide) rfl rfl ?_
      refine aw_iload_n d_R_placeOfRefusal_36 rfl ?_
      refine aw_iconst (v := (-1)) d_R_placeOfRefusal_37 (by decide) ?_
      refine aw_icmp_ne (tgt := 46) d_R_placeOfRefusal_38 (by decide) (fun c_38 => ?_) (fun c_38 => ?_)
      · rw [pI_m1 (fun p hp => plV_lt hB_ hcm (by rw [orE_r c_24]; exact hp))] at c_38
        refine aw_iload_n d_R_placeOfRefusal_46 rfl ?_
        refine aw_iconst (v := (-1)) d_R_placeOfRefusal_47 (by decide) ?_
        refine aw_icmp_ne (tgt := 56) d_R_placeOfRefusal_48 (by decide) (fun c_48 => ?_) (fun c_48 => absurd c_48 (by rw [pI_m1 (fun p hp => plV_lt hB_ hcm (by rw [orE_r c_24]; exact hp))]; exact c_38))
        try rw [pI_m1 (by grind)] at c_48
        refine aw_iload_n d_R_placeOfRefusal_56 rfl ?_
        refine aw_iconst (v := (-1)) d_R_placeOfRefusal_57 (by decide) ?_
        refine aw_icmp_ne (tgt := 66) d_R_placeOfRefusal_58 (by decide) (fun c_58 => ?_) (fun c_58 => absurd c_58 (by rw [pI_m1 (fun p hp => plV_lt hB_ hcm (by rw [orE_r c_24]; exact hp))]; exact c_38))
        try rw [pI_m1 (by grind)] at c_58
        refine aw_iload_n d_R_placeOfRefusal_66 rfl ?_
        refine aw_iconst (v := (-1)) d_R_placeOfRefusal_67 (by decide) ?_
        refine aw_icmp_ne (tgt := 76) d_R_placeOfRefusal_68 (by decide) (fun c_68 => ?_) (fun c_68 => absurd c_68 (by rw [pI_m1 (fun p hp => plV_lt hB_ hcm (by rw [orE_r c_24]; exact hp))]; exact c_38))
        try rw [pI_m1 (by grind)] at c_68
        refine aw_iload_n d_R_placeOfRefusal_76 rfl ?_
        exact aw_iret d_R_placeOfRefusal_77 rfl rfl ⟨by rw [show plc B c = plO B c (nn B) 208 by unfold plc; rw [orE_r c_10, orE_r c_24]; exact orE_l c_38], _, ⟨a0, b1, b2, b3, b4, b5, cc', pc', us', _, _, B 4, B 5, f, g1, g2, g3, g4, g5, rfl, M2, D2, q64, (by omega), hcK2, hpK2⟩, fun z => absurd z (by rw [show plc B c = plO B c (nn B) 208 by unfold plc; rw [orE_r c_10, orE_r c_24]; exact orE_l c_38]; exact c_38), T1.tr T2⟩
      · rw [pI_m1 (fun p hp => plV_lt hB_ hcm (by rw [orE_r c_24]; exact hp))] at c_38
        obtain ⟨en, ew, hlt, hps, hIQ⟩ := hok c_38
        subst en
        subst ew
        have V := hIQ.iv rfl hlt hps (hf c_24)
        have LD := (laid_of hcm c_10 c_24 c_38).1
        have L := LD.lx
        refine aw_aload_n d_R_placeOfRefusal_41 rfl ?_
        refine aw_callSi (mc2 := 0) (ms2 := 0) (r := pI (plR B)) (As := [.ref im]) (rest := []) (c_F_roomPlace M2 V L hB_ (by omega) (by omega) h4 h5 rfl rfl rfl) cs_R_160 d_R_placeOfRefusal_42 rfl rfl (Nat.le_of_ble_eq_true rfl) (by decide) (by decide) (by omega) (by omega) ?_
        refine aw_istore_n (L' := [some (.ref r), some (.ref im), some (.int (pI (plR B)))]) d_R_placeOfRefusal_45 (by decide) rfl rfl ?_
        refine aw_iload_n d_R_placeOfRefusal_46 rfl ?_
        refine aw_iconst (v := (-1)) d_R_placeOfRefusal_47 (by decide) ?_
        refine aw_icmp_ne (tgt := 56) d_R_placeOfRefusal_48 (by decide) (fun c_48 => ?_) (fun c_48 => ?_)
        · rw [pI_m1 (fun p hp => plR_lt hp)] at c_48
          refine aw_iload_n d_R_placeOfRefusal_56 rfl ?_
          refine aw_iconst (v := (-1)) d_R_placeOfRefusal_57 (by decide) ?_
          refine aw_icmp_ne (tgt := 66) d_R_placeOfRefusal_58 (by decide) (fun c_58 => ?_) (fun c_58 => absurd c_58 (by rw [pI_m1 (fun p hp => plR_lt hp)]; exact c_48))
          try rw [pI_m1 (by grind)] at c_58
          refine aw_iload_n d_R_placeOfRefusal_66 rfl ?_
          refine aw_iconst (v := (-1)) d_R_placeOfRefusal_67 (by decide) ?_
          refine aw_icmp_ne (tgt := 76) d_R_placeOfRefusal_68 (by decide) (fun c_68 => ?_) (fun c_68 => absurd c_68 (by rw [pI_m1 (fun p hp => plR_lt hp)]; exact c_48))
          try rw [pI_m1 (by grind)] at c_68
          refine aw_iload_n d_R_placeOfRefusal_76 rfl ?_
          exact aw_iret d_R_placeOfRefusal_77 rfl rfl ⟨by rw [show plc B c = plR B by unfold plc; rw [orE_r c_10, orE_r c_24, orE_r c_38]; exact orE_l c_48], _, ⟨a0, b1, b2, b3, b4, b5, cc', pc', us', _, _, B 4, B 5, f, g1, g2, g3, g4, g5, rfl, M2, D2, q64, (by omega), hcK2, hpK2⟩, fun z => absurd z (by rw [show plc B c = plR B by unfold plc; rw [orE_r c_10, orE_r c_24, orE_r c_38]; exact orE_l c_48]; exact c_48), T1.tr T2⟩
        · rw [pI_m1 (fun p hp => plR_lt hp)] at c_48
          refine aw_aload_n d_R_placeOfRefusal_51 rfl ?_
          refine aw_callSi (mc2 := 0) (ms2 := 0) (r := pI (plP B)) (As := [.ref im]) (rest := []) (c_F_specialsPlace M2 V L hB_ (by omega) (by omega)) cs_R_165 d_R_placeOfRefusal_52 rfl rfl (Nat.le_of_ble_eq_true rfl) (by decide) (by decide) (by omega) (by omega) ?_
          refine aw_istore_n (L' := [some (.ref r), some (.ref im), some (.int (pI (plP B)))]) d_R_placeOfRefusal_55 (by decide) rfl rfl ?_
          refine aw_iload_n d_R_placeOfRefusal_56 rfl ?_
          refine aw_iconst (v := (-1)) d_R_placeOfRefusal_57 (by decide) ?_
          refine aw_icmp_ne (tgt := 66) d_R_placeOfRefusal_58 (by decide) (fun c_58 => ?_) (fun c_58 => ?_)
          · rw [pI_m1 (fun p hp => plP_lt hp)] at c_58
            refine aw_iload_n d_R_placeOfRefusal_66 rfl ?_
            refine aw_iconst (v := (-1)) d_R_placeOfRefusal_67 (by decide) ?_
            refine aw_icmp_ne (tgt := 76) d_R_placeOfRefusal_68 (by decide) (fun c_68 => ?_) (fun c_68 => absurd c_68 (by rw [pI_m1 (fun p hp => plP_lt hp)]; exact c_58))
            try rw [pI_m1 (by grind)] at c_68
            refine aw_iload_n d_R_placeOfRefusal_76 rfl ?_
            exact aw_iret d_R_placeOfRefusal_77 rfl rfl ⟨by rw [show plc B c = plP B by unfold plc; rw [orE_r c_10, orE_r c_24, orE_r c_38, orE_r c_48]; exact orE_l c_58], _, ⟨a0, b1, b2, b3, b4, b5, cc', pc', us', _, _, B 4, B 5, f, g1, g2, g3, g4, g5, rfl, M2, D2, q64, (by omega), hcK2, hpK2⟩, fun z => absurd z (by rw [show plc B c = plP B by unfold plc; rw [orE_r c_10, orE_r c_24, orE_r c_38, orE_r c_48]; exact orE_l c_58]; exact c_58), T1.tr T2⟩
          · rw [pI_m1 (fun p hp => plP_lt hp)] at c_58
            refine aw_aload_n d_R_placeOfRefusal_61 rfl ?_
            refine aw_callSi (mc2 := 0) (ms2 := 0) (r := pI (plB B)) (As := [.ref im]) (rest := []) (c_F_objectsPlace M2 V L hB_ (by omega) (by omega) LD) cs_R_168 d_R_placeOfRefusal_62 rfl rfl (Nat.le_of_ble_eq_true rfl) (by decide) (by decide) (by omega) (by omega) ?_
            refine aw_istore_n (L' := [some (.ref r), some (.ref im), some (.int (pI (plB B)))]) d_R_placeOfRefusal_65 (by decide) rfl rfl ?_
            refine aw_iload_n d_R_placeOfRefusal_66 rfl ?_
            refine aw_iconst (v := (-1)) d_R_placeOfRefusal_67 (by decide) ?_
            refine aw_icmp_ne (tgt := 76) d_R_placeOfRefusal_68 (by decide) (fun c_68 => ?_) (fun c_68 => ?_)
            · rw [pI_m1 (fun p hp => plB_lt LD hp)] at c_68
              refine aw_iload_n d_R_placeOfRefusal_76 rfl ?_
              exact aw_iret d_R_placeOfRefusal_77 rfl rfl ⟨by rw [show plc B c = plB B by unfold plc; rw [orE_r c_10, orE_r c_24, orE_r c_38, orE_r c_48, orE_r c_58]; exact orE_l c_68], _, ⟨a0, b1, b2, b3, b4, b5, cc', pc', us', _, _, B 4, B 5, f, g1, g2, g3, g4, g5, rfl, M2, D2, q64, (by omega), hcK2, hpK2⟩, fun z => absurd z (by rw [show plc B c = plB B by unfold plc; rw [orE_r c_10, orE_r c_24, orE_r c_38, orE_r c_48, orE_r c_58]; exact orE_l c_68]; exact c_68), T1.tr T2⟩
            · rw [pI_m1 (fun p hp => plB_lt LD hp)] at c_68
              refine aw_aload_n d_R_placeOfRefusal_71 rfl ?_
              refine aw_callSi (mc2 := 0) (ms2 := 0) (r := pI (plQ B)) (As := [.ref im]) (rest := []) (c_F_schedulerPlace M2 V L hB_ (by omega) (by omega) (plP_14 c_58)) cs_R_171 d_R_placeOfRefusal_72 rfl rfl (Nat.le_of_ble_eq_true rfl) (by decide) (by decide) (by omega) (by omega) ?_
              refine aw_istore_n (L' := [some (.ref r), some (.ref im), some (.int (pI (plQ B)))]) d_R_placeOfRefusal_75 (by decide) rfl rfl ?_
              refine aw_iload_n d_R_placeOfRefusal_76 rfl ?_
              exact aw_iret d_R_placeOfRefusal_77 rfl rfl ⟨by rw [show plc B c = plQ B by unfold plc; rw [orE_r c_10, orE_r c_24, orE_r c_38, orE_r c_48, orE_r c_58, orE_r c_68]], _, ⟨a0, b1, b2, b3, b4, b5, cc', pc', us', _, _, B 4, B 5, f, g1, g2, g3, g4, g5, rfl, M2, D2, q64, (by omega), hcK2, hpK2⟩, fun _ => ⟨a0, b1, b2, b3, b4, b5, cc', pc', us', f, g1, g2, g3, g4, g5, rfl, M2, D2, q64, (by omega), hcK2, hpK2, V, L⟩, T1.tr T2⟩

set_option maxHeartbeats 4000000 in
theorem c_R_read {tb : Nat → Nat} {h : AH} {b ro cap c : Nat} {G B : Nat → Nat} (hG : ∀ i, G i < 256) (hB_ : ∀ i, B i < 256) (hW : ∀ i, i < c → G i = B i) (hb : h b = some (.inr (1, [.ref ro, .int (nI c)]))) (hr : h ro = some (.inl (1, cap, .inl (bsf G)))) (hc : c ≤ cap) (hcap : cap ≤ 1048576) {r w p : Nat} {X : Nat → Nat} {jh jk : Nat} (hrd : h r = some (.inr (0, [.ref b, .ref (X 0), .ref (X 1), .ref (X 2), .ref w, .ref p, .ref (X jh), .ref (X jk)]))) (x01 : ¬ X 0 = X 1) (x02 : ¬ X 0 = X 2) (x12 : ¬ X 1 = X 2) (hj : jh < 3) (hk : jk < 3) {K : Nat} {Z : Nat → List Nat} (HI : ∀ j, j < 3 → iE h K (X j) (Z j)) (HN : ∀ j, j < 3 → ∀ x ∈ [b, ro], x ∉ Z j) (hK : K ≤ 200000) (h2c : 2 * c ≤ K) (hcm : c ≤ 65536) : AM tb y_R_read b_R_read 3 (some .int) 7 154 [.ref r] h (c / 32) (4 * c) (fun v h' => v = some (.int (pI (plc B c))) ∧ ∃ j l' h1, j < 3 ∧ ¬ X j = X jh ∧ ¬ X j = X jk ∧ iE h1 K (X j) l' ∧ (plc B c = none → iA h1 K (X j) l' B) ∧ frm (Z j) l' h h1 ∧ (plc B c = none → h' = av_up (av_up h1 b (.inr (1, [.ref ro, .int (nI 0)]))) r (.inr (0, [.ref b, .ref (X 0), .ref (X 1), .ref (X 2), .ref w, .ref p, .ref (X j), .ref (X jk)]))) ∧ (plc B c ≠ none → h' = av_up h1 b (.inr (1, [.ref ro, .int (nI 0)])))) := by
  refine am_of (ini := false) [some (.ref r), none, none] (by decide) (fun z => by cases z) (Nat.le_of_ble_eq_true rfl) rfl ?_
  refine aw_aload_n d_R_read_0 rfl ?_
  refine aw_callV (mc2 := c / 32) (ms2 := 4 * c) (As := []) (rest := []) (c_R_spareImage hrd x01 x02 x12 hj hk) cv_R_78 d_R_read_1 hrd rfl rfl rfl (Nat.le_of_ble_eq_true rfl) (by decide) (by decide) (by omega) (by omega) (fun v_1 k_1c q_1 => ?_)
  obtain ⟨y1, j, hj3, y2, n1, n2⟩ := q_1
  refine aw_st (st' := .ref (X j) :: []) (by rw [y2]; rfl) ?_
  refine aw_heap (h' := h) y1 ?_
  refine aw_astore_n (L' := [some (.ref r), some (.ref (X j)), none]) d_R_read_4 (by decide) rfl rfl ?_
  refine aw_aload_n d_R_read_5 rfl ?_
  refine aw_aload_n d_R_read_6 rfl ?_
  refine aw_callV (mc2 := 0) (ms2 := 0) (As := [.ref (X j)]) (rest := []) (c_R_placeOfRefusal hG hB_ hW hb hr hc hcap hrd (HI j hj3) hK h2c hcm (HN j hj3)) cv_R_82 d_R_read_7 hrd rfl rfl rfl (Nat.le_of_ble_eq_true rfl) (by decide) (by decide) (by omega) (by omega) (fun v_7 k_7c q_7 => ?_)
  obtain ⟨y3, l', E1, hA, T⟩ := q_7
  refine aw_st (st' := .int (pI (plc B c)) :: []) (by rw [y3]; rfl) ?_
  have hb1 := T.at (HN j hj3 b (by simp)) hb
  have hrd1 := T.at ((HI j hj3).nr hrd) hrd
  refine aw_istore_n (L' := [some (.ref r), some (.ref (X j)), some (.int (pI (plc B c)))]) d_R_read_10 (by decide) rfl rfl ?_
  refine aw_aload_n d_R_read_11 rfl ?_
  refine aw_get fl_R_10 d_R_read_12 hrd1 rfl ?_
  refine aw_iconst (v := nI 0) d_R_read_15 (by decide) ?_
  refine aw_put (fs' := [.ref ro, .int (nI 0)]) (pt_R_49 _) d_R_read_16 hb1 rfl rfl (by simp) rfl ?_
  obtain ⟨k_1, e_k_1⟩ : ∃ z, z = av_up k_7c b (.inr (1, [.ref ro, .int (nI 0)])) := ⟨_, rfl⟩
  refine aw_heap (h' := k_1) e_k_1.symm ?_
  have g1_r : k_1 r = some (.inr (0, [.ref b, .ref (X 0), .ref (X 1), .ref (X 2), .ref w, .ref p, .ref (X jh), .ref (X jk)])) := by rw [e_k_1, av_up_ne (av_apO hrd1 hb1 (by decide))]; exact hrd1
  have g1_b : k_1 b = some (.inr (1, [.ref ro, .int (nI 0)])) := by rw [e_k_1]; exact av_up_self _ _ _
  refine aw_iload_n d_R_read_19 rfl ?_
  refine aw_iconst (v := (-1)) d_R_read_20 (by decide) ?_
  refine aw_icmp_ne (tgt := 29) d_R_read_21 (by decide) (fun c_21 => ?_) (fun c_21 => ?_)
  · rw [pI_m1 (fun p hp => plc_lt hB_ hcm hp)] at c_21
    refine aw_iload_n d_R_read_29 rfl ?_
    exact aw_iret d_R_read_30 rfl rfl ⟨rfl, j, l', _, hj3, n1, n2, E1, hA, T, fun z => absurd z c_21, fun _ => by rw [e_k_1]⟩
  · rw [pI_m1 (fun p hp => plc_lt hB_ hcm hp)] at c_21
    refine aw_aload_n d_R_read_24 rfl ?_
    refine aw_aload_n d_R_read_25 rfl ?_
    refine aw_put (fs' := [.ref b, .ref (X 0), .ref (X 1), .ref (X 2), .ref w, .ref p, .ref (X j), .ref (X jk)]) (pt_R_43 _) d_R_read_26 g1_r rfl rfl (by simp) rfl ?_
    obtain ⟨k_2, e_k_2⟩ : ∃ z, z = av_up k_1 r (.inr (0, [.ref b, .ref (X 0), .ref (X 1), .ref (X 2), .ref w, .ref p, .ref (X j), .ref (X jk)])) := ⟨_, rfl⟩
    refine aw_heap (h' := k_2) e_k_2.symm ?_
    have g2_b : k_2 b = some (.inr (1, [.ref ro, .int (nI 0)])) := by rw [e_k_2, av_up_ne (av_apO g1_b g1_r (by decide))]; exact g1_b
    have g2_r : k_2 r = some (.inr (0, [.ref b, .ref (X 0), .ref (X 1), .ref (X 2), .ref w, .ref p, .ref (X j), .ref (X jk)])) := by rw [e_k_2]; exact av_up_self _ _ _
    refine aw_iload_n d_R_read_29 rfl ?_
    exact aw_iret d_R_read_30 rfl rfl ⟨rfl, j, l', _, hj3, n1, n2, E1, hA, T, fun _ => by rw [e_k_2, e_k_1], fun z => absurd c_21 z⟩
