set_option maxHeartbeats 4000000 in
theorem c_M_isValue {tb : Nat → Nat} {h : AH} {m ai am ak as_ aks ar an ab cn ln kl mn : Nat} {cd : Int32} {B : Nat → Nat} (hB_ : ∀ i, B i < 256) (hm : h m = some (mO cd ai cn am ln ak kl as_ aks ar an ab mn)) (hin : h ai = some (.inl (1, 65536, .inl (bsf B)))) (hcn : cn ≤ 65536) (j : Nat) (hj : j + 4 < 2147483648) : AM tb y_M_isValue b_M_isValue 3 (some .boolean) 2 41 [.ref m, .int (nI j)] h 0 0 (av_Pi (bP (vok B cn j)) h) := by
  have hnl : nn B < 65536 := bh_lt hB_ 6
  refine am_of (ini := false) [some (.ref m), some (.int (nI j)), none] (by decide) (fun z => by cases z) (Nat.le_of_ble_eq_true rfl) rfl ?_
  refine aw_iload_n d_M_isValue_0 rfl ?_
  refine aw_iconst (v := nI 4) d_M_isValue_1 (by decide) ?_
  refine aw_iadd (v := nI (j + 4)) d_M_isValue_2 (nI_add _ _) ?_
  refine aw_aload_n d_M_isValue_3 rfl ?_
  refine aw_get fl_M_40 d_M_isValue_4 hm rfl ?_
  refine aw_icmp_le (tgt := 12) d_M_isValue_7 (by decide) (fun c_7 => ?_) (fun c_7 => ?_)
  · rw [nI_leI (by omega) (by omega)] at c_7
    refine aw_aload_n d_M_isValue_12 rfl ?_
    refine aw_get fl_M_8 d_M_isValue_13 hm rfl ?_
    refine aw_iload_n d_M_isValue_16 rfl ?_
    refine aw_callSi (mc2 := 0) (ms2 := 0) (r := nI (bw B j)) (As := [.ref ai, .int (nI j)]) (rest := []) (c_M_word hB_ hin (by omega) j (by omega)) cs_M_47 d_M_isValue_17 rfl rfl (Nat.le_of_ble_eq_true rfl) (by decide) (by decide) (by omega) (by omega) ?_
    have b_17 := bw_lt hB_ j
    refine aw_istore_n (L' := [some (.ref m), some (.int (nI j)), some (.int (nI (bw B j)))]) d_M_isValue_20 (by decide) rfl rfl ?_
    refine aw_iload_n d_M_isValue_21 rfl ?_
    refine aw_if_eq (tgt := 49) d_M_isValue_22 (by decide) (fun c_22 => ?_) (fun c_22 => ?_)
    · rw [w_eq0 (by omega)] at c_22
      refine aw_iconst (v := nI 1) d_M_isValue_49 (by decide) ?_
      refine aw_goto (tgt := 54) d_M_isValue_50 (by decide) ?_
      exact aw_iret d_M_isValue_54 rfl nar1 (rt_t (by exact ⟨by omega, by unfold vl; omega⟩))
    · rw [w_eq0 (by omega)] at c_22
      refine aw_iload_n d_M_isValue_25 rfl ?_
      refine aw_callSi (mc2 := 0) (ms2 := 0) (r := bP ((bw B j) % 2 = 1)) (As := [.int (nI (bw B j))]) (rest := []) (c_M_isNumber (bw B j)) cs_M_76 d_M_isValue_26 rfl rfl (Nat.le_of_ble_eq_true rfl) (by decide) (by decide) (by omega) (by omega) ?_
      refine aw_if_ne (tgt := 49) d_M_isValue_29 (by decide) (fun c_29 => ?_) (fun c_29 => ?_)
      · rw [bP_eq0, Classical.not_not] at c_29
        refine aw_iconst (v := nI 1) d_M_isValue_49 (by decide) ?_
        refine aw_goto (tgt := 54) d_M_isValue_50 (by decide) ?_
        exact aw_iret d_M_isValue_54 rfl nar1 (rt_t (by exact ⟨by omega, by unfold vl; omega⟩))
      · rw [bP_eq0] at c_29
        refine aw_iload_n d_M_isValue_32 rfl ?_
        refine aw_if_le (tgt := 53) d_M_isValue_33 (by decide) (fun c_33 => ?_) (fun c_33 => ?_)
        · rw [w_le (by omega)] at c_33
          refine aw_iconst (v := nI 0) d_M_isValue_53 (by decide) ?_
          exact aw_iret d_M_isValue_54 rfl nar0 (rt_f (by unfold vok vl; omega))
        · rw [w_le (by omega)] at c_33
          refine aw_iload_n d_M_isValue_36 rfl ?_
          refine aw_iconst (v := nI 2) d_M_isValue_37 (by decide) ?_
          refine aw_idiv (v := nI ((bw B j) / 2)) d_M_isValue_38 (by decide) (pk_div (by omega) (by decide) (by decide)) ?_
          refine aw_aload_n d_M_isValue_39 rfl ?_
          refine aw_get fl_M_8 d_M_isValue_40 hm rfl ?_
          refine aw_callSi (mc2 := 0) (ms2 := 0) (r := nI (nn B)) (As := [.ref ai]) (rest := [.int (nI ((bw B j) / 2))]) (c_M_objects_aB hB_ hin (by omega) (by omega)) cs_M_101 d_M_isValue_43 rfl rfl (Nat.le_of_ble_eq_true rfl) (by decide) (by decide) (by omega) (by omega) ?_
          have b_43 : nn B < 65536 := bh_lt hB_ 6
          refine aw_icmp_gt (tgt := 53) d_M_isValue_46 (by decide) (fun c_46 => ?_) (fun c_46 => ?_)
          · rw [nI_ltI (by omega) (by omega)] at c_46
            refine aw_iconst (v := nI 0) d_M_isValue_53 (by decide) ?_
            exact aw_iret d_M_isValue_54 rfl nar0 (rt_f (by unfold vok vl; omega))
          · rw [nI_ltI (by omega) (by omega)] at c_46
            refine aw_iconst (v := nI 1) d_M_isValue_49 (by decide) ?_
            refine aw_goto (tgt := 54) d_M_isValue_50 (by decide) ?_
            exact aw_iret d_M_isValue_54 rfl nar1 (rt_t (by exact ⟨by omega, by unfold vl; omega⟩))
  · rw [nI_leI (by omega) (by omega)] at c_7
    refine aw_iconst (v := nI 0) d_M_isValue_10 (by decide) ?_
    exact aw_iret d_M_isValue_11 rfl nar0 (rt_f (by unfold vok vl; omega))

set_option maxHeartbeats 4000000 in
theorem lp_M_stepHead {tb : Nat → Nat} {h : AH} {fr lo : Nat} {mc ms : Nat} (hfr : 2 ≤ fr) (hlo : 41 ≤ lo) {m ai am ak as_ aks ar an ab cn ln kl mn : Nat} {cd : Int32} {B : Nat → Nat} (hB_ : ∀ i, B i < 256) (hm : h m = some (mO cd ai cn am ln ak kl as_ aks ar an ab mn)) (hin : h ai = some (.inl (1, 65536, .inl (bsf B)))) (hcn : cn ≤ 65536) : ∀ (d : Nat) (r i : Nat) (x2 x3 : Option Value), r + i = 8 → ffst (fun i => i < cn ∧ hdr i (B i)) (fun i => i) r i = ffst (fun i => i < cn ∧ hdr i (B i)) (fun i => i) 8 0 → r < d → AW tb "ImageReaderModel" b_M_stepHead 4 (some .int) false none fr lo (av_Pi (pI (plH B cn)) h) 2 [some (.ref m), some (.int (nI i)), none, none] [] h mc ms := by
  intro d
  induction d with
  | zero => intro r i x2 x3 hri hp hd; omega
  | succ d ih =>
    intro r i x2 x3 hri hp hd
    refine aw_iload_n d_M_stepHead_2 rfl ?_
    refine aw_bipush (v := nI 8) d_M_stepHead_3 (by decide) ?_
    refine aw_icmp_ge (tgt := 147) d_M_stepHead_5 (by decide) (fun c_5 => ?_) (fun c_5 => ?_)
    · rw [nI_leI (by omega) (by omega)] at c_5
      have hp0 : ffst (fun i => i < cn ∧ hdr i (B i)) (fun i => i) 8 0 = none := by rw [← hp, show r = 0 by omega]; rfl
      refine aw_aload_n d_M_stepHead_147 rfl ?_
      refine aw_get fl_M_8 d_M_stepHead_148 hm rfl ?_
      refine aw_callSi (mc2 := mc) (ms2 := ms) (r := nI (nn B)) (As := [.ref ai]) (rest := []) (c_M_objects_aB hB_ hin (by omega) (by omega)) cs_M_101 d_M_stepHead_151 rfl rfl (Nat.le_of_ble_eq_true rfl) (by omega) (by omega) (by omega) (by omega) ?_
      have b_151 : nn B < 65536 := bh_lt hB_ 6
      refine aw_iconst (v := nI 1) d_M_stepHead_154 (by decide) ?_
      refine aw_icmp_lt (tgt := 171) d_M_stepHead_155 (by decide) (fun c_155 => ?_) (fun c_155 => ?_)
      · rw [nI_ltI (by omega) (by omega)] at c_155
        refine aw_bipush (v := nI 6) d_M_stepHead_171 (by decide) ?_
        refine aw_goto (tgt := 177) d_M_stepHead_173 (by decide) ?_
        exact aw_iret d_M_stepHead_177 rfl rfl (rt_i (by unfold plH; rw [hp0]; first | (show _ = pI (if _ then _ else _); rw [if_pos (by omega)]; rfl) | (show _ = pI (if _ then _ else _); rw [if_neg (by omega)]; rfl)))
      · rw [nI_ltI (by omega) (by omega)] at c_155
        refine aw_aload_n d_M_stepHead_158 rfl ?_
        refine aw_get fl_M_8 d_M_stepHead_159 hm rfl ?_
        refine aw_callSi (mc2 := mc) (ms2 := ms) (r := nI (nn B)) (As := [.ref ai]) (rest := []) (c_M_objects_aB hB_ hin (by omega) (by omega)) cs_M_101 d_M_stepHead_162 rfl rfl (Nat.le_of_ble_eq_true rfl) (by omega) (by omega) (by omega) (by omega) ?_
        have b_162 : nn B < 65536 := bh_lt hB_ 6
        refine aw_sipush (v := nI 8191) d_M_stepHead_165 (by decide) ?_
        refine aw_icmp_le (tgt := 176) d_M_stepHead_168 (by decide) (fun c_168 => ?_) (fun c_168 => ?_)
        · rw [nI_leI (by omega) (by omega)] at c_168
          refine aw_iconst (v := (-1)) d_M_stepHead_176 (by decide) ?_
          exact aw_iret d_M_stepHead_177 rfl rfl (rt_i (by unfold plH; rw [hp0]; first | (show _ = pI (if _ then _ else _); rw [if_pos (by omega)]; rfl) | (show _ = pI (if _ then _ else _); rw [if_neg (by omega)]; rfl)))
        · rw [nI_leI (by omega) (by omega)] at c_168
          refine aw_bipush (v := nI 6) d_M_stepHead_171 (by decide) ?_
          refine aw_goto (tgt := 177) d_M_stepHead_173 (by decide) ?_
          exact aw_iret d_M_stepHead_177 rfl rfl (rt_i (by unfold plH; rw [hp0]; first | (show _ = pI (if _ then _ else _); rw [if_pos (by omega)]; rfl) | (show _ = pI (if _ then _ else _); rw [if_neg (by omega)]; rfl)))
    · rw [nI_leI (by omega) (by omega)] at c_5
      obtain ⟨r, rfl⟩ : ∃ q, r = q + 1 := ⟨r - 1, by omega⟩
      refine aw_iload_n d_M_stepHead_8 rfl ?_
      refine aw_aload_n d_M_stepHead_9 rfl ?_
      refine aw_get fl_M_40 d_M_stepHead_10 hm rfl ?_
      refine aw_icmp_lt (tgt := 18) d_M_stepHead_13 (by decide) (fun c_13 => ?_) (fun c_13 => ?_)
      · rw [nI_ltI (by omega) (by omega)] at c_13
        refine aw_aload_n d_M_stepHead_18 rfl ?_
        refine aw_get fl_M_8 d_M_stepHead_19 hm rfl ?_
        refine aw_iload_n d_M_stepHead_22 rfl ?_
        refine aw_bald (x := bs (B i)) d_M_stepHead_23 hin (vp_in_nI (by omega) (by omega)) (by rw [nI_clamp (by omega)]; rfl) ?_
        refine aw_sipush (v := nI 255) d_M_stepHead_24 (by decide) ?_
        refine aw_iand (v := nI (B i)) d_M_stepHead_27 (bs_and (hB_ _)) ?_
        have b_27 := hB_ i
        refine aw_istore_n (L' := [some (.ref m), some (.int (nI i)), some (.int (nI (B i))), none]) d_M_stepHead_28 (by decide) rfl rfl ?_
        refine aw_iload_n d_M_stepHead_29 rfl ?_
        refine aw_iconst (v := nI 2) d_M_stepHead_30 (by decide) ?_
        refine aw_icmp_ge (tgt := 48) d_M_stepHead_31 (by decide) (fun c_31 => ?_) (fun c_31 => ?_)
        · rw [nI_leI (by omega) (by omega)] at c_31
          refine aw_iload_n d_M_stepHead_48 rfl ?_
          refine aw_iconst (v := nI 2) d_M_stepHead_49 (by decide) ?_
          refine aw_icmp_ne (tgt := 66) d_M_stepHead_50 (by decide) (fun c_50 => ?_) (fun c_50 => ?_)
          · rw [w_eq (by omega) (by omega)] at c_50
            refine aw_iload_n d_M_stepHead_66 rfl ?_
            refine aw_iconst (v := nI 3) d_M_stepHead_67 (by decide) ?_
            refine aw_icmp_ne (tgt := 83) d_M_stepHead_68 (by decide) (fun c_68 => ?_) (fun c_68 => ?_)
            · rw [w_eq (by omega) (by omega)] at c_68
              refine aw_iload_n d_M_stepHead_83 rfl ?_
              refine aw_iconst (v := nI 4) d_M_stepHead_84 (by decide) ?_
              refine aw_icmp_ne (tgt := 108) d_M_stepHead_85 (by decide) (fun c_85 => ?_) (fun c_85 => ?_)
              · rw [w_eq (by omega) (by omega)] at c_85
                refine aw_iload_n d_M_stepHead_108 rfl ?_
                refine aw_iconst (v := nI 5) d_M_stepHead_109 (by decide) ?_
                refine aw_icmp_ne (tgt := 133) d_M_stepHead_110 (by decide) (fun c_110 => ?_) (fun c_110 => ?_)
                · rw [w_eq (by omega) (by omega)] at c_110
                  refine aw_iconst (v := nI 1) d_M_stepHead_133 (by decide) ?_
                  refine aw_istore_n (L' := [some (.ref m), some (.int (nI i)), some (.int (nI (B i))), some (.int (nI 1))]) d_M_stepHead_134 (by decide) rfl rfl ?_
                  refine aw_iload_n d_M_stepHead_135 rfl ?_
                  refine aw_if_ne (tgt := 141) d_M_stepHead_136 (by decide) (fun _ => ?_) (fun z => absurd z (by decide))
                  refine aw_iinc (v := nI (i + 1)) (L' := [some (.ref m), some (.int (nI (i + 1))), some (.int (nI (B i))), some (.int (nI 1))]) d_M_stepHead_141 rfl (nI_add i 1) (by decide) rfl rfl ?_
                  refine aw_goto (tgt := 2) d_M_stepHead_144 (by decide) ?_
                  refine aw_loc (L' := [some (.ref m), some (.int (nI (i + 1))), none, none]) (by intro j v hv; match j, hv with | 0, hv => exact hv | 1, hv => exact hv | 2, hv => cases hv | 3, hv => cases hv | j + 4, hv => cases hv) ?_
                  exact ih r (i + 1) none none (by omega) (by rw [← hp, ffst_s ⟨by omega, by unfold hdr; omega⟩]) (by omega)
                · rw [w_eq (by omega) (by omega)] at c_110
                  refine aw_iload_n d_M_stepHead_113 rfl ?_
                  refine aw_bipush (v := nI 10) d_M_stepHead_114 (by decide) ?_
                  refine aw_icmp_lt (tgt := 129) d_M_stepHead_116 (by decide) (fun c_116 => ?_) (fun c_116 => ?_)
                  · rw [nI_ltI (by omega) (by omega)] at c_116
                    refine aw_iconst (v := nI 0) d_M_stepHead_129 (by decide) ?_
                    refine aw_goto (tgt := 134) d_M_stepHead_130 (by decide) ?_
                    refine aw_istore_n (L' := [some (.ref m), some (.int (nI i)), some (.int (nI (B i))), some (.int (nI 0))]) d_M_stepHead_134 (by decide) rfl rfl ?_
                    refine aw_iload_n d_M_stepHead_135 rfl ?_
                    refine aw_if_ne (tgt := 141) d_M_stepHead_136 (by decide) (fun z => absurd (by decide) z) (fun _ => ?_)
                    refine aw_iload_n d_M_stepHead_139 rfl ?_
                    exact aw_iret d_M_stepHead_140 rfl rfl (rt_i (by unfold plH; rw [← hp, ffst_n (fun q => by have q2 := q.2; unfold hdr at q2; omega)]; rfl))
                  · rw [nI_ltI (by omega) (by omega)] at c_116
                    refine aw_iload_n d_M_stepHead_119 rfl ?_
                    refine aw_bipush (v := nI 14) d_M_stepHead_120 (by decide) ?_
                    refine aw_icmp_gt (tgt := 129) d_M_stepHead_122 (by decide) (fun c_122 => ?_) (fun c_122 => ?_)
                    · rw [nI_ltI (by omega) (by omega)] at c_122
                      refine aw_iconst (v := nI 0) d_M_stepHead_129 (by decide) ?_
                      refine aw_goto (tgt := 134) d_M_stepHead_130 (by decide) ?_
                      refine aw_istore_n (L' := [some (.ref m), some (.int (nI i)), some (.int (nI (B i))), some (.int (nI 0))]) d_M_stepHead_134 (by decide) rfl rfl ?_
                      refine aw_iload_n d_M_stepHead_135 rfl ?_
                      refine aw_if_ne (tgt := 141) d_M_stepHead_136 (by decide) (fun z => absurd (by decide) z) (fun _ => ?_)
                      refine aw_iload_n d_M_stepHead_139 rfl ?_
                      exact aw_iret d_M_stepHead_140 rfl rfl (rt_i (by unfold plH; rw [← hp, ffst_n (fun q => by have q2 := q.2; unfold hdr at q2; omega)]; rfl))
                    · rw [nI_ltI (by omega) (by omega)] at c_122
                      refine aw_iconst (v := nI 1) d_M_stepHead_125 (by decide) ?_
                      refine aw_goto (tgt := 134) d_M_stepHead_126 (by decide) ?_
                      refine aw_istore_n (L' := [some (.ref m), some (.int (nI i)), some (.int (nI (B i))), some (.int (nI 1))]) d_M_stepHead_134 (by decide) rfl rfl ?_
                      refine aw_iload_n d_M_stepHead_135 rfl ?_
                      refine aw_if_ne (tgt := 141) d_M_stepHead_136 (by decide) (fun _ => ?_) (fun z => absurd z (by decide))
                      refine aw_iinc (v := nI (i + 1)) (L' := [some (.ref m), some (.int (nI (i + 1))), some (.int (nI (B i))), some (.int (nI 1))]) d_M_stepHead_141 rfl (nI_add i 1) (by decide) rfl rfl ?_
                      refine aw_goto (tgt := 2) d_M_stepHead_144 (by decide) ?_
                      refine aw_loc (L' := [some (.ref m), some (.int (nI (i + 1))), none, none]) (by intro j v hv; match j, hv with | 0, hv => exact hv | 1, hv => exact hv | 2, hv => cases hv | 3, hv => cases hv | j + 4, hv => cases hv) ?_
                      exact ih r (i + 1) none none (by omega) (by rw [← hp, ffst_s ⟨by omega, by unfold hdr; omega⟩]) (by omega)
              · rw [w_eq (by omega) (by omega)] at c_85
                refine aw_iload_n d_M_stepHead_88 rfl ?_
                refine aw_bipush (v := nI 12) d_M_stepHead_89 (by decide) ?_
                refine aw_icmp_lt (tgt := 104) d_M_stepHead_91 (by decide) (fun c_91 => ?_) (fun c_91 => ?_)
                · rw [nI_ltI (by omega) (by omega)] at c_91
                  refine aw_iconst (v := nI 0) d_M_stepHead_104 (by decide) ?_
                  refine aw_goto (tgt := 134) d_M_stepHead_105 (by decide) ?_
                  refine aw_istore_n (L' := [some (.ref m), some (.int (nI i)), some (.int (nI (B i))), some (.int (nI 0))]) d_M_stepHead_134 (by decide) rfl rfl ?_
                  refine aw_iload_n d_M_stepHead_135 rfl ?_
                  refine aw_if_ne (tgt := 141) d_M_stepHead_136 (by decide) (fun z => absurd (by decide) z) (fun _ => ?_)
                  refine aw_iload_n d_M_stepHead_139 rfl ?_
                  exact aw_iret d_M_stepHead_140 rfl rfl (rt_i (by unfold plH; rw [← hp, ffst_n (fun q => by have q2 := q.2; unfold hdr at q2; omega)]; rfl))
                · rw [nI_ltI (by omega) (by omega)] at c_91
                  refine aw_iload_n d_M_stepHead_94 rfl ?_
                  refine aw_bipush (v := nI 18) d_M_stepHead_95 (by decide) ?_
                  refine aw_icmp_gt (tgt := 104) d_M_stepHead_97 (by decide) (fun c_97 => ?_) (fun c_97 => ?_)
                  · rw [nI_ltI (by omega) (by omega)] at c_97
                    refine aw_iconst (v := nI 0) d_M_stepHead_104 (by decide) ?_
                    refine aw_goto (tgt := 134) d_M_stepHead_105 (by decide) ?_
                    refine aw_istore_n (L' := [some (.ref m), some (.int (nI i)), some (.int (nI (B i))), some (.int (nI 0))]) d_M_stepHead_134 (by decide) rfl rfl ?_
                    refine aw_iload_n d_M_stepHead_135 rfl ?_
                    refine aw_if_ne (tgt := 141) d_M_stepHead_136 (by decide) (fun z => absurd (by decide) z) (fun _ => ?_)
                    refine aw_iload_n d_M_stepHead_139 rfl ?_
                    exact aw_iret d_M_stepHead_140 rfl rfl (rt_i (by unfold plH; rw [← hp, ffst_n (fun q => by have q2 := q.2; unfold hdr at q2; omega)]; rfl))
                  · rw [nI_ltI (by omega) (by omega)] at c_97
                    refine aw_iconst (v := nI 1) d_M_stepHead_100 (by decide) ?_
                    refine aw_goto (tgt := 134) d_M_stepHead_101 (by decide) ?_
                    refine aw_istore_n (L' := [some (.ref m), some (.int (nI i)), some (.int (nI (B i))), some (.int (nI 1))]) d_M_stepHead_134 (by decide) rfl rfl ?_
                    refine aw_iload_n d_M_stepHead_135 rfl ?_
                    refine aw_if_ne (tgt := 141) d_M_stepHead_136 (by decide) (fun _ => ?_) (fun z => absurd z (by decide))
                    refine aw_iinc (v := nI (i + 1)) (L' := [some (.ref m), some (.int (nI (i + 1))), some (.int (nI (B i))), some (.int (nI 1))]) d_M_stepHead_141 rfl (nI_add i 1) (by decide) rfl rfl ?_
                    refine aw_goto (tgt := 2) d_M_stepHead_144 (by decide) ?_
                    refine aw_loc (L' := [some (.ref m), some (.int (nI (i + 1))), none, none]) (by intro j v hv; match j, hv with | 0, hv => exact hv | 1, hv => exact hv | 2, hv => cases hv | 3, hv => cases hv | j + 4, hv => cases hv) ?_
                    exact ih r (i + 1) none none (by omega) (by rw [← hp, ffst_s ⟨by omega, by unfold hdr; omega⟩]) (by omega)
            · rw [w_eq (by omega) (by omega)] at c_68
              refine aw_iload_n d_M_stepHead_71 rfl ?_
              refine aw_if_ne (tgt := 79) d_M_stepHead_72 (by decide) (fun c_72 => ?_) (fun c_72 => ?_)
              · rw [w_eq0 (by omega)] at c_72
                refine aw_iconst (v := nI 0) d_M_stepHead_79 (by decide) ?_
                refine aw_goto (tgt := 134) d_M_stepHead_80 (by decide) ?_
                refine aw_istore_n (L' := [some (.ref m), some (.int (nI i)), some (.int (nI (B i))), some (.int (nI 0))]) d_M_stepHead_134 (by decide) rfl rfl ?_
                refine aw_iload_n d_M_stepHead_135 rfl ?_
                refine aw_if_ne (tgt := 141) d_M_stepHead_136 (by decide) (fun z => absurd (by decide) z) (fun _ => ?_)
                refine aw_iload_n d_M_stepHead_139 rfl ?_
                exact aw_iret d_M_stepHead_140 rfl rfl (rt_i (by unfold plH; rw [← hp, ffst_n (fun q => by have q2 := q.2; unfold hdr at q2; omega)]; rfl))
              · rw [w_eq0 (by omega)] at c_72
                refine aw_iconst (v := nI 1) d_M_stepHead_75 (by decide) ?_
                refine aw_goto (tgt := 134) d_M_stepHead_76 (by decide) ?_
                refine aw_istore_n (L' := [some (.ref m), some (.int (nI i)), some (.int (nI (B i))), some (.int (nI 1))]) d_M_stepHead_134 (by decide) rfl rfl ?_
                refine aw_iload_n d_M_stepHead_135 rfl ?_
                refine aw_if_ne (tgt := 141) d_M_stepHead_136 (by decide) (fun _ => ?_) (fun z => absurd z (by decide))
                refine aw_iinc (v := nI (i + 1)) (L' := [some (.ref m), some (.int (nI (i + 1))), some (.int (nI (B i))), some (.int (nI 1))]) d_M_stepHead_141 rfl (nI_add i 1) (by decide) rfl rfl ?_
                refine aw_goto (tgt := 2) d_M_stepHead_144 (by decide) ?_
                refine aw_loc (L' := [some (.ref m), some (.int (nI (i + 1))), none, none]) (by intro j v hv; match j, hv with | 0, hv => exact hv | 1, hv => exact hv | 2, hv => cases hv | 3, hv => cases hv | j + 4, hv => cases hv) ?_
                exact ih r (i + 1) none none (by omega) (by rw [← hp, ffst_s ⟨by omega, by unfold hdr; omega⟩]) (by omega)
          · rw [w_eq (by omega) (by omega)] at c_50
            refine aw_iload_n d_M_stepHead_53 rfl ?_
            refine aw_iconst (v := nI 1) d_M_stepHead_54 (by decide) ?_
            refine aw_icmp_ne (tgt := 62) d_M_stepHead_55 (by decide) (fun c_55 => ?_) (fun c_55 => ?_)
            · rw [w_eq (by omega) (by omega)] at c_55
              refine aw_iconst (v := nI 0) d_M_stepHead_62 (by decide) ?_
              refine aw_goto (tgt := 134) d_M_stepHead_63 (by decide) ?_
              refine aw_istore_n (L' := [some (.ref m), some (.int (nI i)), some (.int (nI (B i))), some (.int (nI 0))]) d_M_stepHead_134 (by decide) rfl rfl ?_
              refine aw_iload_n d_M_stepHead_135 rfl ?_
              refine aw_if_ne (tgt := 141) d_M_stepHead_136 (by decide) (fun z => absurd (by decide) z) (fun _ => ?_)
              refine aw_iload_n d_M_stepHead_139 rfl ?_
              exact aw_iret d_M_stepHead_140 rfl rfl (rt_i (by unfold plH; rw [← hp, ffst_n (fun q => by have q2 := q.2; unfold hdr at q2; omega)]; rfl))
            · rw [w_eq (by omega) (by omega)] at c_55
              refine aw_iconst (v := nI 1) d_M_stepHead_58 (by decide) ?_
              refine aw_goto (tgt := 134) d_M_stepHead_59 (by decide) ?_
              refine aw_istore_n (L' := [some (.ref m), some (.int (nI i)), some (.int (nI (B i))), some (.int (nI 1))]) d_M_stepHead_134 (by decide) rfl rfl ?_
              refine aw_iload_n d_M_stepHead_135 rfl ?_
              refine aw_if_ne (tgt := 141) d_M_stepHead_136 (by decide) (fun _ => ?_) (fun z => absurd z (by decide))
              refine aw_iinc (v := nI (i + 1)) (L' := [some (.ref m), some (.int (nI (i + 1))), some (.int (nI (B i))), some (.int (nI 1))]) d_M_stepHead_141 rfl (nI_add i 1) (by decide) rfl rfl ?_
              refine aw_goto (tgt := 2) d_M_stepHead_144 (by decide) ?_
              refine aw_loc (L' := [some (.ref m), some (.int (nI (i + 1))), none, none]) (by intro j v hv; match j, hv with | 0, hv => exact hv | 1, hv => exact hv | 2, hv => cases hv | 3, hv => cases hv | j + 4, hv => cases hv) ?_
              exact ih r (i + 1) none none (by omega) (by rw [← hp, ffst_s ⟨by omega, by unfold hdr; omega⟩]) (by omega)
        · rw [nI_leI (by omega) (by omega)] at c_31
          refine aw_iload_n d_M_stepHead_34 rfl ?_
          refine aw_bipush (v := nI 77) d_M_stepHead_35 (by decide) ?_
          refine aw_icmp_ne (tgt := 44) d_M_stepHead_37 (by decide) (fun c_37 => ?_) (fun c_37 => ?_)
          · rw [w_eq (by omega) (by omega)] at c_37
            refine aw_iconst (v := nI 0) d_M_stepHead_44 (by decide) ?_
            refine aw_goto (tgt := 134) d_M_stepHead_45 (by decide) ?_
            refine aw_istore_n (L' := [some (.ref m), some (.int (nI i)), some (.int (nI (B i))), some (.int (nI 0))]) d_M_stepHead_134 (by decide) rfl rfl ?_
            refine aw_iload_n d_M_stepHead_135 rfl ?_
            refine aw_if_ne (tgt := 141) d_M_stepHead_136 (by decide) (fun z => absurd (by decide) z) (fun _ => ?_)
            refine aw_iload_n d_M_stepHead_139 rfl ?_
            exact aw_iret d_M_stepHead_140 rfl rfl (rt_i (by unfold plH; rw [← hp, ffst_n (fun q => by have q2 := q.2; unfold hdr at q2; omega)]; rfl))
          · rw [w_eq (by omega) (by omega)] at c_37
            refine aw_iconst (v := nI 1) d_M_stepHead_40 (by decide) ?_
            refine aw_goto (tgt := 134) d_M_stepHead_41 (by decide) ?_
            refine aw_istore_n (L' := [some (.ref m), some (.int (nI i)), some (.int (nI (B i))), some (.int (nI 1))]) d_M_stepHead_134 (by decide) rfl rfl ?_
            refine aw_iload_n d_M_stepHead_135 rfl ?_
            refine aw_if_ne (tgt := 141) d_M_stepHead_136 (by decide) (fun _ => ?_) (fun z => absurd z (by decide))
            refine aw_iinc (v := nI (i + 1)) (L' := [some (.ref m), some (.int (nI (i + 1))), some (.int (nI (B i))), some (.int (nI 1))]) d_M_stepHead_141 rfl (nI_add i 1) (by decide) rfl rfl ?_
            refine aw_goto (tgt := 2) d_M_stepHead_144 (by decide) ?_
            refine aw_loc (L' := [some (.ref m), some (.int (nI (i + 1))), none, none]) (by intro j v hv; match j, hv with | 0, hv => exact hv | 1, hv => exact hv | 2, hv => cases hv | 3, hv => cases hv | j + 4, hv => cases hv) ?_
            exact ih r (i + 1) none none (by omega) (by rw [← hp, ffst_s ⟨by omega, by unfold hdr; omega⟩]) (by omega)
      · rw [nI_ltI (by omega) (by omega)] at c_13
        refine aw_iload_n d_M_stepHead_16 rfl ?_
        exact aw_iret d_M_stepHead_17 rfl rfl (rt_i (by unfold plH; rw [← hp, ffst_n (fun q => absurd q.1 (by omega))]; rfl))

set_option maxHeartbeats 4000000 in
theorem c_M_stepHead {tb : Nat → Nat} {h : AH} {m ai am ak as_ aks ar an ab cn ln kl mn : Nat} {cd : Int32} {B : Nat → Nat} (hB_ : ∀ i, B i < 256) (hm : h m = some (mO cd ai cn am ln ak kl as_ aks ar an ab mn)) (hin : h ai = some (.inl (1, 65536, .inl (bsf B)))) (hcn : cn ≤ 65536) : AM tb y_M_stepHead b_M_stepHead 4 (some .int) 2 41 [.ref m] h 0 0 (av_Pi (pI (plH B cn)) h) := by
  refine am_of (ini := false) [some (.ref m), none, none, none] (by decide) (fun z => by cases z) (Nat.le_of_ble_eq_true rfl) rfl ?_
  refine aw_iconst (v := nI 0) d_M_stepHead_0 (by decide) ?_
  refine aw_istore_n (L' := [some (.ref m), some (.int (nI 0)), none, none]) d_M_stepHead_1 (by decide) rfl rfl ?_
  exact lp_M_stepHead (by decide) (by decide) hB_ hm hin hcn 9 8 0 none none (by omega) rfl (by omega)

set_option maxHeartbeats 4000000 in
theorem lp_M_stepSpecialsJ {tb : Nat → Nat} {h : AH} {fr lo : Nat} {mc ms : Nat} (hfr : 2 ≤ fr) (hlo : 42 ≤ lo) {m ai am ak as_ aks ar an ab cn ln kl mn c : Nat} {cd : Int32} {B : Nat → Nat} {fs : Nat → Int32} (hB_ : ∀ i, B i < 256) (hm : h m = some (mO cd ai cn am ln ak kl as_ aks ar an ab mn)) (hin : h ai = some (.inl (1, 65536, .inl (bsf B)))) (hst : h as_ = some (.inl (0, 8192, .inl fs))) (X : VX B c fs) (k : Nat) (hk : k < 13) : ∀ (d : Nat) (j : Nat) (r : Int32) (Q : Prop), r = bP Q → j ≤ k → (∀ (r' : Int32) (Q' : Prop), r' = bP Q' → (Q' ↔ Q ∧ ∀ i, j ≤ i → i < k → sp B i ≠ sp B k) → AW tb "ImageReaderModel" b_M_stepSpecials 5 (some .int) false none fr lo (av_Pi (pI (plP B)) h) 165 [some (.ref m), some (.int (nI k)), some (.int (nI (sp B k))), some (.int r'), none] [] h mc ms) → k < j + d → AW tb "ImageReaderModel" b_M_stepSpecials 5 (some .int) false none fr lo (av_Pi (pI (plP B)) h) 124 [some (.ref m), some (.int (nI k)), some (.int (nI (sp B k))), some (.int r), some (.int (nI j))] [] h mc ms := by
  intro d
  induction d with
  | zero => intro j r Q hr_ hj kk hd; omega
  | succ d ih =>
    intro j r Q hr_ hj kk hd
    have hn := X.n
    have hnd : nn B = bh B 6 := rfl
    have hsk := sp_lt hB_ k
    refine aw_iload d_M_stepSpecials_124 rfl ?_
    refine aw_iload_n d_M_stepSpecials_126 rfl ?_
    refine aw_icmp_ge (tgt := 165) d_M_stepSpecials_127 (by decide) (fun c_127 => ?_) (fun c_127 => ?_)
    · rw [nI_leI (by omega) (by omega)] at c_127
      refine aw_loc (L' := [some (.ref m), some (.int (nI k)), some (.int (nI (sp B k))), some (.int r), none]) (by intro i v hv; match i, hv with | 0, hv => exact hv | 1, hv => exact hv | 2, hv => exact hv | 3, hv => exact hv | 4, hv => cases hv | i + 5, hv => cases hv) ?_
      exact kk r Q hr_ ⟨fun q => ⟨q, fun i a b => by omega⟩, fun q => q.1⟩
    · rw [nI_leI (by omega) (by omega)] at c_127
      refine aw_iload_n d_M_stepSpecials_130 rfl ?_
      refine aw_bipush (v := nI 13) d_M_stepSpecials_131 (by decide) ?_
      refine aw_icmp_ge (tgt := 165) d_M_stepSpecials_133 (by decide) (fun c_133 => absurd c_133 (by rw [nI_leI (by omega) (by omega)]; omega)) (fun c_133 => ?_)
      try rw [nI_leI (by omega) (by omega)] at c_133
      refine aw_iload_n d_M_stepSpecials_136 rfl ?_
      refine aw_if_eq (tgt := 157) d_M_stepSpecials_137 (by decide) (fun c_137 => ?_) (fun c_137 => ?_)
      · rw [hr_, bP_eq0] at c_137
        refine aw_iconst (v := nI 0) d_M_stepSpecials_157 (by decide) ?_
        refine aw_istore_n (L' := [some (.ref m), some (.int (nI k)), some (.int (nI (sp B k))), some (.int (nI 0)), some (.int (nI j))]) d_M_stepSpecials_158 (by decide) rfl rfl ?_
        refine aw_iinc (v := nI (j + 1)) (L' := [some (.ref m), some (.int (nI k)), some (.int (nI (sp B k))), some (.int (nI 0)), some (.int (nI (j + 1)))]) d_M_stepSpecials_159 rfl (nI_add j 1) (by decide) rfl rfl ?_
        refine aw_goto (tgt := 124) d_M_stepSpecials_162 (by decide) ?_
        refine ih (j + 1) _ False (bP_f (fun z => z)).symm (by omega) (fun r2 Q2 e2 i2 => kk r2 Q2 e2 (i2.trans ⟨fun q => q.1.elim, fun q => by first | exact absurd q.1 c_137 | exact absurd c_150 (q.2 j (Nat.le_refl _) (by omega))⟩)) (by omega)
      · rw [hr_, bP_eq0, Classical.not_not] at c_137
        refine aw_aload_n d_M_stepSpecials_140 rfl ?_
        refine aw_get fl_M_8 d_M_stepSpecials_141 hm rfl ?_
        refine aw_iload d_M_stepSpecials_144 rfl ?_
        refine aw_callSi (mc2 := mc) (ms2 := ms) (r := nI (sp B j)) (As := [.ref ai, .int (nI j)]) (rest := []) (c_M_special_aBI hB_ hin (by omega) j (by omega)) cs_M_65 d_M_stepSpecials_146 rfl rfl (Nat.le_of_ble_eq_true rfl) (by omega) (by omega) (by omega) (by omega) ?_
        have b_146 : sp B j < 4294967296 := bw_lt hB_ _
        refine aw_iload_n d_M_stepSpecials_149 rfl ?_
        refine aw_icmp_eq (tgt := 157) d_M_stepSpecials_150 (by decide) (fun c_150 => ?_) (fun c_150 => ?_)
        · rw [w_eq (by omega) (by omega)] at c_150
          refine aw_iconst (v := nI 0) d_M_stepSpecials_157 (by decide) ?_
          refine aw_istore_n (L' := [some (.ref m), some (.int (nI k)), some (.int (nI (sp B k))), some (.int (nI 0)), some (.int (nI j))]) d_M_stepSpecials_158 (by decide) rfl rfl ?_
          refine aw_iinc (v := nI (j + 1)) (L' := [some (.ref m), some (.int (nI k)), some (.int (nI (sp B k))), some (.int (nI 0)), some (.int (nI (j + 1)))]) d_M_stepSpecials_159 rfl (nI_add j 1) (by decide) rfl rfl ?_
          refine aw_goto (tgt := 124) d_M_stepSpecials_162 (by decide) ?_
          refine ih (j + 1) _ False (bP_f (fun z => z)).symm (by omega) (fun r2 Q2 e2 i2 => kk r2 Q2 e2 (i2.trans ⟨fun q => q.1.elim, fun q => by first | exact absurd q.1 c_137 | exact absurd c_150 (q.2 j (Nat.le_refl _) (by omega))⟩)) (by omega)
        · rw [w_eq (by omega) (by omega)] at c_150
          refine aw_iconst (v := nI 1) d_M_stepSpecials_153 (by decide) ?_
          refine aw_goto (tgt := 158) d_M_stepSpecials_154 (by decide) ?_
          refine aw_istore_n (L' := [some (.ref m), some (.int (nI k)), some (.int (nI (sp B k))), some (.int (nI 1)), some (.int (nI j))]) d_M_stepSpecials_158 (by decide) rfl rfl ?_
          refine aw_iinc (v := nI (j + 1)) (L' := [some (.ref m), some (.int (nI k)), some (.int (nI (sp B k))), some (.int (nI 1)), some (.int (nI (j + 1)))]) d_M_stepSpecials_159 rfl (nI_add j 1) (by decide) rfl rfl ?_
          refine aw_goto (tgt := 124) d_M_stepSpecials_162 (by decide) ?_
          refine ih (j + 1) _ True (bP_t trivial).symm (by omega) (fun r2 Q2 e2 i2 => kk r2 Q2 e2 (i2.trans ⟨fun q => ⟨c_137, fun i a b => by rcases Nat.lt_or_ge j i with z | z; exact q.2 i (by omega) b; exact (show i = j by omega) ▸ c_150⟩, fun q => ⟨trivial, fun i a b => q.2 i (by omega) b⟩⟩)) (by omega)

set_option maxHeartbeats 4000000 in
theorem lp_M_stepSpecials {tb : Nat → Nat} {h : AH} {fr lo : Nat} {mc ms : Nat} (hfr : 4 ≤ fr) (hlo : 89 ≤ lo) {m ai am ak as_ aks ar an ab cn ln kl mn c : Nat} {cd : Int32} {B : Nat → Nat} {fs : Nat → Int32} (hB_ : ∀ i, B i < 256) (hm : h m = some (mO cd ai cn am ln ak kl as_ aks ar an ab mn)) (hin : h ai = some (.inl (1, 65536, .inl (bsf B)))) (hst : h as_ = some (.inl (0, 8192, .inl fs))) (X : VX B c fs) : ∀ (d : Nat) (r k : Nat), r + k = 15 → ffst (SS B) (fun k => 8 + 4 * k) r k = plP B → r < d → AW tb "ImageReaderModel" b_M_stepSpecials 5 (some .int) false none fr lo (av_Pi (pI (plP B)) h) 2 [some (.ref m), some (.int (nI k)), none, none, none] [] h mc ms := by
  intro d
  induction d with
  | zero => intro r k hrk hp hd; omega
  | succ d ih =>
    intro r k hrk hp hd
    have hn := X.n
    have hnd : nn B = bh B 6 := rfl
    refine aw_iload_n d_M_stepSpecials_2 rfl ?_
    refine aw_bipush (v := nI 15) d_M_stepSpecials_3 (by decide) ?_
    refine aw_icmp_ge (tgt := 182) d_M_stepSpecials_5 (by decide) (fun c_5 => ?_) (fun c_5 => ?_)
    · rw [nI_leI (by omega) (by omega)] at c_5
      refine aw_iconst (v := (-1)) d_M_stepSpecials_182 (by decide) ?_
      exact aw_iret d_M_stepSpecials_183 rfl rfl (rt_i (by rw [← hp, show r = 0 by omega]; rfl))
    · rw [nI_leI (by omega) (by omega)] at c_5
      obtain ⟨q, rfl⟩ : ∃ q, r = q + 1 := ⟨r - 1, by omega⟩
      have hvk := X.sv (k := k) (by omega)
      refine aw_aload_n d_M_stepSpecials_8 rfl ?_
      refine aw_get fl_M_8 d_M_stepSpecials_9 hm rfl ?_
      refine aw_iload_n d_M_stepSpecials_12 rfl ?_
      refine aw_callSi (mc2 := mc) (ms2 := ms) (r := nI (sp B k)) (As := [.ref ai, .int (nI k)]) (rest := []) (c_M_special_aBI hB_ hin (by omega) k (by omega)) cs_M_65 d_M_stepSpecials_13 rfl rfl (Nat.le_of_ble_eq_true rfl) (by omega) (by omega) (by omega) (by omega) ?_
      have b_13 : sp B k < 4294967296 := bw_lt hB_ _
      refine aw_istore_n (L' := [some (.ref m), some (.int (nI k)), some (.int (nI (sp B k))), none, none]) d_M_stepSpecials_16 (by decide) rfl rfl ?_
      refine aw_iload_n d_M_stepSpecials_17 rfl ?_
      refine aw_iconst (v := nI 2) d_M_stepSpecials_18 (by decide) ?_
      refine aw_icmp_ge (tgt := 29) d_M_stepSpecials_19 (by decide) (fun c_19 => ?_) (fun c_19 => ?_)
      · rw [nI_leI (by omega) (by omega)] at c_19
        refine aw_iload_n d_M_stepSpecials_29 rfl ?_
        refine aw_bipush (v := nI 13) d_M_stepSpecials_30 (by decide) ?_
        refine aw_icmp_ge (tgt := 43) d_M_stepSpecials_32 (by decide) (fun c_32 => ?_) (fun c_32 => ?_)
        · rw [nI_leI (by omega) (by omega)] at c_32
          refine aw_iload_n d_M_stepSpecials_43 rfl ?_
          refine aw_bipush (v := nI 13) d_M_stepSpecials_44 (by decide) ?_
          refine aw_icmp_ne (tgt := 89) d_M_stepSpecials_46 (by decide) (fun c_46 => ?_) (fun c_46 => ?_)
          · rw [w_eq (by omega) (by omega)] at c_46
            refine aw_aload_n d_M_stepSpecials_89 rfl ?_
            refine aw_iload_n d_M_stepSpecials_90 rfl ?_
            refine aw_iconst (v := nI 2) d_M_stepSpecials_91 (by decide) ?_
            refine aw_callVi (mc2 := mc) (ms2 := ms) (r := bP (HF B (sp B k) 2)) (As := [.int (nI (sp B k)), .int (nI 2)]) (rest := []) (c_M_hasFields hB_ hm hin hst X (sp B k) (by omega) hvk 2 (by omega)) cv_M_68 d_M_stepSpecials_92 hm rfl rfl rfl (Nat.le_of_ble_eq_true rfl) (by omega) (by omega) (by omega) (by omega) ?_
            refine aw_if_eq (tgt := 110) d_M_stepSpecials_95 (by decide) (fun c_95 => ?_) (fun c_95 => ?_)
            · rw [bP_eq0] at c_95
              refine aw_iconst (v := nI 0) d_M_stepSpecials_110 (by decide) ?_
              refine aw_istore_n (L' := [some (.ref m), some (.int (nI k)), some (.int (nI (sp B k))), some (.int (nI 0)), none]) d_M_stepSpecials_111 (by decide) rfl rfl ?_
              refine aw_iload_n d_M_stepSpecials_112 rfl ?_
              refine aw_iconst (v := nI 2) d_M_stepSpecials_113 (by decide) ?_
              refine aw_icmp_ge (tgt := 121) d_M_stepSpecials_114 (by decide) (fun c_114 => ?_) (fun c_114 => absurd c_114 (by rw [nI_leI (by omega) (by omega)]; omega))
              try rw [nI_leI (by omega) (by omega)] at c_114
              refine aw_iconst (v := nI 2) d_M_stepSpecials_121 (by decide) ?_
              refine aw_istore (L' := [some (.ref m), some (.int (nI k)), some (.int (nI (sp B k))), some (.int (nI 0)), some (.int (nI 2))]) d_M_stepSpecials_122 (by decide) rfl rfl ?_
              refine aw_iload d_M_stepSpecials_124 rfl ?_
              refine aw_iload_n d_M_stepSpecials_126 rfl ?_
              refine aw_icmp_ge (tgt := 165) d_M_stepSpecials_127 (by decide) (fun c_127 => ?_) (fun c_127 => ?_)
              · rw [nI_leI (by omega) (by omega)] at c_127
                refine aw_iload_n d_M_stepSpecials_165 rfl ?_
                refine aw_if_ne (tgt := 176) d_M_stepSpecials_166 (by decide) (fun z => absurd (by decide) z) (fun _ => ?_)
                refine aw_bipush (v := nI 8) d_M_stepSpecials_169 (by decide) ?_
                refine aw_iconst (v := nI 4) d_M_stepSpecials_171 (by decide) ?_
                refine aw_iload_n d_M_stepSpecials_172 rfl ?_
                refine aw_imul (v := nI (4 * k)) d_M_stepSpecials_173 (pk_mul _ _) ?_
                refine aw_iadd (v := nI (8 + 4 * k)) d_M_stepSpecials_174 (nI_add _ _) ?_
                exact aw_iret d_M_stepSpecials_175 rfl rfl (rt_i (by rw [← hp, ffst_n]; rfl; intro z; first | exact c_57 (by have z3 := (z.2.2.1 (by omega)).1; rw [show k = 13 by omega]; exact z3) | exact c_78 (by have z3 := (z.2.2.1 (by omega)).2; rw [show k = 13 by omega]; exact z3) | exact c_95 (by have z4 := (z.2.2.2 (by omega)).1; rw [show k = 14 by omega]; exact z4) | exact absurd c_103 (by have z4 := (z.2.2.2 (by omega)).2; rw [show k = 14 by omega]; exact z4)))
              · rw [nI_leI (by omega) (by omega)] at c_127
                refine aw_iload_n d_M_stepSpecials_130 rfl ?_
                refine aw_bipush (v := nI 13) d_M_stepSpecials_131 (by decide) ?_
                refine aw_icmp_ge (tgt := 165) d_M_stepSpecials_133 (by decide) (fun c_133 => ?_) (fun c_133 => absurd c_133 (by rw [nI_leI (by omega) (by omega)]; omega))
                try rw [nI_leI (by omega) (by omega)] at c_133
                refine aw_iload_n d_M_stepSpecials_165 rfl ?_
                refine aw_if_ne (tgt := 176) d_M_stepSpecials_166 (by decide) (fun z => absurd (by decide) z) (fun _ => ?_)
                refine aw_bipush (v := nI 8) d_M_stepSpecials_169 (by decide) ?_
                refine aw_iconst (v := nI 4) d_M_stepSpecials_171 (by decide) ?_
                refine aw_iload_n d_M_stepSpecials_172 rfl ?_
                refine aw_imul (v := nI (4 * k)) d_M_stepSpecials_173 (pk_mul _ _) ?_
                refine aw_iadd (v := nI (8 + 4 * k)) d_M_stepSpecials_174 (nI_add _ _) ?_
                exact aw_iret d_M_stepSpecials_175 rfl rfl (rt_i (by rw [← hp, ffst_n]; rfl; intro z; first | exact c_57 (by have z3 := (z.2.2.1 (by omega)).1; rw [show k = 13 by omega]; exact z3) | exact c_78 (by have z3 := (z.2.2.1 (by omega)).2; rw [show k = 13 by omega]; exact z3) | exact c_95 (by have z4 := (z.2.2.2 (by omega)).1; rw [show k = 14 by omega]; exact z4) | exact absurd c_103 (by have z4 := (z.2.2.2 (by omega)).2; rw [show k = 14 by omega]; exact z4)))
            · rw [bP_eq0, Classical.not_not] at c_95
              refine aw_aload_n d_M_stepSpecials_98 rfl ?_
              refine aw_iload_n d_M_stepSpecials_99 rfl ?_
              refine aw_callVi (mc2 := mc) (ms2 := ms) (r := bP (CX B (sp B k))) (As := [.int (nI (sp B k))]) (rest := []) (c_M_isContext hB_ hm hin hst X (sp B k) (by omega) hvk) cv_M_80 d_M_stepSpecials_100 hm rfl rfl rfl (Nat.le_of_ble_eq_true rfl) (by omega) (by omega) (by omega) (by omega) ?_
              refine aw_if_ne (tgt := 110) d_M_stepSpecials_103 (by decide) (fun c_103 => ?_) (fun c_103 => ?_)
              · rw [bP_eq0, Classical.not_not] at c_103
                refine aw_iconst (v := nI 0) d_M_stepSpecials_110 (by decide) ?_
                refine aw_istore_n (L' := [some (.ref m), some (.int (nI k)), some (.int (nI (sp B k))), some (.int (nI 0)), none]) d_M_stepSpecials_111 (by decide) rfl rfl ?_
                refine aw_iload_n d_M_stepSpecials_112 rfl ?_
                refine aw_iconst (v := nI 2) d_M_stepSpecials_113 (by decide) ?_
                refine aw_icmp_ge (tgt := 121) d_M_stepSpecials_114 (by decide) (fun c_114 => ?_) (fun c_114 => absurd c_114 (by rw [nI_leI (by omega) (by omega)]; omega))
                try rw [nI_leI (by omega) (by omega)] at c_114
                refine aw_iconst (v := nI 2) d_M_stepSpecials_121 (by decide) ?_
                refine aw_istore (L' := [some (.ref m), some (.int (nI k)), some (.int (nI (sp B k))), some (.int (nI 0)), some (.int (nI 2))]) d_M_stepSpecials_122 (by decide) rfl rfl ?_
                refine aw_iload d_M_stepSpecials_124 rfl ?_
                refine aw_iload_n d_M_stepSpecials_126 rfl ?_
                refine aw_icmp_ge (tgt := 165) d_M_stepSpecials_127 (by decide) (fun c_127 => ?_) (fun c_127 => ?_)
                · rw [nI_leI (by omega) (by omega)] at c_127
                  refine aw_iload_n d_M_stepSpecials_165 rfl ?_
                  refine aw_if_ne (tgt := 176) d_M_stepSpecials_166 (by decide) (fun z => absurd (by decide) z) (fun _ => ?_)
                  refine aw_bipush (v := nI 8) d_M_stepSpecials_169 (by decide) ?_
                  refine aw_iconst (v := nI 4) d_M_stepSpecials_171 (by decide) ?_
                  refine aw_iload_n d_M_stepSpecials_172 rfl ?_
                  refine aw_imul (v := nI (4 * k)) d_M_stepSpecials_173 (pk_mul _ _) ?_
                  refine aw_iadd (v := nI (8 + 4 * k)) d_M_stepSpecials_174 (nI_add _ _) ?_
                  exact aw_iret d_M_stepSpecials_175 rfl rfl (rt_i (by rw [← hp, ffst_n]; rfl; intro z; first | exact c_57 (by have z3 := (z.2.2.1 (by omega)).1; rw [show k = 13 by omega]; exact z3) | exact c_78 (by have z3 := (z.2.2.1 (by omega)).2; rw [show k = 13 by omega]; exact z3) | exact c_95 (by have z4 := (z.2.2.2 (by omega)).1; rw [show k = 14 by omega]; exact z4) | exact absurd c_103 (by have z4 := (z.2.2.2 (by omega)).2; rw [show k = 14 by omega]; exact z4)))
                · rw [nI_leI (by omega) (by omega)] at c_127
                  refine aw_iload_n d_M_stepSpecials_130 rfl ?_
                  refine aw_bipush (v := nI 13) d_M_stepSpecials_131 (by decide) ?_
                  refine aw_icmp_ge (tgt := 165) d_M_stepSpecials_133 (by decide) (fun c_133 => ?_) (fun c_133 => absurd c_133 (by rw [nI_leI (by omega) (by omega)]; omega))
                  try rw [nI_leI (by omega) (by omega)] at c_133
                  refine aw_iload_n d_M_stepSpecials_165 rfl ?_
                  refine aw_if_ne (tgt := 176) d_M_stepSpecials_166 (by decide) (fun z => absurd (by decide) z) (fun _ => ?_)
                  refine aw_bipush (v := nI 8) d_M_stepSpecials_169 (by decide) ?_
                  refine aw_iconst (v := nI 4) d_M_stepSpecials_171 (by decide) ?_
                  refine aw_iload_n d_M_stepSpecials_172 rfl ?_
                  refine aw_imul (v := nI (4 * k)) d_M_stepSpecials_173 (pk_mul _ _) ?_
                  refine aw_iadd (v := nI (8 + 4 * k)) d_M_stepSpecials_174 (nI_add _ _) ?_
                  exact aw_iret d_M_stepSpecials_175 rfl rfl (rt_i (by rw [← hp, ffst_n]; rfl; intro z; first | exact c_57 (by have z3 := (z.2.2.1 (by omega)).1; rw [show k = 13 by omega]; exact z3) | exact c_78 (by have z3 := (z.2.2.1 (by omega)).2; rw [show k = 13 by omega]; exact z3) | exact c_95 (by have z4 := (z.2.2.2 (by omega)).1; rw [show k = 14 by omega]; exact z4) | exact absurd c_103 (by have z4 := (z.2.2.2 (by omega)).2; rw [show k = 14 by omega]; exact z4)))
              · rw [bP_eq0] at c_103
                refine aw_iconst (v := nI 1) d_M_stepSpecials_106 (by decide) ?_
                refine aw_goto (tgt := 111) d_M_stepSpecials_107 (by decide) ?_
                refine aw_istore_n (L' := [some (.ref m), some (.int (nI k)), some (.int (nI (sp B k))), some (.int (nI 1)), none]) d_M_stepSpecials_111 (by decide) rfl rfl ?_
                refine aw_iload_n d_M_stepSpecials_112 rfl ?_
                refine aw_iconst (v := nI 2) d_M_stepSpecials_113 (by decide) ?_
                refine aw_icmp_ge (tgt := 121) d_M_stepSpecials_114 (by decide) (fun c_114 => ?_) (fun c_114 => absurd c_114 (by rw [nI_leI (by omega) (by omega)]; omega))
                try rw [nI_leI (by omega) (by omega)] at c_114
                refine aw_iconst (v := nI 2) d_M_stepSpecials_121 (by decide) ?_
                refine aw_istore (L' := [some (.ref m), some (.int (nI k)), some (.int (nI (sp B k))), some (.int (nI 1)), some (.int (nI 2))]) d_M_stepSpecials_122 (by decide) rfl rfl ?_
                refine aw_iload d_M_stepSpecials_124 rfl ?_
                refine aw_iload_n d_M_stepSpecials_126 rfl ?_
                refine aw_icmp_ge (tgt := 165) d_M_stepSpecials_127 (by decide) (fun c_127 => ?_) (fun c_127 => ?_)
                · rw [nI_leI (by omega) (by omega)] at c_127
                  refine aw_iload_n d_M_stepSpecials_165 rfl ?_
                  refine aw_if_ne (tgt := 176) d_M_stepSpecials_166 (by decide) (fun _ => ?_) (fun z => absurd z (by decide))
                  refine aw_iinc (v := nI (k + 1)) (L' := [some (.ref m), some (.int (nI (k + 1))), some (.int (nI (sp B k))), some (.int (nI 1)), some (.int (nI 2))]) d_M_stepSpecials_176 rfl (nI_add k 1) (by decide) rfl rfl ?_
                  refine aw_goto (tgt := 2) d_M_stepSpecials_179 (by decide) ?_
                  refine aw_loc (L' := [some (.ref m), some (.int (nI (k + 1))), none, none, none]) (by intro i v hv; match i, hv with | 0, hv => exact hv | 1, hv => exact hv | 2, hv => cases hv | 3, hv => cases hv | 4, hv => cases hv | i + 5, hv => cases hv) ?_
                  exact ih q (k + 1) (by omega) (by rw [← hp, ffst_s]; refine ⟨fun z => by omega, fun z y => by omega, fun z => ?_, fun z => ?_⟩ <;> first | (subst z; exact ⟨c_57, c_78⟩) | (subst z; exact ⟨c_95, c_103⟩) | (exfalso; omega)) (by omega)
                · rw [nI_leI (by omega) (by omega)] at c_127
                  refine aw_iload_n d_M_stepSpecials_130 rfl ?_
                  refine aw_bipush (v := nI 13) d_M_stepSpecials_131 (by decide) ?_
                  refine aw_icmp_ge (tgt := 165) d_M_stepSpecials_133 (by decide) (fun c_133 => ?_) (fun c_133 => absurd c_133 (by rw [nI_leI (by omega) (by omega)]; omega))
                  try rw [nI_leI (by omega) (by omega)] at c_133
                  refine aw_iload_n d_M_stepSpecials_165 rfl ?_
                  refine aw_if_ne (tgt := 176) d_M_stepSpecials_166 (by decide) (fun _ => ?_) (fun z => absurd z (by decide))
                  refine aw_iinc (v := nI (k + 1)) (L' := [some (.ref m), some (.int (nI (k + 1))), some (.int (nI (sp B k))), some (.int (nI 1)), some (.int (nI 2))]) d_M_stepSpecials_176 rfl (nI_add k 1) (by decide) rfl rfl ?_
                  refine aw_goto (tgt := 2) d_M_stepSpecials_179 (by decide) ?_
                  refine aw_loc (L' := [some (.ref m), some (.int (nI (k + 1))), none, none, none]) (by intro i v hv; match i, hv with | 0, hv => exact hv | 1, hv => exact hv | 2, hv => cases hv | 3, hv => cases hv | 4, hv => cases hv | i + 5, hv => cases hv) ?_
                  exact ih q (k + 1) (by omega) (by rw [← hp, ffst_s]; refine ⟨fun z => by omega, fun z y => by omega, fun z => ?_, fun z => ?_⟩ <;> first | (subst z; exact ⟨c_57, c_78⟩) | (subst z; exact ⟨c_95, c_103⟩) | (exfalso; omega)) (by omega)
          · rw [w_eq (by omega) (by omega)] at c_46
            refine aw_aload_n d_M_stepSpecials_49 rfl ?_
            refine aw_iload_n d_M_stepSpecials_50 rfl ?_
            refine aw_sipush (v := nI 256) d_M_stepSpecials_51 (by decide) ?_
            refine aw_callVi (mc2 := mc) (ms2 := ms) (r := bP (HF B (sp B k) 256)) (As := [.int (nI (sp B k)), .int (nI 256)]) (rest := []) (c_M_hasFields hB_ hm hin hst X (sp B k) (by omega) hvk 256 (by omega)) cv_M_68 d_M_stepSpecials_54 hm rfl rfl rfl (Nat.le_of_ble_eq_true rfl) (by omega) (by omega) (by omega) (by omega) ?_
            refine aw_if_eq (tgt := 85) d_M_stepSpecials_57 (by decide) (fun c_57 => ?_) (fun c_57 => ?_)
            · rw [bP_eq0] at c_57
              refine aw_iconst (v := nI 0) d_M_stepSpecials_85 (by decide) ?_
              refine aw_goto (tgt := 111) d_M_stepSpecials_86 (by decide) ?_
              refine aw_istore_n (L' := [some (.ref m), some (.int (nI k)), some (.int (nI (sp B k))), some (.int (nI 0)), none]) d_M_stepSpecials_111 (by decide) rfl rfl ?_
              refine aw_iload_n d_M_stepSpecials_112 rfl ?_
              refine aw_iconst (v := nI 2) d_M_stepSpecials_113 (by decide) ?_
              refine aw_icmp_ge (tgt := 121) d_M_stepSpecials_114 (by decide) (fun c_114 => ?_) (fun c_114 => absurd c_114 (by rw [nI_leI (by omega) (by omega)]; omega))
              try rw [nI_leI (by omega) (by omega)] at c_114
              refine aw_iconst (v := nI 2) d_M_stepSpecials_121 (by decide) ?_
              refine aw_istore (L' := [some (.ref m), some (.int (nI k)), some (.int (nI (sp B k))), some (.int (nI 0)), some (.int (nI 2))]) d_M_stepSpecials_122 (by decide) rfl rfl ?_
              refine aw_iload d_M_stepSpecials_124 rfl ?_
              refine aw_iload_n d_M_stepSpecials_126 rfl ?_
              refine aw_icmp_ge (tgt := 165) d_M_stepSpecials_127 (by decide) (fun c_127 => ?_) (fun c_127 => ?_)
              · rw [nI_leI (by omega) (by omega)] at c_127
                refine aw_iload_n d_M_stepSpecials_165 rfl ?_
                refine aw_if_ne (tgt := 176) d_M_stepSpecials_166 (by decide) (fun z => absurd (by decide) z) (fun _ => ?_)
                refine aw_bipush (v := nI 8) d_M_stepSpecials_169 (by decide) ?_
                refine aw_iconst (v := nI 4) d_M_stepSpecials_171 (by decide) ?_
                refine aw_iload_n d_M_stepSpecials_172 rfl ?_
                refine aw_imul (v := nI (4 * k)) d_M_stepSpecials_173 (pk_mul _ _) ?_
                refine aw_iadd (v := nI (8 + 4 * k)) d_M_stepSpecials_174 (nI_add _ _) ?_
                exact aw_iret d_M_stepSpecials_175 rfl rfl (rt_i (by rw [← hp, ffst_n]; rfl; intro z; first | exact c_57 (by have z3 := (z.2.2.1 (by omega)).1; rw [show k = 13 by omega]; exact z3) | exact c_78 (by have z3 := (z.2.2.1 (by omega)).2; rw [show k = 13 by omega]; exact z3) | exact c_95 (by have z4 := (z.2.2.2 (by omega)).1; rw [show k = 14 by omega]; exact z4) | exact absurd c_103 (by have z4 := (z.2.2.2 (by omega)).2; rw [show k = 14 by omega]; exact z4)))
              · rw [nI_leI (by omega) (by omega)] at c_127
                refine aw_iload_n d_M_stepSpecials_130 rfl ?_
                refine aw_bipush (v := nI 13) d_M_stepSpecials_131 (by decide) ?_
                refine aw_icmp_ge (tgt := 165) d_M_stepSpecials_133 (by decide) (fun c_133 => ?_) (fun c_133 => absurd c_133 (by rw [nI_leI (by omega) (by omega)]; omega))
                try rw [nI_leI (by omega) (by omega)] at c_133
                refine aw_iload_n d_M_stepSpecials_165 rfl ?_
                refine aw_if_ne (tgt := 176) d_M_stepSpecials_166 (by decide) (fun z => absurd (by decide) z) (fun _ => ?_)
                refine aw_bipush (v := nI 8) d_M_stepSpecials_169 (by decide) ?_
                refine aw_iconst (v := nI 4) d_M_stepSpecials_171 (by decide) ?_
                refine aw_iload_n d_M_stepSpecials_172 rfl ?_
                refine aw_imul (v := nI (4 * k)) d_M_stepSpecials_173 (pk_mul _ _) ?_
                refine aw_iadd (v := nI (8 + 4 * k)) d_M_stepSpecials_174 (nI_add _ _) ?_
                exact aw_iret d_M_stepSpecials_175 rfl rfl (rt_i (by rw [← hp, ffst_n]; rfl; intro z; first | exact c_57 (by have z3 := (z.2.2.1 (by omega)).1; rw [show k = 13 by omega]; exact z3) | exact c_78 (by have z3 := (z.2.2.1 (by omega)).2; rw [show k = 13 by omega]; exact z3) | exact c_95 (by have z4 := (z.2.2.2 (by omega)).1; rw [show k = 14 by omega]; exact z4) | exact absurd c_103 (by have z4 := (z.2.2.2 (by omega)).2; rw [show k = 14 by omega]; exact z4)))
            · rw [bP_eq0, Classical.not_not] at c_57
              obtain ⟨e_1, e_2, e_3, e_4, e_5, e_6⟩ := ob_of hvk c_57.1
              refine aw_aload_n d_M_stepSpecials_60 rfl ?_
              refine aw_get fl_M_8 d_M_stepSpecials_61 hm rfl ?_
              refine aw_aload_n d_M_stepSpecials_64 rfl ?_
              refine aw_get fl_M_20 d_M_stepSpecials_65 hm rfl ?_
              refine aw_iload_n d_M_stepSpecials_68 rfl ?_
              refine aw_iconst (v := nI 2) d_M_stepSpecials_69 (by decide) ?_
              refine aw_idiv (v := nI ((sp B k) / 2)) d_M_stepSpecials_70 (by decide) (pk_div (by omega) (by decide) (by decide)) ?_
              refine aw_iald (x := nI (oa B (ob (sp B k)))) d_M_stepSpecials_71 hst (vp_in_nI (by omega) (by omega)) (by rw [nI_clamp (by omega)]; rw [show (sp B k) / 2 = ob (sp B k) by omega]; exact X.2 _ (by omega) (by omega)) ?_
              have o_71 := X.at (ob (sp B k)) (by omega) (by omega)
              refine aw_callSi (mc2 := mc) (ms2 := ms) (r := nI (sz B (ob (sp B k)))) (As := [.ref ai, .int (nI (oa B (ob (sp B k))))]) (rest := []) (c_M_sizeAt hB_ hin (by omega) (oa B (ob (sp B k))) (by omega)) cs_M_54 d_M_stepSpecials_72 rfl rfl (Nat.le_of_ble_eq_true rfl) (by omega) (by omega) (by omega) (by omega) ?_
              have b_72 := sz_lt hB_ (ob (sp B k))
              refine aw_sipush (v := nI 256) d_M_stepSpecials_75 (by decide) ?_
              refine aw_icmp_ne (tgt := 85) d_M_stepSpecials_78 (by decide) (fun c_78 => ?_) (fun c_78 => ?_)
              · rw [w_eq (by omega) (by omega)] at c_78
                refine aw_iconst (v := nI 0) d_M_stepSpecials_85 (by decide) ?_
                refine aw_goto (tgt := 111) d_M_stepSpecials_86 (by decide) ?_
                refine aw_istore_n (L' := [some (.ref m), some (.int (nI k)), some (.int (nI (sp B k))), some (.int (nI 0)), none]) d_M_stepSpecials_111 (by decide) rfl rfl ?_
                refine aw_iload_n d_M_stepSpecials_112 rfl ?_
                refine aw_iconst (v := nI 2) d_M_stepSpecials_113 (by decide) ?_
                refine aw_icmp_ge (tgt := 121) d_M_stepSpecials_114 (by decide) (fun c_114 => ?_) (fun c_114 => absurd c_114 (by rw [nI_leI (by omega) (by omega)]; omega))
                try rw [nI_leI (by omega) (by omega)] at c_114
                refine aw_iconst (v := nI 2) d_M_stepSpecials_121 (by decide) ?_
                refine aw_istore (L' := [some (.ref m), some (.int (nI k)), some (.int (nI (sp B k))), some (.int (nI 0)), some (.int (nI 2))]) d_M_stepSpecials_122 (by decide) rfl rfl ?_
                refine aw_iload d_M_stepSpecials_124 rfl ?_
                refine aw_iload_n d_M_stepSpecials_126 rfl ?_
                refine aw_icmp_ge (tgt := 165) d_M_stepSpecials_127 (by decide) (fun c_127 => ?_) (fun c_127 => ?_)
                · rw [nI_leI (by omega) (by omega)] at c_127
                  refine aw_iload_n d_M_stepSpecials_165 rfl ?_
                  refine aw_if_ne (tgt := 176) d_M_stepSpecials_166 (by decide) (fun z => absurd (by decide) z) (fun _ => ?_)
                  refine aw_bipush (v := nI 8) d_M_stepSpecials_169 (by decide) ?_
                  refine aw_iconst (v := nI 4) d_M_stepSpecials_171 (by decide) ?_
                  refine aw_iload_n d_M_stepSpecials_172 rfl ?_
                  refine aw_imul (v := nI (4 * k)) d_M_stepSpecials_173 (pk_mul _ _) ?_
                  refine aw_iadd (v := nI (8 + 4 * k)) d_M_stepSpecials_174 (nI_add _ _) ?_
                  exact aw_iret d_M_stepSpecials_175 rfl rfl (rt_i (by rw [← hp, ffst_n]; rfl; intro z; first | exact c_57 (by have z3 := (z.2.2.1 (by omega)).1; rw [show k = 13 by omega]; exact z3) | exact c_78 (by have z3 := (z.2.2.1 (by omega)).2; rw [show k = 13 by omega]; exact z3) | exact c_95 (by have z4 := (z.2.2.2 (by omega)).1; rw [show k = 14 by omega]; exact z4) | exact absurd c_103 (by have z4 := (z.2.2.2 (by omega)).2; rw [show k = 14 by omega]; exact z4)))
                · rw [nI_leI (by omega) (by omega)] at c_127
                  refine aw_iload_n d_M_stepSpecials_130 rfl ?_
                  refine aw_bipush (v := nI 13) d_M_stepSpecials_131 (by decide) ?_
                  refine aw_icmp_ge (tgt := 165) d_M_stepSpecials_133 (by decide) (fun c_133 => ?_) (fun c_133 => absurd c_133 (by rw [nI_leI (by omega) (by omega)]; omega))
                  try rw [nI_leI (by omega) (by omega)] at c_133
                  refine aw_iload_n d_M_stepSpecials_165 rfl ?_
                  refine aw_if_ne (tgt := 176) d_M_stepSpecials_166 (by decide) (fun z => absurd (by decide) z) (fun _ => ?_)
                  refine aw_bipush (v := nI 8) d_M_stepSpecials_169 (by decide) ?_
                  refine aw_iconst (v := nI 4) d_M_stepSpecials_171 (by decide) ?_
                  refine aw_iload_n d_M_stepSpecials_172 rfl ?_
                  refine aw_imul (v := nI (4 * k)) d_M_stepSpecials_173 (pk_mul _ _) ?_
                  refine aw_iadd (v := nI (8 + 4 * k)) d_M_stepSpecials_174 (nI_add _ _) ?_
                  exact aw_iret d_M_stepSpecials_175 rfl rfl (rt_i (by rw [← hp, ffst_n]; rfl; intro z; first | exact c_57 (by have z3 := (z.2.2.1 (by omega)).1; rw [show k = 13 by omega]; exact z3) | exact c_78 (by have z3 := (z.2.2.1 (by omega)).2; rw [show k = 13 by omega]; exact z3) | exact c_95 (by have z4 := (z.2.2.2 (by omega)).1; rw [show k = 14 by omega]; exact z4) | exact absurd c_103 (by have z4 := (z.2.2.2 (by omega)).2; rw [show k = 14 by omega]; exact z4)))
              · rw [w_eq (by omega) (by omega)] at c_78
                refine aw_iconst (v := nI 1) d_M_stepSpecials_81 (by decide) ?_
                refine aw_goto (tgt := 111) d_M_stepSpecials_82 (by decide) ?_
                refine aw_istore_n (L' := [some (.ref m), some (.int (nI k)), some (.int (nI (sp B k))), some (.int (nI 1)), none]) d_M_stepSpecials_111 (by decide) rfl rfl ?_
                refine aw_iload_n d_M_stepSpecials_112 rfl ?_
                refine aw_iconst (v := nI 2) d_M_stepSpecials_113 (by decide) ?_
                refine aw_icmp_ge (tgt := 121) d_M_stepSpecials_114 (by decide) (fun c_114 => ?_) (fun c_114 => absurd c_114 (by rw [nI_leI (by omega) (by omega)]; omega))
                try rw [nI_leI (by omega) (by omega)] at c_114
                refine aw_iconst (v := nI 2) d_M_stepSpecials_121 (by decide) ?_
                refine aw_istore (L' := [some (.ref m), some (.int (nI k)), some (.int (nI (sp B k))), some (.int (nI 1)), some (.int (nI 2))]) d_M_stepSpecials_122 (by decide) rfl rfl ?_
                refine aw_iload d_M_stepSpecials_124 rfl ?_
                refine aw_iload_n d_M_stepSpecials_126 rfl ?_
                refine aw_icmp_ge (tgt := 165) d_M_stepSpecials_127 (by decide) (fun c_127 => ?_) (fun c_127 => ?_)
                · rw [nI_leI (by omega) (by omega)] at c_127
                  refine aw_iload_n d_M_stepSpecials_165 rfl ?_
                  refine aw_if_ne (tgt := 176) d_M_stepSpecials_166 (by decide) (fun _ => ?_) (fun z => absurd z (by decide))
                  refine aw_iinc (v := nI (k + 1)) (L' := [some (.ref m), some (.int (nI (k + 1))), some (.int (nI (sp B k))), some (.int (nI 1)), some (.int (nI 2))]) d_M_stepSpecials_176 rfl (nI_add k 1) (by decide) rfl rfl ?_
                  refine aw_goto (tgt := 2) d_M_stepSpecials_179 (by decide) ?_
                  refine aw_loc (L' := [some (.ref m), some (.int (nI (k + 1))), none, none, none]) (by intro i v hv; match i, hv with | 0, hv => exact hv | 1, hv => exact hv | 2, hv => cases hv | 3, hv => cases hv | 4, hv => cases hv | i + 5, hv => cases hv) ?_
                  exact ih q (k + 1) (by omega) (by rw [← hp, ffst_s]; refine ⟨fun z => by omega, fun z y => by omega, fun z => ?_, fun z => ?_⟩ <;> first | (subst z; exact ⟨c_57, c_78⟩) | (subst z; exact ⟨c_95, c_103⟩) | (exfalso; omega)) (by omega)
                · rw [nI_leI (by omega) (by omega)] at c_127
                  refine aw_iload_n d_M_stepSpecials_130 rfl ?_
                  refine aw_bipush (v := nI 13) d_M_stepSpecials_131 (by decide) ?_
                  refine aw_icmp_ge (tgt := 165) d_M_stepSpecials_133 (by decide) (fun c_133 => ?_) (fun c_133 => absurd c_133 (by rw [nI_leI (by omega) (by omega)]; omega))
                  try rw [nI_leI (by omega) (by omega)] at c_133
                  refine aw_iload_n d_M_stepSpecials_165 rfl ?_
                  refine aw_if_ne (tgt := 176) d_M_stepSpecials_166 (by decide) (fun _ => ?_) (fun z => absurd z (by decide))
                  refine aw_iinc (v := nI (k + 1)) (L' := [some (.ref m), some (.int (nI (k + 1))), some (.int (nI (sp B k))), some (.int (nI 1)), some (.int (nI 2))]) d_M_stepSpecials_176 rfl (nI_add k 1) (by decide) rfl rfl ?_
                  refine aw_goto (tgt := 2) d_M_stepSpecials_179 (by decide) ?_
                  refine aw_loc (L' := [some (.ref m), some (.int (nI (k + 1))), none, none, none]) (by intro i v hv; match i, hv with | 0, hv => exact hv | 1, hv => exact hv | 2, hv => cases hv | 3, hv => cases hv | 4, hv => cases hv | i + 5, hv => cases hv) ?_
                  exact ih q (k + 1) (by omega) (by rw [← hp, ffst_s]; refine ⟨fun z => by omega, fun z y => by omega, fun z => ?_, fun z => ?_⟩ <;> first | (subst z; exact ⟨c_57, c_78⟩) | (subst z; exact ⟨c_95, c_103⟩) | (exfalso; omega)) (by omega)
        · rw [nI_leI (by omega) (by omega)] at c_32
          refine aw_aload_n d_M_stepSpecials_35 rfl ?_
          refine aw_iload_n d_M_stepSpecials_36 rfl ?_
          refine aw_callVi (mc2 := mc) (ms2 := ms) (r := bP (CL B (sp B k))) (As := [.int (nI (sp B k))]) (rest := []) (c_M_isClass hB_ hm hin hst X (sp B k) (by omega) hvk) cv_M_112 d_M_stepSpecials_37 hm rfl rfl rfl (Nat.le_of_ble_eq_true rfl) (by omega) (by omega) (by omega) (by omega) ?_
          refine aw_goto (tgt := 111) d_M_stepSpecials_40 (by decide) ?_
          refine aw_istore_n (L' := [some (.ref m), some (.int (nI k)), some (.int (nI (sp B k))), some (.int (bP (CL B (sp B k)))), none]) d_M_stepSpecials_111 (by decide) rfl rfl ?_
          refine aw_iload_n d_M_stepSpecials_112 rfl ?_
          refine aw_iconst (v := nI 2) d_M_stepSpecials_113 (by decide) ?_
          refine aw_icmp_ge (tgt := 121) d_M_stepSpecials_114 (by decide) (fun c_114 => ?_) (fun c_114 => ?_)
          · rw [nI_leI (by omega) (by omega)] at c_114
            refine aw_iconst (v := nI 2) d_M_stepSpecials_121 (by decide) ?_
            refine aw_istore (L' := [some (.ref m), some (.int (nI k)), some (.int (nI (sp B k))), some (.int (bP (CL B (sp B k)))), some (.int (nI 2))]) d_M_stepSpecials_122 (by decide) rfl rfl ?_
            refine lp_M_stepSpecialsJ (by omega) (by omega) hB_ hm hin hst X k (by omega) (k + 1) 2 _ (CL B (sp B k)) rfl (by omega) (fun r2 Q2 e2 i2 => ?_) (by omega)
            refine aw_iload_n d_M_stepSpecials_165 rfl ?_
            refine aw_if_ne (tgt := 176) d_M_stepSpecials_166 (by decide) (fun c_166 => ?_) (fun c_166 => ?_)
            · rw [e2, bP_eq0, Classical.not_not] at c_166
              refine aw_iinc (v := nI (k + 1)) (L' := [some (.ref m), some (.int (nI (k + 1))), some (.int (nI (sp B k))), some (.int r2), none]) d_M_stepSpecials_176 rfl (nI_add k 1) (by decide) rfl rfl ?_
              refine aw_goto (tgt := 2) d_M_stepSpecials_179 (by decide) ?_
              refine aw_loc (L' := [some (.ref m), some (.int (nI (k + 1))), none, none, none]) (by intro i v hv; match i, hv with | 0, hv => exact hv | 1, hv => exact hv | 2, hv => cases hv | 3, hv => cases hv | 4, hv => cases hv | i + 5, hv => cases hv) ?_
              exact ih q (k + 1) (by omega) (by rw [← hp, ffst_s]; have i3 := i2.mp c_166; exact ⟨fun z => ⟨by first | exact i3.1 | omega, fun i a => i3.2 i (by omega) a⟩, fun z y => ⟨by first | exact i3.1 | omega, fun i a b => i3.2 i (by omega) b⟩, fun z => by omega, fun z => by omega⟩) (by omega)
            · rw [e2, bP_eq0] at c_166
              refine aw_bipush (v := nI 8) d_M_stepSpecials_169 (by decide) ?_
              refine aw_iconst (v := nI 4) d_M_stepSpecials_171 (by decide) ?_
              refine aw_iload_n d_M_stepSpecials_172 rfl ?_
              refine aw_imul (v := nI (4 * k)) d_M_stepSpecials_173 (pk_mul _ _) ?_
              refine aw_iadd (v := nI (8 + 4 * k)) d_M_stepSpecials_174 (nI_add _ _) ?_
              exact aw_iret d_M_stepSpecials_175 rfl rfl (rt_i (by rw [← hp, ffst_n]; rfl; exact fun z => c_166 (i2.mpr (by first | exact ⟨(z.1 (by omega)).1, fun i a b => (z.1 (by omega)).2 i b⟩ | exact ⟨(z.2.1 (by omega) (by omega)).1, fun i a b => (z.2.1 (by omega) (by omega)).2 i (by omega) b⟩))))
          · rw [nI_leI (by omega) (by omega)] at c_114
            refine aw_iconst (v := nI 0) d_M_stepSpecials_117 (by decide) ?_
            refine aw_goto (tgt := 122) d_M_stepSpecials_118 (by decide) ?_
            refine aw_istore (L' := [some (.ref m), some (.int (nI k)), some (.int (nI (sp B k))), some (.int (bP (CL B (sp B k)))), some (.int (nI 0))]) d_M_stepSpecials_122 (by decide) rfl rfl ?_
            refine lp_M_stepSpecialsJ (by omega) (by omega) hB_ hm hin hst X k (by omega) (k + 1) 0 _ (CL B (sp B k)) rfl (by omega) (fun r2 Q2 e2 i2 => ?_) (by omega)
            refine aw_iload_n d_M_stepSpecials_165 rfl ?_
            refine aw_if_ne (tgt := 176) d_M_stepSpecials_166 (by decide) (fun c_166 => ?_) (fun c_166 => ?_)
            · rw [e2, bP_eq0, Classical.not_not] at c_166
              refine aw_iinc (v := nI (k + 1)) (L' := [some (.ref m), some (.int (nI (k + 1))), some (.int (nI (sp B k))), some (.int r2), none]) d_M_stepSpecials_176 rfl (nI_add k 1) (by decide) rfl rfl ?_
              refine aw_goto (tgt := 2) d_M_stepSpecials_179 (by decide) ?_
              refine aw_loc (L' := [some (.ref m), some (.int (nI (k + 1))), none, none, none]) (by intro i v hv; match i, hv with | 0, hv => exact hv | 1, hv => exact hv | 2, hv => cases hv | 3, hv => cases hv | 4, hv => cases hv | i + 5, hv => cases hv) ?_
              exact ih q (k + 1) (by omega) (by rw [← hp, ffst_s]; have i3 := i2.mp c_166; exact ⟨fun z => ⟨by first | exact i3.1 | omega, fun i a => i3.2 i (by omega) a⟩, fun z y => ⟨by first | exact i3.1 | omega, fun i a b => i3.2 i (by omega) b⟩, fun z => by omega, fun z => by omega⟩) (by omega)
            · rw [e2, bP_eq0] at c_166
              refine aw_bipush (v := nI 8) d_M_stepSpecials_169 (by decide) ?_
              refine aw_iconst (v := nI 4) d_M_stepSpecials_171 (by decide) ?_
              refine aw_iload_n d_M_stepSpecials_172 rfl ?_
              refine aw_imul (v := nI (4 * k)) d_M_stepSpecials_173 (pk_mul _ _) ?_
              refine aw_iadd (v := nI (8 + 4 * k)) d_M_stepSpecials_174 (nI_add _ _) ?_
              exact aw_iret d_M_stepSpecials_175 rfl rfl (rt_i (by rw [← hp, ffst_n]; rfl; exact fun z => c_166 (i2.mpr (by first | exact ⟨(z.1 (by omega)).1, fun i a b => (z.1 (by omega)).2 i b⟩ | exact ⟨(z.2.1 (by omega) (by omega)).1, fun i a b => (z.2.1 (by omega) (by omega)).2 i (by omega) b⟩))))
      · rw [nI_leI (by omega) (by omega)] at c_19
        refine aw_iload_n d_M_stepSpecials_22 rfl ?_
        refine aw_callSi (mc2 := mc) (ms2 := ms) (r := bP (ob (sp B k) ≠ 0)) (As := [.int (nI (sp B k))]) (rest := []) (c_M_isObject (sp B k) (by omega) (vl_e hvk X.n.2)) cs_M_57 d_M_stepSpecials_23 rfl rfl (Nat.le_of_ble_eq_true rfl) (by omega) (by omega) (by omega) (by omega) ?_
        refine aw_goto (tgt := 111) d_M_stepSpecials_26 (by decide) ?_
        refine aw_istore_n (L' := [some (.ref m), some (.int (nI k)), some (.int (nI (sp B k))), some (.int (bP (ob (sp B k) ≠ 0))), none]) d_M_stepSpecials_111 (by decide) rfl rfl ?_
        refine aw_iload_n d_M_stepSpecials_112 rfl ?_
        refine aw_iconst (v := nI 2) d_M_stepSpecials_113 (by decide) ?_
        refine aw_icmp_ge (tgt := 121) d_M_stepSpecials_114 (by decide) (fun c_114 => ?_) (fun c_114 => ?_)
        · rw [nI_leI (by omega) (by omega)] at c_114
          refine aw_iconst (v := nI 2) d_M_stepSpecials_121 (by decide) ?_
          refine aw_istore (L' := [some (.ref m), some (.int (nI k)), some (.int (nI (sp B k))), some (.int (bP (ob (sp B k) ≠ 0))), some (.int (nI 2))]) d_M_stepSpecials_122 (by decide) rfl rfl ?_
          refine lp_M_stepSpecialsJ (by omega) (by omega) hB_ hm hin hst X k (by omega) (k + 1) 2 _ (ob (sp B k) ≠ 0) rfl (by omega) (fun r2 Q2 e2 i2 => ?_) (by omega)
          refine aw_iload_n d_M_stepSpecials_165 rfl ?_
          refine aw_if_ne (tgt := 176) d_M_stepSpecials_166 (by decide) (fun c_166 => ?_) (fun c_166 => ?_)
          · rw [e2, bP_eq0, Classical.not_not] at c_166
            refine aw_iinc (v := nI (k + 1)) (L' := [some (.ref m), some (.int (nI (k + 1))), some (.int (nI (sp B k))), some (.int r2), none]) d_M_stepSpecials_176 rfl (nI_add k 1) (by decide) rfl rfl ?_
            refine aw_goto (tgt := 2) d_M_stepSpecials_179 (by decide) ?_
            refine aw_loc (L' := [some (.ref m), some (.int (nI (k + 1))), none, none, none]) (by intro i v hv; match i, hv with | 0, hv => exact hv | 1, hv => exact hv | 2, hv => cases hv | 3, hv => cases hv | 4, hv => cases hv | i + 5, hv => cases hv) ?_
            exact ih q (k + 1) (by omega) (by rw [← hp, ffst_s]; have i3 := i2.mp c_166; exact ⟨fun z => ⟨by first | exact i3.1 | omega, fun i a => i3.2 i (by omega) a⟩, fun z y => ⟨by first | exact i3.1 | omega, fun i a b => i3.2 i (by omega) b⟩, fun z => by omega, fun z => by omega⟩) (by omega)
          · rw [e2, bP_eq0] at c_166
            refine aw_bipush (v := nI 8) d_M_stepSpecials_169 (by decide) ?_
            refine aw_iconst (v := nI 4) d_M_stepSpecials_171 (by decide) ?_
            refine aw_iload_n d_M_stepSpecials_172 rfl ?_
            refine aw_imul (v := nI (4 * k)) d_M_stepSpecials_173 (pk_mul _ _) ?_
            refine aw_iadd (v := nI (8 + 4 * k)) d_M_stepSpecials_174 (nI_add _ _) ?_
            exact aw_iret d_M_stepSpecials_175 rfl rfl (rt_i (by rw [← hp, ffst_n]; rfl; exact fun z => c_166 (i2.mpr (by first | exact ⟨(z.1 (by omega)).1, fun i a b => (z.1 (by omega)).2 i b⟩ | exact ⟨(z.2.1 (by omega) (by omega)).1, fun i a b => (z.2.1 (by omega) (by omega)).2 i (by omega) b⟩))))
        · rw [nI_leI (by omega) (by omega)] at c_114
          refine aw_iconst (v := nI 0) d_M_stepSpecials_117 (by decide) ?_
          refine aw_goto (tgt := 122) d_M_stepSpecials_118 (by decide) ?_
          refine aw_istore (L' := [some (.ref m), some (.int (nI k)), some (.int (nI (sp B k))), some (.int (bP (ob (sp B k) ≠ 0))), some (.int (nI 0))]) d_M_stepSpecials_122 (by decide) rfl rfl ?_
          refine lp_M_stepSpecialsJ (by omega) (by omega) hB_ hm hin hst X k (by omega) (k + 1) 0 _ (ob (sp B k) ≠ 0) rfl (by omega) (fun r2 Q2 e2 i2 => ?_) (by omega)
          refine aw_iload_n d_M_stepSpecials_165 rfl ?_
          refine aw_if_ne (tgt := 176) d_M_stepSpecials_166 (by decide) (fun c_166 => ?_) (fun c_166 => ?_)
          · rw [e2, bP_eq0, Classical.not_not] at c_166
            refine aw_iinc (v := nI (k + 1)) (L' := [some (.ref m), some (.int (nI (k + 1))), some (.int (nI (sp B k))), some (.int r2), none]) d_M_stepSpecials_176 rfl (nI_add k 1) (by decide) rfl rfl ?_
            refine aw_goto (tgt := 2) d_M_stepSpecials_179 (by decide) ?_
            refine aw_loc (L' := [some (.ref m), some (.int (nI (k + 1))), none, none, none]) (by intro i v hv; match i, hv with | 0, hv => exact hv | 1, hv => exact hv | 2, hv => cases hv | 3, hv => cases hv | 4, hv => cases hv | i + 5, hv => cases hv) ?_
            exact ih q (k + 1) (by omega) (by rw [← hp, ffst_s]; have i3 := i2.mp c_166; exact ⟨fun z => ⟨by first | exact i3.1 | omega, fun i a => i3.2 i (by omega) a⟩, fun z y => ⟨by first | exact i3.1 | omega, fun i a b => i3.2 i (by omega) b⟩, fun z => by omega, fun z => by omega⟩) (by omega)
          · rw [e2, bP_eq0] at c_166
            refine aw_bipush (v := nI 8) d_M_stepSpecials_169 (by decide) ?_
            refine aw_iconst (v := nI 4) d_M_stepSpecials_171 (by decide) ?_
            refine aw_iload_n d_M_stepSpecials_172 rfl ?_
            refine aw_imul (v := nI (4 * k)) d_M_stepSpecials_173 (pk_mul _ _) ?_
            refine aw_iadd (v := nI (8 + 4 * k)) d_M_stepSpecials_174 (nI_add _ _) ?_
            exact aw_iret d_M_stepSpecials_175 rfl rfl (rt_i (by rw [← hp, ffst_n]; rfl; exact fun z => c_166 (i2.mpr (by first | exact ⟨(z.1 (by omega)).1, fun i a b => (z.1 (by omega)).2 i b⟩ | exact ⟨(z.2.1 (by omega) (by omega)).1, fun i a b => (z.2.1 (by omega) (by omega)).2 i (by omega) b⟩))))

set_option maxHeartbeats 4000000 in
theorem c_M_stepSpecials {tb : Nat → Nat} {h : AH} {m ai am ak as_ aks ar an ab cn ln kl mn c : Nat} {cd : Int32} {B : Nat → Nat} {fs : Nat → Int32} (hB_ : ∀ i, B i < 256) (hm : h m = some (mO cd ai cn am ln ak kl as_ aks ar an ab mn)) (hin : h ai = some (.inl (1, 65536, .inl (bsf B)))) (hst : h as_ = some (.inl (0, 8192, .inl fs))) (X : VX B c fs)  : AM tb y_M_stepSpecials b_M_stepSpecials 5 (some .int) 4 89 [.ref m] h 0 0 (av_Pi (pI (plP B)) h) := by
  have hn := X.n
  have hnd : nn B = bh B 6 := rfl
  refine am_of (ini := false) [some (.ref m), none, none, none, none] (by decide) (fun z => by cases z) (Nat.le_of_ble_eq_true rfl) rfl ?_
  refine aw_iconst (v := nI 0) d_M_stepSpecials_0 (by decide) ?_
  refine aw_istore_n (L' := [some (.ref m), some (.int (nI 0)), none, none, none]) d_M_stepSpecials_1 (by decide) rfl rfl ?_
  exact lp_M_stepSpecials (by decide) (by decide) hB_ hm hin hst X 16 15 0 (by omega) rfl (by omega)
