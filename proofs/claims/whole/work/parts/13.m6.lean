theorem bP_is1 {P : Prop} : bP P = nI 1 ↔ P := by
  by_cases h : P
  · rw [bP_t h]; exact ⟨fun _ => h, fun _ => rfl⟩
  · rw [bP_f h]; exact ⟨fun q => absurd q (by decide), fun q => absurd q h⟩
theorem bP_is0 {P : Prop} : bP P = nI 0 ↔ ¬ P := bP_eq0
theorem wd_le {B : Nat → Nat} (hB : ∀ i, B i < 256) (k : Nat) : wd B k ≤ 65539 := by
  have h := sz_lt hB k
  unfold wd
  split <;> omega
theorem wds_le {B : Nat → Nat} (hB : ∀ i, B i < 256) : ∀ k, wds B k ≤ k * 65539
  | 0 => by simp [wds]
  | k + 1 => by
    have h1 := wds_le hB k
    have h2 := wd_le hB (k + 1)
    rw [wds]
    omega
theorem one_shl : ∀ b, b < 31 → nI 1 <<< (bs b &&& 31) = nI (2 ^ b) := by decide +kernel

set_option maxHeartbeats 4000000 in
theorem c_M_isRightObject {tb : Nat → Nat} {h : AH} {m ai am ak as_ aks ar an ab cn ln kl mn c : Nat} {cd : Int32} {B : Nat → Nat} {fs : Nat → Int32} (hB_ : ∀ i, B i < 256) (hm : h m = some (mO cd ai cn am ln ak kl as_ aks ar an ab mn)) (hin : h ai = some (.inl (1, 65536, .inl (bsf B)))) (hst : h as_ = some (.inl (0, 8192, .inl fs))) (X : VX B c fs) (k : Nat) (h1 : 1 ≤ k) (h2 : k ≤ nn B) : AM tb y_M_isRightObject b_M_isRightObject 7 (some .boolean) 5 117 [.ref m, .int (nI k)] h 0 0 (av_Pi (bP (RO B k)) h) := by
  have hn := X.n
  have hnd : nn B = bh B 6 := rfl
  have hk2 : ob (2 * k) = k := by rw [ob_e (by omega)]; omega
  have hcv := X.cv h1 h2
  refine am_of (ini := false) [some (.ref m), some (.int (nI k)), none, none, none, none, none] (by decide) (fun z => by cases z) (Nat.le_of_ble_eq_true rfl) rfl ?_
  refine aw_aload_n d_M_isRightObject_0 rfl ?_
  refine aw_get fl_M_8 d_M_isRightObject_1 hm rfl ?_
  refine aw_aload_n d_M_isRightObject_4 rfl ?_
  refine aw_get fl_M_20 d_M_isRightObject_5 hm rfl ?_
  refine aw_iload_n d_M_isRightObject_8 rfl ?_
  refine aw_iald (x := nI (oa B k)) d_M_isRightObject_9 hst (vp_in_nI (by omega) (by omega)) (by rw [nI_clamp (by omega)]; rw [show k = k by omega]; exact X.2 _ (by omega) (by omega)) ?_
  have o_9 := X.at k (by omega) (by omega)
  refine aw_callSi (mc2 := 0) (ms2 := 0) (r := nI (cl B k)) (As := [.ref ai, .int (nI (oa B k))]) (rest := []) (c_M_word hB_ hin (by omega) (oa B k) (by omega)) cs_M_47 d_M_isRightObject_10 rfl rfl (Nat.le_of_ble_eq_true rfl) (by decide) (by decide) (by omega) (by omega) ?_
  have b_10 := cl_lt hB_ k
  refine aw_istore_n (L' := [some (.ref m), some (.int (nI k)), some (.int (nI (cl B k))), none, none, none, none]) d_M_isRightObject_13 (by decide) rfl rfl ?_
  refine aw_aload_n d_M_isRightObject_14 rfl ?_
  refine aw_iload_n d_M_isRightObject_15 rfl ?_
  refine aw_callVi (mc2 := 0) (ms2 := 0) (r := bP (CL B (cl B k))) (As := [.int (nI (cl B k))]) (rest := []) (c_M_isClass hB_ hm hin hst X (cl B k) (by omega) (X.cv h1 h2)) cv_M_112 d_M_isRightObject_16 hm rfl rfl rfl (Nat.le_of_ble_eq_true rfl) (by decide) (by decide) (by omega) (by omega) ?_
  refine aw_if_ne (tgt := 24) d_M_isRightObject_19 (by decide) (fun c_19 => ?_) (fun c_19 => ?_)
  · rw [bP_eq0, Classical.not_not] at c_19
    have s_1 := c_19.2.2.1
    have s_2 := c_19.2.2.2.1
    refine aw_aload_n d_M_isRightObject_24 rfl ?_
    refine aw_iload_n d_M_isRightObject_25 rfl ?_
    refine aw_iconst (v := nI 2) d_M_isRightObject_26 (by decide) ?_
    refine aw_callVi (mc2 := 0) (ms2 := 0) (r := nI (fd B (ob (cl B k)) 2)) (As := [.int (nI (cl B k)), .int (nI 2)]) (rest := []) (c_M_fieldOf hB_ hm hin hst X (cl B k) (by omega) (X.cv h1 h2) 2 (c_19.1.1) (c_19.1.2.1) (by have q_ := c_19.1.2.2; omega)) cv_M_72 d_M_isRightObject_27 hm rfl rfl rfl (Nat.le_of_ble_eq_true rfl) (by decide) (by decide) (by omega) (by omega) ?_
    have b_27 := fd_lt hB_ (ob (cl B k)) 2
    refine aw_iconst (v := nI 1) d_M_isRightObject_30 (by decide) ?_
    refine aw_ishr (v := nI ((fd B (ob (cl B k)) 2) / 2)) d_M_isRightObject_31 (pk_shrN (by omega) _ 1 (by decide)) ?_
    refine aw_istore_n (L' := [some (.ref m), some (.int (nI k)), some (.int (nI (cl B k))), some (.int (nI ((fd B (ob (cl B k)) 2) / 2))), none, none, none]) d_M_isRightObject_32 (by decide) rfl rfl ?_
    refine aw_aload_n d_M_isRightObject_33 rfl ?_
    refine aw_get fl_M_8 d_M_isRightObject_34 hm rfl ?_
    refine aw_aload_n d_M_isRightObject_37 rfl ?_
    refine aw_get fl_M_20 d_M_isRightObject_38 hm rfl ?_
    refine aw_iload_n d_M_isRightObject_41 rfl ?_
    refine aw_iald (x := nI (oa B k)) d_M_isRightObject_42 hst (vp_in_nI (by omega) (by omega)) (by rw [nI_clamp (by omega)]; rw [show k = k by omega]; exact X.2 _ (by omega) (by omega)) ?_
    have o_42 := X.at k (by omega) (by omega)
    refine aw_callSi (mc2 := 0) (ms2 := 0) (r := nI (sz B k)) (As := [.ref ai, .int (nI (oa B k))]) (rest := []) (c_M_sizeAt hB_ hin (by omega) (oa B k) (by omega)) cs_M_54 d_M_isRightObject_43 rfl rfl (Nat.le_of_ble_eq_true rfl) (by decide) (by decide) (by omega) (by omega) ?_
    have b_43 := sz_lt hB_ k
    refine aw_istore (L' := [some (.ref m), some (.int (nI k)), some (.int (nI (cl B k))), some (.int (nI ((fd B (ob (cl B k)) 2) / 2))), some (.int (nI (sz B k))), none, none]) d_M_isRightObject_46 (by decide) rfl rfl ?_
    refine aw_aload_n d_M_isRightObject_48 rfl ?_
    refine aw_get fl_M_8 d_M_isRightObject_49 hm rfl ?_
    refine aw_aload_n d_M_isRightObject_52 rfl ?_
    refine aw_get fl_M_20 d_M_isRightObject_53 hm rfl ?_
    refine aw_iload_n d_M_isRightObject_56 rfl ?_
    refine aw_iald (x := nI (oa B k)) d_M_isRightObject_57 hst (vp_in_nI (by omega) (by omega)) (by rw [nI_clamp (by omega)]; rw [show k = k by omega]; exact X.2 _ (by omega) (by omega)) ?_
    have o_57 := X.at k (by omega) (by omega)
    refine aw_callSi (mc2 := 0) (ms2 := 0) (r := bP (kd B k = 1)) (As := [.ref ai, .int (nI (oa B k))]) (rest := []) (c_M_isOfBytes hB_ hin (by omega) (oa B k) (by omega)) cs_M_50 d_M_isRightObject_58 rfl rfl (Nat.le_of_ble_eq_true rfl) (by decide) (by decide) (by omega) (by omega) ?_
    refine aw_iload_n d_M_isRightObject_61 rfl ?_
    refine aw_sipush (v := nI 2048) d_M_isRightObject_62 (by decide) ?_
    refine aw_icmp_lt (tgt := 72) d_M_isRightObject_65 (by decide) (fun c_65 => ?_) (fun c_65 => ?_)
    · rw [nI_ltI (by omega) (by omega)] at c_65
      refine aw_iconst (v := nI 0) d_M_isRightObject_72 (by decide) ?_
      refine aw_icmp_eq (tgt := 78) d_M_isRightObject_73 (by decide) (fun c_73 => ?_) (fun c_73 => ?_)
      · rw [bP_is0] at c_73
        refine aw_iload_n d_M_isRightObject_78 rfl ?_
        refine aw_sipush (v := nI 255) d_M_isRightObject_79 (by decide) ?_
        refine aw_iand (v := nI (((fd B (ob (cl B k)) 2) / 2) % 256)) d_M_isRightObject_82 (and_255 _) ?_
        refine aw_istore (L' := [some (.ref m), some (.int (nI k)), some (.int (nI (cl B k))), some (.int (nI ((fd B (ob (cl B k)) 2) / 2))), some (.int (nI (sz B k))), some (.int (nI (((fd B (ob (cl B k)) 2) / 2) % 256))), none]) d_M_isRightObject_83 (by decide) rfl rfl ?_
        refine aw_iload_n d_M_isRightObject_85 rfl ?_
        refine aw_sipush (v := nI 2048) d_M_isRightObject_86 (by decide) ?_
        refine aw_icmp_ge (tgt := 117) d_M_isRightObject_89 (by decide) (fun c_89 => ?_) (fun c_89 => ?_)
        · rw [nI_leI (by omega) (by omega)] at c_89
          refine aw_iconst (v := nI 1) d_M_isRightObject_117 (by decide) ?_
          refine aw_goto (tgt := 122) d_M_isRightObject_118 (by decide) ?_
          refine aw_istore (L' := [some (.ref m), some (.int (nI k)), some (.int (nI (cl B k))), some (.int (nI ((fd B (ob (cl B k)) 2) / 2))), some (.int (nI (sz B k))), some (.int (nI (((fd B (ob (cl B k)) 2) / 2) % 256))), some (.int (nI 1))]) d_M_isRightObject_122 (by decide) rfl rfl ?_
          refine aw_iload d_M_isRightObject_124 rfl ?_
          refine aw_if_eq (tgt := 179) d_M_isRightObject_126 (by decide) (fun z => absurd z (by decide)) (fun _ => ?_)
          refine aw_iload_n d_M_isRightObject_129 rfl ?_
          refine aw_aload_n d_M_isRightObject_130 rfl ?_
          refine aw_get fl_M_8 d_M_isRightObject_131 hm rfl ?_
          refine aw_bipush (v := nI 7) d_M_isRightObject_134 (by decide) ?_
          refine aw_callSi (mc2 := 0) (ms2 := 0) (r := nI (sp B 7)) (As := [.ref ai, .int (nI 7)]) (rest := [.int (nI (cl B k))]) (c_M_special_aBI hB_ hin (by omega) 7 (by omega)) cs_M_65 d_M_isRightObject_136 rfl rfl (Nat.le_of_ble_eq_true rfl) (by decide) (by decide) (by omega) (by omega) ?_
          have b_136 : sp B 7 < 4294967296 := bw_lt hB_ _
          refine aw_icmp_ne (tgt := 152) d_M_isRightObject_139 (by decide) (fun c_139 => ?_) (fun c_139 => ?_)
          · rw [w_eq (by omega) (by omega)] at c_139
            refine aw_iload_n d_M_isRightObject_152 rfl ?_
            refine aw_aload_n d_M_isRightObject_153 rfl ?_
            refine aw_get fl_M_8 d_M_isRightObject_154 hm rfl ?_
            refine aw_bipush (v := nI 8) d_M_isRightObject_157 (by decide) ?_
            refine aw_callSi (mc2 := 0) (ms2 := 0) (r := nI (sp B 8)) (As := [.ref ai, .int (nI 8)]) (rest := [.int (nI (cl B k))]) (c_M_special_aBI hB_ hin (by omega) 8 (by omega)) cs_M_65 d_M_isRightObject_159 rfl rfl (Nat.le_of_ble_eq_true rfl) (by decide) (by decide) (by omega) (by omega) ?_
            have b_159 : sp B 8 < 4294967296 := bw_lt hB_ _
            refine aw_icmp_ne (tgt := 175) d_M_isRightObject_162 (by decide) (fun c_162 => ?_) (fun c_162 => ?_)
            · rw [w_eq (by omega) (by omega)] at c_162
              refine aw_iconst (v := nI 1) d_M_isRightObject_175 (by decide) ?_
              refine aw_goto (tgt := 180) d_M_isRightObject_176 (by decide) ?_
              exact aw_iret d_M_isRightObject_180 rfl nar1 (rt_t (by refine ⟨c_19, ?_, ?_, ?_, ?_⟩ <;> (try unfold shF) <;> grind))
            · rw [w_eq (by omega) (by omega)] at c_162
              refine aw_aload_n d_M_isRightObject_165 rfl ?_
              refine aw_iconst (v := nI 2) d_M_isRightObject_166 (by decide) ?_
              refine aw_iload_n d_M_isRightObject_167 rfl ?_
              refine aw_imul (v := nI (2 * k)) d_M_isRightObject_168 (pk_mul _ _) ?_
              refine aw_callVi (mc2 := 0) (ms2 := 0) (r := bP (BC B (ob (2 * k)))) (As := [.int (nI (2 * k))]) (rest := []) (c_M_isBlockContext hB_ hm hin hst X (2 * k) (by omega) (Or.inr (by omega)) (ob_ne.mpr ⟨by omega, by omega⟩)) cv_M_118 d_M_isRightObject_169 hm rfl rfl rfl (Nat.le_of_ble_eq_true rfl) (by decide) (by decide) (by omega) (by omega) ?_
              refine aw_if_eq (tgt := 179) d_M_isRightObject_172 (by decide) (fun c_172 => ?_) (fun c_172 => ?_)
              · rw [bP_eq0] at c_172
                rw [hk2] at c_172
                refine aw_iconst (v := nI 0) d_M_isRightObject_179 (by decide) ?_
                exact aw_iret d_M_isRightObject_180 rfl nar0 (rt_f (by first | exact fun q => c_19 q.1 | (unfold RO shF; grind)))
              · rw [bP_eq0, Classical.not_not] at c_172
                rw [hk2] at c_172
                refine aw_iconst (v := nI 1) d_M_isRightObject_175 (by decide) ?_
                refine aw_goto (tgt := 180) d_M_isRightObject_176 (by decide) ?_
                exact aw_iret d_M_isRightObject_180 rfl nar1 (rt_t (by refine ⟨c_19, ?_, ?_, ?_, ?_⟩ <;> (try unfold shF) <;> grind))
          · rw [w_eq (by omega) (by omega)] at c_139
            refine aw_aload_n d_M_isRightObject_142 rfl ?_
            refine aw_iconst (v := nI 2) d_M_isRightObject_143 (by decide) ?_
            refine aw_iload_n d_M_isRightObject_144 rfl ?_
            refine aw_imul (v := nI (2 * k)) d_M_isRightObject_145 (pk_mul _ _) ?_
            refine aw_callVi (mc2 := 0) (ms2 := 0) (r := bP (MC B (ob (2 * k)))) (As := [.int (nI (2 * k))]) (rest := []) (c_M_isMethodContext hB_ hm hin hst X (2 * k) (by omega) (Or.inr (by omega)) (ob_ne.mpr ⟨by omega, by omega⟩)) cv_M_115 d_M_isRightObject_146 hm rfl rfl rfl (Nat.le_of_ble_eq_true rfl) (by decide) (by decide) (by omega) (by omega) ?_
            refine aw_if_eq (tgt := 179) d_M_isRightObject_149 (by decide) (fun c_149 => ?_) (fun c_149 => ?_)
            · rw [bP_eq0] at c_149
              rw [hk2] at c_149
              refine aw_iconst (v := nI 0) d_M_isRightObject_179 (by decide) ?_
              exact aw_iret d_M_isRightObject_180 rfl nar0 (rt_f (by first | exact fun q => c_19 q.1 | (unfold RO shF; grind)))
            · rw [bP_eq0, Classical.not_not] at c_149
              rw [hk2] at c_149
              refine aw_iload_n d_M_isRightObject_152 rfl ?_
              refine aw_aload_n d_M_isRightObject_153 rfl ?_
              refine aw_get fl_M_8 d_M_isRightObject_154 hm rfl ?_
              refine aw_bipush (v := nI 8) d_M_isRightObject_157 (by decide) ?_
              refine aw_callSi (mc2 := 0) (ms2 := 0) (r := nI (sp B 8)) (As := [.ref ai, .int (nI 8)]) (rest := [.int (nI (cl B k))]) (c_M_special_aBI hB_ hin (by omega) 8 (by omega)) cs_M_65 d_M_isRightObject_159 rfl rfl (Nat.le_of_ble_eq_true rfl) (by decide) (by decide) (by omega) (by omega) ?_
              have b_159 : sp B 8 < 4294967296 := bw_lt hB_ _
              refine aw_icmp_ne (tgt := 175) d_M_isRightObject_162 (by decide) (fun c_162 => ?_) (fun c_162 => ?_)
              · rw [w_eq (by omega) (by omega)] at c_162
                refine aw_iconst (v := nI 1) d_M_isRightObject_175 (by decide) ?_
                refine aw_goto (tgt := 180) d_M_isRightObject_176 (by decide) ?_
                exact aw_iret d_M_isRightObject_180 rfl nar1 (rt_t (by refine ⟨c_19, ?_, ?_, ?_, ?_⟩ <;> (try unfold shF) <;> grind))
              · rw [w_eq (by omega) (by omega)] at c_162
                refine aw_aload_n d_M_isRightObject_165 rfl ?_
                refine aw_iconst (v := nI 2) d_M_isRightObject_166 (by decide) ?_
                refine aw_iload_n d_M_isRightObject_167 rfl ?_
                refine aw_imul (v := nI (2 * k)) d_M_isRightObject_168 (pk_mul _ _) ?_
                refine aw_callVi (mc2 := 0) (ms2 := 0) (r := bP (BC B (ob (2 * k)))) (As := [.int (nI (2 * k))]) (rest := []) (c_M_isBlockContext hB_ hm hin hst X (2 * k) (by omega) (Or.inr (by omega)) (ob_ne.mpr ⟨by omega, by omega⟩)) cv_M_118 d_M_isRightObject_169 hm rfl rfl rfl (Nat.le_of_ble_eq_true rfl) (by decide) (by decide) (by omega) (by omega) ?_
                refine aw_if_eq (tgt := 179) d_M_isRightObject_172 (by decide) (fun c_172 => ?_) (fun c_172 => ?_)
                · rw [bP_eq0] at c_172
                  rw [hk2] at c_172
                  refine aw_iconst (v := nI 0) d_M_isRightObject_179 (by decide) ?_
                  exact aw_iret d_M_isRightObject_180 rfl nar0 (rt_f (by first | exact fun q => c_19 q.1 | (unfold RO shF; grind)))
                · rw [bP_eq0, Classical.not_not] at c_172
                  rw [hk2] at c_172
                  refine aw_iconst (v := nI 1) d_M_isRightObject_175 (by decide) ?_
                  refine aw_goto (tgt := 180) d_M_isRightObject_176 (by decide) ?_
                  exact aw_iret d_M_isRightObject_180 rfl nar1 (rt_t (by refine ⟨c_19, ?_, ?_, ?_, ?_⟩ <;> (try unfold shF) <;> grind))
        · rw [nI_leI (by omega) (by omega)] at c_89
          refine aw_iload_n d_M_isRightObject_92 rfl ?_
          refine aw_sipush (v := nI 1024) d_M_isRightObject_93 (by decide) ?_
          refine aw_iand (v := nI (fd B (ob (cl B k)) 2 / 2) &&& nI 1024) d_M_isRightObject_96 rfl ?_
          refine aw_if_le (tgt := 110) d_M_isRightObject_97 (by decide) (fun c_97 => ?_) (fun c_97 => ?_)
          · rw [and_1024 _ (by omega)] at c_97
            refine aw_iload d_M_isRightObject_110 rfl ?_
            refine aw_iload d_M_isRightObject_112 rfl ?_
            refine aw_icmp_ne (tgt := 121) d_M_isRightObject_114 (by decide) (fun c_114 => ?_) (fun c_114 => ?_)
            · rw [w_eq (by omega) (by omega)] at c_114
              refine aw_iconst (v := nI 0) d_M_isRightObject_121 (by decide) ?_
              refine aw_istore (L' := [some (.ref m), some (.int (nI k)), some (.int (nI (cl B k))), some (.int (nI ((fd B (ob (cl B k)) 2) / 2))), some (.int (nI (sz B k))), some (.int (nI (((fd B (ob (cl B k)) 2) / 2) % 256))), some (.int (nI 0))]) d_M_isRightObject_122 (by decide) rfl rfl ?_
              refine aw_iload d_M_isRightObject_124 rfl ?_
              refine aw_if_eq (tgt := 179) d_M_isRightObject_126 (by decide) (fun _ => ?_) (fun z => absurd (by decide) z)
              refine aw_iconst (v := nI 0) d_M_isRightObject_179 (by decide) ?_
              exact aw_iret d_M_isRightObject_180 rfl nar0 (rt_f (by first | exact fun q => c_19 q.1 | (unfold RO shF; grind)))
            · rw [w_eq (by omega) (by omega)] at c_114
              refine aw_iconst (v := nI 1) d_M_isRightObject_117 (by decide) ?_
              refine aw_goto (tgt := 122) d_M_isRightObject_118 (by decide) ?_
              refine aw_istore (L' := [some (.ref m), some (.int (nI k)), some (.int (nI (cl B k))), some (.int (nI ((fd B (ob (cl B k)) 2) / 2))), some (.int (nI (sz B k))), some (.int (nI (((fd B (ob (cl B k)) 2) / 2) % 256))), some (.int (nI 1))]) d_M_isRightObject_122 (by decide) rfl rfl ?_
              refine aw_iload d_M_isRightObject_124 rfl ?_
              refine aw_if_eq (tgt := 179) d_M_isRightObject_126 (by decide) (fun z => absurd z (by decide)) (fun _ => ?_)
              refine aw_iload_n d_M_isRightObject_129 rfl ?_
              refine aw_aload_n d_M_isRightObject_130 rfl ?_
              refine aw_get fl_M_8 d_M_isRightObject_131 hm rfl ?_
              refine aw_bipush (v := nI 7) d_M_isRightObject_134 (by decide) ?_
              refine aw_callSi (mc2 := 0) (ms2 := 0) (r := nI (sp B 7)) (As := [.ref ai, .int (nI 7)]) (rest := [.int (nI (cl B k))]) (c_M_special_aBI hB_ hin (by omega) 7 (by omega)) cs_M_65 d_M_isRightObject_136 rfl rfl (Nat.le_of_ble_eq_true rfl) (by decide) (by decide) (by omega) (by omega) ?_
              have b_136 : sp B 7 < 4294967296 := bw_lt hB_ _
              refine aw_icmp_ne (tgt := 152) d_M_isRightObject_139 (by decide) (fun c_139 => ?_) (fun c_139 => ?_)
              · rw [w_eq (by omega) (by omega)] at c_139
                refine aw_iload_n d_M_isRightObject_152 rfl ?_
                refine aw_aload_n d_M_isRightObject_153 rfl ?_
                refine aw_get fl_M_8 d_M_isRightObject_154 hm rfl ?_
                refine aw_bipush (v := nI 8) d_M_isRightObject_157 (by decide) ?_
                refine aw_callSi (mc2 := 0) (ms2 := 0) (r := nI (sp B 8)) (As := [.ref ai, .int (nI 8)]) (rest := [.int (nI (cl B k))]) (c_M_special_aBI hB_ hin (by omega) 8 (by omega)) cs_M_65 d_M_isRightObject_159 rfl rfl (Nat.le_of_ble_eq_true rfl) (by decide) (by decide) (by omega) (by omega) ?_
                have b_159 : sp B 8 < 4294967296 := bw_lt hB_ _
                refine aw_icmp_ne (tgt := 175) d_M_isRightObject_162 (by decide) (fun c_162 => ?_) (fun c_162 => ?_)
                · rw [w_eq (by omega) (by omega)] at c_162
                  refine aw_iconst (v := nI 1) d_M_isRightObject_175 (by decide) ?_
                  refine aw_goto (tgt := 180) d_M_isRightObject_176 (by decide) ?_
                  exact aw_iret d_M_isRightObject_180 rfl nar1 (rt_t (by refine ⟨c_19, ?_, ?_, ?_, ?_⟩ <;> (try unfold shF) <;> grind))
                · rw [w_eq (by omega) (by omega)] at c_162
                  refine aw_aload_n d_M_isRightObject_165 rfl ?_
                  refine aw_iconst (v := nI 2) d_M_isRightObject_166 (by decide) ?_
                  refine aw_iload_n d_M_isRightObject_167 rfl ?_
                  refine aw_imul (v := nI (2 * k)) d_M_isRightObject_168 (pk_mul _ _) ?_
                  refine aw_callVi (mc2 := 0) (ms2 := 0) (r := bP (BC B (ob (2 * k)))) (As := [.int (nI (2 * k))]) (rest := []) (c_M_isBlockContext hB_ hm hin hst X (2 * k) (by omega) (Or.inr (by omega)) (ob_ne.mpr ⟨by omega, by omega⟩)) cv_M_118 d_M_isRightObject_169 hm rfl rfl rfl (Nat.le_of_ble_eq_true rfl) (by decide) (by decide) (by omega) (by omega) ?_
                  refine aw_if_eq (tgt := 179) d_M_isRightObject_172 (by decide) (fun c_172 => ?_) (fun c_172 => ?_)
                  · rw [bP_eq0] at c_172
                    rw [hk2] at c_172
                    refine aw_iconst (v := nI 0) d_M_isRightObject_179 (by decide) ?_
                    exact aw_iret d_M_isRightObject_180 rfl nar0 (rt_f (by first | exact fun q => c_19 q.1 | (unfold RO shF; grind)))
                  · rw [bP_eq0, Classical.not_not] at c_172
                    rw [hk2] at c_172
                    refine aw_iconst (v := nI 1) d_M_isRightObject_175 (by decide) ?_
                    refine aw_goto (tgt := 180) d_M_isRightObject_176 (by decide) ?_
                    exact aw_iret d_M_isRightObject_180 rfl nar1 (rt_t (by refine ⟨c_19, ?_, ?_, ?_, ?_⟩ <;> (try unfold shF) <;> grind))
              · rw [w_eq (by omega) (by omega)] at c_139
                refine aw_aload_n d_M_isRightObject_142 rfl ?_
                refine aw_iconst (v := nI 2) d_M_isRightObject_143 (by decide) ?_
                refine aw_iload_n d_M_isRightObject_144 rfl ?_
                refine aw_imul (v := nI (2 * k)) d_M_isRightObject_145 (pk_mul _ _) ?_
                refine aw_callVi (mc2 := 0) (ms2 := 0) (r := bP (MC B (ob (2 * k)))) (As := [.int (nI (2 * k))]) (rest := []) (c_M_isMethodContext hB_ hm hin hst X (2 * k) (by omega) (Or.inr (by omega)) (ob_ne.mpr ⟨by omega, by omega⟩)) cv_M_115 d_M_isRightObject_146 hm rfl rfl rfl (Nat.le_of_ble_eq_true rfl) (by decide) (by decide) (by omega) (by omega) ?_
                refine aw_if_eq (tgt := 179) d_M_isRightObject_149 (by decide) (fun c_149 => ?_) (fun c_149 => ?_)
                · rw [bP_eq0] at c_149
                  rw [hk2] at c_149
                  refine aw_iconst (v := nI 0) d_M_isRightObject_179 (by decide) ?_
                  exact aw_iret d_M_isRightObject_180 rfl nar0 (rt_f (by first | exact fun q => c_19 q.1 | (unfold RO shF; grind)))
                · rw [bP_eq0, Classical.not_not] at c_149
                  rw [hk2] at c_149
                  refine aw_iload_n d_M_isRightObject_152 rfl ?_
                  refine aw_aload_n d_M_isRightObject_153 rfl ?_
                  refine aw_get fl_M_8 d_M_isRightObject_154 hm rfl ?_
                  refine aw_bipush (v := nI 8) d_M_isRightObject_157 (by decide) ?_
                  refine aw_callSi (mc2 := 0) (ms2 := 0) (r := nI (sp B 8)) (As := [.ref ai, .int (nI 8)]) (rest := [.int (nI (cl B k))]) (c_M_special_aBI hB_ hin (by omega) 8 (by omega)) cs_M_65 d_M_isRightObject_159 rfl rfl (Nat.le_of_ble_eq_true rfl) (by decide) (by decide) (by omega) (by omega) ?_
                  have b_159 : sp B 8 < 4294967296 := bw_lt hB_ _
                  refine aw_icmp_ne (tgt := 175) d_M_isRightObject_162 (by decide) (fun c_162 => ?_) (fun c_162 => ?_)
                  · rw [w_eq (by omega) (by omega)] at c_162
                    refine aw_iconst (v := nI 1) d_M_isRightObject_175 (by decide) ?_
                    refine aw_goto (tgt := 180) d_M_isRightObject_176 (by decide) ?_
                    exact aw_iret d_M_isRightObject_180 rfl nar1 (rt_t (by refine ⟨c_19, ?_, ?_, ?_, ?_⟩ <;> (try unfold shF) <;> grind))
                  · rw [w_eq (by omega) (by omega)] at c_162
                    refine aw_aload_n d_M_isRightObject_165 rfl ?_
                    refine aw_iconst (v := nI 2) d_M_isRightObject_166 (by decide) ?_
                    refine aw_iload_n d_M_isRightObject_167 rfl ?_
                    refine aw_imul (v := nI (2 * k)) d_M_isRightObject_168 (pk_mul _ _) ?_
                    refine aw_callVi (mc2 := 0) (ms2 := 0) (r := bP (BC B (ob (2 * k)))) (As := [.int (nI (2 * k))]) (rest := []) (c_M_isBlockContext hB_ hm hin hst X (2 * k) (by omega) (Or.inr (by omega)) (ob_ne.mpr ⟨by omega, by omega⟩)) cv_M_118 d_M_isRightObject_169 hm rfl rfl rfl (Nat.le_of_ble_eq_true rfl) (by decide) (by decide) (by omega) (by omega) ?_
                    refine aw_if_eq (tgt := 179) d_M_isRightObject_172 (by decide) (fun c_172 => ?_) (fun c_172 => ?_)
                    · rw [bP_eq0] at c_172
                      rw [hk2] at c_172
                      refine aw_iconst (v := nI 0) d_M_isRightObject_179 (by decide) ?_
                      exact aw_iret d_M_isRightObject_180 rfl nar0 (rt_f (by first | exact fun q => c_19 q.1 | (unfold RO shF; grind)))
                    · rw [bP_eq0, Classical.not_not] at c_172
                      rw [hk2] at c_172
                      refine aw_iconst (v := nI 1) d_M_isRightObject_175 (by decide) ?_
                      refine aw_goto (tgt := 180) d_M_isRightObject_176 (by decide) ?_
                      exact aw_iret d_M_isRightObject_180 rfl nar1 (rt_t (by refine ⟨c_19, ?_, ?_, ?_, ?_⟩ <;> (try unfold shF) <;> grind))
          · rw [and_1024 _ (by omega)] at c_97
            refine aw_iload d_M_isRightObject_100 rfl ?_
            refine aw_iload d_M_isRightObject_102 rfl ?_
            refine aw_icmp_lt (tgt := 121) d_M_isRightObject_104 (by decide) (fun c_104 => ?_) (fun c_104 => ?_)
            · rw [nI_ltI (by omega) (by omega)] at c_104
              refine aw_iconst (v := nI 0) d_M_isRightObject_121 (by decide) ?_
              refine aw_istore (L' := [some (.ref m), some (.int (nI k)), some (.int (nI (cl B k))), some (.int (nI ((fd B (ob (cl B k)) 2) / 2))), some (.int (nI (sz B k))), some (.int (nI (((fd B (ob (cl B k)) 2) / 2) % 256))), some (.int (nI 0))]) d_M_isRightObject_122 (by decide) rfl rfl ?_
              refine aw_iload d_M_isRightObject_124 rfl ?_
              refine aw_if_eq (tgt := 179) d_M_isRightObject_126 (by decide) (fun _ => ?_) (fun z => absurd (by decide) z)
              refine aw_iconst (v := nI 0) d_M_isRightObject_179 (by decide) ?_
              exact aw_iret d_M_isRightObject_180 rfl nar0 (rt_f (by first | exact fun q => c_19 q.1 | (unfold RO shF; grind)))
            · rw [nI_ltI (by omega) (by omega)] at c_104
              refine aw_goto (tgt := 117) d_M_isRightObject_107 (by decide) ?_
              refine aw_iconst (v := nI 1) d_M_isRightObject_117 (by decide) ?_
              refine aw_goto (tgt := 122) d_M_isRightObject_118 (by decide) ?_
              refine aw_istore (L' := [some (.ref m), some (.int (nI k)), some (.int (nI (cl B k))), some (.int (nI ((fd B (ob (cl B k)) 2) / 2))), some (.int (nI (sz B k))), some (.int (nI (((fd B (ob (cl B k)) 2) / 2) % 256))), some (.int (nI 1))]) d_M_isRightObject_122 (by decide) rfl rfl ?_
              refine aw_iload d_M_isRightObject_124 rfl ?_
              refine aw_if_eq (tgt := 179) d_M_isRightObject_126 (by decide) (fun z => absurd z (by decide)) (fun _ => ?_)
              refine aw_iload_n d_M_isRightObject_129 rfl ?_
              refine aw_aload_n d_M_isRightObject_130 rfl ?_
              refine aw_get fl_M_8 d_M_isRightObject_131 hm rfl ?_
              refine aw_bipush (v := nI 7) d_M_isRightObject_134 (by decide) ?_
              refine aw_callSi (mc2 := 0) (ms2 := 0) (r := nI (sp B 7)) (As := [.ref ai, .int (nI 7)]) (rest := [.int (nI (cl B k))]) (c_M_special_aBI hB_ hin (by omega) 7 (by omega)) cs_M_65 d_M_isRightObject_136 rfl rfl (Nat.le_of_ble_eq_true rfl) (by decide) (by decide) (by omega) (by omega) ?_
              have b_136 : sp B 7 < 4294967296 := bw_lt hB_ _
              refine aw_icmp_ne (tgt := 152) d_M_isRightObject_139 (by decide) (fun c_139 => ?_) (fun c_139 => ?_)
              · rw [w_eq (by omega) (by omega)] at c_139
                refine aw_iload_n d_M_isRightObject_152 rfl ?_
                refine aw_aload_n d_M_isRightObject_153 rfl ?_
                refine aw_get fl_M_8 d_M_isRightObject_154 hm rfl ?_
                refine aw_bipush (v := nI 8) d_M_isRightObject_157 (by decide) ?_
                refine aw_callSi (mc2 := 0) (ms2 := 0) (r := nI (sp B 8)) (As := [.ref ai, .int (nI 8)]) (rest := [.int (nI (cl B k))]) (c_M_special_aBI hB_ hin (by omega) 8 (by omega)) cs_M_65 d_M_isRightObject_159 rfl rfl (Nat.le_of_ble_eq_true rfl) (by decide) (by decide) (by omega) (by omega) ?_
                have b_159 : sp B 8 < 4294967296 := bw_lt hB_ _
                refine aw_icmp_ne (tgt := 175) d_M_isRightObject_162 (by decide) (fun c_162 => ?_) (fun c_162 => ?_)
                · rw [w_eq (by omega) (by omega)] at c_162
                  refine aw_iconst (v := nI 1) d_M_isRightObject_175 (by decide) ?_
                  refine aw_goto (tgt := 180) d_M_isRightObject_176 (by decide) ?_
                  exact aw_iret d_M_isRightObject_180 rfl nar1 (rt_t (by refine ⟨c_19, ?_, ?_, ?_, ?_⟩ <;> (try unfold shF) <;> grind))
                · rw [w_eq (by omega) (by omega)] at c_162
                  refine aw_aload_n d_M_isRightObject_165 rfl ?_
                  refine aw_iconst (v := nI 2) d_M_isRightObject_166 (by decide) ?_
                  refine aw_iload_n d_M_isRightObject_167 rfl ?_
                  refine aw_imul (v := nI (2 * k)) d_M_isRightObject_168 (pk_mul _ _) ?_
                  refine aw_callVi (mc2 := 0) (ms2 := 0) (r := bP (BC B (ob (2 * k)))) (As := [.int (nI (2 * k))]) (rest := []) (c_M_isBlockContext hB_ hm hin hst X (2 * k) (by omega) (Or.inr (by omega)) (ob_ne.mpr ⟨by omega, by omega⟩)) cv_M_118 d_M_isRightObject_169 hm rfl rfl rfl (Nat.le_of_ble_eq_true rfl) (by decide) (by decide) (by omega) (by omega) ?_
                  refine aw_if_eq (tgt := 179) d_M_isRightObject_172 (by decide) (fun c_172 => ?_) (fun c_172 => ?_)
                  · rw [bP_eq0] at c_172
                    rw [hk2] at c_172
                    refine aw_iconst (v := nI 0) d_M_isRightObject_179 (by decide) ?_
                    exact aw_iret d_M_isRightObject_180 rfl nar0 (rt_f (by first | exact fun q => c_19 q.1 | (unfold RO shF; grind)))
                  · rw [bP_eq0, Classical.not_not] at c_172
                    rw [hk2] at c_172
                    refine aw_iconst (v := nI 1) d_M_isRightObject_175 (by decide) ?_
                    refine aw_goto (tgt := 180) d_M_isRightObject_176 (by decide) ?_
                    exact aw_iret d_M_isRightObject_180 rfl nar1 (rt_t (by refine ⟨c_19, ?_, ?_, ?_, ?_⟩ <;> (try unfold shF) <;> grind))
              · rw [w_eq (by omega) (by omega)] at c_139
                refine aw_aload_n d_M_isRightObject_142 rfl ?_
                refine aw_iconst (v := nI 2) d_M_isRightObject_143 (by decide) ?_
                refine aw_iload_n d_M_isRightObject_144 rfl ?_
                refine aw_imul (v := nI (2 * k)) d_M_isRightObject_145 (pk_mul _ _) ?_
                refine aw_callVi (mc2 := 0) (ms2 := 0) (r := bP (MC B (ob (2 * k)))) (As := [.int (nI (2 * k))]) (rest := []) (c_M_isMethodContext hB_ hm hin hst X (2 * k) (by omega) (Or.inr (by omega)) (ob_ne.mpr ⟨by omega, by omega⟩)) cv_M_115 d_M_isRightObject_146 hm rfl rfl rfl (Nat.le_of_ble_eq_true rfl) (by decide) (by decide) (by omega) (by omega) ?_
                refine aw_if_eq (tgt := 179) d_M_isRightObject_149 (by decide) (fun c_149 => ?_) (fun c_149 => ?_)
                · rw [bP_eq0] at c_149
                  rw [hk2] at c_149
                  refine aw_iconst (v := nI 0) d_M_isRightObject_179 (by decide) ?_
                  exact aw_iret d_M_isRightObject_180 rfl nar0 (rt_f (by first | exact fun q => c_19 q.1 | (unfold RO shF; grind)))
                · rw [bP_eq0, Classical.not_not] at c_149
                  rw [hk2] at c_149
                  refine aw_iload_n d_M_isRightObject_152 rfl ?_
                  refine aw_aload_n d_M_isRightObject_153 rfl ?_
                  refine aw_get fl_M_8 d_M_isRightObject_154 hm rfl ?_
                  refine aw_bipush (v := nI 8) d_M_isRightObject_157 (by decide) ?_
                  refine aw_callSi (mc2 := 0) (ms2 := 0) (r := nI (sp B 8)) (As := [.ref ai, .int (nI 8)]) (rest := [.int (nI (cl B k))]) (c_M_special_aBI hB_ hin (by omega) 8 (by omega)) cs_M_65 d_M_isRightObject_159 rfl rfl (Nat.le_of_ble_eq_true rfl) (by decide) (by decide) (by omega) (by omega) ?_
                  have b_159 : sp B 8 < 4294967296 := bw_lt hB_ _
                  refine aw_icmp_ne (tgt := 175) d_M_isRightObject_162 (by decide) (fun c_162 => ?_) (fun c_162 => ?_)
                  · rw [w_eq (by omega) (by omega)] at c_162
                    refine aw_iconst (v := nI 1) d_M_isRightObject_175 (by decide) ?_
                    refine aw_goto (tgt := 180) d_M_isRightObject_176 (by decide) ?_
                    exact aw_iret d_M_isRightObject_180 rfl nar1 (rt_t (by refine ⟨c_19, ?_, ?_, ?_, ?_⟩ <;> (try unfold shF) <;> grind))
                  · rw [w_eq (by omega) (by omega)] at c_162
                    refine aw_aload_n d_M_isRightObject_165 rfl ?_
                    refine aw_iconst (v := nI 2) d_M_isRightObject_166 (by decide) ?_
                    refine aw_iload_n d_M_isRightObject_167 rfl ?_
                    refine aw_imul (v := nI (2 * k)) d_M_isRightObject_168 (pk_mul _ _) ?_
                    refine aw_callVi (mc2 := 0) (ms2 := 0) (r := bP (BC B (ob (2 * k)))) (As := [.int (nI (2 * k))]) (rest := []) (c_M_isBlockContext hB_ hm hin hst X (2 * k) (by omega) (Or.inr (by omega)) (ob_ne.mpr ⟨by omega, by omega⟩)) cv_M_118 d_M_isRightObject_169 hm rfl rfl rfl (Nat.le_of_ble_eq_true rfl) (by decide) (by decide) (by omega) (by omega) ?_
                    refine aw_if_eq (tgt := 179) d_M_isRightObject_172 (by decide) (fun c_172 => ?_) (fun c_172 => ?_)
                    · rw [bP_eq0] at c_172
                      rw [hk2] at c_172
                      refine aw_iconst (v := nI 0) d_M_isRightObject_179 (by decide) ?_
                      exact aw_iret d_M_isRightObject_180 rfl nar0 (rt_f (by first | exact fun q => c_19 q.1 | (unfold RO shF; grind)))
                    · rw [bP_eq0, Classical.not_not] at c_172
                      rw [hk2] at c_172
                      refine aw_iconst (v := nI 1) d_M_isRightObject_175 (by decide) ?_
                      refine aw_goto (tgt := 180) d_M_isRightObject_176 (by decide) ?_
                      exact aw_iret d_M_isRightObject_180 rfl nar1 (rt_t (by refine ⟨c_19, ?_, ?_, ?_, ?_⟩ <;> (try unfold shF) <;> grind))
      · rw [bP_is0] at c_73
        refine aw_iconst (v := nI 0) d_M_isRightObject_76 (by decide) ?_
        exact aw_iret d_M_isRightObject_77 rfl nar0 (rt_f (by first | exact fun q => c_19 q.1 | (unfold RO shF; grind)))
    · rw [nI_ltI (by omega) (by omega)] at c_65
      refine aw_iconst (v := nI 1) d_M_isRightObject_68 (by decide) ?_
      refine aw_goto (tgt := 73) d_M_isRightObject_69 (by decide) ?_
      refine aw_icmp_eq (tgt := 78) d_M_isRightObject_73 (by decide) (fun c_73 => ?_) (fun c_73 => ?_)
      · rw [bP_is1] at c_73
        refine aw_iload_n d_M_isRightObject_78 rfl ?_
        refine aw_sipush (v := nI 255) d_M_isRightObject_79 (by decide) ?_
        refine aw_iand (v := nI (((fd B (ob (cl B k)) 2) / 2) % 256)) d_M_isRightObject_82 (and_255 _) ?_
        refine aw_istore (L' := [some (.ref m), some (.int (nI k)), some (.int (nI (cl B k))), some (.int (nI ((fd B (ob (cl B k)) 2) / 2))), some (.int (nI (sz B k))), some (.int (nI (((fd B (ob (cl B k)) 2) / 2) % 256))), none]) d_M_isRightObject_83 (by decide) rfl rfl ?_
        refine aw_iload_n d_M_isRightObject_85 rfl ?_
        refine aw_sipush (v := nI 2048) d_M_isRightObject_86 (by decide) ?_
        refine aw_icmp_ge (tgt := 117) d_M_isRightObject_89 (by decide) (fun c_89 => ?_) (fun c_89 => ?_)
        · rw [nI_leI (by omega) (by omega)] at c_89
          refine aw_iconst (v := nI 1) d_M_isRightObject_117 (by decide) ?_
          refine aw_goto (tgt := 122) d_M_isRightObject_118 (by decide) ?_
          refine aw_istore (L' := [some (.ref m), some (.int (nI k)), some (.int (nI (cl B k))), some (.int (nI ((fd B (ob (cl B k)) 2) / 2))), some (.int (nI (sz B k))), some (.int (nI (((fd B (ob (cl B k)) 2) / 2) % 256))), some (.int (nI 1))]) d_M_isRightObject_122 (by decide) rfl rfl ?_
          refine aw_iload d_M_isRightObject_124 rfl ?_
          refine aw_if_eq (tgt := 179) d_M_isRightObject_126 (by decide) (fun z => absurd z (by decide)) (fun _ => ?_)
          refine aw_iload_n d_M_isRightObject_129 rfl ?_
          refine aw_aload_n d_M_isRightObject_130 rfl ?_
          refine aw_get fl_M_8 d_M_isRightObject_131 hm rfl ?_
          refine aw_bipush (v := nI 7) d_M_isRightObject_134 (by decide) ?_
          refine aw_callSi (mc2 := 0) (ms2 := 0) (r := nI (sp B 7)) (As := [.ref ai, .int (nI 7)]) (rest := [.int (nI (cl B k))]) (c_M_special_aBI hB_ hin (by omega) 7 (by omega)) cs_M_65 d_M_isRightObject_136 rfl rfl (Nat.le_of_ble_eq_true rfl) (by decide) (by decide) (by omega) (by omega) ?_
          have b_136 : sp B 7 < 4294967296 := bw_lt hB_ _
          refine aw_icmp_ne (tgt := 152) d_M_isRightObject_139 (by decide) (fun c_139 => ?_) (fun c_139 => ?_)
          · rw [w_eq (by omega) (by omega)] at c_139
            refine aw_iload_n d_M_isRightObject_152 rfl ?_
            refine aw_aload_n d_M_isRightObject_153 rfl ?_
            refine aw_get fl_M_8 d_M_isRightObject_154 hm rfl ?_
            refine aw_bipush (v := nI 8) d_M_isRightObject_157 (by decide) ?_
            refine aw_callSi (mc2 := 0) (ms2 := 0) (r := nI (sp B 8)) (As := [.ref ai, .int (nI 8)]) (rest := [.int (nI (cl B k))]) (c_M_special_aBI hB_ hin (by omega) 8 (by omega)) cs_M_65 d_M_isRightObject_159 rfl rfl (Nat.le_of_ble_eq_true rfl) (by decide) (by decide) (by omega) (by omega) ?_
            have b_159 : sp B 8 < 4294967296 := bw_lt hB_ _
            refine aw_icmp_ne (tgt := 175) d_M_isRightObject_162 (by decide) (fun c_162 => ?_) (fun c_162 => ?_)
            · rw [w_eq (by omega) (by omega)] at c_162
              refine aw_iconst (v := nI 1) d_M_isRightObject_175 (by decide) ?_
              refine aw_goto (tgt := 180) d_M_isRightObject_176 (by decide) ?_
              exact aw_iret d_M_isRightObject_180 rfl nar1 (rt_t (by refine ⟨c_19, ?_, ?_, ?_, ?_⟩ <;> (try unfold shF) <;> grind))
            · rw [w_eq (by omega) (by omega)] at c_162
              refine aw_aload_n d_M_isRightObject_165 rfl ?_
              refine aw_iconst (v := nI 2) d_M_isRightObject_166 (by decide) ?_
              refine aw_iload_n d_M_isRightObject_167 rfl ?_
              refine aw_imul (v := nI (2 * k)) d_M_isRightObject_168 (pk_mul _ _) ?_
              refine aw_callVi (mc2 := 0) (ms2 := 0) (r := bP (BC B (ob (2 * k)))) (As := [.int (nI (2 * k))]) (rest := []) (c_M_isBlockContext hB_ hm hin hst X (2 * k) (by omega) (Or.inr (by omega)) (ob_ne.mpr ⟨by omega, by omega⟩)) cv_M_118 d_M_isRightObject_169 hm rfl rfl rfl (Nat.le_of_ble_eq_true rfl) (by decide) (by decide) (by omega) (by omega) ?_
              refine aw_if_eq (tgt := 179) d_M_isRightObject_172 (by decide) (fun c_172 => ?_) (fun c_172 => ?_)
              · rw [bP_eq0] at c_172
                rw [hk2] at c_172
                refine aw_iconst (v := nI 0) d_M_isRightObject_179 (by decide) ?_
                exact aw_iret d_M_isRightObject_180 rfl nar0 (rt_f (by first | exact fun q => c_19 q.1 | (unfold RO shF; grind)))
              · rw [bP_eq0, Classical.not_not] at c_172
                rw [hk2] at c_172
                refine aw_iconst (v := nI 1) d_M_isRightObject_175 (by decide) ?_
                refine aw_goto (tgt := 180) d_M_isRightObject_176 (by decide) ?_
                exact aw_iret d_M_isRightObject_180 rfl nar1 (rt_t (by refine ⟨c_19, ?_, ?_, ?_, ?_⟩ <;> (try unfold shF) <;> grind))
          · rw [w_eq (by omega) (by omega)] at c_139
            refine aw_aload_n d_M_isRightObject_142 rfl ?_
            refine aw_iconst (v := nI 2) d_M_isRightObject_143 (by decide) ?_
            refine aw_iload_n d_M_isRightObject_144 rfl ?_
            refine aw_imul (v := nI (2 * k)) d_M_isRightObject_145 (pk_mul _ _) ?_
            refine aw_callVi (mc2 := 0) (ms2 := 0) (r := bP (MC B (ob (2 * k)))) (As := [.int (nI (2 * k))]) (rest := []) (c_M_isMethodContext hB_ hm hin hst X (2 * k) (by omega) (Or.inr (by omega)) (ob_ne.mpr ⟨by omega, by omega⟩)) cv_M_115 d_M_isRightObject_146 hm rfl rfl rfl (Nat.le_of_ble_eq_true rfl) (by decide) (by decide) (by omega) (by omega) ?_
            refine aw_if_eq (tgt := 179) d_M_isRightObject_149 (by decide) (fun c_149 => ?_) (fun c_149 => ?_)
            · rw [bP_eq0] at c_149
              rw [hk2] at c_149
              refine aw_iconst (v := nI 0) d_M_isRightObject_179 (by decide) ?_
              exact aw_iret d_M_isRightObject_180 rfl nar0 (rt_f (by first | exact fun q => c_19 q.1 | (unfold RO shF; grind)))
            · rw [bP_eq0, Classical.not_not] at c_149
              rw [hk2] at c_149
              refine aw_iload_n d_M_isRightObject_152 rfl ?_
              refine aw_aload_n d_M_isRightObject_153 rfl ?_
              refine aw_get fl_M_8 d_M_isRightObject_154 hm rfl ?_
              refine aw_bipush (v := nI 8) d_M_isRightObject_157 (by decide) ?_
              refine aw_callSi (mc2 := 0) (ms2 := 0) (r := nI (sp B 8)) (As := [.ref ai, .int (nI 8)]) (rest := [.int (nI (cl B k))]) (c_M_special_aBI hB_ hin (by omega) 8 (by omega)) cs_M_65 d_M_isRightObject_159 rfl rfl (Nat.le_of_ble_eq_true rfl) (by decide) (by decide) (by omega) (by omega) ?_
              have b_159 : sp B 8 < 4294967296 := bw_lt hB_ _
              refine aw_icmp_ne (tgt := 175) d_M_isRightObject_162 (by decide) (fun c_162 => ?_) (fun c_162 => ?_)
              · rw [w_eq (by omega) (by omega)] at c_162
                refine aw_iconst (v := nI 1) d_M_isRightObject_175 (by decide) ?_
                refine aw_goto (tgt := 180) d_M_isRightObject_176 (by decide) ?_
                exact aw_iret d_M_isRightObject_180 rfl nar1 (rt_t (by refine ⟨c_19, ?_, ?_, ?_, ?_⟩ <;> (try unfold shF) <;> grind))
              · rw [w_eq (by omega) (by omega)] at c_162
                refine aw_aload_n d_M_isRightObject_165 rfl ?_
                refine aw_iconst (v := nI 2) d_M_isRightObject_166 (by decide) ?_
                refine aw_iload_n d_M_isRightObject_167 rfl ?_
                refine aw_imul (v := nI (2 * k)) d_M_isRightObject_168 (pk_mul _ _) ?_
                refine aw_callVi (mc2 := 0) (ms2 := 0) (r := bP (BC B (ob (2 * k)))) (As := [.int (nI (2 * k))]) (rest := []) (c_M_isBlockContext hB_ hm hin hst X (2 * k) (by omega) (Or.inr (by omega)) (ob_ne.mpr ⟨by omega, by omega⟩)) cv_M_118 d_M_isRightObject_169 hm rfl rfl rfl (Nat.le_of_ble_eq_true rfl) (by decide) (by decide) (by omega) (by omega) ?_
                refine aw_if_eq (tgt := 179) d_M_isRightObject_172 (by decide) (fun c_172 => ?_) (fun c_172 => ?_)
                · rw [bP_eq0] at c_172
                  rw [hk2] at c_172
                  refine aw_iconst (v := nI 0) d_M_isRightObject_179 (by decide) ?_
                  exact aw_iret d_M_isRightObject_180 rfl nar0 (rt_f (by first | exact fun q => c_19 q.1 | (unfold RO shF; grind)))
                · rw [bP_eq0, Classical.not_not] at c_172
                  rw [hk2] at c_172
                  refine aw_iconst (v := nI 1) d_M_isRightObject_175 (by decide) ?_
                  refine aw_goto (tgt := 180) d_M_isRightObject_176 (by decide) ?_
                  exact aw_iret d_M_isRightObject_180 rfl nar1 (rt_t (by refine ⟨c_19, ?_, ?_, ?_, ?_⟩ <;> (try unfold shF) <;> grind))
        · rw [nI_leI (by omega) (by omega)] at c_89
          refine aw_iload_n d_M_isRightObject_92 rfl ?_
          refine aw_sipush (v := nI 1024) d_M_isRightObject_93 (by decide) ?_
          refine aw_iand (v := nI (fd B (ob (cl B k)) 2 / 2) &&& nI 1024) d_M_isRightObject_96 rfl ?_
          refine aw_if_le (tgt := 110) d_M_isRightObject_97 (by decide) (fun c_97 => ?_) (fun c_97 => ?_)
          · rw [and_1024 _ (by omega)] at c_97
            refine aw_iload d_M_isRightObject_110 rfl ?_
            refine aw_iload d_M_isRightObject_112 rfl ?_
            refine aw_icmp_ne (tgt := 121) d_M_isRightObject_114 (by decide) (fun c_114 => ?_) (fun c_114 => ?_)
            · rw [w_eq (by omega) (by omega)] at c_114
              refine aw_iconst (v := nI 0) d_M_isRightObject_121 (by decide) ?_
              refine aw_istore (L' := [some (.ref m), some (.int (nI k)), some (.int (nI (cl B k))), some (.int (nI ((fd B (ob (cl B k)) 2) / 2))), some (.int (nI (sz B k))), some (.int (nI (((fd B (ob (cl B k)) 2) / 2) % 256))), some (.int (nI 0))]) d_M_isRightObject_122 (by decide) rfl rfl ?_
              refine aw_iload d_M_isRightObject_124 rfl ?_
              refine aw_if_eq (tgt := 179) d_M_isRightObject_126 (by decide) (fun _ => ?_) (fun z => absurd (by decide) z)
              refine aw_iconst (v := nI 0) d_M_isRightObject_179 (by decide) ?_
              exact aw_iret d_M_isRightObject_180 rfl nar0 (rt_f (by first | exact fun q => c_19 q.1 | (unfold RO shF; grind)))
            · rw [w_eq (by omega) (by omega)] at c_114
              refine aw_iconst (v := nI 1) d_M_isRightObject_117 (by decide) ?_
              refine aw_goto (tgt := 122) d_M_isRightObject_118 (by decide) ?_
              refine aw_istore (L' := [some (.ref m), some (.int (nI k)), some (.int (nI (cl B k))), some (.int (nI ((fd B (ob (cl B k)) 2) / 2))), some (.int (nI (sz B k))), some (.int (nI (((fd B (ob (cl B k)) 2) / 2) % 256))), some (.int (nI 1))]) d_M_isRightObject_122 (by decide) rfl rfl ?_
              refine aw_iload d_M_isRightObject_124 rfl ?_
              refine aw_if_eq (tgt := 179) d_M_isRightObject_126 (by decide) (fun z => absurd z (by decide)) (fun _ => ?_)
              refine aw_iload_n d_M_isRightObject_129 rfl ?_
              refine aw_aload_n d_M_isRightObject_130 rfl ?_
              refine aw_get fl_M_8 d_M_isRightObject_131 hm rfl ?_
              refine aw_bipush (v := nI 7) d_M_isRightObject_134 (by decide) ?_
              refine aw_callSi (mc2 := 0) (ms2 := 0) (r := nI (sp B 7)) (As := [.ref ai, .int (nI 7)]) (rest := [.int (nI (cl B k))]) (c_M_special_aBI hB_ hin (by omega) 7 (by omega)) cs_M_65 d_M_isRightObject_136 rfl rfl (Nat.le_of_ble_eq_true rfl) (by decide) (by decide) (by omega) (by omega) ?_
              have b_136 : sp B 7 < 4294967296 := bw_lt hB_ _
              refine aw_icmp_ne (tgt := 152) d_M_isRightObject_139 (by decide) (fun c_139 => ?_) (fun c_139 => ?_)
              · rw [w_eq (by omega) (by omega)] at c_139
                refine aw_iload_n d_M_isRightObject_152 rfl ?_
                refine aw_aload_n d_M_isRightObject_153 rfl ?_
                refine aw_get fl_M_8 d_M_isRightObject_154 hm rfl ?_
                refine aw_bipush (v := nI 8) d_M_isRightObject_157 (by decide) ?_
                refine aw_callSi (mc2 := 0) (ms2 := 0) (r := nI (sp B 8)) (As := [.ref ai, .int (nI 8)]) (rest := [.int (nI (cl B k))]) (c_M_special_aBI hB_ hin (by omega) 8 (by omega)) cs_M_65 d_M_isRightObject_159 rfl rfl (Nat.le_of_ble_eq_true rfl) (by decide) (by decide) (by omega) (by omega) ?_
                have b_159 : sp B 8 < 4294967296 := bw_lt hB_ _
                refine aw_icmp_ne (tgt := 175) d_M_isRightObject_162 (by decide) (fun c_162 => ?_) (fun c_162 => ?_)
                · rw [w_eq (by omega) (by omega)] at c_162
                  refine aw_iconst (v := nI 1) d_M_isRightObject_175 (by decide) ?_
                  refine aw_goto (tgt := 180) d_M_isRightObject_176 (by decide) ?_
                  exact aw_iret d_M_isRightObject_180 rfl nar1 (rt_t (by refine ⟨c_19, ?_, ?_, ?_, ?_⟩ <;> (try unfold shF) <;> grind))
                · rw [w_eq (by omega) (by omega)] at c_162
                  refine aw_aload_n d_M_isRightObject_165 rfl ?_
                  refine aw_iconst (v := nI 2) d_M_isRightObject_166 (by decide) ?_
                  refine aw_iload_n d_M_isRightObject_167 rfl ?_
                  refine aw_imul (v := nI (2 * k)) d_M_isRightObject_168 (pk_mul _ _) ?_
                  refine aw_callVi (mc2 := 0) (ms2 := 0) (r := bP (BC B (ob (2 * k)))) (As := [.int (nI (2 * k))]) (rest := []) (c_M_isBlockContext hB_ hm hin hst X (2 * k) (by omega) (Or.inr (by omega)) (ob_ne.mpr ⟨by omega, by omega⟩)) cv_M_118 d_M_isRightObject_169 hm rfl rfl rfl (Nat.le_of_ble_eq_true rfl) (by decide) (by decide) (by omega) (by omega) ?_
                  refine aw_if_eq (tgt := 179) d_M_isRightObject_172 (by decide) (fun c_172 => ?_) (fun c_172 => ?_)
                  · rw [bP_eq0] at c_172
                    rw [hk2] at c_172
                    refine aw_iconst (v := nI 0) d_M_isRightObject_179 (by decide) ?_
                    exact aw_iret d_M_isRightObject_180 rfl nar0 (rt_f (by first | exact fun q => c_19 q.1 | (unfold RO shF; grind)))
                  · rw [bP_eq0, Classical.not_not] at c_172
                    rw [hk2] at c_172
                    refine aw_iconst (v := nI 1) d_M_isRightObject_175 (by decide) ?_
                    refine aw_goto (tgt := 180) d_M_isRightObject_176 (by decide) ?_
                    exact aw_iret d_M_isRightObject_180 rfl nar1 (rt_t (by refine ⟨c_19, ?_, ?_, ?_, ?_⟩ <;> (try unfold shF) <;> grind))
              · rw [w_eq (by omega) (by omega)] at c_139
                refine aw_aload_n d_M_isRightObject_142 rfl ?_
                refine aw_iconst (v := nI 2) d_M_isRightObject_143 (by decide) ?_
                refine aw_iload_n d_M_isRightObject_144 rfl ?_
                refine aw_imul (v := nI (2 * k)) d_M_isRightObject_145 (pk_mul _ _) ?_
                refine aw_callVi (mc2 := 0) (ms2 := 0) (r := bP (MC B (ob (2 * k)))) (As := [.int (nI (2 * k))]) (rest := []) (c_M_isMethodContext hB_ hm hin hst X (2 * k) (by omega) (Or.inr (by omega)) (ob_ne.mpr ⟨by omega, by omega⟩)) cv_M_115 d_M_isRightObject_146 hm rfl rfl rfl (Nat.le_of_ble_eq_true rfl) (by decide) (by decide) (by omega) (by omega) ?_
                refine aw_if_eq (tgt := 179) d_M_isRightObject_149 (by decide) (fun c_149 => ?_) (fun c_149 => ?_)
                · rw [bP_eq0] at c_149
                  rw [hk2] at c_149
                  refine aw_iconst (v := nI 0) d_M_isRightObject_179 (by decide) ?_
                  exact aw_iret d_M_isRightObject_180 rfl nar0 (rt_f (by first | exact fun q => c_19 q.1 | (unfold RO shF; grind)))
                · rw [bP_eq0, Classical.not_not] at c_149
                  rw [hk2] at c_149
                  refine aw_iload_n d_M_isRightObject_152 rfl ?_
                  refine aw_aload_n d_M_isRightObject_153 rfl ?_
                  refine aw_get fl_M_8 d_M_isRightObject_154 hm rfl ?_
                  refine aw_bipush (v := nI 8) d_M_isRightObject_157 (by decide) ?_
                  refine aw_callSi (mc2 := 0) (ms2 := 0) (r := nI (sp B 8)) (As := [.ref ai, .int (nI 8)]) (rest := [.int (nI (cl B k))]) (c_M_special_aBI hB_ hin (by omega) 8 (by omega)) cs_M_65 d_M_isRightObject_159 rfl rfl (Nat.le_of_ble_eq_true rfl) (by decide) (by decide) (by omega) (by omega) ?_
                  have b_159 : sp B 8 < 4294967296 := bw_lt hB_ _
                  refine aw_icmp_ne (tgt := 175) d_M_isRightObject_162 (by decide) (fun c_162 => ?_) (fun c_162 => ?_)
                  · rw [w_eq (by omega) (by omega)] at c_162
                    refine aw_iconst (v := nI 1) d_M_isRightObject_175 (by decide) ?_
                    refine aw_goto (tgt := 180) d_M_isRightObject_176 (by decide) ?_
                    exact aw_iret d_M_isRightObject_180 rfl nar1 (rt_t (by refine ⟨c_19, ?_, ?_, ?_, ?_⟩ <;> (try unfold shF) <;> grind))
                  · rw [w_eq (by omega) (by omega)] at c_162
                    refine aw_aload_n d_M_isRightObject_165 rfl ?_
                    refine aw_iconst (v := nI 2) d_M_isRightObject_166 (by decide) ?_
                    refine aw_iload_n d_M_isRightObject_167 rfl ?_
                    refine aw_imul (v := nI (2 * k)) d_M_isRightObject_168 (pk_mul _ _) ?_
                    refine aw_callVi (mc2 := 0) (ms2 := 0) (r := bP (BC B (ob (2 * k)))) (As := [.int (nI (2 * k))]) (rest := []) (c_M_isBlockContext hB_ hm hin hst X (2 * k) (by omega) (Or.inr (by omega)) (ob_ne.mpr ⟨by omega, by omega⟩)) cv_M_118 d_M_isRightObject_169 hm rfl rfl rfl (Nat.le_of_ble_eq_true rfl) (by decide) (by decide) (by omega) (by omega) ?_
                    refine aw_if_eq (tgt := 179) d_M_isRightObject_172 (by decide) (fun c_172 => ?_) (fun c_172 => ?_)
                    · rw [bP_eq0] at c_172
                      rw [hk2] at c_172
                      refine aw_iconst (v := nI 0) d_M_isRightObject_179 (by decide) ?_
                      exact aw_iret d_M_isRightObject_180 rfl nar0 (rt_f (by first | exact fun q => c_19 q.1 | (unfold RO shF; grind)))
                    · rw [bP_eq0, Classical.not_not] at c_172
                      rw [hk2] at c_172
                      refine aw_iconst (v := nI 1) d_M_isRightObject_175 (by decide) ?_
                      refine aw_goto (tgt := 180) d_M_isRightObject_176 (by decide) ?_
                      exact aw_iret d_M_isRightObject_180 rfl nar1 (rt_t (by refine ⟨c_19, ?_, ?_, ?_, ?_⟩ <;> (try unfold shF) <;> grind))
          · rw [and_1024 _ (by omega)] at c_97
            refine aw_iload d_M_isRightObject_100 rfl ?_
            refine aw_iload d_M_isRightObject_102 rfl ?_
            refine aw_icmp_lt (tgt := 121) d_M_isRightObject_104 (by decide) (fun c_104 => ?_) (fun c_104 => ?_)
            · rw [nI_ltI (by omega) (by omega)] at c_104
              refine aw_iconst (v := nI 0) d_M_isRightObject_121 (by decide) ?_
              refine aw_istore (L' := [some (.ref m), some (.int (nI k)), some (.int (nI (cl B k))), some (.int (nI ((fd B (ob (cl B k)) 2) / 2))), some (.int (nI (sz B k))), some (.int (nI (((fd B (ob (cl B k)) 2) / 2) % 256))), some (.int (nI 0))]) d_M_isRightObject_122 (by decide) rfl rfl ?_
              refine aw_iload d_M_isRightObject_124 rfl ?_
              refine aw_if_eq (tgt := 179) d_M_isRightObject_126 (by decide) (fun _ => ?_) (fun z => absurd (by decide) z)
              refine aw_iconst (v := nI 0) d_M_isRightObject_179 (by decide) ?_
              exact aw_iret d_M_isRightObject_180 rfl nar0 (rt_f (by first | exact fun q => c_19 q.1 | (unfold RO shF; grind)))
            · rw [nI_ltI (by omega) (by omega)] at c_104
              refine aw_goto (tgt := 117) d_M_isRightObject_107 (by decide) ?_
              refine aw_iconst (v := nI 1) d_M_isRightObject_117 (by decide) ?_
              refine aw_goto (tgt := 122) d_M_isRightObject_118 (by decide) ?_
              refine aw_istore (L' := [some (.ref m), some (.int (nI k)), some (.int (nI (cl B k))), some (.int (nI ((fd B (ob (cl B k)) 2) / 2))), some (.int (nI (sz B k))), some (.int (nI (((fd B (ob (cl B k)) 2) / 2) % 256))), some (.int (nI 1))]) d_M_isRightObject_122 (by decide) rfl rfl ?_
              refine aw_iload d_M_isRightObject_124 rfl ?_
              refine aw_if_eq (tgt := 179) d_M_isRightObject_126 (by decide) (fun z => absurd z (by decide)) (fun _ => ?_)
              refine aw_iload_n d_M_isRightObject_129 rfl ?_
              refine aw_aload_n d_M_isRightObject_130 rfl ?_
              refine aw_get fl_M_8 d_M_isRightObject_131 hm rfl ?_
              refine aw_bipush (v := nI 7) d_M_isRightObject_134 (by decide) ?_
              refine aw_callSi (mc2 := 0) (ms2 := 0) (r := nI (sp B 7)) (As := [.ref ai, .int (nI 7)]) (rest := [.int (nI (cl B k))]) (c_M_special_aBI hB_ hin (by omega) 7 (by omega)) cs_M_65 d_M_isRightObject_136 rfl rfl (Nat.le_of_ble_eq_true rfl) (by decide) (by decide) (by omega) (by omega) ?_
              have b_136 : sp B 7 < 4294967296 := bw_lt hB_ _
              refine aw_icmp_ne (tgt := 152) d_M_isRightObject_139 (by decide) (fun c_139 => ?_) (fun c_139 => ?_)
              · rw [w_eq (by omega) (by omega)] at c_139
                refine aw_iload_n d_M_isRightObject_152 rfl ?_
                refine aw_aload_n d_M_isRightObject_153 rfl ?_
                refine aw_get fl_M_8 d_M_isRightObject_154 hm rfl ?_
                refine aw_bipush (v := nI 8) d_M_isRightObject_157 (by decide) ?_
                refine aw_callSi (mc2 := 0) (ms2 := 0) (r := nI (sp B 8)) (As := [.ref ai, .int (nI 8)]) (rest := [.int (nI (cl B k))]) (c_M_special_aBI hB_ hin (by omega) 8 (by omega)) cs_M_65 d_M_isRightObject_159 rfl rfl (Nat.le_of_ble_eq_true rfl) (by decide) (by decide) (by omega) (by omega) ?_
                have b_159 : sp B 8 < 4294967296 := bw_lt hB_ _
                refine aw_icmp_ne (tgt := 175) d_M_isRightObject_162 (by decide) (fun c_162 => ?_) (fun c_162 => ?_)
                · rw [w_eq (by omega) (by omega)] at c_162
                  refine aw_iconst (v := nI 1) d_M_isRightObject_175 (by decide) ?_
                  refine aw_goto (tgt := 180) d_M_isRightObject_176 (by decide) ?_
                  exact aw_iret d_M_isRightObject_180 rfl nar1 (rt_t (by refine ⟨c_19, ?_, ?_, ?_, ?_⟩ <;> (try unfold shF) <;> grind))
                · rw [w_eq (by omega) (by omega)] at c_162
                  refine aw_aload_n d_M_isRightObject_165 rfl ?_
                  refine aw_iconst (v := nI 2) d_M_isRightObject_166 (by decide) ?_
                  refine aw_iload_n d_M_isRightObject_167 rfl ?_
                  refine aw_imul (v := nI (2 * k)) d_M_isRightObject_168 (pk_mul _ _) ?_
                  refine aw_callVi (mc2 := 0) (ms2 := 0) (r := bP (BC B (ob (2 * k)))) (As := [.int (nI (2 * k))]) (rest := []) (c_M_isBlockContext hB_ hm hin hst X (2 * k) (by omega) (Or.inr (by omega)) (ob_ne.mpr ⟨by omega, by omega⟩)) cv_M_118 d_M_isRightObject_169 hm rfl rfl rfl (Nat.le_of_ble_eq_true rfl) (by decide) (by decide) (by omega) (by omega) ?_
                  refine aw_if_eq (tgt := 179) d_M_isRightObject_172 (by decide) (fun c_172 => ?_) (fun c_172 => ?_)
                  · rw [bP_eq0] at c_172
                    rw [hk2] at c_172
                    refine aw_iconst (v := nI 0) d_M_isRightObject_179 (by decide) ?_
                    exact aw_iret d_M_isRightObject_180 rfl nar0 (rt_f (by first | exact fun q => c_19 q.1 | (unfold RO shF; grind)))
                  · rw [bP_eq0, Classical.not_not] at c_172
                    rw [hk2] at c_172
                    refine aw_iconst (v := nI 1) d_M_isRightObject_175 (by decide) ?_
                    refine aw_goto (tgt := 180) d_M_isRightObject_176 (by decide) ?_
                    exact aw_iret d_M_isRightObject_180 rfl nar1 (rt_t (by refine ⟨c_19, ?_, ?_, ?_, ?_⟩ <;> (try unfold shF) <;> grind))
              · rw [w_eq (by omega) (by omega)] at c_139
                refine aw_aload_n d_M_isRightObject_142 rfl ?_
                refine aw_iconst (v := nI 2) d_M_isRightObject_143 (by decide) ?_
                refine aw_iload_n d_M_isRightObject_144 rfl ?_
                refine aw_imul (v := nI (2 * k)) d_M_isRightObject_145 (pk_mul _ _) ?_
                refine aw_callVi (mc2 := 0) (ms2 := 0) (r := bP (MC B (ob (2 * k)))) (As := [.int (nI (2 * k))]) (rest := []) (c_M_isMethodContext hB_ hm hin hst X (2 * k) (by omega) (Or.inr (by omega)) (ob_ne.mpr ⟨by omega, by omega⟩)) cv_M_115 d_M_isRightObject_146 hm rfl rfl rfl (Nat.le_of_ble_eq_true rfl) (by decide) (by decide) (by omega) (by omega) ?_
                refine aw_if_eq (tgt := 179) d_M_isRightObject_149 (by decide) (fun c_149 => ?_) (fun c_149 => ?_)
                · rw [bP_eq0] at c_149
                  rw [hk2] at c_149
                  refine aw_iconst (v := nI 0) d_M_isRightObject_179 (by decide) ?_
                  exact aw_iret d_M_isRightObject_180 rfl nar0 (rt_f (by first | exact fun q => c_19 q.1 | (unfold RO shF; grind)))
                · rw [bP_eq0, Classical.not_not] at c_149
                  rw [hk2] at c_149
                  refine aw_iload_n d_M_isRightObject_152 rfl ?_
                  refine aw_aload_n d_M_isRightObject_153 rfl ?_
                  refine aw_get fl_M_8 d_M_isRightObject_154 hm rfl ?_
                  refine aw_bipush (v := nI 8) d_M_isRightObject_157 (by decide) ?_
                  refine aw_callSi (mc2 := 0) (ms2 := 0) (r := nI (sp B 8)) (As := [.ref ai, .int (nI 8)]) (rest := [.int (nI (cl B k))]) (c_M_special_aBI hB_ hin (by omega) 8 (by omega)) cs_M_65 d_M_isRightObject_159 rfl rfl (Nat.le_of_ble_eq_true rfl) (by decide) (by decide) (by omega) (by omega) ?_
                  have b_159 : sp B 8 < 4294967296 := bw_lt hB_ _
                  refine aw_icmp_ne (tgt := 175) d_M_isRightObject_162 (by decide) (fun c_162 => ?_) (fun c_162 => ?_)
                  · rw [w_eq (by omega) (by omega)] at c_162
                    refine aw_iconst (v := nI 1) d_M_isRightObject_175 (by decide) ?_
                    refine aw_goto (tgt := 180) d_M_isRightObject_176 (by decide) ?_
                    exact aw_iret d_M_isRightObject_180 rfl nar1 (rt_t (by refine ⟨c_19, ?_, ?_, ?_, ?_⟩ <;> (try unfold shF) <;> grind))
                  · rw [w_eq (by omega) (by omega)] at c_162
                    refine aw_aload_n d_M_isRightObject_165 rfl ?_
                    refine aw_iconst (v := nI 2) d_M_isRightObject_166 (by decide) ?_
                    refine aw_iload_n d_M_isRightObject_167 rfl ?_
                    refine aw_imul (v := nI (2 * k)) d_M_isRightObject_168 (pk_mul _ _) ?_
                    refine aw_callVi (mc2 := 0) (ms2 := 0) (r := bP (BC B (ob (2 * k)))) (As := [.int (nI (2 * k))]) (rest := []) (c_M_isBlockContext hB_ hm hin hst X (2 * k) (by omega) (Or.inr (by omega)) (ob_ne.mpr ⟨by omega, by omega⟩)) cv_M_118 d_M_isRightObject_169 hm rfl rfl rfl (Nat.le_of_ble_eq_true rfl) (by decide) (by decide) (by omega) (by omega) ?_
                    refine aw_if_eq (tgt := 179) d_M_isRightObject_172 (by decide) (fun c_172 => ?_) (fun c_172 => ?_)
                    · rw [bP_eq0] at c_172
                      rw [hk2] at c_172
                      refine aw_iconst (v := nI 0) d_M_isRightObject_179 (by decide) ?_
                      exact aw_iret d_M_isRightObject_180 rfl nar0 (rt_f (by first | exact fun q => c_19 q.1 | (unfold RO shF; grind)))
                    · rw [bP_eq0, Classical.not_not] at c_172
                      rw [hk2] at c_172
                      refine aw_iconst (v := nI 1) d_M_isRightObject_175 (by decide) ?_
                      refine aw_goto (tgt := 180) d_M_isRightObject_176 (by decide) ?_
                      exact aw_iret d_M_isRightObject_180 rfl nar1 (rt_t (by refine ⟨c_19, ?_, ?_, ?_, ?_⟩ <;> (try unfold shF) <;> grind))
      · rw [bP_is1] at c_73
        refine aw_iconst (v := nI 0) d_M_isRightObject_76 (by decide) ?_
        exact aw_iret d_M_isRightObject_77 rfl nar0 (rt_f (by first | exact fun q => c_19 q.1 | (unfold RO shF; grind)))
  · rw [bP_eq0] at c_19
    refine aw_iconst (v := nI 0) d_M_isRightObject_22 (by decide) ?_
    exact aw_iret d_M_isRightObject_23 rfl nar0 (rt_f (by first | exact fun q => c_19 q.1 | (unfold RO shF; grind)))

set_option maxHeartbeats 4000000 in
theorem lp_M_stepObjects {tb : Nat → Nat} {h : AH} {fr lo : Nat} {mc ms : Nat} (hfr : 6 ≤ fr) (hlo : 143 ≤ lo) {m ai am ak as_ aks ar an ab cn ln kl mn c : Nat} {cd : Int32} {B : Nat → Nat} {fs : Nat → Int32} (hB_ : ∀ i, B i < 256) (hm : h m = some (mO cd ai cn am ln ak kl as_ aks ar an ab mn)) (hin : h ai = some (.inl (1, 65536, .inl (bsf B)))) (hst : h as_ = some (.inl (0, 8192, .inl fs))) (X : VX B c fs) : ∀ (d : Nat) (r k : Nat), 1 ≤ k → r + k = nn B + 1 → ffst (RO B) (oa B) r k = plB B → r < d → AW tb "ImageReaderModel" b_M_stepObjects 2 (some .int) false none fr lo (av_Pi (pI (plB B)) h) 2 [some (.ref m), some (.int (nI k))] [] h mc ms := by
  intro d
  induction d with
  | zero => intro r k hk1 hrk hp hd; omega
  | succ d ih =>
    intro r k hk1 hrk hp hd
    have hn := X.n
    have hnd : nn B = bh B 6 := rfl
    refine aw_iload_n d_M_stepObjects_2 rfl ?_
    refine aw_aload_n d_M_stepObjects_3 rfl ?_
    refine aw_get fl_M_8 d_M_stepObjects_4 hm rfl ?_
    refine aw_callSi (mc2 := mc) (ms2 := ms) (r := nI (nn B)) (As := [.ref ai]) (rest := [.int (nI k)]) (c_M_objects_aB hB_ hin (by omega) (by omega)) cs_M_101 d_M_stepObjects_7 rfl rfl (Nat.le_of_ble_eq_true rfl) (by omega) (by omega) (by omega) (by omega) ?_
    have b_7 : nn B < 65536 := bh_lt hB_ 6
    refine aw_icmp_gt (tgt := 34) d_M_stepObjects_10 (by decide) (fun c_10 => ?_) (fun c_10 => ?_)
    · rw [nI_ltI (by omega) (by omega)] at c_10
      refine aw_iconst (v := (-1)) d_M_stepObjects_34 (by decide) ?_
      exact aw_iret d_M_stepObjects_35 rfl rfl (rt_i (by rw [← hp, show r = 0 by omega]; rfl))
    · rw [nI_ltI (by omega) (by omega)] at c_10
      obtain ⟨r, rfl⟩ : ∃ q, r = q + 1 := ⟨r - 1, by omega⟩
      refine aw_aload_n d_M_stepObjects_13 rfl ?_
      refine aw_iload_n d_M_stepObjects_14 rfl ?_
      refine aw_callVi (mc2 := mc) (ms2 := ms) (r := bP (RO B k)) (As := [.int (nI k)]) (rest := []) (c_M_isRightObject hB_ hm hin hst X k (by omega) (by omega)) cv_M_121 d_M_stepObjects_15 hm rfl rfl rfl (Nat.le_of_ble_eq_true rfl) (by omega) (by omega) (by omega) (by omega) ?_
      refine aw_if_ne (tgt := 28) d_M_stepObjects_18 (by decide) (fun c_18 => ?_) (fun c_18 => ?_)
      · rw [bP_eq0, Classical.not_not] at c_18
        refine aw_iinc (v := nI (k + 1)) (L' := [some (.ref m), some (.int (nI (k + 1)))]) d_M_stepObjects_28 rfl (nI_add k 1) (by decide) rfl rfl ?_
        refine aw_goto (tgt := 2) d_M_stepObjects_31 (by decide) ?_
        exact ih r (k + 1) (by omega) (by omega) (by rw [← hp, ffst_s c_18]) (by omega)
      · rw [bP_eq0] at c_18
        refine aw_aload_n d_M_stepObjects_21 rfl ?_
        refine aw_get fl_M_20 d_M_stepObjects_22 hm rfl ?_
        refine aw_iload_n d_M_stepObjects_25 rfl ?_
        refine aw_iald (x := nI (oa B k)) d_M_stepObjects_26 hst (vp_in_nI (by omega) (by omega)) (by rw [nI_clamp (by omega)]; rw [show k = k by omega]; exact X.2 _ (by omega) (by omega)) ?_
        have o_26 := X.at k (by omega) (by omega)
        exact aw_iret d_M_stepObjects_27 rfl rfl (rt_i (by rw [← hp, ffst_n c_18]; rfl))

set_option maxHeartbeats 4000000 in
theorem c_M_stepObjects {tb : Nat → Nat} {h : AH} {m ai am ak as_ aks ar an ab cn ln kl mn c : Nat} {cd : Int32} {B : Nat → Nat} {fs : Nat → Int32} (hB_ : ∀ i, B i < 256) (hm : h m = some (mO cd ai cn am ln ak kl as_ aks ar an ab mn)) (hin : h ai = some (.inl (1, 65536, .inl (bsf B)))) (hst : h as_ = some (.inl (0, 8192, .inl fs))) (X : VX B c fs)  : AM tb y_M_stepObjects b_M_stepObjects 2 (some .int) 6 143 [.ref m] h 0 0 (av_Pi (pI (plB B)) h) := by
  have hn := X.n
  have hnd : nn B = bh B 6 := rfl
  refine am_of (ini := false) [some (.ref m), none] (by decide) (fun z => by cases z) (Nat.le_of_ble_eq_true rfl) rfl ?_
  refine aw_iconst (v := nI 1) d_M_stepObjects_0 (by decide) ?_
  refine aw_istore_n (L' := [some (.ref m), some (.int (nI 1))]) d_M_stepObjects_1 (by decide) rfl rfl ?_
  exact lp_M_stepObjects (by decide) (by decide) hB_ hm hin hst X (nn B + 1) (nn B) 1 (by omega) (by omega) rfl (by omega)

set_option maxHeartbeats 4000000 in
theorem lp_M_wordsOf {tb : Nat → Nat} {h : AH} {fr lo : Nat} {mc ms : Nat} (hfr : 2 ≤ fr) (hlo : 42 ≤ lo) {a s_ c : Nat} {B : Nat → Nat} {fs : Nat → Int32} (hB_ : ∀ i, B i < 256) (hb : h a = some (.inl (1, 65536, .inl (bsf B)))) (hst : h s_ = some (.inl (0, 8192, .inl fs))) (X : VX B c fs) : ∀ (d : Nat) (k : Nat) (x4 : Option Value), (∀ v, x4 = some v → v.category = 1) → 1 ≤ k → k ≤ nn B + 1 → nn B + 1 < k + d → AW tb "ImageReaderModel" b_M_wordsOf 5 (some .int) false none fr lo (av_Pi (nI (wds B (nn B))) h) 4 [some (.ref a), some (.ref s_), some (.int (nI (wds B (k - 1)))), some (.int (nI k)), none] [] h mc ms := by
  intro d
  induction d with
  | zero => intro k x4 hc4 hk1 hkn hd; omega
  | succ d ih =>
    intro k x4 hc4 hk1 hkn hd
    have hn := X.n
    have hnd : nn B = bh B 6 := rfl
    have hw := wds_le hB_ (k - 1)
    refine aw_iload_n d_M_wordsOf_4 rfl ?_
    refine aw_aload_n d_M_wordsOf_5 rfl ?_
    refine aw_callSi (mc2 := mc) (ms2 := ms) (r := nI (nn B)) (As := [.ref a]) (rest := [.int (nI k)]) (c_M_objects_aB hB_ hb (by omega) (by omega)) cs_M_101 d_M_wordsOf_6 rfl rfl (Nat.le_of_ble_eq_true rfl) (by omega) (by omega) (by omega) (by omega) ?_
    have b_6 : nn B < 65536 := bh_lt hB_ 6
    refine aw_icmp_gt (tgt := 53) d_M_wordsOf_9 (by decide) (fun c_9 => ?_) (fun c_9 => ?_)
    · rw [nI_ltI (by omega) (by omega)] at c_9
      refine aw_iload_n d_M_wordsOf_53 rfl ?_
      exact aw_iret d_M_wordsOf_54 rfl rfl (rt_i (by rw [show k - 1 = nn B by omega]))
    · rw [nI_ltI (by omega) (by omega)] at c_9
      refine aw_aload_n d_M_wordsOf_12 rfl ?_
      refine aw_aload_n d_M_wordsOf_13 rfl ?_
      refine aw_iload_n d_M_wordsOf_14 rfl ?_
      refine aw_iald (x := nI (oa B k)) d_M_wordsOf_15 hst (vp_in_nI (by omega) (by omega)) (by rw [nI_clamp (by omega)]; rw [show k = k by omega]; exact X.2 _ (by omega) (by omega)) ?_
      have o_15 := X.at k (by omega) (by omega)
      refine aw_callSi (mc2 := mc) (ms2 := ms) (r := nI (sz B k)) (As := [.ref a, .int (nI (oa B k))]) (rest := []) (c_M_sizeAt hB_ hb (by omega) (oa B k) (by omega)) cs_M_54 d_M_wordsOf_16 rfl rfl (Nat.le_of_ble_eq_true rfl) (by omega) (by omega) (by omega) (by omega) ?_
      have b_16 := sz_lt hB_ k
      refine aw_istore (L' := [some (.ref a), some (.ref s_), some (.int (nI (wds B (k - 1)))), some (.int (nI k)), some (.int (nI (sz B k)))]) d_M_wordsOf_19 (by decide) rfl rfl ?_
      refine aw_iload_n d_M_wordsOf_21 rfl ?_
      refine aw_iconst (v := nI 4) d_M_wordsOf_22 (by decide) ?_
      refine aw_aload_n d_M_wordsOf_23 rfl ?_
      refine aw_aload_n d_M_wordsOf_24 rfl ?_
      refine aw_iload_n d_M_wordsOf_25 rfl ?_
      refine aw_iald (x := nI (oa B k)) d_M_wordsOf_26 hst (vp_in_nI (by omega) (by omega)) (by rw [nI_clamp (by omega)]; rw [show k = k by omega]; exact X.2 _ (by omega) (by omega)) ?_
      have o_26 := X.at k (by omega) (by omega)
      refine aw_callSi (mc2 := mc) (ms2 := ms) (r := bP (kd B k = 1)) (As := [.ref a, .int (nI (oa B k))]) (rest := [.int (nI 4), .int (nI (wds B (k - 1)))]) (c_M_isOfBytes hB_ hb (by omega) (oa B k) (by omega)) cs_M_50 d_M_wordsOf_27 rfl rfl (Nat.le_of_ble_eq_true rfl) (by omega) (by omega) (by omega) (by omega) ?_
      refine aw_if_eq (tgt := 42) d_M_wordsOf_30 (by decide) (fun c_30 => ?_) (fun c_30 => ?_)
      · rw [bP_eq0] at c_30
        refine aw_iload d_M_wordsOf_42 rfl ?_
        refine aw_iadd (v := nI (4 + sz B k)) d_M_wordsOf_44 (nI_add _ _) ?_
        refine aw_iadd (v := nI (wds B k)) d_M_wordsOf_45 (by rw [nI_add]; congr 1; obtain ⟨k, rfl⟩ : ∃ q, k = q + 1 := ⟨k - 1, by omega⟩; rw [wds, wd]; simp [c_30]) ?_
        refine aw_istore_n (L' := [some (.ref a), some (.ref s_), some (.int (nI (wds B k))), some (.int (nI k)), some (.int (nI (sz B k)))]) d_M_wordsOf_46 (by decide) rfl rfl ?_
        refine aw_iinc (v := nI (k + 1)) (L' := [some (.ref a), some (.ref s_), some (.int (nI (wds B k))), some (.int (nI (k + 1))), some (.int (nI (sz B k)))]) d_M_wordsOf_47 rfl (nI_add k 1) (by decide) rfl rfl ?_
        refine aw_goto (tgt := 4) d_M_wordsOf_50 (by decide) ?_
        refine aw_loc (L' := [some (.ref a), some (.ref s_), some (.int (nI (wds B (k + 1 - 1)))), some (.int (nI (k + 1))), none]) (by intro i v hv; rw [show k + 1 - 1 = k by omega] at hv; match i, hv with | 0, hv => exact hv | 1, hv => exact hv | 2, hv => exact hv | 3, hv => exact hv | i + 4, hv => (match i, hv with | 0, hv => cases hv | i + 1, hv => cases hv)) ?_
        exact ih (k + 1) none (by intro v hv; cases hv) (by omega) (by omega) (by omega)
      · rw [bP_eq0, Classical.not_not] at c_30
        refine aw_iload d_M_wordsOf_33 rfl ?_
        refine aw_iconst (v := nI 3) d_M_wordsOf_35 (by decide) ?_
        refine aw_iadd (v := nI (sz B k + 3)) d_M_wordsOf_36 (nI_add _ _) ?_
        refine aw_iconst (v := nI 4) d_M_wordsOf_37 (by decide) ?_
        refine aw_idiv (v := nI ((sz B k + 3) / 4)) d_M_wordsOf_38 (by decide) (pk_div (by omega) (by decide) (by decide)) ?_
        refine aw_goto (tgt := 44) d_M_wordsOf_39 (by decide) ?_
        refine aw_iadd (v := nI (4 + ((sz B k + 3) / 4))) d_M_wordsOf_44 (nI_add _ _) ?_
        refine aw_iadd (v := nI (wds B k)) d_M_wordsOf_45 (by rw [nI_add]; congr 1; obtain ⟨k, rfl⟩ : ∃ q, k = q + 1 := ⟨k - 1, by omega⟩; rw [wds, wd]; simp [c_30]) ?_
        refine aw_istore_n (L' := [some (.ref a), some (.ref s_), some (.int (nI (wds B k))), some (.int (nI k)), some (.int (nI (sz B k)))]) d_M_wordsOf_46 (by decide) rfl rfl ?_
        refine aw_iinc (v := nI (k + 1)) (L' := [some (.ref a), some (.ref s_), some (.int (nI (wds B k))), some (.int (nI (k + 1))), some (.int (nI (sz B k)))]) d_M_wordsOf_47 rfl (nI_add k 1) (by decide) rfl rfl ?_
        refine aw_goto (tgt := 4) d_M_wordsOf_50 (by decide) ?_
        refine aw_loc (L' := [some (.ref a), some (.ref s_), some (.int (nI (wds B (k + 1 - 1)))), some (.int (nI (k + 1))), none]) (by intro i v hv; rw [show k + 1 - 1 = k by omega] at hv; match i, hv with | 0, hv => exact hv | 1, hv => exact hv | 2, hv => exact hv | 3, hv => exact hv | i + 4, hv => (match i, hv with | 0, hv => cases hv | i + 1, hv => cases hv)) ?_
        exact ih (k + 1) none (by intro v hv; cases hv) (by omega) (by omega) (by omega)

set_option maxHeartbeats 4000000 in
theorem c_M_wordsOf {tb : Nat → Nat} {h : AH} {a s_ c : Nat} {B : Nat → Nat} {fs : Nat → Int32} (hB_ : ∀ i, B i < 256) (hb : h a = some (.inl (1, 65536, .inl (bsf B)))) (hst : h s_ = some (.inl (0, 8192, .inl fs))) (X : VX B c fs) : AM tb y_M_wordsOf b_M_wordsOf 5 (some .int) 2 42 [.ref a, .ref s_] h 0 0 (av_Pi (nI (wds B (nn B))) h) := by
  have hn := X.n
  have hnd : nn B = bh B 6 := rfl
  refine am_of (ini := false) [some (.ref a), some (.ref s_), none, none, none] (by decide) (fun z => by cases z) (Nat.le_of_ble_eq_true rfl) rfl ?_
  refine aw_iconst (v := nI 0) d_M_wordsOf_0 (by decide) ?_
  refine aw_istore_n (L' := [some (.ref a), some (.ref s_), some (.int (nI 0)), none, none]) d_M_wordsOf_1 (by decide) rfl rfl ?_
  refine aw_iconst (v := nI 1) d_M_wordsOf_2 (by decide) ?_
  refine aw_istore_n (L' := [some (.ref a), some (.ref s_), some (.int (nI 0)), some (.int (nI 1)), none]) d_M_wordsOf_3 (by decide) rfl rfl ?_
  exact lp_M_wordsOf (by decide) (by decide) hB_ hb hst X (nn B + 1) 1 none (by intro v hv; cases hv) (by omega) (by omega) (by omega)

set_option maxHeartbeats 4000000 in
theorem c_M_stepRoom {tb : Nat → Nat} {h : AH} {m ai am ak as_ aks ar an ab cn ln kl mn c : Nat} {cd : Int32} {B : Nat → Nat} {fs : Nat → Int32} (hB_ : ∀ i, B i < 256) (hm : h m = some (mO cd ai cn am ln ak kl as_ aks ar an ab mn)) (hin : h ai = some (.inl (1, 65536, .inl (bsf B)))) (hst : h as_ = some (.inl (0, 8192, .inl fs))) (X : VX B c fs) (h4 : 12 ≤ B 4 ∧ B 4 ≤ 18) (h5 : 10 ≤ B 5 ∧ B 5 ≤ 14) : AM tb y_M_stepRoom b_M_stepRoom 1 (some .int) 3 66 [.ref m] h 0 0 (av_Pi (pI (plR B)) h) := by
  have hn := X.n
  have hnd : nn B = bh B 6 := rfl
  have p4 : 2 ^ B 4 ≤ 2 ^ 18 := Nat.pow_le_pow_right (by decide) h4.2
  have p5 : 2 ^ B 5 ≤ 2 ^ 14 := Nat.pow_le_pow_right (by decide) h5.2
  refine am_of (ini := false) [some (.ref m)] (by decide) (fun z => by cases z) (Nat.le_of_ble_eq_true rfl) rfl ?_
  refine aw_aload_n d_M_stepRoom_0 rfl ?_
  refine aw_get fl_M_8 d_M_stepRoom_1 hm rfl ?_
  refine aw_aload_n d_M_stepRoom_4 rfl ?_
  refine aw_get fl_M_20 d_M_stepRoom_5 hm rfl ?_
  refine aw_callSi (mc2 := 0) (ms2 := 0) (r := nI (wds B (nn B))) (As := [.ref ai, .ref as_]) (rest := []) (c_M_wordsOf hB_ hin hst X) cs_M_108 d_M_stepRoom_8 rfl rfl (Nat.le_of_ble_eq_true rfl) (by decide) (by decide) (by omega) (by omega) ?_
  have b_8 := wds_le hB_ (nn B)
  refine aw_iconst (v := nI 1) d_M_stepRoom_11 (by decide) ?_
  refine aw_aload_n d_M_stepRoom_12 rfl ?_
  refine aw_get fl_M_8 d_M_stepRoom_13 hm rfl ?_
  refine aw_iconst (v := nI 4) d_M_stepRoom_16 (by decide) ?_
  refine aw_bald (x := bs (B 4)) d_M_stepRoom_17 hin (vp_in_nI (by omega) (by omega)) (by rw [nI_clamp (by omega)]; rfl) ?_
  refine aw_ishl (v := nI (2 ^ B 4)) d_M_stepRoom_18 (one_shl _ (by omega)) ?_
  refine aw_icmp_le (tgt := 24) d_M_stepRoom_19 (by decide) (fun c_19 => ?_) (fun c_19 => ?_)
  · rw [nI_leI (by omega) (by omega)] at c_19
    refine aw_aload_n d_M_stepRoom_24 rfl ?_
    refine aw_get fl_M_8 d_M_stepRoom_25 hm rfl ?_
    refine aw_callSi (mc2 := 0) (ms2 := 0) (r := nI (nn B)) (As := [.ref ai]) (rest := []) (c_M_objects_aB hB_ hin (by omega) (by omega)) cs_M_101 d_M_stepRoom_28 rfl rfl (Nat.le_of_ble_eq_true rfl) (by decide) (by decide) (by omega) (by omega) ?_
    have b_28 : nn B < 65536 := bh_lt hB_ 6
    refine aw_iconst (v := nI 1) d_M_stepRoom_31 (by decide) ?_
    refine aw_aload_n d_M_stepRoom_32 rfl ?_
    refine aw_get fl_M_8 d_M_stepRoom_33 hm rfl ?_
    refine aw_iconst (v := nI 5) d_M_stepRoom_36 (by decide) ?_
    refine aw_bald (x := bs (B 5)) d_M_stepRoom_37 hin (vp_in_nI (by omega) (by omega)) (by rw [nI_clamp (by omega)]; rfl) ?_
    refine aw_ishl (v := nI (2 ^ B 5)) d_M_stepRoom_38 (one_shl _ (by omega)) ?_
    refine aw_icmp_le (tgt := 46) d_M_stepRoom_39 (by decide) (fun c_39 => ?_) (fun c_39 => ?_)
    · rw [nI_leI (by omega) (by omega)] at c_39
      refine aw_iconst (v := (-1)) d_M_stepRoom_46 (by decide) ?_
      exact aw_iret d_M_stepRoom_47 rfl rfl (rt_i (by unfold plR; first | (rw [if_pos (by omega)]; rfl) | (rw [if_neg (by omega), if_pos (by omega)]; rfl) | (rw [if_neg (by omega), if_neg (by omega)]; rfl)))
    · rw [nI_leI (by omega) (by omega)] at c_39
      refine aw_iconst (v := nI 5) d_M_stepRoom_42 (by decide) ?_
      refine aw_goto (tgt := 47) d_M_stepRoom_43 (by decide) ?_
      exact aw_iret d_M_stepRoom_47 rfl rfl (rt_i (by unfold plR; first | (rw [if_pos (by omega)]; rfl) | (rw [if_neg (by omega), if_pos (by omega)]; rfl) | (rw [if_neg (by omega), if_neg (by omega)]; rfl)))
  · rw [nI_leI (by omega) (by omega)] at c_19
    refine aw_iconst (v := nI 4) d_M_stepRoom_22 (by decide) ?_
    exact aw_iret d_M_stepRoom_23 rfl rfl (rt_i (by unfold plR; first | (rw [if_pos (by omega)]; rfl) | (rw [if_neg (by omega), if_pos (by omega)]; rfl) | (rw [if_neg (by omega), if_neg (by omega)]; rfl)))
