theorem av_up_up (h : AH) (a : Nat) (e e' : AE) : av_up (av_up h a e) a e' = av_up h a e' := by
  funext q
  unfold av_up
  split <;> rfl
theorem av_up_id {h : AH} {a : Nat} {e : AE} (ha : h a = some e) : av_up h a e = h := by
  funext q
  unfold av_up
  split
  · next z => rw [z, ha]
  · rfl
theorem plO1_a {B : Nat → Nat} {c a : Nat} (h : ¬ vok B c a) : plO1 B c a = some a := by unfold plO1; rw [if_pos h]
theorem plO1_b {B : Nat → Nat} {c a : Nat} (h : vok B c a) (h2 : ¬ (a + 5 ≤ c ∧ B (a + 4) ≤ 1)) : plO1 B c a = some (a + 4) := by unfold plO1; rw [if_neg (fun q => q h), if_pos h2]
theorem plO1_c {B : Nat → Nat} {c a : Nat} (h : vok B c a) (h2 : a + 5 ≤ c ∧ B (a + 4) ≤ 1) (h3 : ¬ a + 7 ≤ c) : plO1 B c a = some (a + 5) := by unfold plO1; rw [if_neg (fun q => q h), if_neg (fun q => q h2), if_pos h3]
theorem plO1_d {B : Nat → Nat} {c a : Nat} (h : vok B c a) (h3 : a + 7 ≤ c) (h4 : B (a + 4) = 1) : plO1 B c a = if a + 7 + bh B (a + 5) ≤ c then none else some (a + 7) := by unfold plO1; rw [if_neg (fun q => q h), if_neg (fun q => q ⟨by omega, by omega⟩), if_neg (fun q => q h3), if_pos h4]
theorem plO1_e {B : Nat → Nat} {c a : Nat} (h : vok B c a) (h2 : B (a + 4) ≤ 1) (h3 : a + 7 ≤ c) (h4 : ¬ B (a + 4) = 1) : plO1 B c a = plF B c (a + 7) (bh B (a + 5)) 0 := by unfold plO1; rw [if_neg (fun q => q h), if_neg (fun q => q ⟨by omega, h2⟩), if_neg (fun q => q h3), if_neg h4]
theorem plO_some {B : Nat → Nat} {c a f p : Nat} (h : plO1 B c a = some p) : plO B c (f + 1) a = some p := by rw [plO, h]
theorem plO_none {B : Nat → Nat} {c a f : Nat} (h : plO1 B c a = none) : plO B c (f + 1) a = plO B c f (a + 7 + bl B a) := by rw [plO, h]

set_option maxHeartbeats 4000000 in
theorem lp_M_stepProcess {tb : Nat → Nat} {h : AH} {fr lo : Nat} {mc ms : Nat} (hfr : 3 ≤ fr) (hlo : 65 ≤ lo) {m ai am ak as_ aks ar an ab cn ln kl mn c : Nat} {cd : Int32} {B : Nat → Nat} {fs : Nat → Int32} (hB_ : ∀ i, B i < 256) (hm : h m = some (mO cd ai cn am ln ak kl as_ aks ar an ab mn)) (hin : h ai = some (.inl (1, 65536, .inl (bsf B)))) (hst : h as_ = some (.inl (0, 8192, .inl fs))) (X : VX B c fs) (hS : HF B (sp B 14) 2) (hL : PL B (fd B (ob (sp B 14)) 0) 8) : ∀ (d : Nat) (i : Nat) (x5 : Option Value), i ≤ 8 → (∀ j, j < i → PL B (fd B (ob (fd B (ob (sp B 14)) 0)) j) 2) → 8 < i + d → AW tb "ImageReaderModel" b_M_stepProcess 6 (some .int) false none fr lo (av_Pi (pI (plQ B)) h) 44 [some (.ref m), some (.int (nI (sp B 14))), some (.int (nI (fd B (ob (sp B 14)) 0))), some (.int (nI 1)), some (.int (nI i)), none] [] h mc ms := by
  intro d
  induction d with
  | zero => intro i x5 hi hz hd; omega
  | succ d ih =>
    intro i x5 hi hz hd
    have hn := X.n
    have hnd : nn B = bh B 6 := rfl
    have l_1 := sp_lt hB_ 14
    have l_2 := fd_lt hB_ (ob (sp B 14)) 0
    refine aw_iload d_M_stepProcess_44 rfl ?_
    refine aw_bipush (v := nI 8) d_M_stepProcess_46 (by decide) ?_
    refine aw_icmp_ge (tgt := 96) d_M_stepProcess_48 (by decide) (fun c_48 => ?_) (fun c_48 => ?_)
    · rw [nI_leI (by omega) (by omega)] at c_48
      refine aw_aload_n d_M_stepProcess_96 rfl ?_
      refine aw_iload_n d_M_stepProcess_97 rfl ?_
      refine aw_iconst (v := nI 1) d_M_stepProcess_98 (by decide) ?_
      refine aw_callVi (mc2 := mc) (ms2 := ms) (r := nI (fd B (ob (sp B 14)) 1)) (As := [.int (nI (sp B 14)), .int (nI 1)]) (rest := []) (c_M_fieldOf hB_ hm hin hst X (sp B 14) (by omega) (X.sv (by decide)) 1 (hS.1) (hS.2.1) (by have q_ := hS.2.2; omega)) cv_M_72 d_M_stepProcess_99 hm rfl rfl rfl (Nat.le_of_ble_eq_true rfl) (by omega) (by omega) (by omega) (by omega) ?_
      have b_99 := fd_lt hB_ (ob (sp B 14)) 1
      refine aw_istore (L' := [some (.ref m), some (.int (nI (sp B 14))), some (.int (nI (fd B (ob (sp B 14)) 0))), some (.int (nI 1)), some (.int (nI (fd B (ob (sp B 14)) 1))), none]) d_M_stepProcess_102 (by decide) rfl rfl ?_
      refine aw_iload_n d_M_stepProcess_104 rfl ?_
      refine aw_if_eq (tgt := 131) d_M_stepProcess_105 (by decide) (fun z => absurd z (by decide)) (fun _ => ?_)
      refine aw_aload_n d_M_stepProcess_108 rfl ?_
      refine aw_iload d_M_stepProcess_109 rfl ?_
      refine aw_iconst (v := nI 4) d_M_stepProcess_111 (by decide) ?_
      refine aw_callVi (mc2 := mc) (ms2 := ms) (r := bP (HF B (fd B (ob (sp B 14)) 1) 4)) (As := [.int (nI (fd B (ob (sp B 14)) 1)), .int (nI 4)]) (rest := []) (c_M_hasFields hB_ hm hin hst X (fd B (ob (sp B 14)) 1) (by omega) (X.fv (ob_of (X.sv (by decide)) (hS.1)).2.2.2.2.1 (ob_of (X.sv (by decide)) (hS.1)).2.2.2.2.2 (hS.2.1) (by have q_ := hS.2.2; omega)) 4 (by omega)) cv_M_68 d_M_stepProcess_112 hm rfl rfl rfl (Nat.le_of_ble_eq_true rfl) (by omega) (by omega) (by omega) (by omega) ?_
      refine aw_if_eq (tgt := 131) d_M_stepProcess_115 (by decide) (fun c_115 => ?_) (fun c_115 => ?_)
      · rw [bP_eq0] at c_115
        refine aw_iconst (v := nI 0) d_M_stepProcess_131 (by decide) ?_
        refine aw_istore_n (L' := [some (.ref m), some (.int (nI (sp B 14))), some (.int (nI (fd B (ob (sp B 14)) 0))), some (.int (nI 0)), some (.int (nI (fd B (ob (sp B 14)) 1))), none]) d_M_stepProcess_132 (by decide) rfl rfl ?_
        refine aw_iload_n d_M_stepProcess_133 rfl ?_
        refine aw_if_eq (tgt := 198) d_M_stepProcess_134 (by decide) (fun _ => ?_) (fun z => absurd (by decide) z)
        refine aw_iload_n d_M_stepProcess_198 rfl ?_
        refine aw_if_eq (tgt := 206) d_M_stepProcess_199 (by decide) (fun _ => ?_) (fun z => absurd (by decide) z)
        refine aw_bipush (v := nI 64) d_M_stepProcess_206 (by decide) ?_
        exact aw_iret d_M_stepProcess_208 rfl rfl (rt_i (by unfold plQ; rw [if_neg (fun q => by first | exact c_24 q.1.1 | exact q.1.2 c_32 | exact c_67 (q.2.1 i (by omega)).1 | exact (q.2.1 i (by omega)).2 c_81 | exact c_115 q.2.2.1.1 | exact q.2.2.1.2 c_124 | exact c_152 q.2.2.2.1 | exact c_162 q.2.2.2.2.1 | exact q.2.2.2.2.2.1 c_172 | exact c_189 q.2.2.2.2.2.2)]; rfl))
      · rw [bP_eq0, Classical.not_not] at c_115
        refine aw_aload_n d_M_stepProcess_118 rfl ?_
        refine aw_iload d_M_stepProcess_119 rfl ?_
        refine aw_callVi (mc2 := mc) (ms2 := ms) (r := bP (CX B (fd B (ob (sp B 14)) 1))) (As := [.int (nI (fd B (ob (sp B 14)) 1))]) (rest := []) (c_M_isContext hB_ hm hin hst X (fd B (ob (sp B 14)) 1) (by omega) (X.fv (ob_of (X.sv (by decide)) (hS.1)).2.2.2.2.1 (ob_of (X.sv (by decide)) (hS.1)).2.2.2.2.2 (hS.2.1) (by have q_ := hS.2.2; omega))) cv_M_80 d_M_stepProcess_121 hm rfl rfl rfl (Nat.le_of_ble_eq_true rfl) (by omega) (by omega) (by omega) (by omega) ?_
        refine aw_if_ne (tgt := 131) d_M_stepProcess_124 (by decide) (fun c_124 => ?_) (fun c_124 => ?_)
        · rw [bP_eq0, Classical.not_not] at c_124
          refine aw_iconst (v := nI 0) d_M_stepProcess_131 (by decide) ?_
          refine aw_istore_n (L' := [some (.ref m), some (.int (nI (sp B 14))), some (.int (nI (fd B (ob (sp B 14)) 0))), some (.int (nI 0)), some (.int (nI (fd B (ob (sp B 14)) 1))), none]) d_M_stepProcess_132 (by decide) rfl rfl ?_
          refine aw_iload_n d_M_stepProcess_133 rfl ?_
          refine aw_if_eq (tgt := 198) d_M_stepProcess_134 (by decide) (fun _ => ?_) (fun z => absurd (by decide) z)
          refine aw_iload_n d_M_stepProcess_198 rfl ?_
          refine aw_if_eq (tgt := 206) d_M_stepProcess_199 (by decide) (fun _ => ?_) (fun z => absurd (by decide) z)
          refine aw_bipush (v := nI 64) d_M_stepProcess_206 (by decide) ?_
          exact aw_iret d_M_stepProcess_208 rfl rfl (rt_i (by unfold plQ; rw [if_neg (fun q => by first | exact c_24 q.1.1 | exact q.1.2 c_32 | exact c_67 (q.2.1 i (by omega)).1 | exact (q.2.1 i (by omega)).2 c_81 | exact c_115 q.2.2.1.1 | exact q.2.2.1.2 c_124 | exact c_152 q.2.2.2.1 | exact c_162 q.2.2.2.2.1 | exact q.2.2.2.2.2.1 c_172 | exact c_189 q.2.2.2.2.2.2)]; rfl))
        · rw [bP_eq0] at c_124
          refine aw_iconst (v := nI 1) d_M_stepProcess_127 (by decide) ?_
          refine aw_goto (tgt := 132) d_M_stepProcess_128 (by decide) ?_
          refine aw_istore_n (L' := [some (.ref m), some (.int (nI (sp B 14))), some (.int (nI (fd B (ob (sp B 14)) 0))), some (.int (nI 1)), some (.int (nI (fd B (ob (sp B 14)) 1))), none]) d_M_stepProcess_132 (by decide) rfl rfl ?_
          refine aw_iload_n d_M_stepProcess_133 rfl ?_
          refine aw_if_eq (tgt := 198) d_M_stepProcess_134 (by decide) (fun z => absurd z (by decide)) (fun _ => ?_)
          refine aw_aload_n d_M_stepProcess_137 rfl ?_
          refine aw_iload d_M_stepProcess_138 rfl ?_
          refine aw_iconst (v := nI 1) d_M_stepProcess_140 (by decide) ?_
          refine aw_callVi (mc2 := mc) (ms2 := ms) (r := nI (fd B (ob (fd B (ob (sp B 14)) 1)) 1)) (As := [.int (nI (fd B (ob (sp B 14)) 1)), .int (nI 1)]) (rest := []) (c_M_fieldOf hB_ hm hin hst X (fd B (ob (sp B 14)) 1) (by omega) (X.fv (ob_of (X.sv (by decide)) (hS.1)).2.2.2.2.1 (ob_of (X.sv (by decide)) (hS.1)).2.2.2.2.2 (hS.2.1) (by have q_ := hS.2.2; omega)) 1 (c_115.1) (c_115.2.1) (by have q_ := c_115.2.2; omega)) cv_M_72 d_M_stepProcess_141 hm rfl rfl rfl (Nat.le_of_ble_eq_true rfl) (by omega) (by omega) (by omega) (by omega) ?_
          have b_141 := fd_lt hB_ (ob (fd B (ob (sp B 14)) 1)) 1
          refine aw_istore (L' := [some (.ref m), some (.int (nI (sp B 14))), some (.int (nI (fd B (ob (sp B 14)) 0))), some (.int (nI 1)), some (.int (nI (fd B (ob (sp B 14)) 1))), some (.int (nI (fd B (ob (fd B (ob (sp B 14)) 1)) 1)))]) d_M_stepProcess_144 (by decide) rfl rfl ?_
          refine aw_aload_n d_M_stepProcess_146 rfl ?_
          refine aw_iload d_M_stepProcess_147 rfl ?_
          refine aw_callVi (mc2 := mc) (ms2 := ms) (r := bP (CX B (fd B (ob (fd B (ob (sp B 14)) 1)) 1))) (As := [.int (nI (fd B (ob (fd B (ob (sp B 14)) 1)) 1))]) (rest := []) (c_M_isContext hB_ hm hin hst X (fd B (ob (fd B (ob (sp B 14)) 1)) 1) (by omega) (X.fv (ob_of (X.fv (ob_of (X.sv (by decide)) (hS.1)).2.2.2.2.1 (ob_of (X.sv (by decide)) (hS.1)).2.2.2.2.2 (hS.2.1) (by have q_ := hS.2.2; omega)) (c_115.1)).2.2.2.2.1 (ob_of (X.fv (ob_of (X.sv (by decide)) (hS.1)).2.2.2.2.1 (ob_of (X.sv (by decide)) (hS.1)).2.2.2.2.2 (hS.2.1) (by have q_ := hS.2.2; omega)) (c_115.1)).2.2.2.2.2 (c_115.2.1) (by have q_ := c_115.2.2; omega))) cv_M_80 d_M_stepProcess_149 hm rfl rfl rfl (Nat.le_of_ble_eq_true rfl) (by omega) (by omega) (by omega) (by omega) ?_
          refine aw_if_eq (tgt := 196) d_M_stepProcess_152 (by decide) (fun c_152 => ?_) (fun c_152 => ?_)
          · rw [bP_eq0] at c_152
            refine aw_iconst (v := nI 0) d_M_stepProcess_196 (by decide) ?_
            refine aw_istore_n (L' := [some (.ref m), some (.int (nI (sp B 14))), some (.int (nI (fd B (ob (sp B 14)) 0))), some (.int (nI 0)), some (.int (nI (fd B (ob (sp B 14)) 1))), some (.int (nI (fd B (ob (fd B (ob (sp B 14)) 1)) 1)))]) d_M_stepProcess_197 (by decide) rfl rfl ?_
            refine aw_iload_n d_M_stepProcess_198 rfl ?_
            refine aw_if_eq (tgt := 206) d_M_stepProcess_199 (by decide) (fun _ => ?_) (fun z => absurd (by decide) z)
            refine aw_bipush (v := nI 64) d_M_stepProcess_206 (by decide) ?_
            exact aw_iret d_M_stepProcess_208 rfl rfl (rt_i (by unfold plQ; rw [if_neg (fun q => by first | exact c_24 q.1.1 | exact q.1.2 c_32 | exact c_67 (q.2.1 i (by omega)).1 | exact (q.2.1 i (by omega)).2 c_81 | exact c_115 q.2.2.1.1 | exact q.2.2.1.2 c_124 | exact c_152 q.2.2.2.1 | exact c_162 q.2.2.2.2.1 | exact q.2.2.2.2.2.1 c_172 | exact c_189 q.2.2.2.2.2.2)]; rfl))
          · rw [bP_eq0, Classical.not_not] at c_152
            refine aw_aload_n d_M_stepProcess_155 rfl ?_
            refine aw_iload d_M_stepProcess_156 rfl ?_
            refine aw_iconst (v := nI 2) d_M_stepProcess_158 (by decide) ?_
            refine aw_callVi (mc2 := mc) (ms2 := ms) (r := bP (HF B (fd B (ob (fd B (ob (sp B 14)) 1)) 1) 2)) (As := [.int (nI (fd B (ob (fd B (ob (sp B 14)) 1)) 1)), .int (nI 2)]) (rest := []) (c_M_hasFields hB_ hm hin hst X (fd B (ob (fd B (ob (sp B 14)) 1)) 1) (by omega) (X.fv (ob_of (X.fv (ob_of (X.sv (by decide)) (hS.1)).2.2.2.2.1 (ob_of (X.sv (by decide)) (hS.1)).2.2.2.2.2 (hS.2.1) (by have q_ := hS.2.2; omega)) (c_115.1)).2.2.2.2.1 (ob_of (X.fv (ob_of (X.sv (by decide)) (hS.1)).2.2.2.2.1 (ob_of (X.sv (by decide)) (hS.1)).2.2.2.2.2 (hS.2.1) (by have q_ := hS.2.2; omega)) (c_115.1)).2.2.2.2.2 (c_115.2.1) (by have q_ := c_115.2.2; omega)) 2 (by omega)) cv_M_68 d_M_stepProcess_159 hm rfl rfl rfl (Nat.le_of_ble_eq_true rfl) (by omega) (by omega) (by omega) (by omega) ?_
            refine aw_if_eq (tgt := 196) d_M_stepProcess_162 (by decide) (fun c_162 => ?_) (fun c_162 => ?_)
            · rw [bP_eq0] at c_162
              refine aw_iconst (v := nI 0) d_M_stepProcess_196 (by decide) ?_
              refine aw_istore_n (L' := [some (.ref m), some (.int (nI (sp B 14))), some (.int (nI (fd B (ob (sp B 14)) 0))), some (.int (nI 0)), some (.int (nI (fd B (ob (sp B 14)) 1))), some (.int (nI (fd B (ob (fd B (ob (sp B 14)) 1)) 1)))]) d_M_stepProcess_197 (by decide) rfl rfl ?_
              refine aw_iload_n d_M_stepProcess_198 rfl ?_
              refine aw_if_eq (tgt := 206) d_M_stepProcess_199 (by decide) (fun _ => ?_) (fun z => absurd (by decide) z)
              refine aw_bipush (v := nI 64) d_M_stepProcess_206 (by decide) ?_
              exact aw_iret d_M_stepProcess_208 rfl rfl (rt_i (by unfold plQ; rw [if_neg (fun q => by first | exact c_24 q.1.1 | exact q.1.2 c_32 | exact c_67 (q.2.1 i (by omega)).1 | exact (q.2.1 i (by omega)).2 c_81 | exact c_115 q.2.2.1.1 | exact q.2.2.1.2 c_124 | exact c_152 q.2.2.2.1 | exact c_162 q.2.2.2.2.1 | exact q.2.2.2.2.2.1 c_172 | exact c_189 q.2.2.2.2.2.2)]; rfl))
            · rw [bP_eq0, Classical.not_not] at c_162
              refine aw_aload_n d_M_stepProcess_165 rfl ?_
              refine aw_iload d_M_stepProcess_166 rfl ?_
              refine aw_iconst (v := nI 1) d_M_stepProcess_168 (by decide) ?_
              refine aw_callVi (mc2 := mc) (ms2 := ms) (r := nI (fd B (ob (fd B (ob (fd B (ob (sp B 14)) 1)) 1)) 1)) (As := [.int (nI (fd B (ob (fd B (ob (sp B 14)) 1)) 1)), .int (nI 1)]) (rest := []) (c_M_fieldOf hB_ hm hin hst X (fd B (ob (fd B (ob (sp B 14)) 1)) 1) (by omega) (X.fv (ob_of (X.fv (ob_of (X.sv (by decide)) (hS.1)).2.2.2.2.1 (ob_of (X.sv (by decide)) (hS.1)).2.2.2.2.2 (hS.2.1) (by have q_ := hS.2.2; omega)) (c_115.1)).2.2.2.2.1 (ob_of (X.fv (ob_of (X.sv (by decide)) (hS.1)).2.2.2.2.1 (ob_of (X.sv (by decide)) (hS.1)).2.2.2.2.2 (hS.2.1) (by have q_ := hS.2.2; omega)) (c_115.1)).2.2.2.2.2 (c_115.2.1) (by have q_ := c_115.2.2; omega)) 1 (c_162.1) (c_162.2.1) (by have q_ := c_162.2.2; omega)) cv_M_72 d_M_stepProcess_169 hm rfl rfl rfl (Nat.le_of_ble_eq_true rfl) (by omega) (by omega) (by omega) (by omega) ?_
              have b_169 := fd_lt hB_ (ob (fd B (ob (fd B (ob (sp B 14)) 1)) 1)) 1
              refine aw_if_eq (tgt := 196) d_M_stepProcess_172 (by decide) (fun c_172 => ?_) (fun c_172 => ?_)
              · rw [w_eq0 (by omega)] at c_172
                refine aw_iconst (v := nI 0) d_M_stepProcess_196 (by decide) ?_
                refine aw_istore_n (L' := [some (.ref m), some (.int (nI (sp B 14))), some (.int (nI (fd B (ob (sp B 14)) 0))), some (.int (nI 0)), some (.int (nI (fd B (ob (sp B 14)) 1))), some (.int (nI (fd B (ob (fd B (ob (sp B 14)) 1)) 1)))]) d_M_stepProcess_197 (by decide) rfl rfl ?_
                refine aw_iload_n d_M_stepProcess_198 rfl ?_
                refine aw_if_eq (tgt := 206) d_M_stepProcess_199 (by decide) (fun _ => ?_) (fun z => absurd (by decide) z)
                refine aw_bipush (v := nI 64) d_M_stepProcess_206 (by decide) ?_
                exact aw_iret d_M_stepProcess_208 rfl rfl (rt_i (by unfold plQ; rw [if_neg (fun q => by first | exact c_24 q.1.1 | exact q.1.2 c_32 | exact c_67 (q.2.1 i (by omega)).1 | exact (q.2.1 i (by omega)).2 c_81 | exact c_115 q.2.2.1.1 | exact q.2.2.1.2 c_124 | exact c_152 q.2.2.2.1 | exact c_162 q.2.2.2.2.1 | exact q.2.2.2.2.2.1 c_172 | exact c_189 q.2.2.2.2.2.2)]; rfl))
              · rw [w_eq0 (by omega)] at c_172
                refine aw_aload_n d_M_stepProcess_175 rfl ?_
                refine aw_aload_n d_M_stepProcess_176 rfl ?_
                refine aw_iload d_M_stepProcess_177 rfl ?_
                refine aw_iconst (v := nI 2) d_M_stepProcess_179 (by decide) ?_
                refine aw_callVi (mc2 := mc) (ms2 := ms) (r := nI (fd B (ob (fd B (ob (sp B 14)) 1)) 2)) (As := [.int (nI (fd B (ob (sp B 14)) 1)), .int (nI 2)]) (rest := [.ref m]) (c_M_fieldOf hB_ hm hin hst X (fd B (ob (sp B 14)) 1) (by omega) (X.fv (ob_of (X.sv (by decide)) (hS.1)).2.2.2.2.1 (ob_of (X.sv (by decide)) (hS.1)).2.2.2.2.2 (hS.2.1) (by have q_ := hS.2.2; omega)) 2 (c_115.1) (c_115.2.1) (by have q_ := c_115.2.2; omega)) cv_M_72 d_M_stepProcess_180 hm rfl rfl rfl (Nat.le_of_ble_eq_true rfl) (by omega) (by omega) (by omega) (by omega) ?_
                have b_180 := fd_lt hB_ (ob (fd B (ob (sp B 14)) 1)) 2
                refine aw_iconst (v := nI 1) d_M_stepProcess_183 (by decide) ?_
                refine aw_bipush (v := nI 8) d_M_stepProcess_184 (by decide) ?_
                refine aw_callVi (mc2 := mc) (ms2 := ms) (r := bP (NI (fd B (ob (fd B (ob (sp B 14)) 1)) 2) 1 8)) (As := [.int (nI (fd B (ob (fd B (ob (sp B 14)) 1)) 2)), .int (nI 1), .int (nI 8)]) (rest := []) (c_M_isNumberFrom hm (fd B (ob (fd B (ob (sp B 14)) 1)) 2) 1 8 (by omega) (by omega) (by omega)) cv_M_84 d_M_stepProcess_186 hm rfl rfl rfl (Nat.le_of_ble_eq_true rfl) (by omega) (by omega) (by omega) (by omega) ?_
                refine aw_if_eq (tgt := 196) d_M_stepProcess_189 (by decide) (fun c_189 => ?_) (fun c_189 => ?_)
                · rw [bP_eq0] at c_189
                  refine aw_iconst (v := nI 0) d_M_stepProcess_196 (by decide) ?_
                  refine aw_istore_n (L' := [some (.ref m), some (.int (nI (sp B 14))), some (.int (nI (fd B (ob (sp B 14)) 0))), some (.int (nI 0)), some (.int (nI (fd B (ob (sp B 14)) 1))), some (.int (nI (fd B (ob (fd B (ob (sp B 14)) 1)) 1)))]) d_M_stepProcess_197 (by decide) rfl rfl ?_
                  refine aw_iload_n d_M_stepProcess_198 rfl ?_
                  refine aw_if_eq (tgt := 206) d_M_stepProcess_199 (by decide) (fun _ => ?_) (fun z => absurd (by decide) z)
                  refine aw_bipush (v := nI 64) d_M_stepProcess_206 (by decide) ?_
                  exact aw_iret d_M_stepProcess_208 rfl rfl (rt_i (by unfold plQ; rw [if_neg (fun q => by first | exact c_24 q.1.1 | exact q.1.2 c_32 | exact c_67 (q.2.1 i (by omega)).1 | exact (q.2.1 i (by omega)).2 c_81 | exact c_115 q.2.2.1.1 | exact q.2.2.1.2 c_124 | exact c_152 q.2.2.2.1 | exact c_162 q.2.2.2.2.1 | exact q.2.2.2.2.2.1 c_172 | exact c_189 q.2.2.2.2.2.2)]; rfl))
                · rw [bP_eq0, Classical.not_not] at c_189
                  refine aw_iconst (v := nI 1) d_M_stepProcess_192 (by decide) ?_
                  refine aw_goto (tgt := 197) d_M_stepProcess_193 (by decide) ?_
                  refine aw_istore_n (L' := [some (.ref m), some (.int (nI (sp B 14))), some (.int (nI (fd B (ob (sp B 14)) 0))), some (.int (nI 1)), some (.int (nI (fd B (ob (sp B 14)) 1))), some (.int (nI (fd B (ob (fd B (ob (sp B 14)) 1)) 1)))]) d_M_stepProcess_197 (by decide) rfl rfl ?_
                  refine aw_iload_n d_M_stepProcess_198 rfl ?_
                  refine aw_if_eq (tgt := 206) d_M_stepProcess_199 (by decide) (fun z => absurd z (by decide)) (fun _ => ?_)
                  refine aw_iconst (v := (-1)) d_M_stepProcess_202 (by decide) ?_
                  refine aw_goto (tgt := 208) d_M_stepProcess_203 (by decide) ?_
                  exact aw_iret d_M_stepProcess_208 rfl rfl (rt_i (by unfold plQ; rw [if_pos ⟨hL, fun j hj => hz j (by omega), ⟨c_115, c_124⟩, c_152, c_162, c_172, c_189⟩]; rfl))
    · rw [nI_leI (by omega) (by omega)] at c_48
      refine aw_iload_n d_M_stepProcess_51 rfl ?_
      refine aw_if_eq (tgt := 96) d_M_stepProcess_52 (by decide) (fun z => absurd z (by decide)) (fun _ => ?_)
      refine aw_aload_n d_M_stepProcess_55 rfl ?_
      refine aw_aload_n d_M_stepProcess_56 rfl ?_
      refine aw_iload_n d_M_stepProcess_57 rfl ?_
      refine aw_iload d_M_stepProcess_58 rfl ?_
      refine aw_callVi (mc2 := mc) (ms2 := ms) (r := nI (fd B (ob (fd B (ob (sp B 14)) 0)) i)) (As := [.int (nI (fd B (ob (sp B 14)) 0)), .int (nI i)]) (rest := [.ref m]) (c_M_fieldOf hB_ hm hin hst X (fd B (ob (sp B 14)) 0) (by omega) (X.fv (ob_of (X.sv (by decide)) hS.1).2.2.2.2.1 (ob_of (X.sv (by decide)) hS.1).2.2.2.2.2 hS.2.1 (by have q_ := hS.2.2; omega)) i (hL.1.1) (hL.1.2.1) (by have q_ := hL.1.2.2; omega)) cv_M_72 d_M_stepProcess_60 hm rfl rfl rfl (Nat.le_of_ble_eq_true rfl) (by omega) (by omega) (by omega) (by omega) ?_
      have b_60 := fd_lt hB_ (ob (fd B (ob (sp B 14)) 0)) i
      refine aw_iconst (v := nI 2) d_M_stepProcess_63 (by decide) ?_
      refine aw_callVi (mc2 := mc) (ms2 := ms) (r := bP (HF B (fd B (ob (fd B (ob (sp B 14)) 0)) i) 2)) (As := [.int (nI (fd B (ob (fd B (ob (sp B 14)) 0)) i)), .int (nI 2)]) (rest := []) (c_M_hasFields hB_ hm hin hst X (fd B (ob (fd B (ob (sp B 14)) 0)) i) (by omega) (X.fv (ob_of (X.fv (ob_of (X.sv (by decide)) hS.1).2.2.2.2.1 (ob_of (X.sv (by decide)) hS.1).2.2.2.2.2 hS.2.1 (by have q_ := hS.2.2; omega)) (hL.1.1)).2.2.2.2.1 (ob_of (X.fv (ob_of (X.sv (by decide)) hS.1).2.2.2.2.1 (ob_of (X.sv (by decide)) hS.1).2.2.2.2.2 hS.2.1 (by have q_ := hS.2.2; omega)) (hL.1.1)).2.2.2.2.2 (hL.1.2.1) (by have q_ := hL.1.2.2; omega)) 2 (by omega)) cv_M_68 d_M_stepProcess_64 hm rfl rfl rfl (Nat.le_of_ble_eq_true rfl) (by omega) (by omega) (by omega) (by omega) ?_
      refine aw_if_eq (tgt := 88) d_M_stepProcess_67 (by decide) (fun c_67 => ?_) (fun c_67 => ?_)
      · rw [bP_eq0] at c_67
        refine aw_iconst (v := nI 0) d_M_stepProcess_88 (by decide) ?_
        refine aw_istore_n (L' := [some (.ref m), some (.int (nI (sp B 14))), some (.int (nI (fd B (ob (sp B 14)) 0))), some (.int (nI 0)), some (.int (nI i)), none]) d_M_stepProcess_89 (by decide) rfl rfl ?_
        refine aw_iinc (v := nI (i + 1)) (L' := [some (.ref m), some (.int (nI (sp B 14))), some (.int (nI (fd B (ob (sp B 14)) 0))), some (.int (nI 0)), some (.int (nI (i + 1))), none]) d_M_stepProcess_90 rfl (nI_add i 1) (by decide) rfl rfl ?_
        refine aw_goto (tgt := 44) d_M_stepProcess_93 (by decide) ?_
        refine aw_iload d_M_stepProcess_44 rfl ?_
        refine aw_bipush (v := nI 8) d_M_stepProcess_46 (by decide) ?_
        refine aw_icmp_ge (tgt := 96) d_M_stepProcess_48 (by decide) (fun c_48 => ?_) (fun c_48 => ?_)
        · rw [nI_leI (by omega) (by omega)] at c_48
          refine aw_aload_n d_M_stepProcess_96 rfl ?_
          refine aw_iload_n d_M_stepProcess_97 rfl ?_
          refine aw_iconst (v := nI 1) d_M_stepProcess_98 (by decide) ?_
          refine aw_callVi (mc2 := mc) (ms2 := ms) (r := nI (fd B (ob (sp B 14)) 1)) (As := [.int (nI (sp B 14)), .int (nI 1)]) (rest := []) (c_M_fieldOf hB_ hm hin hst X (sp B 14) (by omega) (X.sv (by decide)) 1 (hS.1) (hS.2.1) (by have q_ := hS.2.2; omega)) cv_M_72 d_M_stepProcess_99 hm rfl rfl rfl (Nat.le_of_ble_eq_true rfl) (by omega) (by omega) (by omega) (by omega) ?_
          have b_99 := fd_lt hB_ (ob (sp B 14)) 1
          refine aw_istore (L' := [some (.ref m), some (.int (nI (sp B 14))), some (.int (nI (fd B (ob (sp B 14)) 0))), some (.int (nI 0)), some (.int (nI (fd B (ob (sp B 14)) 1))), none]) d_M_stepProcess_102 (by decide) rfl rfl ?_
          refine aw_iload_n d_M_stepProcess_104 rfl ?_
          refine aw_if_eq (tgt := 131) d_M_stepProcess_105 (by decide) (fun _ => ?_) (fun z => absurd (by decide) z)
          refine aw_iconst (v := nI 0) d_M_stepProcess_131 (by decide) ?_
          refine aw_istore_n (L' := [some (.ref m), some (.int (nI (sp B 14))), some (.int (nI (fd B (ob (sp B 14)) 0))), some (.int (nI 0)), some (.int (nI (fd B (ob (sp B 14)) 1))), none]) d_M_stepProcess_132 (by decide) rfl rfl ?_
          refine aw_iload_n d_M_stepProcess_133 rfl ?_
          refine aw_if_eq (tgt := 198) d_M_stepProcess_134 (by decide) (fun _ => ?_) (fun z => absurd (by decide) z)
          refine aw_iload_n d_M_stepProcess_198 rfl ?_
          refine aw_if_eq (tgt := 206) d_M_stepProcess_199 (by decide) (fun _ => ?_) (fun z => absurd (by decide) z)
          refine aw_bipush (v := nI 64) d_M_stepProcess_206 (by decide) ?_
          exact aw_iret d_M_stepProcess_208 rfl rfl (rt_i (by unfold plQ; rw [if_neg (fun q => by first | exact c_24 q.1.1 | exact q.1.2 c_32 | exact c_67 (q.2.1 i (by omega)).1 | exact (q.2.1 i (by omega)).2 c_81 | exact c_115 q.2.2.1.1 | exact q.2.2.1.2 c_124 | exact c_152 q.2.2.2.1 | exact c_162 q.2.2.2.2.1 | exact q.2.2.2.2.2.1 c_172 | exact c_189 q.2.2.2.2.2.2)]; rfl))
        · rw [nI_leI (by omega) (by omega)] at c_48
          refine aw_iload_n d_M_stepProcess_51 rfl ?_
          refine aw_if_eq (tgt := 96) d_M_stepProcess_52 (by decide) (fun _ => ?_) (fun z => absurd (by decide) z)
          refine aw_aload_n d_M_stepProcess_96 rfl ?_
          refine aw_iload_n d_M_stepProcess_97 rfl ?_
          refine aw_iconst (v := nI 1) d_M_stepProcess_98 (by decide) ?_
          refine aw_callVi (mc2 := mc) (ms2 := ms) (r := nI (fd B (ob (sp B 14)) 1)) (As := [.int (nI (sp B 14)), .int (nI 1)]) (rest := []) (c_M_fieldOf hB_ hm hin hst X (sp B 14) (by omega) (X.sv (by decide)) 1 (hS.1) (hS.2.1) (by have q_ := hS.2.2; omega)) cv_M_72 d_M_stepProcess_99 hm rfl rfl rfl (Nat.le_of_ble_eq_true rfl) (by omega) (by omega) (by omega) (by omega) ?_
          have b_99 := fd_lt hB_ (ob (sp B 14)) 1
          refine aw_istore (L' := [some (.ref m), some (.int (nI (sp B 14))), some (.int (nI (fd B (ob (sp B 14)) 0))), some (.int (nI 0)), some (.int (nI (fd B (ob (sp B 14)) 1))), none]) d_M_stepProcess_102 (by decide) rfl rfl ?_
          refine aw_iload_n d_M_stepProcess_104 rfl ?_
          refine aw_if_eq (tgt := 131) d_M_stepProcess_105 (by decide) (fun _ => ?_) (fun z => absurd (by decide) z)
          refine aw_iconst (v := nI 0) d_M_stepProcess_131 (by decide) ?_
          refine aw_istore_n (L' := [some (.ref m), some (.int (nI (sp B 14))), some (.int (nI (fd B (ob (sp B 14)) 0))), some (.int (nI 0)), some (.int (nI (fd B (ob (sp B 14)) 1))), none]) d_M_stepProcess_132 (by decide) rfl rfl ?_
          refine aw_iload_n d_M_stepProcess_133 rfl ?_
          refine aw_if_eq (tgt := 198) d_M_stepProcess_134 (by decide) (fun _ => ?_) (fun z => absurd (by decide) z)
          refine aw_iload_n d_M_stepProcess_198 rfl ?_
          refine aw_if_eq (tgt := 206) d_M_stepProcess_199 (by decide) (fun _ => ?_) (fun z => absurd (by decide) z)
          refine aw_bipush (v := nI 64) d_M_stepProcess_206 (by decide) ?_
          exact aw_iret d_M_stepProcess_208 rfl rfl (rt_i (by unfold plQ; rw [if_neg (fun q => by first | exact c_24 q.1.1 | exact q.1.2 c_32 | exact c_67 (q.2.1 i (by omega)).1 | exact (q.2.1 i (by omega)).2 c_81 | exact c_115 q.2.2.1.1 | exact q.2.2.1.2 c_124 | exact c_152 q.2.2.2.1 | exact c_162 q.2.2.2.2.1 | exact q.2.2.2.2.2.1 c_172 | exact c_189 q.2.2.2.2.2.2)]; rfl))
      · rw [bP_eq0, Classical.not_not] at c_67
        refine aw_aload_n d_M_stepProcess_70 rfl ?_
        refine aw_aload_n d_M_stepProcess_71 rfl ?_
        refine aw_iload_n d_M_stepProcess_72 rfl ?_
        refine aw_iload d_M_stepProcess_73 rfl ?_
        refine aw_callVi (mc2 := mc) (ms2 := ms) (r := nI (fd B (ob (fd B (ob (sp B 14)) 0)) i)) (As := [.int (nI (fd B (ob (sp B 14)) 0)), .int (nI i)]) (rest := [.ref m]) (c_M_fieldOf hB_ hm hin hst X (fd B (ob (sp B 14)) 0) (by omega) (X.fv (ob_of (X.sv (by decide)) hS.1).2.2.2.2.1 (ob_of (X.sv (by decide)) hS.1).2.2.2.2.2 hS.2.1 (by have q_ := hS.2.2; omega)) i (hL.1.1) (hL.1.2.1) (by have q_ := hL.1.2.2; omega)) cv_M_72 d_M_stepProcess_75 hm rfl rfl rfl (Nat.le_of_ble_eq_true rfl) (by omega) (by omega) (by omega) (by omega) ?_
        have b_75 := fd_lt hB_ (ob (fd B (ob (sp B 14)) 0)) i
        refine aw_callVi (mc2 := mc) (ms2 := ms) (r := bP (CX B (fd B (ob (fd B (ob (sp B 14)) 0)) i))) (As := [.int (nI (fd B (ob (fd B (ob (sp B 14)) 0)) i))]) (rest := []) (c_M_isContext hB_ hm hin hst X (fd B (ob (fd B (ob (sp B 14)) 0)) i) (by omega) (X.fv (ob_of (X.fv (ob_of (X.sv (by decide)) hS.1).2.2.2.2.1 (ob_of (X.sv (by decide)) hS.1).2.2.2.2.2 hS.2.1 (by have q_ := hS.2.2; omega)) (hL.1.1)).2.2.2.2.1 (ob_of (X.fv (ob_of (X.sv (by decide)) hS.1).2.2.2.2.1 (ob_of (X.sv (by decide)) hS.1).2.2.2.2.2 hS.2.1 (by have q_ := hS.2.2; omega)) (hL.1.1)).2.2.2.2.2 (hL.1.2.1) (by have q_ := hL.1.2.2; omega))) cv_M_80 d_M_stepProcess_78 hm rfl rfl rfl (Nat.le_of_ble_eq_true rfl) (by omega) (by omega) (by omega) (by omega) ?_
        refine aw_if_ne (tgt := 88) d_M_stepProcess_81 (by decide) (fun c_81 => ?_) (fun c_81 => ?_)
        · rw [bP_eq0, Classical.not_not] at c_81
          refine aw_iconst (v := nI 0) d_M_stepProcess_88 (by decide) ?_
          refine aw_istore_n (L' := [some (.ref m), some (.int (nI (sp B 14))), some (.int (nI (fd B (ob (sp B 14)) 0))), some (.int (nI 0)), some (.int (nI i)), none]) d_M_stepProcess_89 (by decide) rfl rfl ?_
          refine aw_iinc (v := nI (i + 1)) (L' := [some (.ref m), some (.int (nI (sp B 14))), some (.int (nI (fd B (ob (sp B 14)) 0))), some (.int (nI 0)), some (.int (nI (i + 1))), none]) d_M_stepProcess_90 rfl (nI_add i 1) (by decide) rfl rfl ?_
          refine aw_goto (tgt := 44) d_M_stepProcess_93 (by decide) ?_
          refine aw_iload d_M_stepProcess_44 rfl ?_
          refine aw_bipush (v := nI 8) d_M_stepProcess_46 (by decide) ?_
          refine aw_icmp_ge (tgt := 96) d_M_stepProcess_48 (by decide) (fun c_48 => ?_) (fun c_48 => ?_)
          · rw [nI_leI (by omega) (by omega)] at c_48
            refine aw_aload_n d_M_stepProcess_96 rfl ?_
            refine aw_iload_n d_M_stepProcess_97 rfl ?_
            refine aw_iconst (v := nI 1) d_M_stepProcess_98 (by decide) ?_
            refine aw_callVi (mc2 := mc) (ms2 := ms) (r := nI (fd B (ob (sp B 14)) 1)) (As := [.int (nI (sp B 14)), .int (nI 1)]) (rest := []) (c_M_fieldOf hB_ hm hin hst X (sp B 14) (by omega) (X.sv (by decide)) 1 (hS.1) (hS.2.1) (by have q_ := hS.2.2; omega)) cv_M_72 d_M_stepProcess_99 hm rfl rfl rfl (Nat.le_of_ble_eq_true rfl) (by omega) (by omega) (by omega) (by omega) ?_
            have b_99 := fd_lt hB_ (ob (sp B 14)) 1
            refine aw_istore (L' := [some (.ref m), some (.int (nI (sp B 14))), some (.int (nI (fd B (ob (sp B 14)) 0))), some (.int (nI 0)), some (.int (nI (fd B (ob (sp B 14)) 1))), none]) d_M_stepProcess_102 (by decide) rfl rfl ?_
            refine aw_iload_n d_M_stepProcess_104 rfl ?_
            refine aw_if_eq (tgt := 131) d_M_stepProcess_105 (by decide) (fun _ => ?_) (fun z => absurd (by decide) z)
            refine aw_iconst (v := nI 0) d_M_stepProcess_131 (by decide) ?_
            refine aw_istore_n (L' := [some (.ref m), some (.int (nI (sp B 14))), some (.int (nI (fd B (ob (sp B 14)) 0))), some (.int (nI 0)), some (.int (nI (fd B (ob (sp B 14)) 1))), none]) d_M_stepProcess_132 (by decide) rfl rfl ?_
            refine aw_iload_n d_M_stepProcess_133 rfl ?_
            refine aw_if_eq (tgt := 198) d_M_stepProcess_134 (by decide) (fun _ => ?_) (fun z => absurd (by decide) z)
            refine aw_iload_n d_M_stepProcess_198 rfl ?_
            refine aw_if_eq (tgt := 206) d_M_stepProcess_199 (by decide) (fun _ => ?_) (fun z => absurd (by decide) z)
            refine aw_bipush (v := nI 64) d_M_stepProcess_206 (by decide) ?_
            exact aw_iret d_M_stepProcess_208 rfl rfl (rt_i (by unfold plQ; rw [if_neg (fun q => by first | exact c_24 q.1.1 | exact q.1.2 c_32 | exact c_67 (q.2.1 i (by omega)).1 | exact (q.2.1 i (by omega)).2 c_81 | exact c_115 q.2.2.1.1 | exact q.2.2.1.2 c_124 | exact c_152 q.2.2.2.1 | exact c_162 q.2.2.2.2.1 | exact q.2.2.2.2.2.1 c_172 | exact c_189 q.2.2.2.2.2.2)]; rfl))
          · rw [nI_leI (by omega) (by omega)] at c_48
            refine aw_iload_n d_M_stepProcess_51 rfl ?_
            refine aw_if_eq (tgt := 96) d_M_stepProcess_52 (by decide) (fun _ => ?_) (fun z => absurd (by decide) z)
            refine aw_aload_n d_M_stepProcess_96 rfl ?_
            refine aw_iload_n d_M_stepProcess_97 rfl ?_
            refine aw_iconst (v := nI 1) d_M_stepProcess_98 (by decide) ?_
            refine aw_callVi (mc2 := mc) (ms2 := ms) (r := nI (fd B (ob (sp B 14)) 1)) (As := [.int (nI (sp B 14)), .int (nI 1)]) (rest := []) (c_M_fieldOf hB_ hm hin hst X (sp B 14) (by omega) (X.sv (by decide)) 1 (hS.1) (hS.2.1) (by have q_ := hS.2.2; omega)) cv_M_72 d_M_stepProcess_99 hm rfl rfl rfl (Nat.le_of_ble_eq_true rfl) (by omega) (by omega) (by omega) (by omega) ?_
            have b_99 := fd_lt hB_ (ob (sp B 14)) 1
            refine aw_istore (L' := [some (.ref m), some (.int (nI (sp B 14))), some (.int (nI (fd B (ob (sp B 14)) 0))), some (.int (nI 0)), some (.int (nI (fd B (ob (sp B 14)) 1))), none]) d_M_stepProcess_102 (by decide) rfl rfl ?_
            refine aw_iload_n d_M_stepProcess_104 rfl ?_
            refine aw_if_eq (tgt := 131) d_M_stepProcess_105 (by decide) (fun _ => ?_) (fun z => absurd (by decide) z)
            refine aw_iconst (v := nI 0) d_M_stepProcess_131 (by decide) ?_
            refine aw_istore_n (L' := [some (.ref m), some (.int (nI (sp B 14))), some (.int (nI (fd B (ob (sp B 14)) 0))), some (.int (nI 0)), some (.int (nI (fd B (ob (sp B 14)) 1))), none]) d_M_stepProcess_132 (by decide) rfl rfl ?_
            refine aw_iload_n d_M_stepProcess_133 rfl ?_
            refine aw_if_eq (tgt := 198) d_M_stepProcess_134 (by decide) (fun _ => ?_) (fun z => absurd (by decide) z)
            refine aw_iload_n d_M_stepProcess_198 rfl ?_
            refine aw_if_eq (tgt := 206) d_M_stepProcess_199 (by decide) (fun _ => ?_) (fun z => absurd (by decide) z)
            refine aw_bipush (v := nI 64) d_M_stepProcess_206 (by decide) ?_
            exact aw_iret d_M_stepProcess_208 rfl rfl (rt_i (by unfold plQ; rw [if_neg (fun q => by first | exact c_24 q.1.1 | exact q.1.2 c_32 | exact c_67 (q.2.1 i (by omega)).1 | exact (q.2.1 i (by omega)).2 c_81 | exact c_115 q.2.2.1.1 | exact q.2.2.1.2 c_124 | exact c_152 q.2.2.2.1 | exact c_162 q.2.2.2.2.1 | exact q.2.2.2.2.2.1 c_172 | exact c_189 q.2.2.2.2.2.2)]; rfl))
        · rw [bP_eq0] at c_81
          refine aw_iconst (v := nI 1) d_M_stepProcess_84 (by decide) ?_
          refine aw_goto (tgt := 89) d_M_stepProcess_85 (by decide) ?_
          refine aw_istore_n (L' := [some (.ref m), some (.int (nI (sp B 14))), some (.int (nI (fd B (ob (sp B 14)) 0))), some (.int (nI 1)), some (.int (nI i)), none]) d_M_stepProcess_89 (by decide) rfl rfl ?_
          refine aw_iinc (v := nI (i + 1)) (L' := [some (.ref m), some (.int (nI (sp B 14))), some (.int (nI (fd B (ob (sp B 14)) 0))), some (.int (nI 1)), some (.int (nI (i + 1))), none]) d_M_stepProcess_90 rfl (nI_add i 1) (by decide) rfl rfl ?_
          refine aw_goto (tgt := 44) d_M_stepProcess_93 (by decide) ?_
          exact ih (i + 1) none (by omega) (fun j hj => by rcases Nat.lt_or_ge j i with z | z; exact hz j z; exact (show j = i by omega) ▸ ⟨c_67, c_81⟩) (by omega)

set_option maxHeartbeats 4000000 in
theorem c_M_stepProcess {tb : Nat → Nat} {h : AH} {m ai am ak as_ aks ar an ab cn ln kl mn c : Nat} {cd : Int32} {B : Nat → Nat} {fs : Nat → Int32} (hB_ : ∀ i, B i < 256) (hm : h m = some (mO cd ai cn am ln ak kl as_ aks ar an ab mn)) (hin : h ai = some (.inl (1, 65536, .inl (bsf B)))) (hst : h as_ = some (.inl (0, 8192, .inl fs))) (X : VX B c fs) (hS : HF B (sp B 14) 2) : AM tb y_M_stepProcess b_M_stepProcess 6 (some .int) 3 65 [.ref m] h 0 0 (av_Pi (pI (plQ B)) h) := by
  have hn := X.n
  have hnd : nn B = bh B 6 := rfl
  have l_1 := sp_lt hB_ 14
  have l_2 := fd_lt hB_ (ob (sp B 14)) 0
  refine am_of (ini := false) [some (.ref m), none, none, none, none, none] (by decide) (fun z => by cases z) (Nat.le_of_ble_eq_true rfl) rfl ?_
  refine aw_aload_n d_M_stepProcess_0 rfl ?_
  refine aw_get fl_M_8 d_M_stepProcess_1 hm rfl ?_
  refine aw_bipush (v := nI 14) d_M_stepProcess_4 (by decide) ?_
  refine aw_callSi (mc2 := 0) (ms2 := 0) (r := nI (sp B 14)) (As := [.ref ai, .int (nI 14)]) (rest := []) (c_M_special_aBI hB_ hin (by omega) 14 (by omega)) cs_M_65 d_M_stepProcess_6 rfl rfl (Nat.le_of_ble_eq_true rfl) (by decide) (by decide) (by omega) (by omega) ?_
  have b_6 : sp B 14 < 4294967296 := bw_lt hB_ _
  refine aw_istore_n (L' := [some (.ref m), some (.int (nI (sp B 14))), none, none, none, none]) d_M_stepProcess_9 (by decide) rfl rfl ?_
  refine aw_aload_n d_M_stepProcess_10 rfl ?_
  refine aw_iload_n d_M_stepProcess_11 rfl ?_
  refine aw_iconst (v := nI 0) d_M_stepProcess_12 (by decide) ?_
  refine aw_callVi (mc2 := 0) (ms2 := 0) (r := nI (fd B (ob (sp B 14)) 0)) (As := [.int (nI (sp B 14)), .int (nI 0)]) (rest := []) (c_M_fieldOf hB_ hm hin hst X (sp B 14) (by omega) (X.sv (by decide)) 0 (hS.1) (hS.2.1) (by have q_ := hS.2.2; omega)) cv_M_72 d_M_stepProcess_13 hm rfl rfl rfl (Nat.le_of_ble_eq_true rfl) (by decide) (by decide) (by omega) (by omega) ?_
  have b_13 := fd_lt hB_ (ob (sp B 14)) 0
  refine aw_istore_n (L' := [some (.ref m), some (.int (nI (sp B 14))), some (.int (nI (fd B (ob (sp B 14)) 0))), none, none, none]) d_M_stepProcess_16 (by decide) rfl rfl ?_
  refine aw_aload_n d_M_stepProcess_17 rfl ?_
  refine aw_iload_n d_M_stepProcess_18 rfl ?_
  refine aw_bipush (v := nI 8) d_M_stepProcess_19 (by decide) ?_
  refine aw_callVi (mc2 := 0) (ms2 := 0) (r := bP (HF B (fd B (ob (sp B 14)) 0) 8)) (As := [.int (nI (fd B (ob (sp B 14)) 0)), .int (nI 8)]) (rest := []) (c_M_hasFields hB_ hm hin hst X (fd B (ob (sp B 14)) 0) (by omega) (X.fv (ob_of (X.sv (by decide)) (hS.1)).2.2.2.2.1 (ob_of (X.sv (by decide)) (hS.1)).2.2.2.2.2 (hS.2.1) (by have q_ := hS.2.2; omega)) 8 (by omega)) cv_M_68 d_M_stepProcess_21 hm rfl rfl rfl (Nat.le_of_ble_eq_true rfl) (by decide) (by decide) (by omega) (by omega) ?_
  refine aw_if_eq (tgt := 39) d_M_stepProcess_24 (by decide) (fun c_24 => ?_) (fun c_24 => ?_)
  · rw [bP_eq0] at c_24
    refine aw_iconst (v := nI 0) d_M_stepProcess_39 (by decide) ?_
    refine aw_istore_n (L' := [some (.ref m), some (.int (nI (sp B 14))), some (.int (nI (fd B (ob (sp B 14)) 0))), some (.int (nI 0)), none, none]) d_M_stepProcess_40 (by decide) rfl rfl ?_
    refine aw_iconst (v := nI 0) d_M_stepProcess_41 (by decide) ?_
    refine aw_istore (L' := [some (.ref m), some (.int (nI (sp B 14))), some (.int (nI (fd B (ob (sp B 14)) 0))), some (.int (nI 0)), some (.int (nI 0)), none]) d_M_stepProcess_42 (by decide) rfl rfl ?_
    refine aw_iload d_M_stepProcess_44 rfl ?_
    refine aw_bipush (v := nI 8) d_M_stepProcess_46 (by decide) ?_
    refine aw_icmp_ge (tgt := 96) d_M_stepProcess_48 (by decide) (fun z => absurd z (by decide)) (fun _ => ?_)
    refine aw_iload_n d_M_stepProcess_51 rfl ?_
    refine aw_if_eq (tgt := 96) d_M_stepProcess_52 (by decide) (fun _ => ?_) (fun z => absurd (by decide) z)
    refine aw_aload_n d_M_stepProcess_96 rfl ?_
    refine aw_iload_n d_M_stepProcess_97 rfl ?_
    refine aw_iconst (v := nI 1) d_M_stepProcess_98 (by decide) ?_
    refine aw_callVi (mc2 := 0) (ms2 := 0) (r := nI (fd B (ob (sp B 14)) 1)) (As := [.int (nI (sp B 14)), .int (nI 1)]) (rest := []) (c_M_fieldOf hB_ hm hin hst X (sp B 14) (by omega) (X.sv (by decide)) 1 (hS.1) (hS.2.1) (by have q_ := hS.2.2; omega)) cv_M_72 d_M_stepProcess_99 hm rfl rfl rfl (Nat.le_of_ble_eq_true rfl) (by decide) (by decide) (by omega) (by omega) ?_
    have b_99 := fd_lt hB_ (ob (sp B 14)) 1
    refine aw_istore (L' := [some (.ref m), some (.int (nI (sp B 14))), some (.int (nI (fd B (ob (sp B 14)) 0))), some (.int (nI 0)), some (.int (nI (fd B (ob (sp B 14)) 1))), none]) d_M_stepProcess_102 (by decide) rfl rfl ?_
    refine aw_iload_n d_M_stepProcess_104 rfl ?_
    refine aw_if_eq (tgt := 131) d_M_stepProcess_105 (by decide) (fun _ => ?_) (fun z => absurd (by decide) z)
    refine aw_iconst (v := nI 0) d_M_stepProcess_131 (by decide) ?_
    refine aw_istore_n (L' := [some (.ref m), some (.int (nI (sp B 14))), some (.int (nI (fd B (ob (sp B 14)) 0))), some (.int (nI 0)), some (.int (nI (fd B (ob (sp B 14)) 1))), none]) d_M_stepProcess_132 (by decide) rfl rfl ?_
    refine aw_iload_n d_M_stepProcess_133 rfl ?_
    refine aw_if_eq (tgt := 198) d_M_stepProcess_134 (by decide) (fun _ => ?_) (fun z => absurd (by decide) z)
    refine aw_iload_n d_M_stepProcess_198 rfl ?_
    refine aw_if_eq (tgt := 206) d_M_stepProcess_199 (by decide) (fun _ => ?_) (fun z => absurd (by decide) z)
    refine aw_bipush (v := nI 64) d_M_stepProcess_206 (by decide) ?_
    exact aw_iret d_M_stepProcess_208 rfl rfl (rt_i (by unfold plQ; rw [if_neg (fun q => by first | exact c_24 q.1.1 | exact q.1.2 c_32 | exact c_67 (q.2.1 i (by omega)).1 | exact (q.2.1 i (by omega)).2 c_81 | exact c_115 q.2.2.1.1 | exact q.2.2.1.2 c_124 | exact c_152 q.2.2.2.1 | exact c_162 q.2.2.2.2.1 | exact q.2.2.2.2.2.1 c_172 | exact c_189 q.2.2.2.2.2.2)]; rfl))
  · rw [bP_eq0, Classical.not_not] at c_24
    refine aw_aload_n d_M_stepProcess_27 rfl ?_
    refine aw_iload_n d_M_stepProcess_28 rfl ?_
    refine aw_callVi (mc2 := 0) (ms2 := 0) (r := bP (CX B (fd B (ob (sp B 14)) 0))) (As := [.int (nI (fd B (ob (sp B 14)) 0))]) (rest := []) (c_M_isContext hB_ hm hin hst X (fd B (ob (sp B 14)) 0) (by omega) (X.fv (ob_of (X.sv (by decide)) (hS.1)).2.2.2.2.1 (ob_of (X.sv (by decide)) (hS.1)).2.2.2.2.2 (hS.2.1) (by have q_ := hS.2.2; omega))) cv_M_80 d_M_stepProcess_29 hm rfl rfl rfl (Nat.le_of_ble_eq_true rfl) (by decide) (by decide) (by omega) (by omega) ?_
    refine aw_if_ne (tgt := 39) d_M_stepProcess_32 (by decide) (fun c_32 => ?_) (fun c_32 => ?_)
    · rw [bP_eq0, Classical.not_not] at c_32
      refine aw_iconst (v := nI 0) d_M_stepProcess_39 (by decide) ?_
      refine aw_istore_n (L' := [some (.ref m), some (.int (nI (sp B 14))), some (.int (nI (fd B (ob (sp B 14)) 0))), some (.int (nI 0)), none, none]) d_M_stepProcess_40 (by decide) rfl rfl ?_
      refine aw_iconst (v := nI 0) d_M_stepProcess_41 (by decide) ?_
      refine aw_istore (L' := [some (.ref m), some (.int (nI (sp B 14))), some (.int (nI (fd B (ob (sp B 14)) 0))), some (.int (nI 0)), some (.int (nI 0)), none]) d_M_stepProcess_42 (by decide) rfl rfl ?_
      refine aw_iload d_M_stepProcess_44 rfl ?_
      refine aw_bipush (v := nI 8) d_M_stepProcess_46 (by decide) ?_
      refine aw_icmp_ge (tgt := 96) d_M_stepProcess_48 (by decide) (fun z => absurd z (by decide)) (fun _ => ?_)
      refine aw_iload_n d_M_stepProcess_51 rfl ?_
      refine aw_if_eq (tgt := 96) d_M_stepProcess_52 (by decide) (fun _ => ?_) (fun z => absurd (by decide) z)
      refine aw_aload_n d_M_stepProcess_96 rfl ?_
      refine aw_iload_n d_M_stepProcess_97 rfl ?_
      refine aw_iconst (v := nI 1) d_M_stepProcess_98 (by decide) ?_
      refine aw_callVi (mc2 := 0) (ms2 := 0) (r := nI (fd B (ob (sp B 14)) 1)) (As := [.int (nI (sp B 14)), .int (nI 1)]) (rest := []) (c_M_fieldOf hB_ hm hin hst X (sp B 14) (by omega) (X.sv (by decide)) 1 (hS.1) (hS.2.1) (by have q_ := hS.2.2; omega)) cv_M_72 d_M_stepProcess_99 hm rfl rfl rfl (Nat.le_of_ble_eq_true rfl) (by decide) (by decide) (by omega) (by omega) ?_
      have b_99 := fd_lt hB_ (ob (sp B 14)) 1
      refine aw_istore (L' := [some (.ref m), some (.int (nI (sp B 14))), some (.int (nI (fd B (ob (sp B 14)) 0))), some (.int (nI 0)), some (.int (nI (fd B (ob (sp B 14)) 1))), none]) d_M_stepProcess_102 (by decide) rfl rfl ?_
      refine aw_iload_n d_M_stepProcess_104 rfl ?_
      refine aw_if_eq (tgt := 131) d_M_stepProcess_105 (by decide) (fun _ => ?_) (fun z => absurd (by decide) z)
      refine aw_iconst (v := nI 0) d_M_stepProcess_131 (by decide) ?_
      refine aw_istore_n (L' := [some (.ref m), some (.int (nI (sp B 14))), some (.int (nI (fd B (ob (sp B 14)) 0))), some (.int (nI 0)), some (.int (nI (fd B (ob (sp B 14)) 1))), none]) d_M_stepProcess_132 (by decide) rfl rfl ?_
      refine aw_iload_n d_M_stepProcess_133 rfl ?_
      refine aw_if_eq (tgt := 198) d_M_stepProcess_134 (by decide) (fun _ => ?_) (fun z => absurd (by decide) z)
      refine aw_iload_n d_M_stepProcess_198 rfl ?_
      refine aw_if_eq (tgt := 206) d_M_stepProcess_199 (by decide) (fun _ => ?_) (fun z => absurd (by decide) z)
      refine aw_bipush (v := nI 64) d_M_stepProcess_206 (by decide) ?_
      exact aw_iret d_M_stepProcess_208 rfl rfl (rt_i (by unfold plQ; rw [if_neg (fun q => by first | exact c_24 q.1.1 | exact q.1.2 c_32 | exact c_67 (q.2.1 i (by omega)).1 | exact (q.2.1 i (by omega)).2 c_81 | exact c_115 q.2.2.1.1 | exact q.2.2.1.2 c_124 | exact c_152 q.2.2.2.1 | exact c_162 q.2.2.2.2.1 | exact q.2.2.2.2.2.1 c_172 | exact c_189 q.2.2.2.2.2.2)]; rfl))
    · rw [bP_eq0] at c_32
      refine aw_iconst (v := nI 1) d_M_stepProcess_35 (by decide) ?_
      refine aw_goto (tgt := 40) d_M_stepProcess_36 (by decide) ?_
      refine aw_istore_n (L' := [some (.ref m), some (.int (nI (sp B 14))), some (.int (nI (fd B (ob (sp B 14)) 0))), some (.int (nI 1)), none, none]) d_M_stepProcess_40 (by decide) rfl rfl ?_
      refine aw_iconst (v := nI 0) d_M_stepProcess_41 (by decide) ?_
      refine aw_istore (L' := [some (.ref m), some (.int (nI (sp B 14))), some (.int (nI (fd B (ob (sp B 14)) 0))), some (.int (nI 1)), some (.int (nI 0)), none]) d_M_stepProcess_42 (by decide) rfl rfl ?_
      exact lp_M_stepProcess (by decide) (by decide) hB_ hm hin hst X hS ⟨c_24, c_32⟩ 9 0 none (by omega) (fun j hj => by omega) (by omega)

abbrev m_VP (B : Nat → Nat) (cn : Nat) (h : AH) (as_ : Nat) : Option Value → AH → Prop := fun v h' => v = some (.int (pI (orE (plS B cn) (plO B cn (nn B) 208)))) ∧ ∃ f, h' = av_up h as_ (.inl (0, 8192, .inl f)) ∧ (orE (plS B cn) (plO B cn (nn B) 208) = none → ∀ k, 1 ≤ k → k ≤ nn B → f k = nI (oa B k))
theorem m_VPn {B : Nat → Nat} {cn : Nat} {h : AH} {as_ p : Nat} {f : Nat → Int32} (e : orE (plS B cn) (plO B cn (nn B) 208) = some p) : m_VP B cn h as_ (some (.int (nI p))) (av_up h as_ (.inl (0, 8192, .inl f))) := ⟨by rw [e]; rfl, f, rfl, fun z => by rw [e] at z; cases z⟩
theorem plF_s {B : Nat → Nat} {c a r i : Nat} (h : vok B c (a + 4 * i)) : plF B c a (r + 1) i = plF B c a r (i + 1) := ffst_s (P := fun i => vok B c (a + 4 * i)) (g := fun i => a + 4 * i) h
theorem plF_fit {B : Nat → Nat} {c a s : Nat} (h : plF B c a s 0 = none) (ha : a ≤ c) : a + 4 * s ≤ c := by
  by_cases z : s = 0
  · omega
  · have q := ffst_none (P := fun i => vok B c (a + 4 * i)) h (s - 1) (by omega) (by omega)
    have q2 := q.1
    omega
theorem upd_all {f g : Nat → Int32} {k : Nat} (hz : ∀ j, 1 ≤ j → j < k → f j = g j) : ∀ j, 1 ≤ j → j < k + 1 → upd f k (g k) j = g j := by
  intro j h1 h2
  unfold upd
  by_cases z : j = k
  · rw [if_pos z, z]
  · rw [if_neg z]; exact hz j h1 (by omega)
theorem plF_n {B : Nat → Nat} {c a r i : Nat} (h : ¬ vok B c (a + 4 * i)) : plF B c a (r + 1) i = some (a + 4 * i) := ffst_n (P := fun i => vok B c (a + 4 * i)) (g := fun i => a + 4 * i) h

set_option maxHeartbeats 4000000 in
theorem lp_M_stepValuesF {tb : Nat → Nat} {h : AH} {fr lo : Nat} {mc ms : Nat} (hfr : 3 ≤ fr) (hlo : 63 ≤ lo) {m ai am ak as_ aks ar an ab cn ln kl mn : Nat} {cd : Int32} {B : Nat → Nat} (hB_ : ∀ i, B i < 256) (hm : h m = some (mO cd ai cn am ln ak kl as_ aks ar an ab mn)) (hin : h ai = some (.inl (1, 65536, .inl (bsf B)))) (hcn : cn ≤ 65536) {fs : Nat → Int32} (hst : h as_ = some (.inl (0, 8192, .inl fs))) (hn : nn B ≤ 8191) (hne1 : m ≠ as_) (hne2 : ai ≠ as_) {f : Nat → Int32} (a k : Nat) (ha : a + 7 ≤ 65536) (hk0 : ¬ B (a + 4) = 1) (kx : (plF B cn (a + 7) (bh B (a + 5)) 0 = none → AW tb "ImageReaderModel" b_M_stepValues 6 (some .int) false none fr lo (m_VP B cn h as_) 191 [some (.ref m), some (.int (nI (a + 7))), some (.int (nI k)), some (.int (nI (bh B (a + 5)))), some (.int (bP (B (a + 4) = 1))), none] [] (av_up h as_ (.inl (0, 8192, .inl f))) mc ms)) (ks : (∀ p, plF B cn (a + 7) (bh B (a + 5)) 0 = some p → (m_VP B cn h as_) (some (.int (nI p))) (av_up h as_ (.inl (0, 8192, .inl f))))) : ∀ (d : Nat) (r i : Nat), r + i = bh B (a + 5) → plF B cn (a + 7) r i = plF B cn (a + 7) (bh B (a + 5)) 0 → r < d → AW tb "ImageReaderModel" b_M_stepValues 6 (some .int) false none fr lo (m_VP B cn h as_) 154 [some (.ref m), some (.int (nI (a + 7))), some (.int (nI k)), some (.int (nI (bh B (a + 5)))), some (.int (bP (B (a + 4) = 1))), some (.int (nI i))] [] (av_up h as_ (.inl (0, 8192, .inl f))) mc ms := by
  intro d
  induction d with
  | zero => intro r i hri hq hd; omega
  | succ d ih =>
    intro r i hri hq hd
    have hm1 : (av_up h as_ (.inl (0, 8192, .inl f))) m = some (mO cd ai cn am ln ak kl as_ aks ar an ab mn) := by rw [av_up_ne hne1]; exact hm
    have hin1 : (av_up h as_ (.inl (0, 8192, .inl f))) ai = some (.inl (1, 65536, .inl (bsf B))) := by rw [av_up_ne hne2]; exact hin
    have hst1 : (av_up h as_ (.inl (0, 8192, .inl f))) as_ = some (.inl (0, 8192, .inl f)) := av_up_self _ _ _
    have hb5 := bh_lt hB_ (a + 5)
    refine aw_iload d_M_stepValues_154 rfl ?_
    refine aw_iload_n d_M_stepValues_156 rfl ?_
    refine aw_icmp_ge (tgt := 191) d_M_stepValues_157 (by decide) (fun c_157 => ?_) (fun c_157 => ?_)
    · rw [nI_leI (by omega) (by omega)] at c_157
      refine aw_loc (L' := [some (.ref m), some (.int (nI (a + 7))), some (.int (nI k)), some (.int (nI (bh B (a + 5)))), some (.int (bP (B (a + 4) = 1))), none]) (by intro j v hv; match j, hv with | 0, hv => exact hv | 1, hv => exact hv | 2, hv => exact hv | 3, hv => exact hv | 4, hv => exact hv | 5, hv => cases hv | j + 6, hv => cases hv) ?_
      exact kx (by rw [← hq, show r = 0 by omega]; rfl)
    · rw [nI_leI (by omega) (by omega)] at c_157
      obtain ⟨r, rfl⟩ : ∃ q, r = q + 1 := ⟨r - 1, by omega⟩
      refine aw_iload d_M_stepValues_160 rfl ?_
      refine aw_if_ne (tgt := 191) d_M_stepValues_162 (by decide) (fun c_162 => absurd c_162 (by rw [bP_eq0, Classical.not_not]; exact hk0)) (fun c_162 => ?_)
      try rw [bP_eq0] at c_162
      refine aw_aload_n d_M_stepValues_165 rfl ?_
      refine aw_iload_n d_M_stepValues_166 rfl ?_
      refine aw_iconst (v := nI 4) d_M_stepValues_167 (by decide) ?_
      refine aw_iload d_M_stepValues_168 rfl ?_
      refine aw_imul (v := nI (4 * i)) d_M_stepValues_170 (pk_mul _ _) ?_
      refine aw_iadd (v := nI (a + 7 + 4 * i)) d_M_stepValues_171 (nI_add _ _) ?_
      refine aw_callVi (mc2 := mc) (ms2 := ms) (r := bP (vok B cn (a + 7 + 4 * i))) (As := [.int (nI (a + 7 + 4 * i))]) (rest := []) (c_M_isValue hB_ hm1 hin1 hcn (a + 7 + 4 * i) (by omega)) cv_M_105 d_M_stepValues_172 hm1 rfl rfl rfl (Nat.le_of_ble_eq_true rfl) (by omega) (by omega) (by omega) (by omega) ?_
      refine aw_if_ne (tgt := 185) d_M_stepValues_175 (by decide) (fun c_175 => ?_) (fun c_175 => ?_)
      · rw [bP_eq0, Classical.not_not] at c_175
        refine aw_iinc (v := nI (i + 1)) (L' := [some (.ref m), some (.int (nI (a + 7))), some (.int (nI k)), some (.int (nI (bh B (a + 5)))), some (.int (bP (B (a + 4) = 1))), some (.int (nI (i + 1)))]) d_M_stepValues_185 rfl (nI_add i 1) (by decide) rfl rfl ?_
        refine aw_goto (tgt := 154) d_M_stepValues_188 (by decide) ?_
        exact ih r (i + 1) (by omega) (by rw [← hq]; exact (plF_s c_175).symm) (by omega)
      · rw [bP_eq0] at c_175
        refine aw_iload_n d_M_stepValues_178 rfl ?_
        refine aw_iconst (v := nI 4) d_M_stepValues_179 (by decide) ?_
        refine aw_iload d_M_stepValues_180 rfl ?_
        refine aw_imul (v := nI (4 * i)) d_M_stepValues_182 (pk_mul _ _) ?_
        refine aw_iadd (v := nI (a + 7 + 4 * i)) d_M_stepValues_183 (nI_add _ _) ?_
        exact aw_iret d_M_stepValues_184 rfl rfl (ks _ (by rw [← hq]; exact plF_n c_175))

set_option maxHeartbeats 4000000 in
theorem lp_M_stepValuesO {tb : Nat → Nat} {h : AH} {fr lo : Nat} {mc ms : Nat} (hfr : 3 ≤ fr) (hlo : 63 ≤ lo) {m ai am ak as_ aks ar an ab cn ln kl mn : Nat} {cd : Int32} {B : Nat → Nat} (hB_ : ∀ i, B i < 256) (hm : h m = some (mO cd ai cn am ln ak kl as_ aks ar an ab mn)) (hin : h ai = some (.inl (1, 65536, .inl (bsf B)))) (hcn : cn ≤ 65536) {fs : Nat → Int32} (hst : h as_ = some (.inl (0, 8192, .inl fs))) (hn : nn B ≤ 8191) (hne1 : m ≠ as_) (hne2 : ai ≠ as_) (hS0 : plS B cn = none) : ∀ (d : Nat) (r k : Nat) (f : Nat → Int32), 1 ≤ k → r + k = nn B + 1 → plO B cn r (oa B k) = plO B cn (nn B) 208 → (∀ j, 1 ≤ j → j < k → f j = nI (oa B j)) → oa B k ≤ cn → r < d → AW tb "ImageReaderModel" b_M_stepValues 6 (some .int) false none fr lo (m_VP B cn h as_) 32 [some (.ref m), some (.int (nI (oa B k))), some (.int (nI k)), none, none, none] [] (av_up h as_ (.inl (0, 8192, .inl f))) mc ms := by
  intro d
  induction d with
  | zero => intro r k f hk1 hrk hp hz hao hd; omega
  | succ d ih =>
    intro r k f hk1 hrk hp hz hao hd
    have hm1 : (av_up h as_ (.inl (0, 8192, .inl f))) m = some (mO cd ai cn am ln ak kl as_ aks ar an ab mn) := by rw [av_up_ne hne1]; exact hm
    have hin1 : (av_up h as_ (.inl (0, 8192, .inl f))) ai = some (.inl (1, 65536, .inl (bsf B))) := by rw [av_up_ne hne2]; exact hin
    have hst1 : (av_up h as_ (.inl (0, 8192, .inl f))) as_ = some (.inl (0, 8192, .inl f)) := av_up_self _ _ _
    have hb5 := bh_lt hB_ (oa B k + 5)
    have hszk : sz B k = bh B (oa B k + 5) := rfl
    have hkdk : kd B k = B (oa B k + 4) := rfl
    refine aw_iload_n d_M_stepValues_32 rfl ?_
    refine aw_aload_n d_M_stepValues_33 rfl ?_
    refine aw_get fl_M_8 d_M_stepValues_34 hm1 rfl ?_
    refine aw_callSi (mc2 := mc) (ms2 := ms) (r := nI (nn B)) (As := [.ref ai]) (rest := [.int (nI k)]) (c_M_objects_aB hB_ hin1 (by omega) (by omega)) cs_M_101 d_M_stepValues_37 rfl rfl (Nat.le_of_ble_eq_true rfl) (by omega) (by omega) (by omega) (by omega) ?_
    have b_37 : nn B < 65536 := bh_lt hB_ 6
    refine aw_icmp_gt (tgt := 212) d_M_stepValues_40 (by decide) (fun c_40 => ?_) (fun c_40 => ?_)
    · rw [nI_ltI (by omega) (by omega)] at c_40
      have hr0 : r = 0 := by omega
      refine aw_iload_n d_M_stepValues_212 rfl ?_
      refine aw_aload_n d_M_stepValues_213 rfl ?_
      refine aw_get fl_M_40 d_M_stepValues_214 hm1 rfl ?_
      refine aw_icmp_ge (tgt := 224) d_M_stepValues_217 (by decide) (fun c_217 => ?_) (fun c_217 => ?_)
      · rw [nI_leI (by omega) (by omega)] at c_217
        refine aw_iconst (v := (-1)) d_M_stepValues_224 (by decide) ?_
        exact aw_iret d_M_stepValues_225 rfl rfl ⟨by rw [hS0, show orE none (plO B cn (nn B) 208) = plO B cn (nn B) 208 from rfl, ← hp, hr0, plO, if_neg (by omega)]; rfl, f, rfl, fun _ j h1 h2 => hz j h1 (by omega)⟩
      · rw [nI_leI (by omega) (by omega)] at c_217
        refine aw_iload_n d_M_stepValues_220 rfl ?_
        refine aw_goto (tgt := 225) d_M_stepValues_221 (by decide) ?_
        exact aw_iret d_M_stepValues_225 rfl rfl (m_VPn (by rw [hS0, show orE none (plO B cn (nn B) 208) = plO B cn (nn B) 208 from rfl, ← hp, hr0, plO, if_pos (by omega)]))
    · rw [nI_ltI (by omega) (by omega)] at c_40
      obtain ⟨r, rfl⟩ : ∃ q, r = q + 1 := ⟨r - 1, by omega⟩
      refine aw_aload_n d_M_stepValues_43 rfl ?_
      refine aw_get fl_M_20 d_M_stepValues_44 hm1 rfl ?_
      refine aw_iload_n d_M_stepValues_47 rfl ?_
      refine aw_iload_n d_M_stepValues_48 rfl ?_
      refine aw_iast (f' := upd f k (nI (oa B k))) d_M_stepValues_49 hst1 (vp_in_nI (by omega) (by omega)) (by rw [nI_clamp (by omega)]) ?_
      obtain ⟨k_1, e_k_1⟩ : ∃ z, z = av_up (av_up h as_ (.inl (0, 8192, .inl f))) as_ (.inl (0, 8192, .inl (upd f k (nI (oa B k))))) := ⟨_, rfl⟩
      refine aw_heap (h' := k_1) e_k_1.symm ?_
      have g1_m : k_1 m = some (.inr (5, [.int cd, .ref ai, .int (nI cn), .ref am, .int (nI ln), .ref ak, .int (nI kl), .ref as_, .ref aks, .ref ar, .ref an, .ref ab, .int (nI mn)])) := by rw [e_k_1, av_up_ne hne1]; exact hm1
      have g1_ai : k_1 ai = some (.inl (1, 65536, .inl (bsf B))) := by rw [e_k_1, av_up_ne hne2]; exact hin1
      have g1_as_ : k_1 as_ = some (.inl (0, 8192, .inl (upd f k (nI (oa B k))))) := by rw [e_k_1]; exact av_up_self _ _ _
      refine aw_heap (h' := (av_up h as_ (.inl (0, 8192, .inl (upd f k (nI (oa B k))))))) (by rw [e_k_1, av_up_up]) ?_
      have hm2 : (av_up h as_ (.inl (0, 8192, .inl (upd f k (nI (oa B k)))))) m = some (mO cd ai cn am ln ak kl as_ aks ar an ab mn) := by rw [av_up_ne hne1]; exact hm
      have hin2 : (av_up h as_ (.inl (0, 8192, .inl (upd f k (nI (oa B k)))))) ai = some (.inl (1, 65536, .inl (bsf B))) := by rw [av_up_ne hne2]; exact hin
      have hst2 : (av_up h as_ (.inl (0, 8192, .inl (upd f k (nI (oa B k)))))) as_ = some (.inl (0, 8192, .inl (upd f k (nI (oa B k))))) := av_up_self _ _ _
      refine aw_aload_n d_M_stepValues_50 rfl ?_
      refine aw_iload_n d_M_stepValues_51 rfl ?_
      refine aw_callVi (mc2 := mc) (ms2 := ms) (r := bP (vok B cn (oa B k))) (As := [.int (nI (oa B k))]) (rest := []) (c_M_isValue hB_ hm2 hin2 hcn (oa B k) (by omega)) cv_M_105 d_M_stepValues_52 hm2 rfl rfl rfl (Nat.le_of_ble_eq_true rfl) (by omega) (by omega) (by omega) (by omega) ?_
      refine aw_if_ne (tgt := 60) d_M_stepValues_55 (by decide) (fun c_55 => ?_) (fun c_55 => ?_)
      · rw [bP_eq0, Classical.not_not] at c_55
        refine aw_iload_n d_M_stepValues_60 rfl ?_
        refine aw_iconst (v := nI 5) d_M_stepValues_61 (by decide) ?_
        refine aw_iadd (v := nI (oa B k + 5)) d_M_stepValues_62 (nI_add _ _) ?_
        refine aw_aload_n d_M_stepValues_63 rfl ?_
        refine aw_get fl_M_40 d_M_stepValues_64 hm2 rfl ?_
        refine aw_icmp_gt (tgt := 93) d_M_stepValues_67 (by decide) (fun c_67 => ?_) (fun c_67 => ?_)
        · rw [nI_ltI (by omega) (by omega)] at c_67
          refine aw_iload_n d_M_stepValues_93 rfl ?_
          refine aw_iconst (v := nI 4) d_M_stepValues_94 (by decide) ?_
          refine aw_iadd (v := nI (oa B k + 4)) d_M_stepValues_95 (nI_add _ _) ?_
          exact aw_iret d_M_stepValues_96 rfl rfl (m_VPn (by rw [hS0, show orE none (plO B cn (nn B) 208) = plO B cn (nn B) 208 from rfl, ← hp]; exact plO_some (plO1_b c_55 (by omega))))
        · rw [nI_ltI (by omega) (by omega)] at c_67
          refine aw_aload_n d_M_stepValues_70 rfl ?_
          refine aw_get fl_M_8 d_M_stepValues_71 hm2 rfl ?_
          refine aw_iload_n d_M_stepValues_74 rfl ?_
          refine aw_iconst (v := nI 4) d_M_stepValues_75 (by decide) ?_
          refine aw_iadd (v := nI (oa B k + 4)) d_M_stepValues_76 (nI_add _ _) ?_
          refine aw_bald (x := bs (B (oa B k + 4))) d_M_stepValues_77 hin2 (vp_in_nI (by omega) (by omega)) (by rw [nI_clamp (by omega)]; rfl) ?_
          refine aw_if_eq (tgt := 97) d_M_stepValues_78 (by decide) (fun c_78 => ?_) (fun c_78 => ?_)
          · rw [show (0 : Int32) = nI 0 from rfl, bs_inj _ (hB_ _) 0 (by decide)] at c_78
            have hk1b : B (oa B k + 4) ≤ 1 := by omega
            refine aw_iload_n d_M_stepValues_97 rfl ?_
            refine aw_bipush (v := nI 7) d_M_stepValues_98 (by decide) ?_
            refine aw_iadd (v := nI (oa B k + 7)) d_M_stepValues_100 (nI_add _ _) ?_
            refine aw_aload_n d_M_stepValues_101 rfl ?_
            refine aw_get fl_M_40 d_M_stepValues_102 hm2 rfl ?_
            refine aw_icmp_le (tgt := 112) d_M_stepValues_105 (by decide) (fun c_105 => ?_) (fun c_105 => ?_)
            · rw [nI_leI (by omega) (by omega)] at c_105
              refine aw_aload_n d_M_stepValues_112 rfl ?_
              refine aw_get fl_M_8 d_M_stepValues_113 hm2 rfl ?_
              refine aw_iload_n d_M_stepValues_116 rfl ?_
              refine aw_callSi (mc2 := mc) (ms2 := ms) (r := nI (sz B k)) (As := [.ref ai, .int (nI (oa B k))]) (rest := []) (c_M_sizeAt hB_ hin2 (by omega) (oa B k) (by omega)) cs_M_54 d_M_stepValues_117 rfl rfl (Nat.le_of_ble_eq_true rfl) (by omega) (by omega) (by omega) (by omega) ?_
              have b_117 := sz_lt hB_ k
              refine aw_istore_n (L' := [some (.ref m), some (.int (nI (oa B k))), some (.int (nI k)), some (.int (nI (sz B k))), none, none]) d_M_stepValues_120 (by decide) rfl rfl ?_
              refine aw_aload_n d_M_stepValues_121 rfl ?_
              refine aw_get fl_M_8 d_M_stepValues_122 hm2 rfl ?_
              refine aw_iload_n d_M_stepValues_125 rfl ?_
              refine aw_callSi (mc2 := mc) (ms2 := ms) (r := bP (kd B k = 1)) (As := [.ref ai, .int (nI (oa B k))]) (rest := []) (c_M_isOfBytes hB_ hin2 (by omega) (oa B k) (by omega)) cs_M_50 d_M_stepValues_126 rfl rfl (Nat.le_of_ble_eq_true rfl) (by omega) (by omega) (by omega) (by omega) ?_
              refine aw_istore (L' := [some (.ref m), some (.int (nI (oa B k))), some (.int (nI k)), some (.int (nI (sz B k))), some (.int (bP (kd B k = 1))), none]) d_M_stepValues_129 (by decide) rfl rfl ?_
              refine aw_iinc (v := nI (oa B k + 7)) (L' := [some (.ref m), some (.int (nI (oa B k + 7))), some (.int (nI k)), some (.int (nI (sz B k))), some (.int (bP (kd B k = 1))), none]) d_M_stepValues_131 rfl (nI_add (oa B k) 7) (by decide) rfl rfl ?_
              refine aw_iload d_M_stepValues_134 rfl ?_
              refine aw_if_eq (tgt := 151) d_M_stepValues_136 (by decide) (fun c_136 => ?_) (fun c_136 => ?_)
              · rw [bP_eq0] at c_136
                refine aw_iconst (v := nI 0) d_M_stepValues_151 (by decide) ?_
                refine aw_istore (L' := [some (.ref m), some (.int (nI (oa B k + 7))), some (.int (nI k)), some (.int (nI (sz B k))), some (.int (bP (kd B k = 1))), some (.int (nI 0))]) d_M_stepValues_152 (by decide) rfl rfl ?_
                refine lp_M_stepValuesF (f := (upd f k (nI (oa B k)))) (by omega) (by omega) hB_ hm hin hcn hst hn hne1 hne2 (oa B k) k (by omega) c_136 (fun hpf => ?_) (fun p hpf => m_VPn (by rw [hS0, show orE none (plO B cn (nn B) 208) = plO B cn (nn B) 208 from rfl, ← hp]; exact plO_some (by rw [plO1_e c_55 hk1b c_105 c_136]; exact hpf))) (bh B (oa B k + 5) + 1) (bh B (oa B k + 5)) 0 (by omega) rfl (by omega)
                have hpn : plO1 B cn (oa B k) = none := by rw [plO1_e c_55 hk1b c_105 c_136]; exact hpf
                have hbl := bl_0 c_136
                have hlast := plF_fit hpf c_105
                refine aw_iload_n d_M_stepValues_191 rfl ?_
                refine aw_iload d_M_stepValues_192 rfl ?_
                refine aw_if_eq (tgt := 201) d_M_stepValues_194 (by decide) (fun c_194 => ?_) (fun c_194 => absurd c_194 (by rw [bP_eq0, Classical.not_not]; exact c_136))
                try rw [bP_eq0] at c_194
                refine aw_iconst (v := nI 4) d_M_stepValues_201 (by decide) ?_
                refine aw_iload_n d_M_stepValues_202 rfl ?_
                refine aw_imul (v := nI (4 * (sz B k))) d_M_stepValues_203 (pk_mul _ _) ?_
                refine aw_iadd (v := nI (oa B k + 7 + 4 * (sz B k))) d_M_stepValues_204 (nI_add _ _) ?_
                refine aw_istore_n (L' := [some (.ref m), some (.int (nI (oa B k + 7 + 4 * (sz B k)))), some (.int (nI k)), some (.int (nI (sz B k))), some (.int (bP (kd B k = 1))), none]) d_M_stepValues_205 (by decide) rfl rfl ?_
                refine aw_iinc (v := nI (k + 1)) (L' := [some (.ref m), some (.int (nI (oa B k + 7 + 4 * (sz B k)))), some (.int (nI (k + 1))), some (.int (nI (sz B k))), some (.int (bP (kd B k = 1))), none]) d_M_stepValues_206 rfl (nI_add k 1) (by decide) rfl rfl ?_
                refine aw_goto (tgt := 32) d_M_stepValues_209 (by decide) ?_
                refine aw_loc (L' := [some (.ref m), some (.int (nI (oa B (k + 1)))), some (.int (nI (k + 1))), none, none, none]) (by intro j v hv; match j, hv with | 0, hv => exact hv | 1, hv => (rw [oa_s B hk1, hbl] at hv; exact hv) | 2, hv => exact hv | 3, hv => cases hv | 4, hv => cases hv | 5, hv => cases hv | j + 6, hv => cases hv) ?_
                exact ih r (k + 1) (upd f k (nI (oa B k))) (by omega) (by omega) (by rw [← hp, plO_none hpn, oa_s B hk1]) (upd_all (g := fun j => nI (oa B j)) hz) (by rw [oa_s B hk1, hbl]; omega) (by omega)
              · rw [bP_eq0, Classical.not_not] at c_136
                refine aw_iload_n d_M_stepValues_139 rfl ?_
                refine aw_iload_n d_M_stepValues_140 rfl ?_
                refine aw_iadd (v := nI (oa B k + 7 + sz B k)) d_M_stepValues_141 (nI_add _ _) ?_
                refine aw_aload_n d_M_stepValues_142 rfl ?_
                refine aw_get fl_M_40 d_M_stepValues_143 hm2 rfl ?_
                refine aw_icmp_le (tgt := 151) d_M_stepValues_146 (by decide) (fun c_146 => ?_) (fun c_146 => ?_)
                · rw [nI_leI (by omega) (by omega)] at c_146
                  have hpn : plO1 B cn (oa B k) = none := by rw [plO1_d c_55 c_105 c_136, if_pos (by omega)]
                  have hbl := bl_1 c_136
                  refine aw_iconst (v := nI 0) d_M_stepValues_151 (by decide) ?_
                  refine aw_istore (L' := [some (.ref m), some (.int (nI (oa B k + 7))), some (.int (nI k)), some (.int (nI (sz B k))), some (.int (bP (kd B k = 1))), some (.int (nI 0))]) d_M_stepValues_152 (by decide) rfl rfl ?_
                  refine aw_iload d_M_stepValues_154 rfl ?_
                  refine aw_iload_n d_M_stepValues_156 rfl ?_
                  refine aw_icmp_ge (tgt := 191) d_M_stepValues_157 (by decide) (fun c_157 => ?_) (fun c_157 => ?_)
                  · rw [nI_leI (by omega) (by omega)] at c_157
                    refine aw_iload_n d_M_stepValues_191 rfl ?_
                    refine aw_iload d_M_stepValues_192 rfl ?_
                    refine aw_if_eq (tgt := 201) d_M_stepValues_194 (by decide) (fun c_194 => absurd c_194 (by rw [bP_eq0]; exact fun z => z c_136)) (fun c_194 => ?_)
                    try rw [bP_eq0, Classical.not_not] at c_194
                    refine aw_iload_n d_M_stepValues_197 rfl ?_
                    refine aw_goto (tgt := 204) d_M_stepValues_198 (by decide) ?_
                    refine aw_iadd (v := nI (oa B k + 7 + sz B k)) d_M_stepValues_204 (nI_add _ _) ?_
                    refine aw_istore_n (L' := [some (.ref m), some (.int (nI (oa B k + 7 + sz B k))), some (.int (nI k)), some (.int (nI (sz B k))), some (.int (bP (kd B k = 1))), some (.int (nI 0))]) d_M_stepValues_205 (by decide) rfl rfl ?_
                    refine aw_iinc (v := nI (k + 1)) (L' := [some (.ref m), some (.int (nI (oa B k + 7 + sz B k))), some (.int (nI (k + 1))), some (.int (nI (sz B k))), some (.int (bP (kd B k = 1))), some (.int (nI 0))]) d_M_stepValues_206 rfl (nI_add k 1) (by decide) rfl rfl ?_
                    refine aw_goto (tgt := 32) d_M_stepValues_209 (by decide) ?_
                    refine aw_loc (L' := [some (.ref m), some (.int (nI (oa B (k + 1)))), some (.int (nI (k + 1))), none, none, none]) (by intro j v hv; match j, hv with | 0, hv => exact hv | 1, hv => (rw [oa_s B hk1, hbl] at hv; exact hv) | 2, hv => exact hv | 3, hv => cases hv | 4, hv => cases hv | 5, hv => cases hv | j + 6, hv => cases hv) ?_
                    exact ih r (k + 1) (upd f k (nI (oa B k))) (by omega) (by omega) (by rw [← hp, plO_none hpn, oa_s B hk1]) (upd_all (g := fun j => nI (oa B j)) hz) (by rw [oa_s B hk1, hbl]; omega) (by omega)
                  · rw [nI_leI (by omega) (by omega)] at c_157
                    refine aw_iload d_M_stepValues_160 rfl ?_
                    refine aw_if_ne (tgt := 191) d_M_stepValues_162 (by decide) (fun c_162 => ?_) (fun c_162 => absurd c_162 (by rw [bP_eq0]; exact fun z => z c_136))
                    try rw [bP_eq0, Classical.not_not] at c_162
                    refine aw_iload_n d_M_stepValues_191 rfl ?_
                    refine aw_iload d_M_stepValues_192 rfl ?_
                    refine aw_if_eq (tgt := 201) d_M_stepValues_194 (by decide) (fun c_194 => absurd c_194 (by rw [bP_eq0]; exact fun z => z c_136)) (fun c_194 => ?_)
                    try rw [bP_eq0, Classical.not_not] at c_194
                    refine aw_iload_n d_M_stepValues_197 rfl ?_
                    refine aw_goto (tgt := 204) d_M_stepValues_198 (by decide) ?_
                    refine aw_iadd (v := nI (oa B k + 7 + sz B k)) d_M_stepValues_204 (nI_add _ _) ?_
                    refine aw_istore_n (L' := [some (.ref m), some (.int (nI (oa B k + 7 + sz B k))), some (.int (nI k)), some (.int (nI (sz B k))), some (.int (bP (kd B k = 1))), some (.int (nI 0))]) d_M_stepValues_205 (by decide) rfl rfl ?_
                    refine aw_iinc (v := nI (k + 1)) (L' := [some (.ref m), some (.int (nI (oa B k + 7 + sz B k))), some (.int (nI (k + 1))), some (.int (nI (sz B k))), some (.int (bP (kd B k = 1))), some (.int (nI 0))]) d_M_stepValues_206 rfl (nI_add k 1) (by decide) rfl rfl ?_
                    refine aw_goto (tgt := 32) d_M_stepValues_209 (by decide) ?_
                    refine aw_loc (L' := [some (.ref m), some (.int (nI (oa B (k + 1)))), some (.int (nI (k + 1))), none, none, none]) (by intro j v hv; match j, hv with | 0, hv => exact hv | 1, hv => (rw [oa_s B hk1, hbl] at hv; exact hv) | 2, hv => exact hv | 3, hv => cases hv | 4, hv => cases hv | 5, hv => cases hv | j + 6, hv => cases hv) ?_
                    exact ih r (k + 1) (upd f k (nI (oa B k))) (by omega) (by omega) (by rw [← hp, plO_none hpn, oa_s B hk1]) (upd_all (g := fun j => nI (oa B j)) hz) (by rw [oa_s B hk1, hbl]; omega) (by omega)
                · rw [nI_leI (by omega) (by omega)] at c_146
                  refine aw_iload_n d_M_stepValues_149 rfl ?_
                  exact aw_iret d_M_stepValues_150 rfl rfl (m_VPn (by rw [hS0, show orE none (plO B cn (nn B) 208) = plO B cn (nn B) 208 from rfl, ← hp]; exact plO_some (by rw [plO1_d c_55 c_105 c_136, if_neg (by omega)])))
            · rw [nI_leI (by omega) (by omega)] at c_105
              refine aw_iload_n d_M_stepValues_108 rfl ?_
              refine aw_iconst (v := nI 5) d_M_stepValues_109 (by decide) ?_
              refine aw_iadd (v := nI (oa B k + 5)) d_M_stepValues_110 (nI_add _ _) ?_
              exact aw_iret d_M_stepValues_111 rfl rfl (m_VPn (by rw [hS0, show orE none (plO B cn (nn B) 208) = plO B cn (nn B) 208 from rfl, ← hp]; exact plO_some (plO1_c c_55 ⟨by omega, hk1b⟩ c_105)))
          · rw [show (0 : Int32) = nI 0 from rfl, bs_inj _ (hB_ _) 0 (by decide)] at c_78
            refine aw_aload_n d_M_stepValues_81 rfl ?_
            refine aw_get fl_M_8 d_M_stepValues_82 hm2 rfl ?_
            refine aw_iload_n d_M_stepValues_85 rfl ?_
            refine aw_iconst (v := nI 4) d_M_stepValues_86 (by decide) ?_
            refine aw_iadd (v := nI (oa B k + 4)) d_M_stepValues_87 (nI_add _ _) ?_
            refine aw_bald (x := bs (B (oa B k + 4))) d_M_stepValues_88 hin2 (vp_in_nI (by omega) (by omega)) (by rw [nI_clamp (by omega)]; rfl) ?_
            refine aw_iconst (v := nI 1) d_M_stepValues_89 (by decide) ?_
            refine aw_icmp_eq (tgt := 97) d_M_stepValues_90 (by decide) (fun c_90 => ?_) (fun c_90 => ?_)
            · rw [bs_inj _ (hB_ _) 1 (by decide)] at c_90
              have hk1b : B (oa B k + 4) ≤ 1 := by omega
              refine aw_iload_n d_M_stepValues_97 rfl ?_
              refine aw_bipush (v := nI 7) d_M_stepValues_98 (by decide) ?_
              refine aw_iadd (v := nI (oa B k + 7)) d_M_stepValues_100 (nI_add _ _) ?_
              refine aw_aload_n d_M_stepValues_101 rfl ?_
              refine aw_get fl_M_40 d_M_stepValues_102 hm2 rfl ?_
              refine aw_icmp_le (tgt := 112) d_M_stepValues_105 (by decide) (fun c_105 => ?_) (fun c_105 => ?_)
              · rw [nI_leI (by omega) (by omega)] at c_105
                refine aw_aload_n d_M_stepValues_112 rfl ?_
                refine aw_get fl_M_8 d_M_stepValues_113 hm2 rfl ?_
                refine aw_iload_n d_M_stepValues_116 rfl ?_
                refine aw_callSi (mc2 := mc) (ms2 := ms) (r := nI (sz B k)) (As := [.ref ai, .int (nI (oa B k))]) (rest := []) (c_M_sizeAt hB_ hin2 (by omega) (oa B k) (by omega)) cs_M_54 d_M_stepValues_117 rfl rfl (Nat.le_of_ble_eq_true rfl) (by omega) (by omega) (by omega) (by omega) ?_
                have b_117 := sz_lt hB_ k
                refine aw_istore_n (L' := [some (.ref m), some (.int (nI (oa B k))), some (.int (nI k)), some (.int (nI (sz B k))), none, none]) d_M_stepValues_120 (by decide) rfl rfl ?_
                refine aw_aload_n d_M_stepValues_121 rfl ?_
                refine aw_get fl_M_8 d_M_stepValues_122 hm2 rfl ?_
                refine aw_iload_n d_M_stepValues_125 rfl ?_
                refine aw_callSi (mc2 := mc) (ms2 := ms) (r := bP (kd B k = 1)) (As := [.ref ai, .int (nI (oa B k))]) (rest := []) (c_M_isOfBytes hB_ hin2 (by omega) (oa B k) (by omega)) cs_M_50 d_M_stepValues_126 rfl rfl (Nat.le_of_ble_eq_true rfl) (by omega) (by omega) (by omega) (by omega) ?_
                refine aw_istore (L' := [some (.ref m), some (.int (nI (oa B k))), some (.int (nI k)), some (.int (nI (sz B k))), some (.int (bP (kd B k = 1))), none]) d_M_stepValues_129 (by decide) rfl rfl ?_
                refine aw_iinc (v := nI (oa B k + 7)) (L' := [some (.ref m), some (.int (nI (oa B k + 7))), some (.int (nI k)), some (.int (nI (sz B k))), some (.int (bP (kd B k = 1))), none]) d_M_stepValues_131 rfl (nI_add (oa B k) 7) (by decide) rfl rfl ?_
                refine aw_iload d_M_stepValues_134 rfl ?_
                refine aw_if_eq (tgt := 151) d_M_stepValues_136 (by decide) (fun c_136 => ?_) (fun c_136 => ?_)
                · rw [bP_eq0] at c_136
                  refine aw_iconst (v := nI 0) d_M_stepValues_151 (by decide) ?_
                  refine aw_istore (L' := [some (.ref m), some (.int (nI (oa B k + 7))), some (.int (nI k)), some (.int (nI (sz B k))), some (.int (bP (kd B k = 1))), some (.int (nI 0))]) d_M_stepValues_152 (by decide) rfl rfl ?_
                  refine lp_M_stepValuesF (f := (upd f k (nI (oa B k)))) (by omega) (by omega) hB_ hm hin hcn hst hn hne1 hne2 (oa B k) k (by omega) c_136 (fun hpf => ?_) (fun p hpf => m_VPn (by rw [hS0, show orE none (plO B cn (nn B) 208) = plO B cn (nn B) 208 from rfl, ← hp]; exact plO_some (by rw [plO1_e c_55 hk1b c_105 c_136]; exact hpf))) (bh B (oa B k + 5) + 1) (bh B (oa B k + 5)) 0 (by omega) rfl (by omega)
                  have hpn : plO1 B cn (oa B k) = none := by rw [plO1_e c_55 hk1b c_105 c_136]; exact hpf
                  have hbl := bl_0 c_136
                  have hlast := plF_fit hpf c_105
                  refine aw_iload_n d_M_stepValues_191 rfl ?_
                  refine aw_iload d_M_stepValues_192 rfl ?_
                  refine aw_if_eq (tgt := 201) d_M_stepValues_194 (by decide) (fun c_194 => ?_) (fun c_194 => absurd c_194 (by rw [bP_eq0, Classical.not_not]; exact c_136))
                  try rw [bP_eq0] at c_194
                  refine aw_iconst (v := nI 4) d_M_stepValues_201 (by decide) ?_
                  refine aw_iload_n d_M_stepValues_202 rfl ?_
                  refine aw_imul (v := nI (4 * (sz B k))) d_M_stepValues_203 (pk_mul _ _) ?_
                  refine aw_iadd (v := nI (oa B k + 7 + 4 * (sz B k))) d_M_stepValues_204 (nI_add _ _) ?_
                  refine aw_istore_n (L' := [some (.ref m), some (.int (nI (oa B k + 7 + 4 * (sz B k)))), some (.int (nI k)), some (.int (nI (sz B k))), some (.int (bP (kd B k = 1))), none]) d_M_stepValues_205 (by decide) rfl rfl ?_
                  refine aw_iinc (v := nI (k + 1)) (L' := [some (.ref m), some (.int (nI (oa B k + 7 + 4 * (sz B k)))), some (.int (nI (k + 1))), some (.int (nI (sz B k))), some (.int (bP (kd B k = 1))), none]) d_M_stepValues_206 rfl (nI_add k 1) (by decide) rfl rfl ?_
                  refine aw_goto (tgt := 32) d_M_stepValues_209 (by decide) ?_
                  refine aw_loc (L' := [some (.ref m), some (.int (nI (oa B (k + 1)))), some (.int (nI (k + 1))), none, none, none]) (by intro j v hv; match j, hv with | 0, hv => exact hv | 1, hv => (rw [oa_s B hk1, hbl] at hv; exact hv) | 2, hv => exact hv | 3, hv => cases hv | 4, hv => cases hv | 5, hv => cases hv | j + 6, hv => cases hv) ?_
                  exact ih r (k + 1) (upd f k (nI (oa B k))) (by omega) (by omega) (by rw [← hp, plO_none hpn, oa_s B hk1]) (upd_all (g := fun j => nI (oa B j)) hz) (by rw [oa_s B hk1, hbl]; omega) (by omega)
                · rw [bP_eq0, Classical.not_not] at c_136
                  refine aw_iload_n d_M_stepValues_139 rfl ?_
                  refine aw_iload_n d_M_stepValues_140 rfl ?_
                  refine aw_iadd (v := nI (oa B k + 7 + sz B k)) d_M_stepValues_141 (nI_add _ _) ?_
                  refine aw_aload_n d_M_stepValues_142 rfl ?_
                  refine aw_get fl_M_40 d_M_stepValues_143 hm2 rfl ?_
                  refine aw_icmp_le (tgt := 151) d_M_stepValues_146 (by decide) (fun c_146 => ?_) (fun c_146 => ?_)
                  · rw [nI_leI (by omega) (by omega)] at c_146
                    have hpn : plO1 B cn (oa B k) = none := by rw [plO1_d c_55 c_105 c_136, if_pos (by omega)]
                    have hbl := bl_1 c_136
                    refine aw_iconst (v := nI 0) d_M_stepValues_151 (by decide) ?_
                    refine aw_istore (L' := [some (.ref m), some (.int (nI (oa B k + 7))), some (.int (nI k)), some (.int (nI (sz B k))), some (.int (bP (kd B k = 1))), some (.int (nI 0))]) d_M_stepValues_152 (by decide) rfl rfl ?_
                    refine aw_iload d_M_stepValues_154 rfl ?_
                    refine aw_iload_n d_M_stepValues_156 rfl ?_
                    refine aw_icmp_ge (tgt := 191) d_M_stepValues_157 (by decide) (fun c_157 => ?_) (fun c_157 => ?_)
                    · rw [nI_leI (by omega) (by omega)] at c_157
                      refine aw_iload_n d_M_stepValues_191 rfl ?_
                      refine aw_iload d_M_stepValues_192 rfl ?_
                      refine aw_if_eq (tgt := 201) d_M_stepValues_194 (by decide) (fun c_194 => absurd c_194 (by rw [bP_eq0]; exact fun z => z c_136)) (fun c_194 => ?_)
                      try rw [bP_eq0, Classical.not_not] at c_194
                      refine aw_iload_n d_M_stepValues_197 rfl ?_
                      refine aw_goto (tgt := 204) d_M_stepValues_198 (by decide) ?_
                      refine aw_iadd (v := nI (oa B k + 7 + sz B k)) d_M_stepValues_204 (nI_add _ _) ?_
                      refine aw_istore_n (L' := [some (.ref m), some (.int (nI (oa B k + 7 + sz B k))), some (.int (nI k)), some (.int (nI (sz B k))), some (.int (bP (kd B k = 1))), some (.int (nI 0))]) d_M_stepValues_205 (by decide) rfl rfl ?_
                      refine aw_iinc (v := nI (k + 1)) (L' := [some (.ref m), some (.int (nI (oa B k + 7 + sz B k))), some (.int (nI (k + 1))), some (.int (nI (sz B k))), some (.int (bP (kd B k = 1))), some (.int (nI 0))]) d_M_stepValues_206 rfl (nI_add k 1) (by decide) rfl rfl ?_
                      refine aw_goto (tgt := 32) d_M_stepValues_209 (by decide) ?_
                      refine aw_loc (L' := [some (.ref m), some (.int (nI (oa B (k + 1)))), some (.int (nI (k + 1))), none, none, none]) (by intro j v hv; match j, hv with | 0, hv => exact hv | 1, hv => (rw [oa_s B hk1, hbl] at hv; exact hv) | 2, hv => exact hv | 3, hv => cases hv | 4, hv => cases hv | 5, hv => cases hv | j + 6, hv => cases hv) ?_
                      exact ih r (k + 1) (upd f k (nI (oa B k))) (by omega) (by omega) (by rw [← hp, plO_none hpn, oa_s B hk1]) (upd_all (g := fun j => nI (oa B j)) hz) (by rw [oa_s B hk1, hbl]; omega) (by omega)
                    · rw [nI_leI (by omega) (by omega)] at c_157
                      refine aw_iload d_M_stepValues_160 rfl ?_
                      refine aw_if_ne (tgt := 191) d_M_stepValues_162 (by decide) (fun c_162 => ?_) (fun c_162 => absurd c_162 (by rw [bP_eq0]; exact fun z => z c_136))
                      try rw [bP_eq0, Classical.not_not] at c_162
                      refine aw_iload_n d_M_stepValues_191 rfl ?_
                      refine aw_iload d_M_stepValues_192 rfl ?_
                      refine aw_if_eq (tgt := 201) d_M_stepValues_194 (by decide) (fun c_194 => absurd c_194 (by rw [bP_eq0]; exact fun z => z c_136)) (fun c_194 => ?_)
                      try rw [bP_eq0, Classical.not_not] at c_194
                      refine aw_iload_n d_M_stepValues_197 rfl ?_
                      refine aw_goto (tgt := 204) d_M_stepValues_198 (by decide) ?_
                      refine aw_iadd (v := nI (oa B k + 7 + sz B k)) d_M_stepValues_204 (nI_add _ _) ?_
                      refine aw_istore_n (L' := [some (.ref m), some (.int (nI (oa B k + 7 + sz B k))), some (.int (nI k)), some (.int (nI (sz B k))), some (.int (bP (kd B k = 1))), some (.int (nI 0))]) d_M_stepValues_205 (by decide) rfl rfl ?_
                      refine aw_iinc (v := nI (k + 1)) (L' := [some (.ref m), some (.int (nI (oa B k + 7 + sz B k))), some (.int (nI (k + 1))), some (.int (nI (sz B k))), some (.int (bP (kd B k = 1))), some (.int (nI 0))]) d_M_stepValues_206 rfl (nI_add k 1) (by decide) rfl rfl ?_
                      refine aw_goto (tgt := 32) d_M_stepValues_209 (by decide) ?_
                      refine aw_loc (L' := [some (.ref m), some (.int (nI (oa B (k + 1)))), some (.int (nI (k + 1))), none, none, none]) (by intro j v hv; match j, hv with | 0, hv => exact hv | 1, hv => (rw [oa_s B hk1, hbl] at hv; exact hv) | 2, hv => exact hv | 3, hv => cases hv | 4, hv => cases hv | 5, hv => cases hv | j + 6, hv => cases hv) ?_
                      exact ih r (k + 1) (upd f k (nI (oa B k))) (by omega) (by omega) (by rw [← hp, plO_none hpn, oa_s B hk1]) (upd_all (g := fun j => nI (oa B j)) hz) (by rw [oa_s B hk1, hbl]; omega) (by omega)
                  · rw [nI_leI (by omega) (by omega)] at c_146
                    refine aw_iload_n d_M_stepValues_149 rfl ?_
                    exact aw_iret d_M_stepValues_150 rfl rfl (m_VPn (by rw [hS0, show orE none (plO B cn (nn B) 208) = plO B cn (nn B) 208 from rfl, ← hp]; exact plO_some (by rw [plO1_d c_55 c_105 c_136, if_neg (by omega)])))
              · rw [nI_leI (by omega) (by omega)] at c_105
                refine aw_iload_n d_M_stepValues_108 rfl ?_
                refine aw_iconst (v := nI 5) d_M_stepValues_109 (by decide) ?_
                refine aw_iadd (v := nI (oa B k + 5)) d_M_stepValues_110 (nI_add _ _) ?_
                exact aw_iret d_M_stepValues_111 rfl rfl (m_VPn (by rw [hS0, show orE none (plO B cn (nn B) 208) = plO B cn (nn B) 208 from rfl, ← hp]; exact plO_some (plO1_c c_55 ⟨by omega, hk1b⟩ c_105)))
            · rw [bs_inj _ (hB_ _) 1 (by decide)] at c_90
              refine aw_iload_n d_M_stepValues_93 rfl ?_
              refine aw_iconst (v := nI 4) d_M_stepValues_94 (by decide) ?_
              refine aw_iadd (v := nI (oa B k + 4)) d_M_stepValues_95 (nI_add _ _) ?_
              exact aw_iret d_M_stepValues_96 rfl rfl (m_VPn (by rw [hS0, show orE none (plO B cn (nn B) 208) = plO B cn (nn B) 208 from rfl, ← hp]; exact plO_some (plO1_b c_55 (by omega))))
      · rw [bP_eq0] at c_55
        refine aw_iload_n d_M_stepValues_58 rfl ?_
        exact aw_iret d_M_stepValues_59 rfl rfl (m_VPn (by rw [hS0, show orE none (plO B cn (nn B) 208) = plO B cn (nn B) 208 from rfl, ← hp]; exact plO_some (plO1_a c_55)))
