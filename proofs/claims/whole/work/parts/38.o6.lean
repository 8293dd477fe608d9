/-! ===== the class: takeSpecials, takeObjects ===== -/
/-- a room that grew from c0 on, for what came up to x -/
def CI (c0 cc x : Nat) : Prop := c0 ≤ cc ∧ (cc = c0 ∨ cc < 2 * x)
theorem CI.le {c0 cc x : Nat} (h : CI c0 cc x) : c0 ≤ cc ∧ cc ≤ c0 + 2 * x := by unfold CI at h; omega
theorem CI.step {c0 cc x y : Nat} (h : CI c0 cc x) (h0 : 0 < cc) (hy : x ≤ y) : CI c0 (gN cc y) y := by
  have g := gN_b (cap := cc) (n := y) h0
  unfold CI at *
  omega
theorem CI.fin {c0 cc x c : Nat} (h : CI c0 cc x) (hx : x ≤ c) : cc = c0 ∨ cc < 2 * c := by unfold CI at h; omega
theorem CI.up {c0 cc x y : Nat} (h : CI c0 cc x) (hx : x ≤ y) : CI c0 cc y := by unfold CI at *; omega
/-- what is left for the rest of a run over c bytes -/
def BD (c c0 cc p0 pc mc ms : Nat) : Prop := 4 * c ≤ ms + 8 * (cc - c0) + 2 * (pc - p0) ∧ c / 32 ≤ mc + (cc - c0) / 16 + (pc - p0) / 256
theorem BD.ok {c c0 cc p0 pc mc ms j u K : Nat} (h : BD c c0 cc p0 pc mc ms) (h1 : CI c0 cc (j + 1)) (h2 : CI p0 pc u) (hc : 0 < cc) (hp : 0 < pc) (hu : u ≤ K) (hK : 208 + 7 * (j + 1) + K ≤ c) :
    (gN cc (j + 2) - cc) / 16 + (gN pc K - pc) / 256 ≤ mc ∧ 8 * (gN cc (j + 2) - cc) + 2 * (gN pc K - pc) ≤ ms ∧ BD c c0 (gN cc (j + 2)) p0 (gN pc K) (mc - (gN cc (j + 2) - cc) / 16 - (gN pc K - pc) / 256) (ms - 8 * (gN cc (j + 2) - cc) - 2 * (gN pc K - pc)) := by
  have a := h1.step hc (show j + 1 ≤ j + 2 by omega)
  have b := h2.step hp hu
  have a1 := (gN_b (cap := cc) (n := j + 2) hc).2
  have b1 := (gN_b (cap := pc) (n := K) hp).2
  generalize gN cc (j + 2) = x at *
  generalize gN pc K = y at *
  have a2 := a.le
  have b2 := b.le
  have a3 : cc ≤ x := by omega
  have b3 : pc ≤ y := by omega
  have a4 := h1.le.1
  have b4 := h2.le.1
  clear a1 b1 a b h1 h2
  unfold BD at *
  omega
theorem nmO {h : AH} {q im a0 a1 a2 a3 a4 a5 : Nat} {t : Nat} {x : List Value} {us n iw wp cp cc pc : Nat} {f0 f1 f2 f3 f4 f5 : Nat → Int32} (M : iS h im a0 a1 a2 a3 a4 a5 cc pc us n iw wp cp f0 f1 f2 f3 f4 f5) (hq : h q = some (.inr (t, x))) (ht : t ≠ 2) : q ∉ [im, a0, a1, a2, a3, a4, a5] := nm7 (av_apO hq M.1 ht) (av_apart' hq M.2.1) (av_apart' hq M.2.2.1) (av_apart' hq M.2.2.2.1) (av_apart' hq M.2.2.2.2.1) (av_apart' hq M.2.2.2.2.2.1) (av_apart' hq M.2.2.2.2.2.2)
theorem nmA {h : AH} {q im a0 a1 a2 a3 a4 a5 : Nat} {t : Nat} {x : vp_A} {us n iw wp cp cc pc : Nat} {f0 f1 f2 f3 f4 f5 : Nat → Int32} (M : iS h im a0 a1 a2 a3 a4 a5 cc pc us n iw wp cp f0 f1 f2 f3 f4 f5) (hq : h q = some (.inl (t, x))) (ht : t ≠ 0) : q ∉ [im, a0, a1, a2, a3, a4, a5] := nm7 (av_apart hq M.1) (av_apT hq M.2.1 ht) (av_apT hq M.2.2.1 ht) (av_apT hq M.2.2.2.1 ht) (av_apT hq M.2.2.2.2.1 ht) (av_apT hq M.2.2.2.2.2.1 ht) (av_apT hq M.2.2.2.2.2.2 ht)

set_option maxHeartbeats 4000000 in
theorem lp_L_takeSpecials {tb : Nat → Nat} {h : AH} {fr lo : Nat} {mc ms : Nat} (hfr : 3 ≤ fr) (hlo : 65 ≤ lo) {b ro cap c : Nat} {G B : Nat → Nat} (hG : ∀ i, G i < 256) (hB_ : ∀ i, B i < 256) (hW : ∀ i, i < c → G i = B i) (hc : c ≤ cap) (hcap : cap ≤ 1048576) {im a0 a1 a2 a3 a4 a5 cc pc : Nat} {f1 f2 f3 f4 f5 : Nat → Int32} (D : iND a0 a1 a2 a3 a4 a5) : ∀ (d : Nat) (r k : Nat) (g : AH) (f : Nat → Int32), g b = some (.inr (1, [.ref ro, .int (nI c)])) → g ro = some (.inl (1, cap, .inl (bsf G))) → iS g im a0 a1 a2 a3 a4 a5 cc pc 0 0 0 (B 4) (B 5) f f1 f2 f3 f4 f5 → frm [im, a0, a1, a2, a3, a4, a5] [im, a0, a1, a2, a3, a4, a5] h g → (∀ j, j < k → f j = nI (sp B j)) → r + k = 50 → ffst (fun k => vok B c (8 + 4 * k)) (fun k => 8 + 4 * k) r k = plS B c → r < d → AW tb "ImageReader$Layout" b_L_takeSpecials 5 (some .int) false none fr lo (fun v h' => v = some (.int (pI (plS B c))) ∧ ∃ f, iS h' im a0 a1 a2 a3 a4 a5 cc pc 0 0 0 (B 4) (B 5) f f1 f2 f3 f4 f5 ∧ (plS B c = none → ∀ k, k < 50 → f k = nI (sp B k)) ∧ frm [im, a0, a1, a2, a3, a4, a5] [im, a0, a1, a2, a3, a4, a5] h h') 31 [some (.ref b), some (.ref im), some (.int (nI (nn B))), some (.int (nI k)), none] [] g mc ms := by
  intro d
  induction d with
  | zero => intro r k g f gb gr gM gT hz hrk hp hd; omega
  | succ d ih =>
    intro r k g f gb gr gM gT hz hrk hp hd
    refine aw_iload_n d_L_takeSpecials_31 rfl ?_
    refine aw_bipush (v := nI 50) d_L_takeSpecials_32 (by decide) ?_
    refine aw_icmp_ge (tgt := 76) d_L_takeSpecials_34 (by decide) (fun c_34 => ?_) (fun c_34 => ?_)
    · rw [nI_leI (by omega) (by omega)] at c_34
      refine aw_iconst (v := (-1)) d_L_takeSpecials_76 (by decide) ?_
      exact aw_iret d_L_takeSpecials_77 rfl rfl ⟨by rw [← hp, show r = 0 by omega]; rfl, f, gM, fun _ j hj => hz j (by omega), gT⟩
    · rw [nI_leI (by omega) (by omega)] at c_34
      obtain ⟨r, rfl⟩ : ∃ q, r = q + 1 := ⟨r - 1, by omega⟩
      refine aw_bipush (v := nI 8) d_L_takeSpecials_37 (by decide) ?_
      refine aw_iconst (v := nI 4) d_L_takeSpecials_39 (by decide) ?_
      refine aw_iload_n d_L_takeSpecials_40 rfl ?_
      refine aw_imul (v := nI (4 * k)) d_L_takeSpecials_41 (pk_mul _ _) ?_
      refine aw_iadd (v := nI (8 + 4 * k)) d_L_takeSpecials_42 (nI_add _ _) ?_
      refine aw_istore (L' := [some (.ref b), some (.ref im), some (.int (nI (nn B))), some (.int (nI k)), some (.int (nI (8 + 4 * k)))]) d_L_takeSpecials_43 (by decide) rfl rfl ?_
      refine aw_aload_n d_L_takeSpecials_45 rfl ?_
      refine aw_iload d_L_takeSpecials_46 rfl ?_
      refine aw_iload_n d_L_takeSpecials_48 rfl ?_
      refine aw_callSi (mc2 := mc) (ms2 := ms) (r := bP (vok B c (8 + 4 * k))) (As := [.ref b, .int (nI (8 + 4 * k)), .int (nI (nn B))]) (rest := []) (c_L_isValueAt hG hB_ hW gb gr hc hcap (8 + 4 * k) (by omega)) cs_L_44 d_L_takeSpecials_49 rfl rfl (Nat.le_of_ble_eq_true rfl) (by omega) (by omega) (by omega) (by omega) ?_
      refine aw_if_ne (tgt := 58) d_L_takeSpecials_52 (by decide) (fun c_52 => ?_) (fun c_52 => ?_)
      · rw [bP_eq0, Classical.not_not] at c_52
        have hv1 := c_52.1
        refine aw_aload_n d_L_takeSpecials_58 rfl ?_
        refine aw_get fl_L_50 d_L_takeSpecials_59 gM.1 rfl ?_
        refine aw_iload_n d_L_takeSpecials_62 rfl ?_
        refine aw_aload_n d_L_takeSpecials_63 rfl ?_
        refine aw_iload d_L_takeSpecials_64 rfl ?_
        refine aw_callVi (mc2 := mc) (ms2 := ms) (r := nI (bw B (8 + 4 * k))) (As := [.int (nI (8 + 4 * k))]) (rest := [.int (nI k), .ref a0]) (c_B_wordAt hG hB_ hW gb gr hc hcap (8 + 4 * k) (by omega)) cv_L_53 d_L_takeSpecials_66 gb rfl rfl rfl (Nat.le_of_ble_eq_true rfl) (by omega) (by omega) (by omega) (by omega) ?_
        have b_66 := bw_lt hB_ (8 + 4 * k)
        refine aw_iast (f' := upd f k (nI (bw B (8 + 4 * k)))) d_L_takeSpecials_69 gM.2.1 (vp_in_nI (by omega) (by omega)) (by rw [nI_clamp (by omega)]) ?_
        obtain ⟨k_1, e_k_1⟩ : ∃ z, z = av_up g a0 (.inl (0, 50, .inl (upd f k (nI (bw B (8 + 4 * k)))))) := ⟨_, rfl⟩
        refine aw_heap (h' := k_1) e_k_1.symm ?_
        have g1_b : k_1 b = some (.inr (1, [.ref ro, .int (nI c)])) := by rw [e_k_1, av_up_ne (av_apart' gb gM.2.1)]; exact gb
        have g1_ro : k_1 ro = some (.inl (1, cap, .inl (bsf G))) := by rw [e_k_1, av_up_ne (av_apT gr gM.2.1 (by decide))]; exact gr
        have g1_im : k_1 im = some (.inr (2, [.ref a0, .ref a1, .ref a2, .ref a3, .ref a4, .ref a5, .int (nI 0), .int (nI 0), .int (nI 0), .int (nI (B 4)), .int (nI (B 5))])) := by rw [e_k_1, av_up_ne (av_apart' gM.1 gM.2.1)]; exact gM.1
        have g1_a1 : k_1 a1 = some (.inl (0, cc, .inl f1)) := by rw [e_k_1, av_up_ne (Ne.symm D.1)]; exact gM.2.2.1
        have g1_a2 : k_1 a2 = some (.inl (0, cc, .inl f2)) := by rw [e_k_1, av_up_ne (Ne.symm D.2.1)]; exact gM.2.2.2.1
        have g1_a3 : k_1 a3 = some (.inl (0, cc, .inl f3)) := by rw [e_k_1, av_up_ne (Ne.symm D.2.2.1)]; exact gM.2.2.2.2.1
        have g1_a4 : k_1 a4 = some (.inl (0, cc, .inl f4)) := by rw [e_k_1, av_up_ne (Ne.symm D.2.2.2.1)]; exact gM.2.2.2.2.2.1
        have g1_a5 : k_1 a5 = some (.inl (0, pc, .inl f5)) := by rw [e_k_1, av_up_ne (Ne.symm D.2.2.2.2.1)]; exact gM.2.2.2.2.2.2
        have g1_a0 : k_1 a0 = some (.inl (0, 50, .inl (upd f k (nI (bw B (8 + 4 * k)))))) := by rw [e_k_1]; exact av_up_self _ _ _
        refine aw_iinc (v := nI (k + 1)) (L' := [some (.ref b), some (.ref im), some (.int (nI (nn B))), some (.int (nI (k + 1))), some (.int (nI (8 + 4 * k)))]) d_L_takeSpecials_70 rfl (nI_add k 1) (by decide) rfl rfl ?_
        refine aw_goto (tgt := 31) d_L_takeSpecials_73 (by decide) ?_
        refine aw_loc (L' := [some (.ref b), some (.ref im), some (.int (nI (nn B))), some (.int (nI (k + 1))), none]) (by intro j v hv; match j, hv with | 0, hv => exact hv | 1, hv => exact hv | 2, hv => exact hv | 3, hv => exact hv | 4, hv => cases hv | j + 5, hv => cases hv) ?_
        exact ih r (k + 1) _ _ g1_b g1_ro ⟨g1_im, g1_a0, g1_a1, g1_a2, g1_a3, g1_a4, g1_a5⟩ (gT.up e_k_1 (by simp)) (fun j hj => by unfold upd; by_cases y : j = k; (rw [if_pos y, y]; rfl); (rw [if_neg y]; exact hz j (by omega))) (by omega) (by rw [← hp, ffst_s (P := fun k => vok B c (8 + 4 * k)) c_52]) (by omega)
      · rw [bP_eq0] at c_52
        have hp1 : plS B c = some (8 + 4 * k) := by rw [← hp, ffst_n (P := fun k => vok B c (8 + 4 * k)) c_52]
        refine aw_iload d_L_takeSpecials_55 rfl ?_
        exact aw_iret d_L_takeSpecials_57 rfl rfl ⟨by rw [hp1]; rfl, f, gM, fun y => (by rw [hp1] at y; cases y), gT⟩

set_option maxHeartbeats 4000000 in
theorem c_L_takeSpecials {tb : Nat → Nat} {h : AH} {b ro cap c : Nat} {G B : Nat → Nat} (hG : ∀ i, G i < 256) (hB_ : ∀ i, B i < 256) (hW : ∀ i, i < c → G i = B i) (hb : h b = some (.inr (1, [.ref ro, .int (nI c)]))) (hr : h ro = some (.inl (1, cap, .inl (bsf G)))) (hc : c ≤ cap) (hcap : cap ≤ 1048576) {im a0 a1 a2 a3 a4 a5 cc pc us n iw wp cp : Nat} {f0 f1 f2 f3 f4 f5 : Nat → Int32} (M : iS h im a0 a1 a2 a3 a4 a5 cc pc us n iw wp cp f0 f1 f2 f3 f4 f5) (D : iND a0 a1 a2 a3 a4 a5) (h8 : 8 ≤ c) : AM tb y_L_takeSpecials b_L_takeSpecials 5 (some .int) 3 65 [.ref b, .ref im] h 0 0 (fun v h' => v = some (.int (pI (plS B c))) ∧ ∃ f, iS h' im a0 a1 a2 a3 a4 a5 cc pc 0 0 0 (B 4) (B 5) f f1 f2 f3 f4 f5 ∧ (plS B c = none → ∀ k, k < 50 → f k = nI (sp B k)) ∧ frm [im, a0, a1, a2, a3, a4, a5] [im, a0, a1, a2, a3, a4, a5] h h') := by
  refine am_of (ini := false) [some (.ref b), some (.ref im), none, none, none] (by decide) (fun z => by cases z) (Nat.le_of_ble_eq_true rfl) rfl ?_
  refine aw_aload_n d_L_takeSpecials_0 rfl ?_
  refine aw_callV (mc2 := 0) (ms2 := 0) (As := []) (rest := []) (c_I_clear M D) cv_L_33 d_L_takeSpecials_1 M.1 rfl rfl rfl (Nat.le_of_ble_eq_true rfl) (by decide) (by decide) (by omega) (by omega) (fun v_1 k_1c q_1 => ?_)
  obtain ⟨y1, y2, y3⟩ := q_1
  refine aw_st (st' := []) (by rw [y1]; rfl) ?_
  have p_cl_b : k_1c b = some (.inr (1, [.ref ro, .int (nI c)])) := y3.at (nmO M hb (by decide)) hb
  have p_cl_ro : k_1c ro = some (.inl (1, cap, .inl (bsf G))) := y3.at (nmA M hr (by decide)) hr
  refine aw_aload_n d_L_takeSpecials_4 rfl ?_
  refine aw_aload_n d_L_takeSpecials_5 rfl ?_
  refine aw_iconst (v := nI 4) d_L_takeSpecials_6 (by decide) ?_
  refine aw_callVi (mc2 := 0) (ms2 := 0) (r := nI (B 4)) (As := [.int (nI 4)]) (rest := [.ref im]) (c_B_at hG hB_ hW p_cl_b p_cl_ro hc hcap 4 (by omega)) cv_L_13 d_L_takeSpecials_7 p_cl_b rfl rfl rfl (Nat.le_of_ble_eq_true rfl) (by decide) (by decide) (by omega) (by omega) ?_
  have b_7 := hB_ 4
  refine aw_put (fs' := [.ref a0, .ref a1, .ref a2, .ref a3, .ref a4, .ref a5, .int (nI 0), .int (nI 0), .int (nI 0), .int (nI (B 4)), .int (nI cp)]) (pt_L_38 _) d_L_takeSpecials_10 y2.1 rfl rfl (by simp) rfl ?_
  obtain ⟨k_1, e_k_1⟩ : ∃ z, z = av_up k_1c im (.inr (2, [.ref a0, .ref a1, .ref a2, .ref a3, .ref a4, .ref a5, .int (nI 0), .int (nI 0), .int (nI 0), .int (nI (B 4)), .int (nI cp)])) := ⟨_, rfl⟩
  refine aw_heap (h' := k_1) e_k_1.symm ?_
  have g1_b : k_1 b = some (.inr (1, [.ref ro, .int (nI c)])) := by rw [e_k_1, av_up_ne (av_apO p_cl_b y2.1 (by decide))]; exact p_cl_b
  have g1_ro : k_1 ro = some (.inl (1, cap, .inl (bsf G))) := by rw [e_k_1, av_up_ne (av_apart p_cl_ro y2.1)]; exact p_cl_ro
  have g1_a0 : k_1 a0 = some (.inl (0, 50, .inl f0)) := by rw [e_k_1, av_up_ne (av_apart y2.2.1 y2.1)]; exact y2.2.1
  have g1_a1 : k_1 a1 = some (.inl (0, cc, .inl f1)) := by rw [e_k_1, av_up_ne (av_apart y2.2.2.1 y2.1)]; exact y2.2.2.1
  have g1_a2 : k_1 a2 = some (.inl (0, cc, .inl f2)) := by rw [e_k_1, av_up_ne (av_apart y2.2.2.2.1 y2.1)]; exact y2.2.2.2.1
  have g1_a3 : k_1 a3 = some (.inl (0, cc, .inl f3)) := by rw [e_k_1, av_up_ne (av_apart y2.2.2.2.2.1 y2.1)]; exact y2.2.2.2.2.1
  have g1_a4 : k_1 a4 = some (.inl (0, cc, .inl f4)) := by rw [e_k_1, av_up_ne (av_apart y2.2.2.2.2.2.1 y2.1)]; exact y2.2.2.2.2.2.1
  have g1_a5 : k_1 a5 = some (.inl (0, pc, .inl f5)) := by rw [e_k_1, av_up_ne (av_apart y2.2.2.2.2.2.2 y2.1)]; exact y2.2.2.2.2.2.2
  have g1_im : k_1 im = some (.inr (2, [.ref a0, .ref a1, .ref a2, .ref a3, .ref a4, .ref a5, .int (nI 0), .int (nI 0), .int (nI 0), .int (nI (B 4)), .int (nI cp)])) := by rw [e_k_1]; exact av_up_self _ _ _
  refine aw_aload_n d_L_takeSpecials_13 rfl ?_
  refine aw_aload_n d_L_takeSpecials_14 rfl ?_
  refine aw_iconst (v := nI 5) d_L_takeSpecials_15 (by decide) ?_
  refine aw_callVi (mc2 := 0) (ms2 := 0) (r := nI (B 5)) (As := [.int (nI 5)]) (rest := [.ref im]) (c_B_at hG hB_ hW g1_b g1_ro hc hcap 5 (by omega)) cv_L_13 d_L_takeSpecials_16 g1_b rfl rfl rfl (Nat.le_of_ble_eq_true rfl) (by decide) (by decide) (by omega) (by omega) ?_
  have b_16 := hB_ 5
  refine aw_put (fs' := [.ref a0, .ref a1, .ref a2, .ref a3, .ref a4, .ref a5, .int (nI 0), .int (nI 0), .int (nI 0), .int (nI (B 4)), .int (nI (B 5))]) (pt_L_41 _) d_L_takeSpecials_19 g1_im rfl rfl (by simp) rfl ?_
  obtain ⟨k_2, e_k_2⟩ : ∃ z, z = av_up k_1 im (.inr (2, [.ref a0, .ref a1, .ref a2, .ref a3, .ref a4, .ref a5, .int (nI 0), .int (nI 0), .int (nI 0), .int (nI (B 4)), .int (nI (B 5))])) := ⟨_, rfl⟩
  refine aw_heap (h' := k_2) e_k_2.symm ?_
  have g2_b : k_2 b = some (.inr (1, [.ref ro, .int (nI c)])) := by rw [e_k_2, av_up_ne (av_apO g1_b g1_im (by decide))]; exact g1_b
  have g2_ro : k_2 ro = some (.inl (1, cap, .inl (bsf G))) := by rw [e_k_2, av_up_ne (av_apart g1_ro g1_im)]; exact g1_ro
  have g2_a0 : k_2 a0 = some (.inl (0, 50, .inl f0)) := by rw [e_k_2, av_up_ne (av_apart g1_a0 g1_im)]; exact g1_a0
  have g2_a1 : k_2 a1 = some (.inl (0, cc, .inl f1)) := by rw [e_k_2, av_up_ne (av_apart g1_a1 g1_im)]; exact g1_a1
  have g2_a2 : k_2 a2 = some (.inl (0, cc, .inl f2)) := by rw [e_k_2, av_up_ne (av_apart g1_a2 g1_im)]; exact g1_a2
  have g2_a3 : k_2 a3 = some (.inl (0, cc, .inl f3)) := by rw [e_k_2, av_up_ne (av_apart g1_a3 g1_im)]; exact g1_a3
  have g2_a4 : k_2 a4 = some (.inl (0, cc, .inl f4)) := by rw [e_k_2, av_up_ne (av_apart g1_a4 g1_im)]; exact g1_a4
  have g2_a5 : k_2 a5 = some (.inl (0, pc, .inl f5)) := by rw [e_k_2, av_up_ne (av_apart g1_a5 g1_im)]; exact g1_a5
  have g2_im : k_2 im = some (.inr (2, [.ref a0, .ref a1, .ref a2, .ref a3, .ref a4, .ref a5, .int (nI 0), .int (nI 0), .int (nI 0), .int (nI (B 4)), .int (nI (B 5))])) := by rw [e_k_2]; exact av_up_self _ _ _
  refine aw_aload_n d_L_takeSpecials_22 rfl ?_
  refine aw_bipush (v := nI 6) d_L_takeSpecials_23 (by decide) ?_
  refine aw_callVi (mc2 := 0) (ms2 := 0) (r := nI (nn B)) (As := [.int (nI 6)]) (rest := []) (c_B_pairAt hG hB_ hW g2_b g2_ro hc hcap 6 (by omega)) cv_L_30 d_L_takeSpecials_25 g2_b rfl rfl rfl (Nat.le_of_ble_eq_true rfl) (by decide) (by decide) (by omega) (by omega) ?_
  have b_25 : nn B < 65536 := bh_lt hB_ 6
  refine aw_istore_n (L' := [some (.ref b), some (.ref im), some (.int (nI (nn B))), none, none]) d_L_takeSpecials_28 (by decide) rfl rfl ?_
  refine aw_iconst (v := nI 0) d_L_takeSpecials_29 (by decide) ?_
  refine aw_istore_n (L' := [some (.ref b), some (.ref im), some (.int (nI (nn B))), some (.int (nI 0)), none]) d_L_takeSpecials_30 (by decide) rfl rfl ?_
  exact lp_L_takeSpecials (by decide) (by decide) hG hB_ hW hc hcap D 51 50 0 _ _ g2_b g2_ro ⟨g2_im, g2_a0, g2_a1, g2_a2, g2_a3, g2_a4, g2_a5⟩ ((((frm.refl [im, a0, a1, a2, a3, a4, a5]).tr y3).up e_k_1 (by simp)).up e_k_2 (by simp)) (fun j hj => absurd hj (Nat.not_lt_zero j)) (by omega) rfl (by omega)

set_option maxHeartbeats 4000000 in
theorem lp_L_takeObjects {tb : Nat → Nat} {h : AH} {fr lo : Nat}  (hfr : 4 ≤ fr) (hlo : 95 ≤ lo) {b ro cap c : Nat} {G B : Nat → Nat} (hG : ∀ i, G i < 256) (hB_ : ∀ i, B i < 256) (hW : ∀ i, i < c → G i = B i) (hc : c ≤ cap) (hcap : cap ≤ 1048576) {im a0 v1 v2 v3 v4 v5 c0 p0 : Nat} {f0 : Nat → Int32} (hcm : c ≤ 65536) (hc0 : c0 ≤ 200000) (hp0 : p0 ≤ 200000) (h256 : 256 ≤ p0) : ∀ (d : Nat) (r j : Nat) (g : AH) (a1 a2 a3 a4 a5 cc pc : Nat) (f1 f2 f3 f4 f5 : Nat → Int32) (mc ms : Nat), g b = some (.inr (1, [.ref ro, .int (nI c)])) → g ro = some (.inl (1, cap, .inl (bsf G))) → iS g im a0 a1 a2 a3 a4 a5 cc pc (ps B (j + 1)) j (wds B j) (B 4) (B 5) f0 f1 f2 f3 f4 f5 → iND a0 a1 a2 a3 a4 a5 → frm [im, a0, v1, v2, v3, v4, v5] [im, a0, a1, a2, a3, a4, a5] h g → IQ B f1 f2 f3 f4 f5 j (sz B j) → r + j = nn B → plO B c r (oa B (j + 1)) = plO B c (nn B) 208 → oa B (j + 1) ≤ c → j < cc → P64 cc → ps B (j + 1) ≤ pc → CI c0 cc (j + 1) → CI p0 pc (ps B (j + 1)) → BD c c0 cc p0 pc mc ms → r < d → AW tb "ImageReader$Layout" b_L_takeObjects 8 (some .int) false none fr lo (fun v h' => v = some (.int (pI (plO B c (nn B) 208))) ∧ ∃ b1 b2 b3 b4 b5 cc' pc' us' n' w' g1 g2 g3 g4 g5, iS h' im a0 b1 b2 b3 b4 b5 cc' pc' us' n' w' (B 4) (B 5) f0 g1 g2 g3 g4 g5 ∧ iND a0 b1 b2 b3 b4 b5 ∧ P64 cc' ∧ c0 ≤ cc' ∧ p0 ≤ pc' ∧ (cc' = c0 ∨ cc' < 2 * c) ∧ (pc' = p0 ∨ pc' < 2 * c) ∧ (plO B c (nn B) 208 = none → n' = nn B ∧ w' = wds B (nn B) ∧ nn B < cc' ∧ ps B (nn B + 1) ≤ pc' ∧ IQ B g1 g2 g3 g4 g5 (nn B) (sz B (nn B))) ∧ frm [im, a0, v1, v2, v3, v4, v5] [im, a0, b1, b2, b3, b4, b5] h h') 14 [some (.ref b), some (.ref im), some (.int (nI (nn B))), some (.int (nI (oa B (j + 1)))), some (.int (nI (j + 1))), none, none, none] [] g mc ms := by
  intro d
  induction d with
  | zero => intro r j g a1 a2 a3 a4 a5 cc pc f1 f2 f3 f4 f5 mc ms gb gr gM gD gT hq hrj hp hat hjc h64 hpp hcI hpI hBD hd; omega
  | succ d ih =>
    intro r j g a1 a2 a3 a4 a5 cc pc f1 f2 f3 f4 f5 mc ms gb gr gM gD gT hq hrj hp hat hjc h64 hpp hcI hpI hBD hd
    have op := oa_ps B j
    have hnn : nn B < 65536 := bh_lt hB_ 6
    have hsz := sz_lt hB_ (j + 1)
    have hc64 := h64.ge
    have hccl := hcI.le
    have hpcl := hpI.le
    have hcI2 : CI c0 (gN cc (j + 2)) (j + 1 + 1) := hcI.step (by omega) (by omega)
    have hjg : j + 2 ≤ gN cc (j + 2) := (gN_b (by omega)).1
    refine aw_iload d_L_takeObjects_14 rfl ?_
    refine aw_iload_n d_L_takeObjects_16 rfl ?_
    refine aw_icmp_gt (tgt := 124) d_L_takeObjects_17 (by decide) (fun c_17 => ?_) (fun c_17 => ?_)
    · rw [nI_ltI (by omega) (by omega)] at c_17
      have hpl : plO B c (nn B) 208 = (if oa B (j + 1) < c then some (oa B (j + 1)) else none) := by rw [← hp, show r = 0 by omega]; rfl
      refine aw_aload_n d_L_takeObjects_124 rfl ?_
      refine aw_get fl_L_26 d_L_takeObjects_125 gb rfl ?_
      refine aw_iload_n d_L_takeObjects_128 rfl ?_
      refine aw_icmp_le (tgt := 136) d_L_takeObjects_129 (by decide) (fun c_129 => ?_) (fun c_129 => ?_)
      · rw [nI_leI (by omega) (by omega)] at c_129
        refine aw_iconst (v := (-1)) d_L_takeObjects_136 (by decide) ?_
        exact aw_iret d_L_takeObjects_137 rfl rfl ⟨by rw [hpl, if_neg (by omega)]; rfl, a1, a2, a3, a4, a5, cc, pc, _, _, _, f1, f2, f3, f4, f5, gM, gD, h64, hcI.le.1, hpI.le.1, hcI.fin (by omega), hpI.fin (by omega), fun _ => (by have ej : j = nn B := (by omega); rw [← ej]; exact ⟨rfl, rfl, hjc, hpp, hq⟩), gT⟩
      · rw [nI_leI (by omega) (by omega)] at c_129
        refine aw_iload_n d_L_takeObjects_132 rfl ?_
        refine aw_goto (tgt := 137) d_L_takeObjects_133 (by decide) ?_
        exact aw_iret d_L_takeObjects_137 rfl rfl ⟨by rw [hpl, if_pos (by omega)]; rfl, a1, a2, a3, a4, a5, cc, pc, _, _, _, f1, f2, f3, f4, f5, gM, gD, h64, hcI.le.1, hpI.le.1, hcI.fin (by omega), hpI.fin (by omega), fun y => (by rw [hpl, if_pos (by omega)] at y; cases y), gT⟩
    · rw [nI_ltI (by omega) (by omega)] at c_17
      obtain ⟨r, rfl⟩ : ∃ q, r = q + 1 := ⟨r - 1, by omega⟩
      refine aw_aload_n d_L_takeObjects_20 rfl ?_
      refine aw_iload_n d_L_takeObjects_21 rfl ?_
      refine aw_iload_n d_L_takeObjects_22 rfl ?_
      refine aw_callSi (mc2 := mc) (ms2 := ms) (r := pI (plOh B c (oa B (j + 1)))) (As := [.ref b, .int (nI (oa B (j + 1))), .int (nI (nn B))]) (rest := []) (c_L_objectHeadPlace hG hB_ hW gb gr hc hcap (oa B (j + 1)) (by omega)) cs_L_56 d_L_takeObjects_23 rfl rfl (Nat.le_of_ble_eq_true rfl) (Nat.le_trans (by decide) hfr) (Nat.le_trans (by decide) hlo) (by omega) (by omega) ?_
      refine aw_istore (L' := [some (.ref b), some (.ref im), some (.int (nI (nn B))), some (.int (nI (oa B (j + 1)))), some (.int (nI (j + 1))), some (.int (pI (plOh B c (oa B (j + 1))))), none, none]) d_L_takeObjects_26 (by decide) rfl rfl ?_
      refine aw_iload d_L_takeObjects_28 rfl ?_
      refine aw_iconst (v := (-1)) d_L_takeObjects_30 (by decide) ?_
      refine aw_icmp_eq (tgt := 37) d_L_takeObjects_31 (by decide) (fun c_31 => ?_) (fun c_31 => ?_)
      · rw [pI_m1 (fun p hp => by have := plOh_lt hp; omega)] at c_31
        have hoh := plOh_n c_31
        have hv1 := hoh.1.1
        have hk1 : kd B (j + 1) ≤ 1 := hoh.2.1
        have h7c := hoh.2.2
        have bdX := hBD.ok (j := j) hcI hpI (by omega) (by omega) (Nat.le_refl _) (by omega)
        refine aw_aload_n d_L_takeObjects_37 rfl ?_
        refine aw_iload_n d_L_takeObjects_38 rfl ?_
        refine aw_iconst (v := nI 4) d_L_takeObjects_39 (by decide) ?_
        refine aw_iadd (v := nI (oa B (j + 1) + 4)) d_L_takeObjects_40 (nI_add _ _) ?_
        refine aw_callVi (mc2 := mc) (ms2 := ms) (r := nI (kd B (j + 1))) (As := [.int (nI (oa B (j + 1) + 4))]) (rest := []) (c_B_at hG hB_ hW gb gr hc hcap (oa B (j + 1) + 4) (by omega)) cv_L_13 d_L_takeObjects_41 gb rfl rfl rfl (Nat.le_of_ble_eq_true rfl) (Nat.le_trans (by decide) hfr) (Nat.le_trans (by decide) hlo) (by omega) (by omega) ?_
        refine aw_istore (L' := [some (.ref b), some (.ref im), some (.int (nI (nn B))), some (.int (nI (oa B (j + 1)))), some (.int (nI (j + 1))), some (.int (pI (plOh B c (oa B (j + 1))))), some (.int (nI (kd B (j + 1)))), none]) d_L_takeObjects_44 (by decide) rfl rfl ?_
        refine aw_aload_n d_L_takeObjects_46 rfl ?_
        refine aw_iload_n d_L_takeObjects_47 rfl ?_
        refine aw_iconst (v := nI 5) d_L_takeObjects_48 (by decide) ?_
        refine aw_iadd (v := nI (oa B (j + 1) + 5)) d_L_takeObjects_49 (nI_add _ _) ?_
        refine aw_callVi (mc2 := mc) (ms2 := ms) (r := nI (sz B (j + 1))) (As := [.int (nI (oa B (j + 1) + 5))]) (rest := []) (c_B_pairAt hG hB_ hW gb gr hc hcap (oa B (j + 1) + 5) (by omega)) cv_L_30 d_L_takeObjects_50 gb rfl rfl rfl (Nat.le_of_ble_eq_true rfl) (Nat.le_trans (by decide) hfr) (Nat.le_trans (by decide) hlo) (by omega) (by omega) ?_
        refine aw_istore (L' := [some (.ref b), some (.ref im), some (.int (nI (nn B))), some (.int (nI (oa B (j + 1)))), some (.int (nI (j + 1))), some (.int (pI (plOh B c (oa B (j + 1))))), some (.int (nI (kd B (j + 1)))), some (.int (nI (sz B (j + 1))))]) d_L_takeObjects_53 (by decide) rfl rfl ?_
        refine aw_aload_n d_L_takeObjects_55 rfl ?_
        refine aw_aload_n d_L_takeObjects_56 rfl ?_
        refine aw_iload_n d_L_takeObjects_57 rfl ?_
        refine aw_callVi (mc2 := mc) (ms2 := ms) (r := nI (cl B (j + 1))) (As := [.int (nI (oa B (j + 1)))]) (rest := [.ref im]) (c_B_wordAt hG hB_ hW gb gr hc hcap (oa B (j + 1)) (by omega)) cv_L_53 d_L_takeObjects_58 gb rfl rfl rfl (Nat.le_of_ble_eq_true rfl) (Nat.le_trans (by decide) hfr) (Nat.le_trans (by decide) hlo) (by omega) (by omega) ?_
        refine aw_iload d_L_takeObjects_61 rfl ?_
        refine aw_iload d_L_takeObjects_63 rfl ?_
        refine aw_callV (mc2 := mc - (gN cc (j + 2) - cc) / 16) (ms2 := ms - 8 * (gN cc (j + 2) - cc)) (As := [.int (nI (cl B (j + 1))), .int (nI (kd B (j + 1))), .int (nI (sz B (j + 1)))]) (rest := []) (c_I_addObject gM gD hjc h64.ge (by omega) (cl B (j + 1)) (kd B (j + 1)) (sz B (j + 1)) (hB_ _) (sz_lt hB_ _) (by have := wds_le hB_ j; omega) (by omega)) cv_L_60 d_L_takeObjects_65 gM.1 rfl rfl rfl (Nat.le_of_ble_eq_true rfl) (Nat.le_trans (by decide) hfr) (Nat.le_trans (by decide) hlo) (Nat.le_of_eq (Nat.add_sub_of_le (by have := bdX.1; omega))) (Nat.le_of_eq (Nat.add_sub_of_le (by have := bdX.2.1; omega))) (fun v_65 k_65c q_65 => ?_)
        obtain ⟨q1, b1, b2, b3, b4, g1, g2, g3, g4, qM, qD, qn, qk, qT⟩ := q_65
        refine aw_st (st' := []) (by rw [q1]; rfl) ?_
        have qM : iS k_65c im a0 b1 b2 b3 b4 a5 (gN cc (j + 2)) pc (ps B (j + 1)) (j + 1) (wds B (j + 1)) (B 4) (B 5) f0 g1 g2 g3 g4 f5 := qM
        have p_ao_b : k_65c b = some (.inr (1, [.ref ro, .int (nI c)])) := qT.at (nmO gM gb (by decide)) gb
        have p_ao_ro : k_65c ro = some (.inl (1, cap, .inl (bsf G))) := qT.at (nmA gM gr (by decide)) gr
        have hq2 : IQ B g1 g2 g3 g4 f5 (j + 1) 0 := hq.obj qk qn
        refine aw_iinc (v := nI (oa B (j + 1) + 7)) (L' := [some (.ref b), some (.ref im), some (.int (nI (nn B))), some (.int (nI (oa B (j + 1) + 7))), some (.int (nI (j + 1))), some (.int (pI (plOh B c (oa B (j + 1))))), some (.int (nI (kd B (j + 1)))), some (.int (nI (sz B (j + 1))))]) d_L_takeObjects_68 rfl (nI_add (oa B (j + 1)) 7) (by decide) rfl rfl ?_
        refine aw_iload d_L_takeObjects_71 rfl ?_
        refine aw_iconst (v := nI 1) d_L_takeObjects_73 (by decide) ?_
        refine aw_icmp_ne (tgt := 88) d_L_takeObjects_74 (by decide) (fun c_74 => ?_) (fun c_74 => ?_)
        · rw [w_eq (by omega) (by omega)] at c_74
          refine aw_aload_n d_L_takeObjects_88 rfl ?_
          refine aw_iload_n d_L_takeObjects_89 rfl ?_
          refine aw_iload d_L_takeObjects_90 rfl ?_
          refine aw_iload_n d_L_takeObjects_92 rfl ?_
          refine aw_aload_n d_L_takeObjects_93 rfl ?_
          have eKm : (ps B (j + 1) + min (sz B (j + 1)) ((c - (oa B (j + 1) + 7)) / 4)) ≤ ps B (j + 1) + (c - (oa B (j + 1) + 7)) := by omega
          have bdK := hBD.ok (j := j) hcI hpI (by omega) (by omega) (show ps B (j + 1) ≤ (ps B (j + 1) + min (sz B (j + 1)) ((c - (oa B (j + 1) + 7)) / 4)) by omega) (by omega)
          refine aw_callS (mc2 := mc - (gN cc (j + 2) - cc) / 16 - (gN pc (ps B (j + 1) + min (sz B (j + 1)) ((c - (oa B (j + 1) + 7)) / 4)) - pc) / 256) (ms2 := ms - 8 * (gN cc (j + 2) - cc) - 2 * (gN pc (ps B (j + 1) + min (sz B (j + 1)) ((c - (oa B (j + 1) + 7)) / 4)) - pc)) (As := [.ref b, .int (nI (oa B (j + 1) + 7)), .int (nI (sz B (j + 1))), .int (nI (nn B)), .ref im]) (rest := []) (c_L_takeFields hG hB_ hW p_ao_b p_ao_ro hc hcap (oa B (j + 1) + 7) (sz B (j + 1)) (ps B (j + 1) + min (sz B (j + 1)) ((c - (oa B (j + 1) + 7)) / 4)) (by omega) (sz_lt hB_ _) (by omega) (by omega) (by omega) hpp (by omega) (by omega) qM qD) cs_L_68 d_L_takeObjects_94 rfl rfl (Nat.le_of_ble_eq_true rfl) (Nat.le_trans (by decide) hfr) (Nat.le_trans (by decide) hlo) (Nat.le_of_eq (Nat.add_sub_of_le (Nat.le_sub_of_add_le (by have := bdK.1; omega)))) (Nat.le_of_eq (Nat.add_sub_of_le (Nat.le_sub_of_add_le (by have := bdK.2.1; omega)))) (fun v_94 k_94c q_94 => ?_)
          obtain ⟨r1, m, b5, g5, r2, r3, rc, rM, rD, rk, rn, rl, rT⟩ := q_94
          refine aw_st (st' := [.int (pI (plF B c (oa B (j + 1) + 7) (sz B (j + 1)) 0))]) (by rw [r1]; rfl) ?_
          have p_tk_b : k_94c b = some (.inr (1, [.ref ro, .int (nI c)])) := rT.at (nmO qM p_ao_b (by decide)) p_ao_b
          have p_tk_ro : k_94c ro = some (.inl (1, cap, .inl (bsf G))) := rT.at (nmA qM p_ao_ro (by decide)) p_ao_ro
          have hpI2 : CI p0 (gN pc (ps B (j + 1) + m)) (ps B (j + 1) + m) := hpI.step (by omega) (by omega)
          refine aw_istore (L' := [some (.ref b), some (.ref im), some (.int (nI (nn B))), some (.int (nI (oa B (j + 1) + 7))), some (.int (nI (j + 1))), some (.int (pI (plF B c (oa B (j + 1) + 7) (sz B (j + 1)) 0))), some (.int (nI (kd B (j + 1)))), some (.int (nI (sz B (j + 1))))]) d_L_takeObjects_97 (by decide) rfl rfl ?_
          refine aw_iload d_L_takeObjects_99 rfl ?_
          refine aw_iconst (v := (-1)) d_L_takeObjects_101 (by decide) ?_
          refine aw_icmp_eq (tgt := 108) d_L_takeObjects_102 (by decide) (fun c_102 => ?_) (fun c_102 => ?_)
          · rw [pI_m1 (fun p hp => by obtain ⟨j1, _, h2, h3⟩ := ffst_some hp; omega)] at c_102
            have epb : plOb B c (oa B (j + 1)) = (plF B c (oa B (j + 1) + 7) (sz B (j + 1)) 0) := by unfold plOb; rw [show B (oa B (j + 1) + 4) = kd B (j + 1) from rfl, if_neg c_74]; rfl
            have hpl : plO B c r (oa B (j + 1) + 7 + bl B (oa B (j + 1))) = plO B c (nn B) 208 := by rw [← hp, plO_none (by rw [plO1_eq, orE_r c_31, epb]; exact c_102)]
            have hfit : oa B (j + 1) + 7 + bl B (oa B (j + 1)) ≤ c := by rw [bl_0 c_74]; exact plF_fit c_102 (by omega)
            have hbl : bl B (oa B (j + 1)) = 4 * sz B (j + 1) := bl_0 c_74
            refine aw_iload_n d_L_takeObjects_108 rfl ?_
            refine aw_iload d_L_takeObjects_109 rfl ?_
            refine aw_iload d_L_takeObjects_111 rfl ?_
            refine aw_callSi (mc2 := mc - (gN cc (j + 2) - cc) / 16 - (gN pc (ps B (j + 1) + min (sz B (j + 1)) ((c - (oa B (j + 1) + 7)) / 4)) - pc) / 256) (ms2 := ms - 8 * (gN cc (j + 2) - cc) - 2 * (gN pc (ps B (j + 1) + min (sz B (j + 1)) ((c - (oa B (j + 1) + 7)) / 4)) - pc)) (r := nI ((if kd B (j + 1) = 1 then 1 else 4) * (sz B (j + 1)))) (As := [.int (nI (kd B (j + 1))), .int (nI (sz B (j + 1)))]) (rest := [.int (nI (oa B (j + 1) + 7))]) (c_L_bodyLength (kd B (j + 1)) (sz B (j + 1)) (by omega) (by omega)) cs_L_72 d_L_takeObjects_113 rfl rfl (Nat.le_of_ble_eq_true rfl) (Nat.le_trans (by decide) hfr) (Nat.le_trans (by decide) hlo) (by omega) (by omega) ?_
            refine aw_iadd (v := nI (oa B (j + 1) + 7 + bl B (oa B (j + 1)))) d_L_takeObjects_116 (nI_add _ _) ?_
            refine aw_istore_n (L' := [some (.ref b), some (.ref im), some (.int (nI (nn B))), some (.int (nI (oa B (j + 1) + 7 + bl B (oa B (j + 1))))), some (.int (nI (j + 1))), some (.int (pI (plF B c (oa B (j + 1) + 7) (sz B (j + 1)) 0))), some (.int (nI (kd B (j + 1)))), some (.int (nI (sz B (j + 1))))]) d_L_takeObjects_117 (by decide) rfl rfl ?_
            refine aw_iinc (v := nI (j + 1 + 1)) (L' := [some (.ref b), some (.ref im), some (.int (nI (nn B))), some (.int (nI (oa B (j + 1) + 7 + bl B (oa B (j + 1))))), some (.int (nI (j + 1 + 1))), some (.int (pI (plF B c (oa B (j + 1) + 7) (sz B (j + 1)) 0))), some (.int (nI (kd B (j + 1)))), some (.int (nI (sz B (j + 1))))]) d_L_takeObjects_118 rfl (nI_add (j + 1) 1) (by decide) rfl rfl ?_
            refine aw_goto (tgt := 14) d_L_takeObjects_121 (by decide) ?_
            have em : m = sz B (j + 1) := r3 c_102
            subst em
            have eK : gN pc (ps B (j + 1) + min (sz B (j + 1)) ((c - (oa B (j + 1) + 7)) / 4)) = gN pc (ps B (j + 1) + sz B (j + 1)) := by congr 1; omega
            have es := ps_s B (show 1 ≤ j + 1 by omega)
            have eo := oa_s B (show 1 ≤ j + 1 by omega)
            refine aw_loc (L' := [some (.ref b), some (.ref im), some (.int (nI (nn B))), some (.int (nI (oa B (j + 1 + 1)))), some (.int (nI (j + 1 + 1))), none, none, none]) (by intro i v hv; match i, hv with | 0, hv => exact hv | 1, hv => exact hv | 2, hv => exact hv | 3, hv => (rw [eo] at hv; exact hv) | 4, hv => exact hv | 5, hv => cases hv | 6, hv => cases hv | 7, hv => cases hv | i + 8, hv => cases hv) ?_
            exact ih r (j + 1) _ _ _ _ _ _ _ _ _ _ _ _ _ _ _ p_tk_b p_tk_ro (by rw [es]; exact rM) rD ((gT.tr qT).tr rT) (hq2.parts rk (fun i h1 h2 => by rw [rn i h1]; unfold prt; rw [if_neg c_74]; rfl)) (by omega) (by rw [eo, ← hpl]) (by omega) (by omega) h64.gN (by rw [es]; exact rl) hcI2 (by rw [es]; exact hpI2) (by rw [eK] at bdK ⊢; exact bdK.2.2) (by omega)
          · rw [pI_m1 (fun p hp => by obtain ⟨j1, _, h2, h3⟩ := ffst_some hp; omega)] at c_102
            have epb : plOb B c (oa B (j + 1)) = (plF B c (oa B (j + 1) + 7) (sz B (j + 1)) 0) := by unfold plOb; rw [show B (oa B (j + 1) + 4) = kd B (j + 1) from rfl, if_neg c_74]; rfl
            have hpl : plO B c (nn B) 208 = (plF B c (oa B (j + 1) + 7) (sz B (j + 1)) 0) := by rw [← hp]; cases y : (plF B c (oa B (j + 1) + 7) (sz B (j + 1)) 0) with | none => exact absurd y c_102 | some p => exact plO_some (by rw [plO1_eq, orE_r c_31, epb]; exact y)
            refine aw_iload d_L_takeObjects_105 rfl ?_
            exact aw_iret d_L_takeObjects_107 rfl rfl ⟨by rw [hpl], _, _, _, _, _, _, _, _, _, _, _, _, _, _, _, rM, rD, h64.gN, hcI2.le.1, hpI2.le.1, hcI2.fin (by omega), hpI2.fin (by omega), fun y => (by rw [hpl] at y; exact absurd y c_102), (gT.tr qT).tr rT⟩
        · rw [w_eq (by omega) (by omega)] at c_74
          refine aw_aload_n d_L_takeObjects_77 rfl ?_
          refine aw_iload_n d_L_takeObjects_78 rfl ?_
          refine aw_iload d_L_takeObjects_79 rfl ?_
          refine aw_aload_n d_L_takeObjects_81 rfl ?_
          have eKm : (ps B (j + 1) + min (sz B (j + 1)) (c - (oa B (j + 1) + 7))) ≤ ps B (j + 1) + (c - (oa B (j + 1) + 7)) := by omega
          have bdK := hBD.ok (j := j) hcI hpI (by omega) (by omega) (show ps B (j + 1) ≤ (ps B (j + 1) + min (sz B (j + 1)) (c - (oa B (j + 1) + 7))) by omega) (by omega)
          refine aw_callS (mc2 := mc - (gN cc (j + 2) - cc) / 16 - (gN pc (ps B (j + 1) + min (sz B (j + 1)) (c - (oa B (j + 1) + 7))) - pc) / 256) (ms2 := ms - 8 * (gN cc (j + 2) - cc) - 2 * (gN pc (ps B (j + 1) + min (sz B (j + 1)) (c - (oa B (j + 1) + 7))) - pc)) (As := [.ref b, .int (nI (oa B (j + 1) + 7)), .int (nI (sz B (j + 1))), .ref im]) (rest := []) (c_L_takeBytes hG hB_ hW p_ao_b p_ao_ro hc hcap (oa B (j + 1) + 7) (sz B (j + 1)) (ps B (j + 1) + min (sz B (j + 1)) (c - (oa B (j + 1) + 7))) (by omega) (sz_lt hB_ _) (by omega) (by omega) (by omega) hpp (by omega) qM qD) cs_L_64 d_L_takeObjects_82 rfl rfl (Nat.le_of_ble_eq_true rfl) (Nat.le_trans (by decide) hfr) (Nat.le_trans (by decide) hlo) (Nat.le_of_eq (Nat.add_sub_of_le (Nat.le_sub_of_add_le (by have := bdK.1; omega)))) (Nat.le_of_eq (Nat.add_sub_of_le (Nat.le_sub_of_add_le (by have := bdK.2.1; omega)))) (fun v_82 k_82c q_82 => ?_)
          obtain ⟨r1, m, b5, g5, r2, r3, rc, rM, rD, rk, rn, rl, rT⟩ := q_82
          refine aw_st (st' := [.int (pI (if oa B (j + 1) + 7 + sz B (j + 1) ≤ c then none else some (oa B (j + 1) + 7)))]) (by rw [r1]; rfl) ?_
          have p_tk_b : k_82c b = some (.inr (1, [.ref ro, .int (nI c)])) := rT.at (nmO qM p_ao_b (by decide)) p_ao_b
          have p_tk_ro : k_82c ro = some (.inl (1, cap, .inl (bsf G))) := rT.at (nmA qM p_ao_ro (by decide)) p_ao_ro
          have hpI2 : CI p0 (gN pc (ps B (j + 1) + m)) (ps B (j + 1) + m) := hpI.step (by omega) (by omega)
          refine aw_goto (tgt := 97) d_L_takeObjects_85 (by decide) ?_
          refine aw_istore (L' := [some (.ref b), some (.ref im), some (.int (nI (nn B))), some (.int (nI (oa B (j + 1) + 7))), some (.int (nI (j + 1))), some (.int (pI (if oa B (j + 1) + 7 + sz B (j + 1) ≤ c then none else some (oa B (j + 1) + 7)))), some (.int (nI (kd B (j + 1)))), some (.int (nI (sz B (j + 1))))]) d_L_takeObjects_97 (by decide) rfl rfl ?_
          refine aw_iload d_L_takeObjects_99 rfl ?_
          refine aw_iconst (v := (-1)) d_L_takeObjects_101 (by decide) ?_
          refine aw_icmp_eq (tgt := 108) d_L_takeObjects_102 (by decide) (fun c_102 => ?_) (fun c_102 => ?_)
          · rw [pI_m1 (fun p hp => by by_cases y : oa B (j + 1) + 7 + sz B (j + 1) ≤ c; (rw [if_pos y] at hp; cases hp); (rw [if_neg y] at hp; have := Option.some.inj hp; omega))] at c_102
            have epb : plOb B c (oa B (j + 1)) = (if oa B (j + 1) + 7 + sz B (j + 1) ≤ c then none else some (oa B (j + 1) + 7)) := by unfold plOb; rw [show B (oa B (j + 1) + 4) = kd B (j + 1) from rfl, if_pos c_74]; rfl
            have hpl : plO B c r (oa B (j + 1) + 7 + bl B (oa B (j + 1))) = plO B c (nn B) 208 := by rw [← hp, plO_none (by rw [plO1_eq, orE_r c_31, epb]; exact c_102)]
            have hfit : oa B (j + 1) + 7 + bl B (oa B (j + 1)) ≤ c := by rw [bl_1 c_74]; show oa B (j + 1) + 7 + sz B (j + 1) ≤ c; by_cases y : oa B (j + 1) + 7 + sz B (j + 1) ≤ c; exact y; (rw [if_neg y] at c_102; cases c_102)
            have hbl : bl B (oa B (j + 1)) = sz B (j + 1) := bl_1 c_74
            refine aw_iload_n d_L_takeObjects_108 rfl ?_
            refine aw_iload d_L_takeObjects_109 rfl ?_
            refine aw_iload d_L_takeObjects_111 rfl ?_
            refine aw_callSi (mc2 := mc - (gN cc (j + 2) - cc) / 16 - (gN pc (ps B (j + 1) + min (sz B (j + 1)) (c - (oa B (j + 1) + 7))) - pc) / 256) (ms2 := ms - 8 * (gN cc (j + 2) - cc) - 2 * (gN pc (ps B (j + 1) + min (sz B (j + 1)) (c - (oa B (j + 1) + 7))) - pc)) (r := nI ((if kd B (j + 1) = 1 then 1 else 4) * (sz B (j + 1)))) (As := [.int (nI (kd B (j + 1))), .int (nI (sz B (j + 1)))]) (rest := [.int (nI (oa B (j + 1) + 7))]) (c_L_bodyLength (kd B (j + 1)) (sz B (j + 1)) (by omega) (by omega)) cs_L_72 d_L_takeObjects_113 rfl rfl (Nat.le_of_ble_eq_true rfl) (Nat.le_trans (by decide) hfr) (Nat.le_trans (by decide) hlo) (by omega) (by omega) ?_
            refine aw_iadd (v := nI (oa B (j + 1) + 7 + bl B (oa B (j + 1)))) d_L_takeObjects_116 (nI_add _ _) ?_
            refine aw_istore_n (L' := [some (.ref b), some (.ref im), some (.int (nI (nn B))), some (.int (nI (oa B (j + 1) + 7 + bl B (oa B (j + 1))))), some (.int (nI (j + 1))), some (.int (pI (if oa B (j + 1) + 7 + sz B (j + 1) ≤ c then none else some (oa B (j + 1) + 7)))), some (.int (nI (kd B (j + 1)))), some (.int (nI (sz B (j + 1))))]) d_L_takeObjects_117 (by decide) rfl rfl ?_
            refine aw_iinc (v := nI (j + 1 + 1)) (L' := [some (.ref b), some (.ref im), some (.int (nI (nn B))), some (.int (nI (oa B (j + 1) + 7 + bl B (oa B (j + 1))))), some (.int (nI (j + 1 + 1))), some (.int (pI (if oa B (j + 1) + 7 + sz B (j + 1) ≤ c then none else some (oa B (j + 1) + 7)))), some (.int (nI (kd B (j + 1)))), some (.int (nI (sz B (j + 1))))]) d_L_takeObjects_118 rfl (nI_add (j + 1) 1) (by decide) rfl rfl ?_
            refine aw_goto (tgt := 14) d_L_takeObjects_121 (by decide) ?_
            have em : m = sz B (j + 1) := r3 c_102
            subst em
            have eK : gN pc (ps B (j + 1) + min (sz B (j + 1)) (c - (oa B (j + 1) + 7))) = gN pc (ps B (j + 1) + sz B (j + 1)) := by congr 1; omega
            have es := ps_s B (show 1 ≤ j + 1 by omega)
            have eo := oa_s B (show 1 ≤ j + 1 by omega)
            refine aw_loc (L' := [some (.ref b), some (.ref im), some (.int (nI (nn B))), some (.int (nI (oa B (j + 1 + 1)))), some (.int (nI (j + 1 + 1))), none, none, none]) (by intro i v hv; match i, hv with | 0, hv => exact hv | 1, hv => exact hv | 2, hv => exact hv | 3, hv => (rw [eo] at hv; exact hv) | 4, hv => exact hv | 5, hv => cases hv | 6, hv => cases hv | 7, hv => cases hv | i + 8, hv => cases hv) ?_
            exact ih r (j + 1) _ _ _ _ _ _ _ _ _ _ _ _ _ _ _ p_tk_b p_tk_ro (by rw [es]; exact rM) rD ((gT.tr qT).tr rT) (hq2.parts rk (fun i h1 h2 => by rw [rn i h1]; unfold prt; rw [if_pos c_74]; rfl)) (by omega) (by rw [eo, ← hpl]) (by omega) (by omega) h64.gN (by rw [es]; exact rl) hcI2 (by rw [es]; exact hpI2) (by rw [eK] at bdK ⊢; exact bdK.2.2) (by omega)
          · rw [pI_m1 (fun p hp => by by_cases y : oa B (j + 1) + 7 + sz B (j + 1) ≤ c; (rw [if_pos y] at hp; cases hp); (rw [if_neg y] at hp; have := Option.some.inj hp; omega))] at c_102
            have epb : plOb B c (oa B (j + 1)) = (if oa B (j + 1) + 7 + sz B (j + 1) ≤ c then none else some (oa B (j + 1) + 7)) := by unfold plOb; rw [show B (oa B (j + 1) + 4) = kd B (j + 1) from rfl, if_pos c_74]; rfl
            have hpl : plO B c (nn B) 208 = (if oa B (j + 1) + 7 + sz B (j + 1) ≤ c then none else some (oa B (j + 1) + 7)) := by rw [← hp]; cases y : (if oa B (j + 1) + 7 + sz B (j + 1) ≤ c then none else some (oa B (j + 1) + 7)) with | none => exact absurd y c_102 | some p => exact plO_some (by rw [plO1_eq, orE_r c_31, epb]; exact y)
            refine aw_iload d_L_takeObjects_105 rfl ?_
            exact aw_iret d_L_takeObjects_107 rfl rfl ⟨by rw [hpl], _, _, _, _, _, _, _, _, _, _, _, _, _, _, _, rM, rD, h64.gN, hcI2.le.1, hpI2.le.1, hcI2.fin (by omega), hpI2.fin (by omega), fun y => (by rw [hpl] at y; exact absurd y c_102), (gT.tr qT).tr rT⟩
      · rw [pI_m1 (fun p hp => by have := plOh_lt hp; omega)] at c_31
        have hpl : plO B c (nn B) 208 = plOh B c (oa B (j + 1)) := by rw [← hp]; cases y : plOh B c (oa B (j + 1)) with | none => exact absurd y c_31 | some p => exact plO_some (by rw [plO1_eq, y]; rfl)
        refine aw_iload d_L_takeObjects_34 rfl ?_
        exact aw_iret d_L_takeObjects_36 rfl rfl ⟨by rw [hpl], a1, a2, a3, a4, a5, cc, pc, _, _, _, f1, f2, f3, f4, f5, gM, gD, h64, hcI.le.1, hpI.le.1, hcI.fin (by omega), hpI.fin (by omega), fun y => (by rw [hpl] at y; exact absurd y c_31), gT⟩

set_option maxHeartbeats 4000000 in
theorem c_L_takeObjects {tb : Nat → Nat} {h : AH} {b ro cap c : Nat} {G B : Nat → Nat} (hG : ∀ i, G i < 256) (hB_ : ∀ i, B i < 256) (hW : ∀ i, i < c → G i = B i) (hb : h b = some (.inr (1, [.ref ro, .int (nI c)]))) (hr : h ro = some (.inl (1, cap, .inl (bsf G)))) (hc : c ≤ cap) (hcap : cap ≤ 1048576) {im a0 v1 v2 v3 v4 v5 c0 p0 : Nat} {f0 : Nat → Int32} (hcm : c ≤ 65536) (hc0 : c0 ≤ 200000) (hp0 : p0 ≤ 200000) (h256 : 256 ≤ p0) {us iw : Nat} {w1 w2 w3 w4 w5 : Nat → Int32} (M : iS h im a0 v1 v2 v3 v4 v5 c0 p0 0 0 0 (B 4) (B 5) f0 w1 w2 w3 w4 w5) (D : iND a0 v1 v2 v3 v4 v5) (h64 : P64 c0) (h208 : 208 ≤ c) : AM tb y_L_takeObjects b_L_takeObjects 8 (some .int) 4 95 [.ref b, .ref im] h (c / 32) (4 * c) (fun v h' => v = some (.int (pI (plO B c (nn B) 208))) ∧ ∃ b1 b2 b3 b4 b5 cc' pc' us' n' w' g1 g2 g3 g4 g5, iS h' im a0 b1 b2 b3 b4 b5 cc' pc' us' n' w' (B 4) (B 5) f0 g1 g2 g3 g4 g5 ∧ iND a0 b1 b2 b3 b4 b5 ∧ P64 cc' ∧ c0 ≤ cc' ∧ p0 ≤ pc' ∧ (cc' = c0 ∨ cc' < 2 * c) ∧ (pc' = p0 ∨ pc' < 2 * c) ∧ (plO B c (nn B) 208 = none → n' = nn B ∧ w' = wds B (nn B) ∧ nn B < cc' ∧ ps B (nn B + 1) ≤ pc' ∧ IQ B g1 g2 g3 g4 g5 (nn B) (sz B (nn B))) ∧ frm [im, a0, v1, v2, v3, v4, v5] [im, a0, b1, b2, b3, b4, b5] h h') := by
  refine am_of (ini := false) [some (.ref b), some (.ref im), none, none, none, none, none, none] (by decide) (fun z => by cases z) (Nat.le_of_ble_eq_true rfl) rfl ?_
  refine aw_aload_n d_L_takeObjects_0 rfl ?_
  refine aw_bipush (v := nI 6) d_L_takeObjects_1 (by decide) ?_
  refine aw_callVi (mc2 := c / 32) (ms2 := 4 * c) (r := nI (nn B)) (As := [.int (nI 6)]) (rest := []) (c_B_pairAt hG hB_ hW hb hr hc hcap 6 (by omega)) cv_L_30 d_L_takeObjects_3 hb rfl rfl rfl (Nat.le_of_ble_eq_true rfl) (by decide) (by decide) (by omega) (by omega) ?_
  have b_3 : nn B < 65536 := bh_lt hB_ 6
  refine aw_istore_n (L' := [some (.ref b), some (.ref im), some (.int (nI (nn B))), none, none, none, none, none]) d_L_takeObjects_6 (by decide) rfl rfl ?_
  refine aw_sipush (v := nI 208) d_L_takeObjects_7 (by decide) ?_
  refine aw_istore_n (L' := [some (.ref b), some (.ref im), some (.int (nI (nn B))), some (.int (nI 208)), none, none, none, none]) d_L_takeObjects_10 (by decide) rfl rfl ?_
  refine aw_iconst (v := nI 1) d_L_takeObjects_11 (by decide) ?_
  refine aw_istore (L' := [some (.ref b), some (.ref im), some (.int (nI (nn B))), some (.int (nI 208)), some (.int (nI 1)), none, none, none]) d_L_takeObjects_12 (by decide) rfl rfl ?_
  have hc64 := h64.ge
  exact lp_L_takeObjects (by decide) (by decide) hG hB_ hW hc hcap hcm hc0 hp0 h256 (nn B + 1) (nn B) 0 h v1 v2 v3 v4 v5 c0 p0 w1 w2 w3 w4 w5 _ _ hb hr M D (frm.refl _) (IQ_0 _ _ _ _ _ _ _) (by omega) rfl h208 (by omega) h64 (Nat.zero_le _) ⟨Nat.le_refl _, Or.inl rfl⟩ ⟨Nat.le_refl _, Or.inl rfl⟩ ⟨by omega, by omega⟩ (by omega)
