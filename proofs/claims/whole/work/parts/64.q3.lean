/-! ===== the law: its loop, its entry ===== -/
theorem INV.idle {h : AH} {r m ou j mc ms : Nat} (I0 : INV h r m ou 20480 j mc ms) (hj : j < 512) : INV h r m ou 20480 (j + 1) mc ms := by
  obtain ⟨cap, wl, pl, c, B, HC, KC, ln, kl, cd, HB, KB, x0, W, R, hcap, hwl, hpl, hc, hln, hH, bud⟩ := I0
  exact ⟨cap, wl, pl, c, B, HC, KC, ln, kl, cd, HB, KB, x0, W, R, hcap, hwl, hpl, by omega, by omega, hH, bud.next hj (Nat.le_refl _) hcap (Nat.le_refl _) hwl (Nat.le_refl _) hpl (by omega) (by omega)⟩
set_option maxHeartbeats 4000000 in
theorem law_loop {tb : Nat → Nat} {b Ls : Nat} {xs : Nat → Int32} {r m ou : Nat} (hL : Ls ≤ 3072) : ∀ (d j : Nat) (g : AH) (mc ms : Nat), INV g r m ou 20480 j mc ms → 6 * j ≤ Ls → Ls < 6 * j + d → AW tb "ImageReaderLaw" b_Law_law 7 ret false (some (b, Ls, xs)) 11 414 (fun v _ => v = some (.int (nI 1))) 23 [some (.ref b), some (.ref r), some (.ref m), some (.ref ou), some (.int (nI (6 * j))), none, none] [] g mc ms := by
  intro d
  induction d with
  | zero => intro j g mc ms I0 h0 hd; omega
  | succ d ih =>
    intro j g mc ms I0 h0 hd
    refine aw_iload d_Law_law_23 rfl ?_
    refine aw_aload_n d_Law_law_25 rfl ?_
    refine aw_slen rfl d_Law_law_26 ?_
    refine aw_bipush (v := nI 6) d_Law_law_27 (by decide) ?_
    refine aw_isub (v := nI Ls - nI 6) d_Law_law_29 rfl ?_
    refine aw_icmp_gt (tgt := 597) d_Law_law_30 (by decide) (fun _ => ?_) (fun c_30 => ?_)
    · refine aw_iconst (v := nI 1) d_Law_law_597 (by decide) ?_
      exact aw_iret (rt := .boolean) d_Law_law_598 rfl nar1 rfl
    have hl := law_le hL h0 c_30
    have kk : ∀ (g' : AH) (mc' ms' : Nat), INV g' r m ou 20480 (j + 1) mc' ms' → AW tb "ImageReaderLaw" b_Law_law 7 ret false (some (b, Ls, xs)) 11 414 (fun v _ => v = some (.int (nI 1))) 591 [some (.ref b), some (.ref r), some (.ref m), some (.ref ou), some (.int (nI (6 * j))), none, none] [] g' mc' ms' := by
      intro g' mc' ms' I1
      refine aw_iinc (v := nI (6 * (j + 1))) (L' := [some (.ref b), some (.ref r), some (.ref m), some (.ref ou), some (.int (nI (6 * (j + 1)))), none, none]) d_Law_law_591 rfl (by rw [show 6 * (j + 1) = 6 * j + 6 by omega]; exact nI_add (6 * j) 6) (by decide) rfl rfl ?_
      refine aw_goto (tgt := 23) d_Law_law_594 (by decide) ?_
      exact ih (j + 1) g' mc' ms' I1 (by omega) (by omega)
    obtain ⟨u, hu, eu⟩ := i32n (xs (6 * j))
    refine aw_aload_n d_Law_law_33 rfl ?_
    refine aw_iload d_Law_law_34 rfl ?_
    refine aw_sld (x := nI u) rfl d_Law_law_36 (vp_in_nI (by omega) (by omega)) (by rw [nI_clamp (by omega)]; exact eu) ?_
    refine aw_bipush (v := nI 31) d_Law_law_37 (by decide) ?_
    refine aw_iand (v := nI (u % 32)) d_Law_law_39 (and_31 _) ?_
    have sw : u % 32 = 0 ∨ u % 32 = 1 ∨ u % 32 = 2 ∨ u % 32 = 3 ∨ u % 32 = 4 ∨ u % 32 = 5 ∨ u % 32 = 6 ∨ u % 32 = 7 ∨ u % 32 = 8 ∨ u % 32 = 9 ∨ u % 32 = 10 ∨ u % 32 = 11 ∨ u % 32 = 12 ∨ u % 32 = 13 ∨ u % 32 = 14 ∨ u % 32 = 15 ∨ u % 32 = 16 ∨ 16 < u % 32 := by omega
    rcases sw with e | e | e | e | e | e | e | e | e | e | e | e | e | e | e | e | e | e
    · refine aw_st (st' := [.int (nI 0)]) (by rw [e]) ?_
      refine aw_tabIn (off := 84) (tgt := 124) d_Law_law_40 (by decide) (by decide) (by decide) (by decide) ?_
      exact o_feed hL hl I0 kk
    · refine aw_st (st' := [.int (nI 1)]) (by rw [e]) ?_
      refine aw_tabIn (off := 168) (tgt := 208) d_Law_law_40 (by decide) (by decide) (by decide) (by decide) ?_
      exact o_end hL hl I0 kk
    · refine aw_st (st' := [.int (nI 2)]) (by rw [e]) ?_
      refine aw_tabIn (off := 224) (tgt := 264) d_Law_law_40 (by decide) (by decide) (by decide) (by decide) ?_
      exact o_change hL hl I0 kk
    · refine aw_st (st' := [.int (nI 3)]) (by rw [e]) ?_
      refine aw_tabIn (off := 261) (tgt := 301) d_Law_law_40 (by decide) (by decide) (by decide) (by decide) ?_
      exact o_read hL hl I0 kk
    · refine aw_st (st' := [.int (nI 4)]) (by rw [e]) ?_
      refine aw_tabIn (off := 274) (tgt := 314) d_Law_law_40 (by decide) (by decide) (by decide) (by decide) ?_
      exact o_objects hL hl I0 kk
    · refine aw_st (st' := [.int (nI 5)]) (by rw [e]) ?_
      refine aw_tabIn (off := 287) (tgt := 327) d_Law_law_40 (by decide) (by decide) (by decide) (by decide) ?_
      exact o_words hL hl I0 kk
    · refine aw_st (st' := [.int (nI 6)]) (by rw [e]) ?_
      refine aw_tabIn (off := 300) (tgt := 340) d_Law_law_40 (by decide) (by decide) (by decide) (by decide) ?_
      exact o_special hL hl I0 kk
    · refine aw_st (st' := [.int (nI 7)]) (by rw [e]) ?_
      refine aw_tabIn (off := 325) (tgt := 365) d_Law_law_40 (by decide) (by decide) (by decide) (by decide) ?_
      exact o_kind hL hl I0 kk
    · refine aw_st (st' := [.int (nI 8)]) (by rw [e]) ?_
      refine aw_tabIn (off := 350) (tgt := 390) d_Law_law_40 (by decide) (by decide) (by decide) (by decide) ?_
      exact o_classOf hL hl I0 kk
    · refine aw_st (st' := [.int (nI 9)]) (by rw [e]) ?_
      refine aw_tabIn (off := 375) (tgt := 415) d_Law_law_40 (by decide) (by decide) (by decide) (by decide) ?_
      exact o_size hL hl I0 kk
    · refine aw_st (st' := [.int (nI 10)]) (by rw [e]) ?_
      refine aw_tabIn (off := 400) (tgt := 440) d_Law_law_40 (by decide) (by decide) (by decide) (by decide) ?_
      exact o_field hL hl I0 kk
    · refine aw_st (st' := [.int (nI 11)]) (by rw [e]) ?_
      refine aw_tabIn (off := 437) (tgt := 477) d_Law_law_40 (by decide) (by decide) (by decide) (by decide) ?_
      exact o_byteAt hL hl I0 kk
    · refine aw_st (st' := [.int (nI 12)]) (by rw [e]) ?_
      refine aw_tabIn (off := 474) (tgt := 514) d_Law_law_40 (by decide) (by decide) (by decide) (by decide) ?_
      exact o_reachable hL hl I0 kk
    · refine aw_st (st' := [.int (nI 13)]) (by rw [e]) ?_
      refine aw_tabIn (off := 487) (tgt := 527) d_Law_law_40 (by decide) (by decide) (by decide) (by decide) ?_
      exact o_write hL hl I0 kk
    · refine aw_st (st' := [.int (nI 14)]) (by rw [e]) ?_
      refine aw_tabIn (off := 500) (tgt := 540) d_Law_law_40 (by decide) (by decide) (by decide) (by decide) ?_
      exact o_came hL hl I0 kk
    · refine aw_st (st' := [.int (nI 15)]) (by rw [e]) ?_
      refine aw_tabIn (off := 525) (tgt := 565) d_Law_law_40 (by decide) (by decide) (by decide) (by decide) ?_
      exact o_keep hL hl I0 kk
    · refine aw_st (st' := [.int (nI 16)]) (by rw [e]) ?_
      refine aw_tabIn (off := 538) (tgt := 578) d_Law_law_40 (by decide) (by decide) (by decide) (by decide) ?_
      exact o_same hL hl I0 kk
    · refine aw_tabOut (tgt := 591) d_Law_law_40 (Or.inr (by rw [nI_toInt (by omega)]; omega)) (by decide) ?_
      exact kk g mc ms (I0.idle (by omega))
theorem CLS.tight {h : AH} {r : Nat} {F : List Nat} {K cap wl pl c : Nat} {B HC KC : Nat → Nat} (C : CLS h r F K cap wl pl c B HC KC) : ∃ F', CLS h r F' K cap wl pl c B HC KC ∧ ∀ x ∈ F', h x ≠ none := by
  obtain ⟨Z, X, b, w, p, jh, jk, P, hF, C⟩ := C
  refine ⟨(List.range 7).flatMap Z, ⟨Z, X, b, w, p, jh, jk, P, fun j hj x hx => List.mem_flatMap.mpr ⟨j, List.mem_range.mpr hj, hx⟩, C⟩, fun x hx => ?_⟩
  obtain ⟨j, hj, hx⟩ := List.mem_flatMap.mp hx
  exact C.live j (List.mem_range.mp hj) x hx
set_option maxHeartbeats 4000000 in
theorem law_entry {tb : Nat → Nat} {b Ls : Nat} {xs : Nat → Int32} (hL : Ls ≤ 3072) : AW tb "ImageReaderLaw" b_Law_law 7 ret false (some (b, Ls, xs)) 11 414 (fun v _ => v = some (.int (nI 1))) 0 [some (.ref b), none, none, none, none, none, none] [] (fun _ => none) 601024 7293034 := by
  refine aw_new (mc2 := 601023) (ms2 := 7293026) nc_Law_8 d_Law_law_0 (by omega) (by omega) (fun r f_r => ?_)
  refine aw_dup d_Law_law_3 rfl ?_
  refine aw_callI (mc2 := 600993) (ms2 := 7290722) (As := []) (rest := [.ref r]) (c_R_init (K := 20480) (av_up_self _ _ _) (by decide)) ci_Law_21 d_Law_law_4 rfl rfl (Nat.le_of_ble_eq_true rfl) (by decide) (by decide) (by omega) (by omega) (fun v1 h1 q1 => ?_)
  obtain ⟨t1, F0_, C0_, T0⟩ := q1
  refine aw_st (st' := [.ref r]) (by rw [t1]; rfl) ?_
  obtain ⟨F, C, hF⟩ := C0_.tight
  refine aw_astore_n (L' := [some (.ref b), some (.ref r), none, none, none, none, none]) d_Law_law_7 (by decide) rfl rfl ?_
  refine aw_new (mc2 := 600992) (ms2 := 7290709) nc_Law_22 d_Law_law_8 (by omega) (by omega) (fun m f_m => ?_)
  refine aw_dup d_Law_law_11 rfl ?_
  obtain ⟨h2, e2⟩ : ∃ z, z = av_up h1 m (.inr (5, [.int 0, .null, .int 0, .null, .int 0, .null, .int 0, .null, .null, .null, .null, .null, .int 0])) := ⟨_, rfl⟩
  refine aw_heap (h' := h2) e2.symm ?_
  refine aw_callI (mc2 := 600984) (ms2 := 7053141) (As := []) (rest := [.ref m]) (c_M_init (show h2 m = _ by rw [e2]; exact av_up_self _ _ _)) ci_Law_24 d_Law_law_12 rfl rfl (Nat.le_of_ble_eq_true rfl) (by decide) (by decide) (by omega) (by omega) (fun v3 h3 q3 => ?_)
  obtain ⟨t3, ai, am, ak, as_, aks, ar, an, ab, M, D, ⟨n1, n2, n3, n4, n5, n6, n7, n8⟩, fr3⟩ := q3
  refine aw_st (st' := [.ref m]) (by rw [t3]; rfl) ?_
  refine aw_astore_n (L' := [some (.ref b), some (.ref r), some (.ref m), none, none, none, none]) d_Law_law_15 (by decide) rfl rfl ?_
  have lv : ∀ x ∈ F, x ≠ m := fun x hx z => hF x hx (by rw [z]; exact f_m)
  have lv2 : ∀ x ∈ F, h2 x ≠ none := fun x hx => by rw [e2, av_up_ne (lv x hx)]; exact hF x hx
  have e3 : ∀ x ∈ F, h3 x = h1 x := fun x hx => by rw [fr3 x (lv x hx) (lv2 x hx), e2, av_up_ne (lv x hx)]
  have C3 := C.lo e3
  have M3 : MOD h3 m [m, ai, am, ak, as_, aks, ar, an, ab] 0 0 0 0 C0 C0 C0 := ⟨ai, am, ak, as_, aks, ar, an, ab, 0, _, _, _, _, _, rfl, M, ⟨fun _ => Nat.zero_lt_succ _, fun _ => Nat.zero_lt_succ _, fun _ => Nat.zero_lt_succ _, Nat.zero_le _, Nat.zero_le _, Nat.zero_le _, fun z => absurd z (Nat.lt_irrefl 0), fun z => absurd z (Nat.lt_irrefl 0)⟩, D⟩
  have dj : ∀ x ∈ F, x ∉ [m, ai, am, ak, as_, aks, ar, an, ab] := fun x hx hy => by
    have l2 := lv2 x hx
    simp only [List.mem_cons, List.not_mem_nil, or_false] at hy
    rcases hy with z | z | z | z | z | z | z | z | z
    · exact lv x hx z
    · exact l2 (by rw [z]; exact n1)
    · exact l2 (by rw [z]; exact n2)
    · exact l2 (by rw [z]; exact n3)
    · exact l2 (by rw [z]; exact n4)
    · exact l2 (by rw [z]; exact n5)
    · exact l2 (by rw [z]; exact n6)
    · exact l2 (by rw [z]; exact n7)
    · exact l2 (by rw [z]; exact n8)
  refine aw_iconst (v := nI 1) d_Law_law_16 (by decide) ?_
  refine aw_newa (t := 2) (N := 1) (z := (1, .inr (.inl (fun _ => 0)))) (mc2 := 600983) (ms2 := 7053140) d_Law_law_17 tw_883 (fun _ => rfl) (fun _ _ z => z) (fun _ => rfl) (nI_pos (by decide)) (nI_clamp (by decide)) (by simp only [newarray.typeOf, componentBytes]; omega) (by omega) (by omega) (fun ou f_ou => ?_)
  have o1 : ou ∉ F := fun z => hF ou z (by rw [← e3 ou z]; exact f_ou)
  have o2 : ou ∉ [m, ai, am, ak, as_, aks, ar, an, ab] := fun z => M3.ex ou z f_ou
  obtain ⟨h4, e4⟩ : ∃ z, z = av_up h3 ou (.inl (2, 1, .inr (.inl (fun _ => 0)))) := ⟨_, rfl⟩
  refine aw_heap (h' := h4) e4.symm ?_
  have e5 : ∀ x, x ≠ ou → h4 x = h3 x := fun x hx => by rw [e4, av_up_ne hx]
  have W4 : WLD h4 r m ou 20480 256 64 64 0 C0 C0 C0 0 0 0 0 C0 C0 C0 0 := ⟨F, _, C3.lo (fun x hx => e5 x (fun z => o1 (z ▸ hx))), M3.lo (fun x hx => e5 x (fun z => o2 (z ▸ hx))), dj, o1, o2, _, by rw [e4]; exact av_up_self _ _ _, rfl⟩
  have I4 : INV h4 r m ou 20480 0 600983 7053140 := ⟨256, 64, 64, 0, C0, C0, C0, 0, 0, 0, C0, C0, 0, W4, ⟨fun _ => rfl, fun _ => rfl, fun _ => rfl, fun _ => rfl⟩, by decide, by decide, by decide, by decide, by decide, fun z => absurd z (Nat.lt_irrefl 0), by unfold BUD; omega⟩
  refine aw_astore_n (L' := [some (.ref b), some (.ref r), some (.ref m), some (.ref ou), none, none, none]) d_Law_law_19 (by decide) rfl rfl ?_
  refine aw_iconst (v := nI 0) d_Law_law_20 (by decide) ?_
  refine aw_istore (L' := [some (.ref b), some (.ref r), some (.ref m), some (.ref ou), some (.int (nI 0)), none, none]) d_Law_law_21 (by decide) rfl rfl ?_
  exact law_loop hL (Ls + 1) 0 h4 600983 7053140 I4 (Nat.zero_le _) (by omega)
