/-! ===== the law: its calls ===== -/

set_option maxHeartbeats 4000000 in
theorem l_feed {tb : Nat → Nat} {h : AH} {r m ou K cap wl pl c : Nat} {B HC KC : Nat → Nat} {cn ln kl : Nat} {cd : Int32} {B2 HB KB : Nat → Nat} {x0 : Int64} (W : WLD h r m ou K cap wl pl c B HC KC cn ln kl cd B2 HB KB x0) (hcap : cap ≤ 200000) (hc : c + 20 ≤ 65536) (hK : K ≤ 200000) (hcK : cap ≤ K) (h2 : 2 * (c + 20) ≤ K) (u1 u2 u3 u4 u5 : Nat) (hu1 : u1 < 4294967296) (hu2 : u2 < 4294967296) (hu3 : u3 < 4294967296) (hu4 : u4 < 4294967296) (hu5 : u5 < 4294967296) : AMWX tb y_Law_feed b_Law_feed 7 (some .int) [(0, 11, 14, 13)] 10 355 [.ref r, .int (nI u1), .int (nI u2), .int (nI u3), .int (nI u4), .int (nI u5)] h (gN cap (c + 20) - cap) (2 * (gN cap (c + 20) - cap)) (fun v h' => v = some (.int (nI 0)) ∧ gN cap (c + 20) ≤ K ∧ cap ≤ gN cap (c + 20) ∧ WLD h' r m ou K (gN cap (c + 20)) wl pl (c + 20) ((o4 (o4 (o4 (o4 (o4 ((c, B) : OS) u1) u2) u3) u4) u5).2) HC KC cn ln kl cd B2 HB KB x0) := by
  obtain ⟨f1, l1, c1, s1, P1, a1, a2, a3, a4, A1, Q1⟩ := x_feed (tb := tb) W hcap hc hK hcK h2 u1 u2 u3 u4 u5 hu1 hu2 hu3 hu4 hu5
  obtain ⟨fs, hr0⟩ := W.rdr
  refine ⟨10, 355, c1, s1, (fun v h' => v = some (.int (nI 0)) ∧ gN cap (c + 20) ≤ K ∧ cap ≤ gN cap (c + 20) ∧ WLD h' r m ou K (gN cap (c + 20)) wl pl (c + 20) ((o4 (o4 (o4 (o4 (o4 ((c, B) : OS) u1) u2) u3) u4) u5).2) HC KC cn ln kl cd B2 HB KB x0), Nat.le_refl _, Nat.le_refl _, a3, a4, amw_of [some (.ref r), some (.int (nI u1)), some (.int (nI u2)), some (.int (nI u3)), some (.int (nI u4)), some (.int (nI u5)), none] (by decide) (Nat.le_of_ble_eq_true rfl) rfl ?_, fun v h' q => q⟩
  refine aw_aload_n d_Law_feed_0 rfl ?_
  refine aw_iload_n d_Law_feed_1 rfl ?_
  refine aw_iload_n d_Law_feed_2 rfl ?_
  refine aw_iload_n d_Law_feed_3 rfl ?_
  refine aw_iload d_Law_feed_4 rfl ?_
  refine aw_iload d_Law_feed_6 rfl ?_
  refine aw_callV (mc2 := 0) (ms2 := 0) (As := [.int (nI u1), .int (nI u2), .int (nI u3), .int (nI u4), .int (nI u5)]) (rest := []) A1 cv_Law_7 d_Law_feed_8 hr0 rfl rfl rfl (Nat.le_of_ble_eq_true rfl) (by omega) (by omega) (by omega) (by omega) (fun v_8 k_8c q_8 => ?_)
  obtain ⟨t1, k1, k2, W1⟩ := Q1 _ _ q_8
  refine aw_st (st' := []) (by rw [t1]; rfl) ?_
  refine aw_goto (tgt := 18) d_Law_feed_11 (by decide) ?_
  refine aw_iconst (v := nI 0) d_Law_feed_18 (by decide) ?_
  exact aw_iret d_Law_feed_19 rfl rfl ⟨rfl, k1, k2, W1⟩

set_option maxHeartbeats 4000000 in
theorem l_end {tb : Nat → Nat} {h : AH} {r m ou K cap wl pl c : Nat} {B HC KC : Nat → Nat} {cn ln kl : Nat} {cd : Int32} {B2 HB KB : Nat → Nat} {x0 : Int64} (W : WLD h r m ou K cap wl pl c B HC KC cn ln kl cd B2 HB KB x0) (hB : ∀ i, B i < 256) (hcap : cap ≤ 200000) (n : Nat) (hn : n ≤ c) : AMWX tb y_Law_end b_Law_end 4 (some .int) [(0, 9, 12, 19)] 10 355 [.ref r, .int (nI n), .ref ou] h 0 0 (fun v h' => v = some (.int (nI 0)) ∧ WLD h' r m ou K cap wl pl n B HC KC cn ln kl cd B2 HB KB ((nI c).toInt64)) := by
  obtain ⟨f1, l1, c1, s1, P1, a1, a2, a3, a4, A1, Q1⟩ := x_end (tb := tb) W hB hcap n hn
  obtain ⟨fs, hr0⟩ := W.rdr
  refine ⟨10, 355, c1, s1, (fun v h' => v = some (.int (nI 0)) ∧ WLD h' r m ou K cap wl pl n B HC KC cn ln kl cd B2 HB KB ((nI c).toInt64)), Nat.le_refl _, Nat.le_refl _, a3, a4, amw_of [some (.ref r), some (.int (nI n)), some (.ref ou), none] (by decide) (Nat.le_of_ble_eq_true rfl) rfl ?_, fun v h' q => q⟩
  refine aw_aload_n d_Law_end_0 rfl ?_
  refine aw_iconst (v := nI 0) d_Law_end_1 (by decide) ?_
  refine aw_aload_n d_Law_end_2 rfl ?_
  refine aw_iload_n d_Law_end_3 rfl ?_
  refine aw_callV (mc2 := 0) (ms2 := 0) (As := [.int (nI n)]) (rest := [.int (nI 0), .ref ou]) A1 cv_Law_15 d_Law_end_4 hr0 rfl rfl rfl (Nat.le_of_ble_eq_true rfl) (by omega) (by omega) (by omega) (by omega) (fun v g q => ?_)
  obtain ⟨t1, W1⟩ := Q1 _ _ q
  refine aw_st (st' := [.int (nI c), .int (nI 0), .ref ou]) (by rw [t1]; rfl) ?_
  refine aw_i2l (v := (nI c).toInt64) d_Law_end_7 rfl ?_
  obtain ⟨f, hf, -⟩ := W1.outr
  refine aw_last (f' := vp_updL f 0 (nI c).toInt64) d_Law_end_8 hf (vp_in_nI (by omega) (by omega)) (by rw [nI_clamp (by decide)]) ?_
  refine aw_goto (tgt := 15) d_Law_end_9 (by decide) ?_
  refine aw_iconst (v := nI 0) d_Law_end_15 (by decide) ?_
  have z := W1.out (f := vp_updL f 0 (nI c).toInt64) rfl
  rw [show vp_updL f 0 (nI c).toInt64 0 = (nI c).toInt64 by simp [vp_updL]] at z
  exact aw_iret d_Law_end_16 rfl rfl ⟨rfl, z⟩
theorem l_endT {tb : Nat → Nat} {h : AH} {r m ou K cap wl pl c : Nat} {B HC KC : Nat → Nat} {cn ln kl : Nat} {cd : Int32} {B2 HB KB : Nat → Nat} {x0 : Int64} (W : WLD h r m ou K cap wl pl c B HC KC cn ln kl cd B2 HB KB x0) (k : Int32) (hk : k < 0 ∨ nI c < k) : AMWX tb y_Law_end b_Law_end 4 (some .int) [(0, 9, 12, 19)] 10 355 [.ref r, .int k, .ref ou] h 1 6 (fun v h' => v = some (.int (nI 1)) ∧ WLD h' r m ou K cap wl pl c B HC KC cn ln kl cd B2 HB KB x0) := by
  obtain ⟨b, ro, fs, hr, hb⟩ := W.byt
  exact ⟨_, _, _, _, _, (by decide), (by decide), Nat.le_refl _, Nat.le_refl _, c_Law_endT hr k (t_R_end hr hb k hk), fun v h' q => ⟨q.1, by rw [q.2]; exact W⟩⟩

set_option maxHeartbeats 4000000 in
theorem o_objects {tb : Nat → Nat} {b Ls : Nat} {xs : Nat → Int32} {r m ou j : Nat} {g : AH} {mc ms : Nat} (hL : Ls ≤ 3072) (hl : 6 * j + 6 ≤ Ls) (I0 : INV g r m ou 20480 j mc ms) (kk : ∀ (g' : AH) (mc' ms' : Nat), INV g' r m ou 20480 (j + 1) mc' ms' → AW tb "ImageReaderLaw" b_Law_law 7 ret false (some (b, Ls, xs)) 11 414 (fun v _ => v = some (.int (nI 1))) 591 [some (.ref b), some (.ref r), some (.ref m), some (.ref ou), some (.int (nI (6 * j))), none, none] [] g' mc' ms') : AW tb "ImageReaderLaw" b_Law_law 7 ret false (some (b, Ls, xs)) 11 414 (fun v _ => v = some (.int (nI 1))) 314 [some (.ref b), some (.ref r), some (.ref m), some (.ref ou), some (.int (nI (6 * j))), none, none] [] g mc ms := by
  obtain ⟨cap, wl, pl, c, B, HC, KC, ln, kl, cd, HB, KB, x0, W, R, hcap, hwl, hpl, hc, hln, hH, bud⟩ := I0
  obtain ⟨kB, kH, kK, k65, kL, kKl⟩ := W.ok
  have hHC := R.hc kH
  have hKC := R.kc kK
  obtain ⟨fr0, hr0⟩ := W.rdr
  have hj : j < 512 := by omega
  obtain ⟨bs1, bs2, bs3⟩ := bud.sl hj hc
  refine aw_aload_n d_Law_law_314 rfl ?_
  obtain ⟨f1, l1, c1, s1, P1, ua1, ub1, uc1, ud1, A1, Q1⟩ := x_objects (tb := tb) W hHC (by omega)
  refine aw_callV (mc2 := mc) (ms2 := ms) (As := []) (rest := []) A1 cv_Law_48 d_Law_law_315 hr0 rfl rfl rfl (Nat.le_of_ble_eq_true rfl) (by omega) (by omega) (by omega) (by omega) (fun v_315 k_315c q_315 => ?_)
  obtain ⟨t1, W1⟩ := Q1 _ _ q_315
  refine aw_st (st' := [.int (nI (nn HC))]) (by rw [t1]; rfl) ?_
  obtain ⟨fm1, hm1⟩ := W1.mdr
  refine aw_aload_n d_Law_law_318 rfl ?_
  obtain ⟨f2, l2, c2, s2, P2, ua2, ub2, uc2, ud2, A2, Q2⟩ := z_objects (tb := tb) W1 R
  refine aw_callV (mc2 := mc) (ms2 := ms) (As := []) (rest := [.int (nI (nn HC))]) A2 cv_Law_51 d_Law_law_319 hm1 rfl rfl rfl (Nat.le_of_ble_eq_true rfl) (by omega) (by omega) (by omega) (by omega) (fun v_319 k_319c q_319 => ?_)
  obtain ⟨t2, W2⟩ := Q2 _ _ q_319
  refine aw_st (st' := [.int (nI (nn HC)), .int (nI (nn HC))]) (by rw [t2]; rfl) ?_
  obtain ⟨fm2, hm2⟩ := W2.mdr
  refine aw_icmp_eq (tgt := 591) d_Law_law_322 (by decide) (fun c_322 => ?_) (fun c_322 => absurd c_322 (by exact fun z => z rfl))
  try rw [w_eq (by omega) (by omega)] at c_322
  exact kk _ _ _ ⟨cap, wl, pl, c, B, HC, KC, ln, kl, _, HB, KB, x0, W2, R, hcap, hwl, hpl, by omega, by omega, hH, bud.next hj (Nat.le_refl _) hcap (Nat.le_refl _) hwl (Nat.le_refl _) hpl (by omega) (by omega)⟩

set_option maxHeartbeats 4000000 in
theorem o_words {tb : Nat → Nat} {b Ls : Nat} {xs : Nat → Int32} {r m ou j : Nat} {g : AH} {mc ms : Nat} (hL : Ls ≤ 3072) (hl : 6 * j + 6 ≤ Ls) (I0 : INV g r m ou 20480 j mc ms) (kk : ∀ (g' : AH) (mc' ms' : Nat), INV g' r m ou 20480 (j + 1) mc' ms' → AW tb "ImageReaderLaw" b_Law_law 7 ret false (some (b, Ls, xs)) 11 414 (fun v _ => v = some (.int (nI 1))) 591 [some (.ref b), some (.ref r), some (.ref m), some (.ref ou), some (.int (nI (6 * j))), none, none] [] g' mc' ms') : AW tb "ImageReaderLaw" b_Law_law 7 ret false (some (b, Ls, xs)) 11 414 (fun v _ => v = some (.int (nI 1))) 327 [some (.ref b), some (.ref r), some (.ref m), some (.ref ou), some (.int (nI (6 * j))), none, none] [] g mc ms := by
  obtain ⟨cap, wl, pl, c, B, HC, KC, ln, kl, cd, HB, KB, x0, W, R, hcap, hwl, hpl, hc, hln, hH, bud⟩ := I0
  obtain ⟨kB, kH, kK, k65, kL, kKl⟩ := W.ok
  have hHC := R.hc kH
  have hKC := R.kc kK
  obtain ⟨fr0, hr0⟩ := W.rdr
  have hj : j < 512 := by omega
  obtain ⟨bs1, bs2, bs3⟩ := bud.sl hj hc
  refine aw_aload_n d_Law_law_327 rfl ?_
  obtain ⟨f1, l1, c1, s1, P1, ua1, ub1, uc1, ud1, A1, Q1⟩ := x_words (tb := tb) W hHC (by omega)
  refine aw_callV (mc2 := mc) (ms2 := ms) (As := []) (rest := []) A1 cv_Law_52 d_Law_law_328 hr0 rfl rfl rfl (Nat.le_of_ble_eq_true rfl) (by omega) (by omega) (by omega) (by omega) (fun v_328 k_328c q_328 => ?_)
  obtain ⟨t1, W1⟩ := Q1 _ _ q_328
  refine aw_st (st' := [.int (nI (wds HC (nn HC)))]) (by rw [t1]; rfl) ?_
  obtain ⟨fm1, hm1⟩ := W1.mdr
  refine aw_aload_n d_Law_law_331 rfl ?_
  obtain ⟨f2, l2, c2, s2, P2, ua2, ub2, uc2, ud2, A2, Q2⟩ := z_words (tb := tb) W1 R
  refine aw_callV (mc2 := mc) (ms2 := ms) (As := []) (rest := [.int (nI (wds HC (nn HC)))]) A2 cv_Law_55 d_Law_law_332 hm1 rfl rfl rfl (Nat.le_of_ble_eq_true rfl) (by omega) (by omega) (by omega) (by omega) (fun v_332 k_332c q_332 => ?_)
  obtain ⟨t2, W2⟩ := Q2 _ _ q_332
  refine aw_st (st' := [.int (nI (wds HC (nn HC))), .int (nI (wds HC (nn HC)))]) (by rw [t2]; rfl) ?_
  obtain ⟨fm2, hm2⟩ := W2.mdr
  refine aw_icmp_eq (tgt := 591) d_Law_law_335 (by decide) (fun c_335 => ?_) (fun c_335 => absurd c_335 (by exact fun z => z rfl))
  try rw [w_eq (by omega) (by omega)] at c_335
  exact kk _ _ _ ⟨cap, wl, pl, c, B, HC, KC, ln, kl, _, HB, KB, x0, W2, R, hcap, hwl, hpl, by omega, by omega, hH, bud.next hj (Nat.le_refl _) hcap (Nat.le_refl _) hwl (Nat.le_refl _) hpl (by omega) (by omega)⟩

set_option maxHeartbeats 4000000 in
theorem o_special {tb : Nat → Nat} {b Ls : Nat} {xs : Nat → Int32} {r m ou j : Nat} {g : AH} {mc ms : Nat} (hL : Ls ≤ 3072) (hl : 6 * j + 6 ≤ Ls) (I0 : INV g r m ou 20480 j mc ms) (kk : ∀ (g' : AH) (mc' ms' : Nat), INV g' r m ou 20480 (j + 1) mc' ms' → AW tb "ImageReaderLaw" b_Law_law 7 ret false (some (b, Ls, xs)) 11 414 (fun v _ => v = some (.int (nI 1))) 591 [some (.ref b), some (.ref r), some (.ref m), some (.ref ou), some (.int (nI (6 * j))), none, none] [] g' mc' ms') : AW tb "ImageReaderLaw" b_Law_law 7 ret false (some (b, Ls, xs)) 11 414 (fun v _ => v = some (.int (nI 1))) 340 [some (.ref b), some (.ref r), some (.ref m), some (.ref ou), some (.int (nI (6 * j))), none, none] [] g mc ms := by
  obtain ⟨cap, wl, pl, c, B, HC, KC, ln, kl, cd, HB, KB, x0, W, R, hcap, hwl, hpl, hc, hln, hH, bud⟩ := I0
  obtain ⟨kB, kH, kK, k65, kL, kKl⟩ := W.ok
  have hHC := R.hc kH
  have hKC := R.kc kK
  obtain ⟨fr0, hr0⟩ := W.rdr
  have hj : j < 512 := by omega
  obtain ⟨bs1, bs2, bs3⟩ := bud.sl hj hc
  refine aw_aload_n d_Law_law_340 rfl ?_
  refine aw_aload_n d_Law_law_341 rfl ?_
  refine aw_iload d_Law_law_342 rfl ?_
  refine aw_iconst (v := nI 1) d_Law_law_344 (by decide) ?_
  refine aw_iadd (v := nI (6 * j + 1)) d_Law_law_345 (nI_add _ _) ?_
  refine aw_sld (x := xs (6 * j + 1)) rfl d_Law_law_346 (vp_in_nI (by omega) (by omega)) (by rw [nI_clamp (by omega)]) ?_
  obtain ⟨f1, l1, c1, s1, P1, ua1, ub1, uc1, ud1, A1, Q1⟩ := x_special (tb := tb) W hHC (by omega) (xs (6 * j + 1))
  refine aw_callV (mc2 := mc) (ms2 := ms) (As := [.int (xs (6 * j + 1))]) (rest := []) A1 cv_Law_56 d_Law_law_347 hr0 rfl rfl rfl (Nat.le_of_ble_eq_true rfl) (by omega) (by omega) (by omega) (by omega) (fun v_347 k_347c q_347 => ?_)
  obtain ⟨t1, W1⟩ := Q1 _ _ q_347
  refine aw_st (st' := [.int (xSpec HC (xs (6 * j + 1)))]) (by rw [t1]; rfl) ?_
  obtain ⟨fm1, hm1⟩ := W1.mdr
  refine aw_aload_n d_Law_law_350 rfl ?_
  refine aw_aload_n d_Law_law_351 rfl ?_
  refine aw_iload d_Law_law_352 rfl ?_
  refine aw_iconst (v := nI 1) d_Law_law_354 (by decide) ?_
  refine aw_iadd (v := nI (6 * j + 1)) d_Law_law_355 (nI_add _ _) ?_
  refine aw_sld (x := xs (6 * j + 1)) rfl d_Law_law_356 (vp_in_nI (by omega) (by omega)) (by rw [nI_clamp (by omega)]) ?_
  obtain ⟨f2, l2, c2, s2, P2, ua2, ub2, uc2, ud2, A2, Q2⟩ := z_special (tb := tb) W1 R (xs (6 * j + 1))
  refine aw_callV (mc2 := mc) (ms2 := ms) (As := [.int (xs (6 * j + 1))]) (rest := [.int (xSpec HC (xs (6 * j + 1)))]) A2 cv_Law_59 d_Law_law_357 hm1 rfl rfl rfl (Nat.le_of_ble_eq_true rfl) (by omega) (by omega) (by omega) (by omega) (fun v_357 k_357c q_357 => ?_)
  obtain ⟨t2, W2⟩ := Q2 _ _ q_357
  refine aw_st (st' := [.int (xSpec HC (xs (6 * j + 1))), .int (xSpec HC (xs (6 * j + 1)))]) (by rw [t2]; rfl) ?_
  obtain ⟨fm2, hm2⟩ := W2.mdr
  refine aw_icmp_eq (tgt := 591) d_Law_law_360 (by decide) (fun c_360 => ?_) (fun c_360 => absurd c_360 (by exact fun z => z rfl))
  exact kk _ _ _ ⟨cap, wl, pl, c, B, HC, KC, ln, kl, _, HB, KB, x0, W2, R, hcap, hwl, hpl, by omega, by omega, hH, bud.next hj (Nat.le_refl _) hcap (Nat.le_refl _) hwl (Nat.le_refl _) hpl (by omega) (by omega)⟩

set_option maxHeartbeats 4000000 in
theorem o_kind {tb : Nat → Nat} {b Ls : Nat} {xs : Nat → Int32} {r m ou j : Nat} {g : AH} {mc ms : Nat} (hL : Ls ≤ 3072) (hl : 6 * j + 6 ≤ Ls) (I0 : INV g r m ou 20480 j mc ms) (kk : ∀ (g' : AH) (mc' ms' : Nat), INV g' r m ou 20480 (j + 1) mc' ms' → AW tb "ImageReaderLaw" b_Law_law 7 ret false (some (b, Ls, xs)) 11 414 (fun v _ => v = some (.int (nI 1))) 591 [some (.ref b), some (.ref r), some (.ref m), some (.ref ou), some (.int (nI (6 * j))), none, none] [] g' mc' ms') : AW tb "ImageReaderLaw" b_Law_law 7 ret false (some (b, Ls, xs)) 11 414 (fun v _ => v = some (.int (nI 1))) 365 [some (.ref b), some (.ref r), some (.ref m), some (.ref ou), some (.int (nI (6 * j))), none, none] [] g mc ms := by
  obtain ⟨cap, wl, pl, c, B, HC, KC, ln, kl, cd, HB, KB, x0, W, R, hcap, hwl, hpl, hc, hln, hH, bud⟩ := I0
  obtain ⟨kB, kH, kK, k65, kL, kKl⟩ := W.ok
  have hHC := R.hc kH
  have hKC := R.kc kK
  obtain ⟨fr0, hr0⟩ := W.rdr
  have hj : j < 512 := by omega
  obtain ⟨bs1, bs2, bs3⟩ := bud.sl hj hc
  refine aw_aload_n d_Law_law_365 rfl ?_
  refine aw_aload_n d_Law_law_366 rfl ?_
  refine aw_iload d_Law_law_367 rfl ?_
  refine aw_iconst (v := nI 1) d_Law_law_369 (by decide) ?_
  refine aw_iadd (v := nI (6 * j + 1)) d_Law_law_370 (nI_add _ _) ?_
  refine aw_sld (x := xs (6 * j + 1)) rfl d_Law_law_371 (vp_in_nI (by omega) (by omega)) (by rw [nI_clamp (by omega)]) ?_
  obtain ⟨f1, l1, c1, s1, P1, ua1, ub1, uc1, ud1, A1, Q1⟩ := x_kind (tb := tb) W hHC (by omega) (xs (6 * j + 1))
  refine aw_callV (mc2 := mc) (ms2 := ms) (As := [.int (xs (6 * j + 1))]) (rest := []) A1 cv_Law_60 d_Law_law_372 hr0 rfl rfl rfl (Nat.le_of_ble_eq_true rfl) (by omega) (by omega) (by omega) (by omega) (fun v_372 k_372c q_372 => ?_)
  obtain ⟨t1, W1⟩ := Q1 _ _ q_372
  refine aw_st (st' := [.int (xKind HC (xs (6 * j + 1)))]) (by rw [t1]; rfl) ?_
  obtain ⟨fm1, hm1⟩ := W1.mdr
  refine aw_aload_n d_Law_law_375 rfl ?_
  refine aw_aload_n d_Law_law_376 rfl ?_
  refine aw_iload d_Law_law_377 rfl ?_
  refine aw_iconst (v := nI 1) d_Law_law_379 (by decide) ?_
  refine aw_iadd (v := nI (6 * j + 1)) d_Law_law_380 (nI_add _ _) ?_
  refine aw_sld (x := xs (6 * j + 1)) rfl d_Law_law_381 (vp_in_nI (by omega) (by omega)) (by rw [nI_clamp (by omega)]) ?_
  obtain ⟨f2, l2, c2, s2, P2, ua2, ub2, uc2, ud2, A2, Q2⟩ := z_kind (tb := tb) W1 R (xs (6 * j + 1))
  refine aw_callV (mc2 := mc) (ms2 := ms) (As := [.int (xs (6 * j + 1))]) (rest := [.int (xKind HC (xs (6 * j + 1)))]) A2 cv_Law_63 d_Law_law_382 hm1 rfl rfl rfl (Nat.le_of_ble_eq_true rfl) (by omega) (by omega) (by omega) (by omega) (fun v_382 k_382c q_382 => ?_)
  obtain ⟨t2, W2⟩ := Q2 _ _ q_382
  refine aw_st (st' := [.int (xKind HC (xs (6 * j + 1))), .int (xKind HC (xs (6 * j + 1)))]) (by rw [t2]; rfl) ?_
  obtain ⟨fm2, hm2⟩ := W2.mdr
  refine aw_icmp_eq (tgt := 591) d_Law_law_385 (by decide) (fun c_385 => ?_) (fun c_385 => absurd c_385 (by exact fun z => z rfl))
  exact kk _ _ _ ⟨cap, wl, pl, c, B, HC, KC, ln, kl, _, HB, KB, x0, W2, R, hcap, hwl, hpl, by omega, by omega, hH, bud.next hj (Nat.le_refl _) hcap (Nat.le_refl _) hwl (Nat.le_refl _) hpl (by omega) (by omega)⟩

set_option maxHeartbeats 4000000 in
theorem o_classOf {tb : Nat → Nat} {b Ls : Nat} {xs : Nat → Int32} {r m ou j : Nat} {g : AH} {mc ms : Nat} (hL : Ls ≤ 3072) (hl : 6 * j + 6 ≤ Ls) (I0 : INV g r m ou 20480 j mc ms) (kk : ∀ (g' : AH) (mc' ms' : Nat), INV g' r m ou 20480 (j + 1) mc' ms' → AW tb "ImageReaderLaw" b_Law_law 7 ret false (some (b, Ls, xs)) 11 414 (fun v _ => v = some (.int (nI 1))) 591 [some (.ref b), some (.ref r), some (.ref m), some (.ref ou), some (.int (nI (6 * j))), none, none] [] g' mc' ms') : AW tb "ImageReaderLaw" b_Law_law 7 ret false (some (b, Ls, xs)) 11 414 (fun v _ => v = some (.int (nI 1))) 390 [some (.ref b), some (.ref r), some (.ref m), some (.ref ou), some (.int (nI (6 * j))), none, none] [] g mc ms := by
  obtain ⟨cap, wl, pl, c, B, HC, KC, ln, kl, cd, HB, KB, x0, W, R, hcap, hwl, hpl, hc, hln, hH, bud⟩ := I0
  obtain ⟨kB, kH, kK, k65, kL, kKl⟩ := W.ok
  have hHC := R.hc kH
  have hKC := R.kc kK
  obtain ⟨fr0, hr0⟩ := W.rdr
  have hj : j < 512 := by omega
  obtain ⟨bs1, bs2, bs3⟩ := bud.sl hj hc
  refine aw_aload_n d_Law_law_390 rfl ?_
  refine aw_aload_n d_Law_law_391 rfl ?_
  refine aw_iload d_Law_law_392 rfl ?_
  refine aw_iconst (v := nI 1) d_Law_law_394 (by decide) ?_
  refine aw_iadd (v := nI (6 * j + 1)) d_Law_law_395 (nI_add _ _) ?_
  refine aw_sld (x := xs (6 * j + 1)) rfl d_Law_law_396 (vp_in_nI (by omega) (by omega)) (by rw [nI_clamp (by omega)]) ?_
  obtain ⟨f1, l1, c1, s1, P1, ua1, ub1, uc1, ud1, A1, Q1⟩ := x_classOf (tb := tb) W hHC (by omega) (xs (6 * j + 1))
  refine aw_callV (mc2 := mc) (ms2 := ms) (As := [.int (xs (6 * j + 1))]) (rest := []) A1 cv_Law_64 d_Law_law_397 hr0 rfl rfl rfl (Nat.le_of_ble_eq_true rfl) (by omega) (by omega) (by omega) (by omega) (fun v_397 k_397c q_397 => ?_)
  obtain ⟨t1, W1⟩ := Q1 _ _ q_397
  refine aw_st (st' := [.int (xCls HC (xs (6 * j + 1)))]) (by rw [t1]; rfl) ?_
  obtain ⟨fm1, hm1⟩ := W1.mdr
  refine aw_aload_n d_Law_law_400 rfl ?_
  refine aw_aload_n d_Law_law_401 rfl ?_
  refine aw_iload d_Law_law_402 rfl ?_
  refine aw_iconst (v := nI 1) d_Law_law_404 (by decide) ?_
  refine aw_iadd (v := nI (6 * j + 1)) d_Law_law_405 (nI_add _ _) ?_
  refine aw_sld (x := xs (6 * j + 1)) rfl d_Law_law_406 (vp_in_nI (by omega) (by omega)) (by rw [nI_clamp (by omega)]) ?_
  obtain ⟨f2, l2, c2, s2, P2, ua2, ub2, uc2, ud2, A2, Q2⟩ := z_classOf (tb := tb) W1 R (xs (6 * j + 1))
  refine aw_callV (mc2 := mc) (ms2 := ms) (As := [.int (xs (6 * j + 1))]) (rest := [.int (xCls HC (xs (6 * j + 1)))]) A2 cv_Law_67 d_Law_law_407 hm1 rfl rfl rfl (Nat.le_of_ble_eq_true rfl) (by omega) (by omega) (by omega) (by omega) (fun v_407 k_407c q_407 => ?_)
  obtain ⟨t2, W2⟩ := Q2 _ _ q_407
  refine aw_st (st' := [.int (xCls HC (xs (6 * j + 1))), .int (xCls HC (xs (6 * j + 1)))]) (by rw [t2]; rfl) ?_
  obtain ⟨fm2, hm2⟩ := W2.mdr
  refine aw_icmp_eq (tgt := 591) d_Law_law_410 (by decide) (fun c_410 => ?_) (fun c_410 => absurd c_410 (by exact fun z => z rfl))
  exact kk _ _ _ ⟨cap, wl, pl, c, B, HC, KC, ln, kl, _, HB, KB, x0, W2, R, hcap, hwl, hpl, by omega, by omega, hH, bud.next hj (Nat.le_refl _) hcap (Nat.le_refl _) hwl (Nat.le_refl _) hpl (by omega) (by omega)⟩

set_option maxHeartbeats 4000000 in
theorem o_size {tb : Nat → Nat} {b Ls : Nat} {xs : Nat → Int32} {r m ou j : Nat} {g : AH} {mc ms : Nat} (hL : Ls ≤ 3072) (hl : 6 * j + 6 ≤ Ls) (I0 : INV g r m ou 20480 j mc ms) (kk : ∀ (g' : AH) (mc' ms' : Nat), INV g' r m ou 20480 (j + 1) mc' ms' → AW tb "ImageReaderLaw" b_Law_law 7 ret false (some (b, Ls, xs)) 11 414 (fun v _ => v = some (.int (nI 1))) 591 [some (.ref b), some (.ref r), some (.ref m), some (.ref ou), some (.int (nI (6 * j))), none, none] [] g' mc' ms') : AW tb "ImageReaderLaw" b_Law_law 7 ret false (some (b, Ls, xs)) 11 414 (fun v _ => v = some (.int (nI 1))) 415 [some (.ref b), some (.ref r), some (.ref m), some (.ref ou), some (.int (nI (6 * j))), none, none] [] g mc ms := by
  obtain ⟨cap, wl, pl, c, B, HC, KC, ln, kl, cd, HB, KB, x0, W, R, hcap, hwl, hpl, hc, hln, hH, bud⟩ := I0
  obtain ⟨kB, kH, kK, k65, kL, kKl⟩ := W.ok
  have hHC := R.hc kH
  have hKC := R.kc kK
  obtain ⟨fr0, hr0⟩ := W.rdr
  have hj : j < 512 := by omega
  obtain ⟨bs1, bs2, bs3⟩ := bud.sl hj hc
  refine aw_aload_n d_Law_law_415 rfl ?_
  refine aw_aload_n d_Law_law_416 rfl ?_
  refine aw_iload d_Law_law_417 rfl ?_
  refine aw_iconst (v := nI 1) d_Law_law_419 (by decide) ?_
  refine aw_iadd (v := nI (6 * j + 1)) d_Law_law_420 (nI_add _ _) ?_
  refine aw_sld (x := xs (6 * j + 1)) rfl d_Law_law_421 (vp_in_nI (by omega) (by omega)) (by rw [nI_clamp (by omega)]) ?_
  obtain ⟨f1, l1, c1, s1, P1, ua1, ub1, uc1, ud1, A1, Q1⟩ := x_size (tb := tb) W hHC (by omega) (xs (6 * j + 1))
  refine aw_callV (mc2 := mc) (ms2 := ms) (As := [.int (xs (6 * j + 1))]) (rest := []) A1 cv_Law_68 d_Law_law_422 hr0 rfl rfl rfl (Nat.le_of_ble_eq_true rfl) (by omega) (by omega) (by omega) (by omega) (fun v_422 k_422c q_422 => ?_)
  obtain ⟨t1, W1⟩ := Q1 _ _ q_422
  refine aw_st (st' := [.int (xSize HC (xs (6 * j + 1)))]) (by rw [t1]; rfl) ?_
  obtain ⟨fm1, hm1⟩ := W1.mdr
  refine aw_aload_n d_Law_law_425 rfl ?_
  refine aw_aload_n d_Law_law_426 rfl ?_
  refine aw_iload d_Law_law_427 rfl ?_
  refine aw_iconst (v := nI 1) d_Law_law_429 (by decide) ?_
  refine aw_iadd (v := nI (6 * j + 1)) d_Law_law_430 (nI_add _ _) ?_
  refine aw_sld (x := xs (6 * j + 1)) rfl d_Law_law_431 (vp_in_nI (by omega) (by omega)) (by rw [nI_clamp (by omega)]) ?_
  obtain ⟨f2, l2, c2, s2, P2, ua2, ub2, uc2, ud2, A2, Q2⟩ := z_size (tb := tb) W1 R (xs (6 * j + 1))
  refine aw_callV (mc2 := mc) (ms2 := ms) (As := [.int (xs (6 * j + 1))]) (rest := [.int (xSize HC (xs (6 * j + 1)))]) A2 cv_Law_71 d_Law_law_432 hm1 rfl rfl rfl (Nat.le_of_ble_eq_true rfl) (by omega) (by omega) (by omega) (by omega) (fun v_432 k_432c q_432 => ?_)
  obtain ⟨t2, W2⟩ := Q2 _ _ q_432
  refine aw_st (st' := [.int (xSize HC (xs (6 * j + 1))), .int (xSize HC (xs (6 * j + 1)))]) (by rw [t2]; rfl) ?_
  obtain ⟨fm2, hm2⟩ := W2.mdr
  refine aw_icmp_eq (tgt := 591) d_Law_law_435 (by decide) (fun c_435 => ?_) (fun c_435 => absurd c_435 (by exact fun z => z rfl))
  exact kk _ _ _ ⟨cap, wl, pl, c, B, HC, KC, ln, kl, _, HB, KB, x0, W2, R, hcap, hwl, hpl, by omega, by omega, hH, bud.next hj (Nat.le_refl _) hcap (Nat.le_refl _) hwl (Nat.le_refl _) hpl (by omega) (by omega)⟩

set_option maxHeartbeats 4000000 in
theorem o_field {tb : Nat → Nat} {b Ls : Nat} {xs : Nat → Int32} {r m ou j : Nat} {g : AH} {mc ms : Nat} (hL : Ls ≤ 3072) (hl : 6 * j + 6 ≤ Ls) (I0 : INV g r m ou 20480 j mc ms) (kk : ∀ (g' : AH) (mc' ms' : Nat), INV g' r m ou 20480 (j + 1) mc' ms' → AW tb "ImageReaderLaw" b_Law_law 7 ret false (some (b, Ls, xs)) 11 414 (fun v _ => v = some (.int (nI 1))) 591 [some (.ref b), some (.ref r), some (.ref m), some (.ref ou), some (.int (nI (6 * j))), none, none] [] g' mc' ms') : AW tb "ImageReaderLaw" b_Law_law 7 ret false (some (b, Ls, xs)) 11 414 (fun v _ => v = some (.int (nI 1))) 440 [some (.ref b), some (.ref r), some (.ref m), some (.ref ou), some (.int (nI (6 * j))), none, none] [] g mc ms := by
  obtain ⟨cap, wl, pl, c, B, HC, KC, ln, kl, cd, HB, KB, x0, W, R, hcap, hwl, hpl, hc, hln, hH, bud⟩ := I0
  obtain ⟨kB, kH, kK, k65, kL, kKl⟩ := W.ok
  have hHC := R.hc kH
  have hKC := R.kc kK
  obtain ⟨fr0, hr0⟩ := W.rdr
  have hj : j < 512 := by omega
  obtain ⟨bs1, bs2, bs3⟩ := bud.sl hj hc
  refine aw_aload_n d_Law_law_440 rfl ?_
  refine aw_aload_n d_Law_law_441 rfl ?_
  refine aw_iload d_Law_law_442 rfl ?_
  refine aw_iconst (v := nI 1) d_Law_law_444 (by decide) ?_
  refine aw_iadd (v := nI (6 * j + 1)) d_Law_law_445 (nI_add _ _) ?_
  refine aw_sld (x := xs (6 * j + 1)) rfl d_Law_law_446 (vp_in_nI (by omega) (by omega)) (by rw [nI_clamp (by omega)]) ?_
  refine aw_aload_n d_Law_law_447 rfl ?_
  refine aw_iload d_Law_law_448 rfl ?_
  refine aw_iconst (v := nI 2) d_Law_law_450 (by decide) ?_
  refine aw_iadd (v := nI (6 * j + 2)) d_Law_law_451 (nI_add _ _) ?_
  refine aw_sld (x := xs (6 * j + 2)) rfl d_Law_law_452 (vp_in_nI (by omega) (by omega)) (by rw [nI_clamp (by omega)]) ?_
  obtain ⟨f1, l1, c1, s1, P1, ua1, ub1, uc1, ud1, A1, Q1⟩ := x_field (tb := tb) W hHC (by omega) (xs (6 * j + 1)) (xs (6 * j + 2))
  refine aw_callV (mc2 := mc) (ms2 := ms) (As := [.int (xs (6 * j + 1)), .int (xs (6 * j + 2))]) (rest := []) A1 cv_Law_72 d_Law_law_453 hr0 rfl rfl rfl (Nat.le_of_ble_eq_true rfl) (by omega) (by omega) (by omega) (by omega) (fun v_453 k_453c q_453 => ?_)
  obtain ⟨t1, W1⟩ := Q1 _ _ q_453
  refine aw_st (st' := [.int (xFld HC (xs (6 * j + 1)) (xs (6 * j + 2)))]) (by rw [t1]; rfl) ?_
  obtain ⟨fm1, hm1⟩ := W1.mdr
  refine aw_aload_n d_Law_law_456 rfl ?_
  refine aw_aload_n d_Law_law_457 rfl ?_
  refine aw_iload d_Law_law_458 rfl ?_
  refine aw_iconst (v := nI 1) d_Law_law_460 (by decide) ?_
  refine aw_iadd (v := nI (6 * j + 1)) d_Law_law_461 (nI_add _ _) ?_
  refine aw_sld (x := xs (6 * j + 1)) rfl d_Law_law_462 (vp_in_nI (by omega) (by omega)) (by rw [nI_clamp (by omega)]) ?_
  refine aw_aload_n d_Law_law_463 rfl ?_
  refine aw_iload d_Law_law_464 rfl ?_
  refine aw_iconst (v := nI 2) d_Law_law_466 (by decide) ?_
  refine aw_iadd (v := nI (6 * j + 2)) d_Law_law_467 (nI_add _ _) ?_
  refine aw_sld (x := xs (6 * j + 2)) rfl d_Law_law_468 (vp_in_nI (by omega) (by omega)) (by rw [nI_clamp (by omega)]) ?_
  obtain ⟨f2, l2, c2, s2, P2, ua2, ub2, uc2, ud2, A2, Q2⟩ := z_field (tb := tb) W1 R (xs (6 * j + 1)) (xs (6 * j + 2))
  refine aw_callV (mc2 := mc) (ms2 := ms) (As := [.int (xs (6 * j + 1)), .int (xs (6 * j + 2))]) (rest := [.int (xFld HC (xs (6 * j + 1)) (xs (6 * j + 2)))]) A2 cv_Law_75 d_Law_law_469 hm1 rfl rfl rfl (Nat.le_of_ble_eq_true rfl) (by omega) (by omega) (by omega) (by omega) (fun v_469 k_469c q_469 => ?_)
  obtain ⟨t2, W2⟩ := Q2 _ _ q_469
  refine aw_st (st' := [.int (xFld HC (xs (6 * j + 1)) (xs (6 * j + 2))), .int (xFld HC (xs (6 * j + 1)) (xs (6 * j + 2)))]) (by rw [t2]; rfl) ?_
  obtain ⟨fm2, hm2⟩ := W2.mdr
  refine aw_icmp_eq (tgt := 591) d_Law_law_472 (by decide) (fun c_472 => ?_) (fun c_472 => absurd c_472 (by exact fun z => z rfl))
  exact kk _ _ _ ⟨cap, wl, pl, c, B, HC, KC, ln, kl, _, HB, KB, x0, W2, R, hcap, hwl, hpl, by omega, by omega, hH, bud.next hj (Nat.le_refl _) hcap (Nat.le_refl _) hwl (Nat.le_refl _) hpl (by omega) (by omega)⟩

set_option maxHeartbeats 4000000 in
theorem o_byteAt {tb : Nat → Nat} {b Ls : Nat} {xs : Nat → Int32} {r m ou j : Nat} {g : AH} {mc ms : Nat} (hL : Ls ≤ 3072) (hl : 6 * j + 6 ≤ Ls) (I0 : INV g r m ou 20480 j mc ms) (kk : ∀ (g' : AH) (mc' ms' : Nat), INV g' r m ou 20480 (j + 1) mc' ms' → AW tb "ImageReaderLaw" b_Law_law 7 ret false (some (b, Ls, xs)) 11 414 (fun v _ => v = some (.int (nI 1))) 591 [some (.ref b), some (.ref r), some (.ref m), some (.ref ou), some (.int (nI (6 * j))), none, none] [] g' mc' ms') : AW tb "ImageReaderLaw" b_Law_law 7 ret false (some (b, Ls, xs)) 11 414 (fun v _ => v = some (.int (nI 1))) 477 [some (.ref b), some (.ref r), some (.ref m), some (.ref ou), some (.int (nI (6 * j))), none, none] [] g mc ms := by
  obtain ⟨cap, wl, pl, c, B, HC, KC, ln, kl, cd, HB, KB, x0, W, R, hcap, hwl, hpl, hc, hln, hH, bud⟩ := I0
  obtain ⟨kB, kH, kK, k65, kL, kKl⟩ := W.ok
  have hHC := R.hc kH
  have hKC := R.kc kK
  obtain ⟨fr0, hr0⟩ := W.rdr
  have hj : j < 512 := by omega
  obtain ⟨bs1, bs2, bs3⟩ := bud.sl hj hc
  refine aw_aload_n d_Law_law_477 rfl ?_
  refine aw_aload_n d_Law_law_478 rfl ?_
  refine aw_iload d_Law_law_479 rfl ?_
  refine aw_iconst (v := nI 1) d_Law_law_481 (by decide) ?_
  refine aw_iadd (v := nI (6 * j + 1)) d_Law_law_482 (nI_add _ _) ?_
  refine aw_sld (x := xs (6 * j + 1)) rfl d_Law_law_483 (vp_in_nI (by omega) (by omega)) (by rw [nI_clamp (by omega)]) ?_
  refine aw_aload_n d_Law_law_484 rfl ?_
  refine aw_iload d_Law_law_485 rfl ?_
  refine aw_iconst (v := nI 2) d_Law_law_487 (by decide) ?_
  refine aw_iadd (v := nI (6 * j + 2)) d_Law_law_488 (nI_add _ _) ?_
  refine aw_sld (x := xs (6 * j + 2)) rfl d_Law_law_489 (vp_in_nI (by omega) (by omega)) (by rw [nI_clamp (by omega)]) ?_
  obtain ⟨f1, l1, c1, s1, P1, ua1, ub1, uc1, ud1, A1, Q1⟩ := x_byteAt (tb := tb) W hHC (by omega) (xs (6 * j + 1)) (xs (6 * j + 2))
  refine aw_callV (mc2 := mc) (ms2 := ms) (As := [.int (xs (6 * j + 1)), .int (xs (6 * j + 2))]) (rest := []) A1 cv_Law_76 d_Law_law_490 hr0 rfl rfl rfl (Nat.le_of_ble_eq_true rfl) (by omega) (by omega) (by omega) (by omega) (fun v_490 k_490c q_490 => ?_)
  obtain ⟨t1, W1⟩ := Q1 _ _ q_490
  refine aw_st (st' := [.int (xByt HC (xs (6 * j + 1)) (xs (6 * j + 2)))]) (by rw [t1]; rfl) ?_
  obtain ⟨fm1, hm1⟩ := W1.mdr
  refine aw_aload_n d_Law_law_493 rfl ?_
  refine aw_aload_n d_Law_law_494 rfl ?_
  refine aw_iload d_Law_law_495 rfl ?_
  refine aw_iconst (v := nI 1) d_Law_law_497 (by decide) ?_
  refine aw_iadd (v := nI (6 * j + 1)) d_Law_law_498 (nI_add _ _) ?_
  refine aw_sld (x := xs (6 * j + 1)) rfl d_Law_law_499 (vp_in_nI (by omega) (by omega)) (by rw [nI_clamp (by omega)]) ?_
  refine aw_aload_n d_Law_law_500 rfl ?_
  refine aw_iload d_Law_law_501 rfl ?_
  refine aw_iconst (v := nI 2) d_Law_law_503 (by decide) ?_
  refine aw_iadd (v := nI (6 * j + 2)) d_Law_law_504 (nI_add _ _) ?_
  refine aw_sld (x := xs (6 * j + 2)) rfl d_Law_law_505 (vp_in_nI (by omega) (by omega)) (by rw [nI_clamp (by omega)]) ?_
  obtain ⟨f2, l2, c2, s2, P2, ua2, ub2, uc2, ud2, A2, Q2⟩ := z_byteAt (tb := tb) W1 R (xs (6 * j + 1)) (xs (6 * j + 2))
  refine aw_callV (mc2 := mc) (ms2 := ms) (As := [.int (xs (6 * j + 1)), .int (xs (6 * j + 2))]) (rest := [.int (xByt HC (xs (6 * j + 1)) (xs (6 * j + 2)))]) A2 cv_Law_79 d_Law_law_506 hm1 rfl rfl rfl (Nat.le_of_ble_eq_true rfl) (by omega) (by omega) (by omega) (by omega) (fun v_506 k_506c q_506 => ?_)
  obtain ⟨t2, W2⟩ := Q2 _ _ q_506
  refine aw_st (st' := [.int (xByt HC (xs (6 * j + 1)) (xs (6 * j + 2))), .int (xByt HC (xs (6 * j + 1)) (xs (6 * j + 2)))]) (by rw [t2]; rfl) ?_
  obtain ⟨fm2, hm2⟩ := W2.mdr
  refine aw_icmp_eq (tgt := 591) d_Law_law_509 (by decide) (fun c_509 => ?_) (fun c_509 => absurd c_509 (by exact fun z => z rfl))
  exact kk _ _ _ ⟨cap, wl, pl, c, B, HC, KC, ln, kl, _, HB, KB, x0, W2, R, hcap, hwl, hpl, by omega, by omega, hH, bud.next hj (Nat.le_refl _) hcap (Nat.le_refl _) hwl (Nat.le_refl _) hpl (by omega) (by omega)⟩

set_option maxHeartbeats 4000000 in
theorem o_came {tb : Nat → Nat} {b Ls : Nat} {xs : Nat → Int32} {r m ou j : Nat} {g : AH} {mc ms : Nat} (hL : Ls ≤ 3072) (hl : 6 * j + 6 ≤ Ls) (I0 : INV g r m ou 20480 j mc ms) (kk : ∀ (g' : AH) (mc' ms' : Nat), INV g' r m ou 20480 (j + 1) mc' ms' → AW tb "ImageReaderLaw" b_Law_law 7 ret false (some (b, Ls, xs)) 11 414 (fun v _ => v = some (.int (nI 1))) 591 [some (.ref b), some (.ref r), some (.ref m), some (.ref ou), some (.int (nI (6 * j))), none, none] [] g' mc' ms') : AW tb "ImageReaderLaw" b_Law_law 7 ret false (some (b, Ls, xs)) 11 414 (fun v _ => v = some (.int (nI 1))) 540 [some (.ref b), some (.ref r), some (.ref m), some (.ref ou), some (.int (nI (6 * j))), none, none] [] g mc ms := by
  obtain ⟨cap, wl, pl, c, B, HC, KC, ln, kl, cd, HB, KB, x0, W, R, hcap, hwl, hpl, hc, hln, hH, bud⟩ := I0
  obtain ⟨kB, kH, kK, k65, kL, kKl⟩ := W.ok
  have hHC := R.hc kH
  have hKC := R.kc kK
  obtain ⟨fr0, hr0⟩ := W.rdr
  have hj : j < 512 := by omega
  obtain ⟨bs1, bs2, bs3⟩ := bud.sl hj hc
  refine aw_aload_n d_Law_law_540 rfl ?_
  refine aw_aload_n d_Law_law_541 rfl ?_
  refine aw_iload d_Law_law_542 rfl ?_
  refine aw_iconst (v := nI 1) d_Law_law_544 (by decide) ?_
  refine aw_iadd (v := nI (6 * j + 1)) d_Law_law_545 (nI_add _ _) ?_
  refine aw_sld (x := xs (6 * j + 1)) rfl d_Law_law_546 (vp_in_nI (by omega) (by omega)) (by rw [nI_clamp (by omega)]) ?_
  obtain ⟨f1, l1, c1, s1, P1, ua1, ub1, uc1, ud1, A1, Q1⟩ := x_came (tb := tb) W kB (by omega) (xs (6 * j + 1))
  refine aw_callV (mc2 := mc) (ms2 := ms) (As := [.int (xs (6 * j + 1))]) (rest := []) A1 cv_Law_88 d_Law_law_547 hr0 rfl rfl rfl (Nat.le_of_ble_eq_true rfl) (by omega) (by omega) (by omega) (by omega) (fun v_547 k_547c q_547 => ?_)
  obtain ⟨t1, W1⟩ := Q1 _ _ q_547
  refine aw_st (st' := [.int (xCame B c (xs (6 * j + 1)))]) (by rw [t1]; rfl) ?_
  obtain ⟨fm1, hm1⟩ := W1.mdr
  refine aw_aload_n d_Law_law_550 rfl ?_
  refine aw_aload_n d_Law_law_551 rfl ?_
  refine aw_iload d_Law_law_552 rfl ?_
  refine aw_iconst (v := nI 1) d_Law_law_554 (by decide) ?_
  refine aw_iadd (v := nI (6 * j + 1)) d_Law_law_555 (nI_add _ _) ?_
  refine aw_sld (x := xs (6 * j + 1)) rfl d_Law_law_556 (vp_in_nI (by omega) (by omega)) (by rw [nI_clamp (by omega)]) ?_
  obtain ⟨f2, l2, c2, s2, P2, ua2, ub2, uc2, ud2, A2, Q2⟩ := z_came (tb := tb) W1 (xs (6 * j + 1))
  refine aw_callV (mc2 := mc) (ms2 := ms) (As := [.int (xs (6 * j + 1))]) (rest := [.int (xCame B c (xs (6 * j + 1)))]) A2 cv_Law_91 d_Law_law_557 hm1 rfl rfl rfl (Nat.le_of_ble_eq_true rfl) (by omega) (by omega) (by omega) (by omega) (fun v_557 k_557c q_557 => ?_)
  obtain ⟨t2, W2⟩ := Q2 _ _ q_557
  refine aw_st (st' := [.int (xCame B c (xs (6 * j + 1))), .int (xCame B c (xs (6 * j + 1)))]) (by rw [t2]; rfl) ?_
  obtain ⟨fm2, hm2⟩ := W2.mdr
  refine aw_icmp_eq (tgt := 591) d_Law_law_560 (by decide) (fun c_560 => ?_) (fun c_560 => absurd c_560 (by exact fun z => z rfl))
  exact kk _ _ _ ⟨cap, wl, pl, c, B, HC, KC, ln, kl, _, HB, KB, x0, W2, R, hcap, hwl, hpl, by omega, by omega, hH, bud.next hj (Nat.le_refl _) hcap (Nat.le_refl _) hwl (Nat.le_refl _) hpl (by omega) (by omega)⟩

set_option maxHeartbeats 4000000 in
theorem o_change {tb : Nat → Nat} {b Ls : Nat} {xs : Nat → Int32} {r m ou j : Nat} {g : AH} {mc ms : Nat} (hL : Ls ≤ 3072) (hl : 6 * j + 6 ≤ Ls) (I0 : INV g r m ou 20480 j mc ms) (kk : ∀ (g' : AH) (mc' ms' : Nat), INV g' r m ou 20480 (j + 1) mc' ms' → AW tb "ImageReaderLaw" b_Law_law 7 ret false (some (b, Ls, xs)) 11 414 (fun v _ => v = some (.int (nI 1))) 591 [some (.ref b), some (.ref r), some (.ref m), some (.ref ou), some (.int (nI (6 * j))), none, none] [] g' mc' ms') : AW tb "ImageReaderLaw" b_Law_law 7 ret false (some (b, Ls, xs)) 11 414 (fun v _ => v = some (.int (nI 1))) 264 [some (.ref b), some (.ref r), some (.ref m), some (.ref ou), some (.int (nI (6 * j))), none, none] [] g mc ms := by
  obtain ⟨cap, wl, pl, c, B, HC, KC, ln, kl, cd, HB, KB, x0, W, R, hcap, hwl, hpl, hc, hln, hH, bud⟩ := I0
  obtain ⟨kB, kH, kK, k65, kL, kKl⟩ := W.ok
  have hHC := R.hc kH
  have hKC := R.kc kK
  obtain ⟨fr0, hr0⟩ := W.rdr
  have hj : j < 512 := by omega
  obtain ⟨bs1, bs2, bs3⟩ := bud.sl hj hc
  refine aw_aload_n d_Law_law_264 rfl ?_
  refine aw_aload_n d_Law_law_265 rfl ?_
  refine aw_iload d_Law_law_266 rfl ?_
  refine aw_iconst (v := nI 1) d_Law_law_268 (by decide) ?_
  refine aw_iadd (v := nI (6 * j + 1)) d_Law_law_269 (nI_add _ _) ?_
  refine aw_sld (x := xs (6 * j + 1)) rfl d_Law_law_270 (vp_in_nI (by omega) (by omega)) (by rw [nI_clamp (by omega)]) ?_
  refine aw_aload_n d_Law_law_271 rfl ?_
  refine aw_iload d_Law_law_272 rfl ?_
  refine aw_iconst (v := nI 2) d_Law_law_274 (by decide) ?_
  refine aw_iadd (v := nI (6 * j + 2)) d_Law_law_275 (nI_add _ _) ?_
  refine aw_sld (x := xs (6 * j + 2)) rfl d_Law_law_276 (vp_in_nI (by omega) (by omega)) (by rw [nI_clamp (by omega)]) ?_
  obtain ⟨f1, l1, c1, s1, P1, ua1, ub1, uc1, ud1, A1, Q1⟩ := x_change (tb := tb) W kB (by omega) (xs (6 * j + 1)) (xs (6 * j + 2))
  refine aw_callV (mc2 := mc) (ms2 := ms) (As := [.int (xs (6 * j + 1)), .int (xs (6 * j + 2))]) (rest := []) A1 cv_Law_39 d_Law_law_277 hr0 rfl rfl rfl (Nat.le_of_ble_eq_true rfl) (by omega) (by omega) (by omega) (by omega) (fun v_277 k_277c q_277 => ?_)
  obtain ⟨t1, W1⟩ := Q1 _ _ q_277
  refine aw_st (st' := [.int (xChv B c (xs (6 * j + 1)) (xs (6 * j + 2)))]) (by rw [t1]; rfl) ?_
  obtain ⟨fm1, hm1⟩ := W1.mdr
  refine aw_aload_n d_Law_law_280 rfl ?_
  refine aw_aload_n d_Law_law_281 rfl ?_
  refine aw_iload d_Law_law_282 rfl ?_
  refine aw_iconst (v := nI 1) d_Law_law_284 (by decide) ?_
  refine aw_iadd (v := nI (6 * j + 1)) d_Law_law_285 (nI_add _ _) ?_
  refine aw_sld (x := xs (6 * j + 1)) rfl d_Law_law_286 (vp_in_nI (by omega) (by omega)) (by rw [nI_clamp (by omega)]) ?_
  refine aw_aload_n d_Law_law_287 rfl ?_
  refine aw_iload d_Law_law_288 rfl ?_
  refine aw_iconst (v := nI 2) d_Law_law_290 (by decide) ?_
  refine aw_iadd (v := nI (6 * j + 2)) d_Law_law_291 (nI_add _ _) ?_
  refine aw_sld (x := xs (6 * j + 2)) rfl d_Law_law_292 (vp_in_nI (by omega) (by omega)) (by rw [nI_clamp (by omega)]) ?_
  obtain ⟨f2, l2, c2, s2, P2, ua2, ub2, uc2, ud2, A2, Q2⟩ := z_change (tb := tb) W1 (xs (6 * j + 1)) (xs (6 * j + 2))
  refine aw_callV (mc2 := mc) (ms2 := ms) (As := [.int (xs (6 * j + 1)), .int (xs (6 * j + 2))]) (rest := [.int (xChv B c (xs (6 * j + 1)) (xs (6 * j + 2)))]) A2 cv_Law_43 d_Law_law_293 hm1 rfl rfl rfl (Nat.le_of_ble_eq_true rfl) (by omega) (by omega) (by omega) (by omega) (fun v_293 k_293c q_293 => ?_)
  obtain ⟨t2, W2⟩ := Q2 _ _ q_293
  refine aw_st (st' := [.int (xChv B c (xs (6 * j + 1)) (xs (6 * j + 2))), .int (xChv B c (xs (6 * j + 1)) (xs (6 * j + 2)))]) (by rw [t2]; rfl) ?_
  obtain ⟨fm2, hm2⟩ := W2.mdr
  refine aw_icmp_eq (tgt := 591) d_Law_law_296 (by decide) (fun c_296 => ?_) (fun c_296 => absurd c_296 (by exact fun z => z rfl))
  exact kk _ _ _ ⟨cap, wl, pl, c, xCh B c (xs (6 * j + 1)) (xs (6 * j + 2)), HC, KC, ln, kl, _, HB, KB, x0, W2, R, hcap, hwl, hpl, by omega, by omega, hH, bud.next hj (Nat.le_refl _) hcap (Nat.le_refl _) hwl (Nat.le_refl _) hpl (by omega) (by omega)⟩

set_option maxHeartbeats 4000000 in
theorem o_read {tb : Nat → Nat} {b Ls : Nat} {xs : Nat → Int32} {r m ou j : Nat} {g : AH} {mc ms : Nat} (hL : Ls ≤ 3072) (hl : 6 * j + 6 ≤ Ls) (I0 : INV g r m ou 20480 j mc ms) (kk : ∀ (g' : AH) (mc' ms' : Nat), INV g' r m ou 20480 (j + 1) mc' ms' → AW tb "ImageReaderLaw" b_Law_law 7 ret false (some (b, Ls, xs)) 11 414 (fun v _ => v = some (.int (nI 1))) 591 [some (.ref b), some (.ref r), some (.ref m), some (.ref ou), some (.int (nI (6 * j))), none, none] [] g' mc' ms') : AW tb "ImageReaderLaw" b_Law_law 7 ret false (some (b, Ls, xs)) 11 414 (fun v _ => v = some (.int (nI 1))) 301 [some (.ref b), some (.ref r), some (.ref m), some (.ref ou), some (.int (nI (6 * j))), none, none] [] g mc ms := by
  obtain ⟨cap, wl, pl, c, B, HC, KC, ln, kl, cd, HB, KB, x0, W, R, hcap, hwl, hpl, hc, hln, hH, bud⟩ := I0
  obtain ⟨kB, kH, kK, k65, kL, kKl⟩ := W.ok
  have hHC := R.hc kH
  have hKC := R.kc kK
  obtain ⟨fr0, hr0⟩ := W.rdr
  have hj : j < 512 := by omega
  obtain ⟨bs1, bs2, bs3⟩ := bud.sl hj hc
  refine aw_aload_n d_Law_law_301 rfl ?_
  obtain ⟨f1, l1, c1, s1, P1, ua1, ub1, uc1, ud1, A1, Q1⟩ := x_read (tb := tb) W kB (by omega) hcap (by omega) k65
  refine aw_callV (mc2 := mc - c / 32) (ms2 := ms - 4 * c) (As := []) (rest := []) A1 cv_Law_44 d_Law_law_302 hr0 rfl rfl rfl (Nat.le_of_ble_eq_true rfl) (by omega) (by omega) (by omega) (by omega) (fun v_302 k_302c q_302 => ?_)
  obtain ⟨t1, Wa, Wb⟩ := Q1 _ _ q_302
  obtain ⟨HC1, W1, e1, e2⟩ : ∃ HC1, WLD k_302c r m ou 20480 cap wl pl 0 B HC1 KC c ln kl cd B HB KB x0 ∧ (plc B c = none → HC1 = cpB HB B c) ∧ (plc B c ≠ none → HC1 = HC) := by
      by_cases hp : plc B c = none
      · exact ⟨cpB HB B c, Wb hp _ (fun K im l h H => H.agr (cpB_agr HB B c) (plc_ok k65 hp).1), fun _ => rfl, fun z => absurd hp z⟩
      · exact ⟨HC, Wa hp, fun z => absurd z hp, fun _ => rfl⟩
  refine aw_st (st' := [.int (pI (plc B c))]) (by rw [t1]; rfl) ?_
  obtain ⟨fm1, hm1⟩ := W1.mdr
  refine aw_aload_n d_Law_law_305 rfl ?_
  obtain ⟨f2, l2, c2, s2, P2, ua2, ub2, uc2, ud2, A2, Q2⟩ := z_read (tb := tb) W1
  refine aw_callV (mc2 := mc - c / 32) (ms2 := ms - 4 * c) (As := []) (rest := [.int (pI (plc B c))]) A2 cv_Law_47 d_Law_law_306 hm1 rfl rfl rfl (Nat.le_of_ble_eq_true rfl) (by omega) (by omega) (by omega) (by omega) (fun v_306 k_306c q_306 => ?_)
  obtain ⟨t2, Wc, Wd⟩ := Q2 _ _ q_306
  refine aw_st (st' := [.int (pI (plc B c)), .int (pI (plc B c))]) (by rw [t2]; rfl) ?_
  refine aw_icmp_eq (tgt := 591) d_Law_law_309 (by decide) (fun c_309 => ?_) (fun c_309 => absurd c_309 (by exact fun z => z rfl))
  by_cases hp : plc B c = none
  · have q := plc_ok k65 hp
    have hp2 := q.1.1
    exact kk _ _ _ ⟨cap, wl, pl, 0, B, HC1, KC, c, kl, _, cpB HB B c, KB, x0, Wc hp, ⟨fun z => absurd z (by omega), fun _ => e1 hp, R.k0, R.k1⟩, hcap, hwl, hpl, Nat.zero_le _, by omega, HDR_read k65 hp, bud.next hj (Nat.le_refl _) hcap (Nat.le_refl _) hwl (Nat.le_refl _) hpl (by omega) (by omega)⟩
  · have e3 := e2 hp
    subst e3
    exact kk _ _ _ ⟨cap, wl, pl, 0, B, HC1, KC, ln, kl, _, HB, KB, x0, Wd hp, R, hcap, hwl, hpl, Nat.zero_le _, by omega, hH, bud.next hj (Nat.le_refl _) hcap (Nat.le_refl _) hwl (Nat.le_refl _) hpl (by omega) (by omega)⟩

set_option maxHeartbeats 4000000 in
theorem o_reachable {tb : Nat → Nat} {b Ls : Nat} {xs : Nat → Int32} {r m ou j : Nat} {g : AH} {mc ms : Nat} (hL : Ls ≤ 3072) (hl : 6 * j + 6 ≤ Ls) (I0 : INV g r m ou 20480 j mc ms) (kk : ∀ (g' : AH) (mc' ms' : Nat), INV g' r m ou 20480 (j + 1) mc' ms' → AW tb "ImageReaderLaw" b_Law_law 7 ret false (some (b, Ls, xs)) 11 414 (fun v _ => v = some (.int (nI 1))) 591 [some (.ref b), some (.ref r), some (.ref m), some (.ref ou), some (.int (nI (6 * j))), none, none] [] g' mc' ms') : AW tb "ImageReaderLaw" b_Law_law 7 ret false (some (b, Ls, xs)) 11 414 (fun v _ => v = some (.int (nI 1))) 514 [some (.ref b), some (.ref r), some (.ref m), some (.ref ou), some (.int (nI (6 * j))), none, none] [] g mc ms := by
  obtain ⟨cap, wl, pl, c, B, HC, KC, ln, kl, cd, HB, KB, x0, W, R, hcap, hwl, hpl, hc, hln, hH, bud⟩ := I0
  obtain ⟨kB, kH, kK, k65, kL, kKl⟩ := W.ok
  have hHC := R.hc kH
  have hKC := R.kc kK
  obtain ⟨fr0, hr0⟩ := W.rdr
  have hj : j < 512 := by omega
  obtain ⟨bs1, bs2, bs3⟩ := bud.sl hj hc
  refine aw_aload_n d_Law_law_514 rfl ?_
  obtain ⟨wl', w1, w2, f1, l1, c1, s1, P1, ua1, ub1, uc1, ud1, A1, Q1⟩ := x_reachable (tb := tb) W hHC (by omega) hwl
  refine aw_callV (mc2 := mc - (wl' - wl)) (ms2 := ms - 4 * (wl' - wl)) (As := []) (rest := []) A1 cv_Law_80 d_Law_law_515 hr0 rfl rfl rfl (Nat.le_of_ble_eq_true rfl) (by omega) (by omega) (by omega) (by omega) (fun v_515 k_515c q_515 => ?_)
  obtain ⟨t1, W1⟩ := Q1 _ _ q_515
  refine aw_st (st' := [.int (nI (vfin HC).2.2)]) (by rw [t1]; rfl) ?_
  obtain ⟨fm1, hm1⟩ := W1.mdr
  refine aw_aload_n d_Law_law_518 rfl ?_
  obtain ⟨f2, l2, c2, s2, P2, ua2, ub2, uc2, ud2, A2, Q2⟩ := z_reachable (tb := tb) W1 R
  refine aw_callV (mc2 := mc - (wl' - wl)) (ms2 := ms - 4 * (wl' - wl)) (As := []) (rest := [.int (nI (vfin HC).2.2)]) A2 cv_Law_83 d_Law_law_519 hm1 rfl rfl rfl (Nat.le_of_ble_eq_true rfl) (by omega) (by omega) (by omega) (by omega) (fun v_519 k_519c q_519 => ?_)
  obtain ⟨t2, W2⟩ := Q2 _ _ q_519
  refine aw_st (st' := [.int (nI (vfin HC).2.2), .int (nI (vfin HC).2.2)]) (by rw [t2]; rfl) ?_
  obtain ⟨fm2, hm2⟩ := W2.mdr
  refine aw_icmp_eq (tgt := 591) d_Law_law_522 (by decide) (fun c_522 => ?_) (fun c_522 => absurd c_522 (by exact fun z => z rfl))
  exact kk _ _ _ ⟨cap, wl', pl, c, B, HC, KC, ln, kl, _, HB, KB, x0, W2, R, hcap, w2, hpl, by omega, by omega, hH, bud.next hj (Nat.le_refl _) hcap w1 w2 (Nat.le_refl _) hpl (by omega) (by omega)⟩

set_option maxHeartbeats 4000000 in
theorem o_write {tb : Nat → Nat} {b Ls : Nat} {xs : Nat → Int32} {r m ou j : Nat} {g : AH} {mc ms : Nat} (hL : Ls ≤ 3072) (hl : 6 * j + 6 ≤ Ls) (I0 : INV g r m ou 20480 j mc ms) (kk : ∀ (g' : AH) (mc' ms' : Nat), INV g' r m ou 20480 (j + 1) mc' ms' → AW tb "ImageReaderLaw" b_Law_law 7 ret false (some (b, Ls, xs)) 11 414 (fun v _ => v = some (.int (nI 1))) 591 [some (.ref b), some (.ref r), some (.ref m), some (.ref ou), some (.int (nI (6 * j))), none, none] [] g' mc' ms') : AW tb "ImageReaderLaw" b_Law_law 7 ret false (some (b, Ls, xs)) 11 414 (fun v _ => v = some (.int (nI 1))) 527 [some (.ref b), some (.ref r), some (.ref m), some (.ref ou), some (.int (nI (6 * j))), none, none] [] g mc ms := by
  obtain ⟨cap, wl, pl, c, B, HC, KC, ln, kl, cd, HB, KB, x0, W, R, hcap, hwl, hpl, hc, hln, hH, bud⟩ := I0
  obtain ⟨kB, kH, kK, k65, kL, kKl⟩ := W.ok
  have hHC := R.hc kH
  have hKC := R.kc kK
  obtain ⟨fr0, hr0⟩ := W.rdr
  have hj : j < 512 := by omega
  obtain ⟨bs1, bs2, bs3⟩ := bud.sl hj hc
  by_cases hz : ln = 0
  · have nz : nn HC = 0 := by rw [R.h0 hz]; rfl
    refine aw_aload_n d_Law_law_527 rfl ?_
    obtain ⟨f1, l1, c1, s1, P1, ua1, ub1, uc1, ud1, A1, Q1⟩ := x_write_no (tb := tb) W hHC (by omega) nz
    refine aw_callV (mc2 := mc) (ms2 := ms) (As := []) (rest := []) A1 cv_Law_84 d_Law_law_528 hr0 rfl rfl rfl (Nat.le_of_ble_eq_true rfl) (by omega) (by omega) (by omega) (by omega) (fun v_528 k_528c q_528 => ?_)
    obtain ⟨t1, W1⟩ := Q1 _ _ q_528
    refine aw_st (st' := [.int (-1)]) (by rw [t1]; rfl) ?_
    obtain ⟨fm1, hm1⟩ := W1.mdr
    refine aw_aload_n d_Law_law_531 rfl ?_
    obtain ⟨f2, l2, c2, s2, P2, ua2, ub2, uc2, ud2, A2, Q2⟩ := z_write (tb := tb) W1 (fun z => absurd z (by omega))
    refine aw_callV (mc2 := mc) (ms2 := ms) (As := []) (rest := [.int (-1)]) A2 cv_Law_87 d_Law_law_532 hm1 rfl rfl rfl (Nat.le_of_ble_eq_true rfl) (by omega) (by omega) (by omega) (by omega) (fun v_532 k_532c q_532 => ?_)
    obtain ⟨t2, W2⟩ := (Q2 _ _ q_532).1 hz
    refine aw_st (st' := [.int (-1), .int (-1)]) (by rw [t2]; rfl) ?_
    obtain ⟨fm2, hm2⟩ := W2.mdr
    refine aw_icmp_eq (tgt := 591) d_Law_law_535 (by decide) (fun c_535 => ?_) (fun c_535 => absurd c_535 (by exact fun z => z rfl))
    exact kk _ _ _ ⟨cap, wl, pl, c, B, HC, KC, ln, kl, _, HB, KB, x0, W2, R, hcap, hwl, hpl, by omega, by omega, hH, bud.next hj (Nat.le_refl _) hcap (Nat.le_refl _) hwl (Nat.le_refl _) hpl (by omega) (by omega)⟩
  · have hz1 : 0 < ln := by omega
    have eH := R.h1 hz1
    subst eH
    have ew := wout_le hH hz1
    have nz : nn HC ≠ 0 := by have := (kL hz1).2.2.1; omega
    refine aw_aload_n d_Law_law_527 rfl ?_
    obtain ⟨wl', cap', w1, w2, w3, w4, f1, l1, c1, s1, P1, ua1, ub1, uc1, ud1, A1, Q1⟩ := x_write (tb := tb) W hHC (by omega) hwl hcap (fun _ => (hH hz1).2) (by omega) (by omega) nz
    refine aw_callV (mc2 := mc - ((wl' - wl) + (cap' - cap))) (ms2 := ms - (4 * (wl' - wl) + 2 * (cap' - cap))) (As := []) (rest := []) A1 cv_Law_84 d_Law_law_528 hr0 rfl rfl rfl (Nat.le_of_ble_eq_true rfl) (by omega) (by omega) (by omega) (by omega) (fun v_528 k_528c q_528 => ?_)
    obtain ⟨t1, W1⟩ := Q1 _ _ q_528
    refine aw_st (st' := [.int (nI (wout HC).1)]) (by rw [t1]; rfl) ?_
    obtain ⟨fm1, hm1⟩ := W1.mdr
    refine aw_aload_n d_Law_law_531 rfl ?_
    obtain ⟨f2, l2, c2, s2, P2, ua2, ub2, uc2, ud2, A2, Q2⟩ := z_write (tb := tb) W1 (fun _ => by omega)
    refine aw_callV (mc2 := mc - ((wl' - wl) + (cap' - cap))) (ms2 := ms - (4 * (wl' - wl) + 2 * (cap' - cap))) (As := []) (rest := [.int (nI (wout HC).1)]) A2 cv_Law_87 d_Law_law_532 hm1 rfl rfl rfl (Nat.le_of_ble_eq_true rfl) (by omega) (by omega) (by omega) (by omega) (fun v_532 k_532c q_532 => ?_)
    obtain ⟨t2, BN, hRW, W2⟩ := (Q2 _ _ q_532).2 hz1
    refine aw_st (st' := [.int (nI (wout HC).1), .int (nI (wout HC).1)]) (by rw [t2]; rfl) ?_
    obtain ⟨fm2, hm2⟩ := W2.mdr
    refine aw_icmp_eq (tgt := 591) d_Law_law_535 (by decide) (fun c_535 => ?_) (fun c_535 => absurd c_535 (by exact fun z => z rfl))
    exact kk _ _ _ ⟨cap', wl', pl, (wout HC).1, BN, HC, KC, ln, kl, _, HC, KB, x0, W2.agr (fun i hi => (hRW i hi).symm), R, w4, w2, hpl, by omega, by omega, hH, bud.next hj w3 w4 w1 w2 (Nat.le_refl _) hpl (by omega) (by omega)⟩

set_option maxHeartbeats 4000000 in
theorem o_keep {tb : Nat → Nat} {b Ls : Nat} {xs : Nat → Int32} {r m ou j : Nat} {g : AH} {mc ms : Nat} (hL : Ls ≤ 3072) (hl : 6 * j + 6 ≤ Ls) (I0 : INV g r m ou 20480 j mc ms) (kk : ∀ (g' : AH) (mc' ms' : Nat), INV g' r m ou 20480 (j + 1) mc' ms' → AW tb "ImageReaderLaw" b_Law_law 7 ret false (some (b, Ls, xs)) 11 414 (fun v _ => v = some (.int (nI 1))) 591 [some (.ref b), some (.ref r), some (.ref m), some (.ref ou), some (.int (nI (6 * j))), none, none] [] g' mc' ms') : AW tb "ImageReaderLaw" b_Law_law 7 ret false (some (b, Ls, xs)) 11 414 (fun v _ => v = some (.int (nI 1))) 565 [some (.ref b), some (.ref r), some (.ref m), some (.ref ou), some (.int (nI (6 * j))), none, none] [] g mc ms := by
  obtain ⟨cap, wl, pl, c, B, HC, KC, ln, kl, cd, HB, KB, x0, W, R, hcap, hwl, hpl, hc, hln, hH, bud⟩ := I0
  obtain ⟨kB, kH, kK, k65, kL, kKl⟩ := W.ok
  have hHC := R.hc kH
  have hKC := R.kc kK
  obtain ⟨fr0, hr0⟩ := W.rdr
  have hj : j < 512 := by omega
  obtain ⟨bs1, bs2, bs3⟩ := bud.sl hj hc
  by_cases hz : ln = 0
  · have nz : nn HC = 0 := by rw [R.h0 hz]; rfl
    refine aw_aload_n d_Law_law_565 rfl ?_
    obtain ⟨f1, l1, c1, s1, P1, ua1, ub1, uc1, ud1, A1, Q1⟩ := x_keep (tb := tb) W hHC (by omega)
    refine aw_callV (mc2 := mc) (ms2 := ms) (As := []) (rest := []) A1 cv_Law_92 d_Law_law_566 hr0 rfl rfl rfl (Nat.le_of_ble_eq_true rfl) (by omega) (by omega) (by omega) (by omega) (fun v_566 k_566c q_566 => ?_)
    obtain ⟨t1, Wa, Wb⟩ := Q1 _ _ q_566
    have W1 := Wa nz
    refine aw_st (st' := [.int (bP (0 < nn HC))]) (by rw [t1]; rfl) ?_
    obtain ⟨fm1, hm1⟩ := W1.mdr
    refine aw_aload_n d_Law_law_569 rfl ?_
    obtain ⟨f2, l2, c2, s2, P2, ua2, ub2, uc2, ud2, A2, Q2⟩ := z_keep (tb := tb) W1
    refine aw_callV (mc2 := mc) (ms2 := ms) (As := []) (rest := [.int (bP (0 < nn HC))]) A2 cv_Law_96 d_Law_law_570 hm1 rfl rfl rfl (Nat.le_of_ble_eq_true rfl) (by omega) (by omega) (by omega) (by omega) (fun v_570 k_570c q_570 => ?_)
    obtain ⟨t2, Wc, Wd⟩ := Q2 _ _ q_570
    have W2 := Wc hz
    refine aw_st (st' := [.int (bP (0 < ln)), .int (bP (0 < nn HC))]) (by rw [t2]; rfl) ?_
    obtain ⟨fm2, hm2⟩ := W2.mdr
    refine aw_icmp_eq (tgt := 591) d_Law_law_573 (by decide) (fun c_573 => ?_) (fun c_573 => absurd c_573 (by exact fun z => z (bP_congr ⟨fun _ => by omega, fun _ => by omega⟩)))
    exact kk _ _ _ ⟨cap, wl, pl, c, B, HC, KC, ln, kl, _, HB, KB, x0, W2, R, hcap, hwl, hpl, by omega, by omega, hH, bud.next hj (Nat.le_refl _) hcap (Nat.le_refl _) hwl (Nat.le_refl _) hpl (by omega) (by omega)⟩
  · have hz1 : 0 < ln := by omega
    have eH := R.h1 hz1
    subst eH
    have nz : 0 < nn HC := by have := (kL hz1).2.2.1; omega
    refine aw_aload_n d_Law_law_565 rfl ?_
    obtain ⟨f1, l1, c1, s1, P1, ua1, ub1, uc1, ud1, A1, Q1⟩ := x_keep (tb := tb) W hHC (by omega)
    refine aw_callV (mc2 := mc) (ms2 := ms) (As := []) (rest := []) A1 cv_Law_92 d_Law_law_566 hr0 rfl rfl rfl (Nat.le_of_ble_eq_true rfl) (by omega) (by omega) (by omega) (by omega) (fun v_566 k_566c q_566 => ?_)
    obtain ⟨t1, Wa, Wb⟩ := Q1 _ _ q_566
    have W1 := Wb nz (cpB KB HC ln) (fun K im l h H => H.agr (cpB_agr KB HC ln) (kL hz1))
    refine aw_st (st' := [.int (bP (0 < nn HC))]) (by rw [t1]; rfl) ?_
    obtain ⟨fm1, hm1⟩ := W1.mdr
    refine aw_aload_n d_Law_law_569 rfl ?_
    obtain ⟨f2, l2, c2, s2, P2, ua2, ub2, uc2, ud2, A2, Q2⟩ := z_keep (tb := tb) W1
    refine aw_callV (mc2 := mc) (ms2 := ms) (As := []) (rest := [.int (bP (0 < nn HC))]) A2 cv_Law_96 d_Law_law_570 hm1 rfl rfl rfl (Nat.le_of_ble_eq_true rfl) (by omega) (by omega) (by omega) (by omega) (fun v_570 k_570c q_570 => ?_)
    obtain ⟨t2, Wc, Wd⟩ := Q2 _ _ q_570
    have W2 := Wd hz1
    refine aw_st (st' := [.int (bP (0 < ln)), .int (bP (0 < nn HC))]) (by rw [t2]; rfl) ?_
    obtain ⟨fm2, hm2⟩ := W2.mdr
    refine aw_icmp_eq (tgt := 591) d_Law_law_573 (by decide) (fun c_573 => ?_) (fun c_573 => absurd c_573 (by exact fun z => z (bP_congr ⟨fun _ => by omega, fun _ => by omega⟩)))
    exact kk _ _ _ ⟨cap, wl, pl, c, B, HC, cpB KB HC ln, ln, ln, _, HC, cpB KB HC ln, x0, W2, ⟨R.h0, R.h1, fun z => absurd z (by omega), fun _ => rfl⟩, hcap, hwl, hpl, by omega, by omega, hH, bud.next hj (Nat.le_refl _) hcap (Nat.le_refl _) hwl (Nat.le_refl _) hpl (by omega) (by omega)⟩

set_option maxHeartbeats 4000000 in
theorem o_same {tb : Nat → Nat} {b Ls : Nat} {xs : Nat → Int32} {r m ou j : Nat} {g : AH} {mc ms : Nat} (hL : Ls ≤ 3072) (hl : 6 * j + 6 ≤ Ls) (I0 : INV g r m ou 20480 j mc ms) (kk : ∀ (g' : AH) (mc' ms' : Nat), INV g' r m ou 20480 (j + 1) mc' ms' → AW tb "ImageReaderLaw" b_Law_law 7 ret false (some (b, Ls, xs)) 11 414 (fun v _ => v = some (.int (nI 1))) 591 [some (.ref b), some (.ref r), some (.ref m), some (.ref ou), some (.int (nI (6 * j))), none, none] [] g' mc' ms') : AW tb "ImageReaderLaw" b_Law_law 7 ret false (some (b, Ls, xs)) 11 414 (fun v _ => v = some (.int (nI 1))) 578 [some (.ref b), some (.ref r), some (.ref m), some (.ref ou), some (.int (nI (6 * j))), none, none] [] g mc ms := by
  obtain ⟨cap, wl, pl, c, B, HC, KC, ln, kl, cd, HB, KB, x0, W, R, hcap, hwl, hpl, hc, hln, hH, bud⟩ := I0
  obtain ⟨kB, kH, kK, k65, kL, kKl⟩ := W.ok
  have hHC := R.hc kH
  have hKC := R.kc kK
  obtain ⟨fr0, hr0⟩ := W.rdr
  have hj : j < 512 := by omega
  obtain ⟨bs1, bs2, bs3⟩ := bud.sl hj hc
  by_cases hz : nn HC = 0 ∨ nn KC = 0
  · refine aw_aload_n d_Law_law_578 rfl ?_
    obtain ⟨f1, l1, c1, s1, P1, ua1, ub1, uc1, ud1, A1, Q1⟩ := x_same_no (tb := tb) W hHC (by omega) hKC hz
    refine aw_callV (mc2 := mc) (ms2 := ms) (As := []) (rest := []) A1 cv_Law_97 d_Law_law_579 hr0 rfl rfl rfl (Nat.le_of_ble_eq_true rfl) (by omega) (by omega) (by omega) (by omega) (fun v_579 k_579c q_579 => ?_)
    obtain ⟨t1, W1⟩ := Q1 _ _ q_579
    refine aw_st (st' := [.int (bP (¬ nn HC = 0 ∧ ¬ nn KC = 0 ∧ HC 4 = KC 4 ∧ HC 5 = KC 5 ∧ gfin HC KC = true))]) (by rw [t1]; rfl) ?_
    obtain ⟨fm1, hm1⟩ := W1.mdr
    refine aw_aload_n d_Law_law_582 rfl ?_
    obtain ⟨f2, l2, c2, s2, P2, ua2, ub2, uc2, ud2, A2, Q2⟩ := z_same (tb := tb) W1 R
    refine aw_callV (mc2 := mc) (ms2 := ms) (As := []) (rest := [.int (bP (¬ nn HC = 0 ∧ ¬ nn KC = 0 ∧ HC 4 = KC 4 ∧ HC 5 = KC 5 ∧ gfin HC KC = true))]) A2 cv_Law_100 d_Law_law_583 hm1 rfl rfl rfl (Nat.le_of_ble_eq_true rfl) (by omega) (by omega) (by omega) (by omega) (fun v_583 k_583c q_583 => ?_)
    obtain ⟨t2, W2⟩ := Q2 _ _ q_583
    refine aw_st (st' := [.int (bP (¬ nn HC = 0 ∧ ¬ nn KC = 0 ∧ HC 4 = KC 4 ∧ HC 5 = KC 5 ∧ gfin HC KC = true)), .int (bP (¬ nn HC = 0 ∧ ¬ nn KC = 0 ∧ HC 4 = KC 4 ∧ HC 5 = KC 5 ∧ gfin HC KC = true))]) (by rw [t2]; rfl) ?_
    obtain ⟨fm2, hm2⟩ := W2.mdr
    refine aw_icmp_eq (tgt := 591) d_Law_law_586 (by decide) (fun c_586 => ?_) (fun c_586 => absurd c_586 (by exact fun z => z rfl))
    exact kk _ _ _ ⟨cap, wl, pl, c, B, HC, KC, ln, kl, _, HB, KB, x0, W2, R, hcap, hwl, hpl, by omega, by omega, hH, bud.next hj (Nat.le_refl _) hcap (Nat.le_refl _) hwl (Nat.le_refl _) hpl (by omega) (by omega)⟩
  · have n1 : ¬ nn HC = 0 := fun z => hz (Or.inl z)
    have n2 : ¬ nn KC = 0 := fun z => hz (Or.inr z)
    refine aw_aload_n d_Law_law_578 rfl ?_
    obtain ⟨pl', w1, w2, f1, l1, c1, s1, P1, ua1, ub1, uc1, ud1, A1, Q1⟩ := x_same (tb := tb) W hHC (by omega) hKC hpl n1 n2
    refine aw_callV (mc2 := mc - (pl' - pl)) (ms2 := ms - 6 * (pl' - pl)) (As := []) (rest := []) A1 cv_Law_97 d_Law_law_579 hr0 rfl rfl rfl (Nat.le_of_ble_eq_true rfl) (by omega) (by omega) (by omega) (by omega) (fun v_579 k_579c q_579 => ?_)
    obtain ⟨t1, W1⟩ := Q1 _ _ q_579
    refine aw_st (st' := [.int (bP (¬ nn HC = 0 ∧ ¬ nn KC = 0 ∧ HC 4 = KC 4 ∧ HC 5 = KC 5 ∧ gfin HC KC = true))]) (by rw [t1]; rfl) ?_
    obtain ⟨fm1, hm1⟩ := W1.mdr
    refine aw_aload_n d_Law_law_582 rfl ?_
    obtain ⟨f2, l2, c2, s2, P2, ua2, ub2, uc2, ud2, A2, Q2⟩ := z_same (tb := tb) W1 R
    refine aw_callV (mc2 := mc - (pl' - pl)) (ms2 := ms - 6 * (pl' - pl)) (As := []) (rest := [.int (bP (¬ nn HC = 0 ∧ ¬ nn KC = 0 ∧ HC 4 = KC 4 ∧ HC 5 = KC 5 ∧ gfin HC KC = true))]) A2 cv_Law_100 d_Law_law_583 hm1 rfl rfl rfl (Nat.le_of_ble_eq_true rfl) (by omega) (by omega) (by omega) (by omega) (fun v_583 k_583c q_583 => ?_)
    obtain ⟨t2, W2⟩ := Q2 _ _ q_583
    refine aw_st (st' := [.int (bP (¬ nn HC = 0 ∧ ¬ nn KC = 0 ∧ HC 4 = KC 4 ∧ HC 5 = KC 5 ∧ gfin HC KC = true)), .int (bP (¬ nn HC = 0 ∧ ¬ nn KC = 0 ∧ HC 4 = KC 4 ∧ HC 5 = KC 5 ∧ gfin HC KC = true))]) (by rw [t2]; rfl) ?_
    obtain ⟨fm2, hm2⟩ := W2.mdr
    refine aw_icmp_eq (tgt := 591) d_Law_law_586 (by decide) (fun c_586 => ?_) (fun c_586 => absurd c_586 (by exact fun z => z rfl))
    exact kk _ _ _ ⟨cap, wl, pl', c, B, HC, KC, ln, kl, _, HB, KB, x0, W2, R, hcap, hwl, w2, by omega, by omega, hH, bud.next hj (Nat.le_refl _) hcap (Nat.le_refl _) hwl w1 w2 (by omega) (by omega)⟩

set_option maxHeartbeats 4000000 in
theorem o_feed {tb : Nat → Nat} {b Ls : Nat} {xs : Nat → Int32} {r m ou j : Nat} {g : AH} {mc ms : Nat} (hL : Ls ≤ 3072) (hl : 6 * j + 6 ≤ Ls) (I0 : INV g r m ou 20480 j mc ms) (kk : ∀ (g' : AH) (mc' ms' : Nat), INV g' r m ou 20480 (j + 1) mc' ms' → AW tb "ImageReaderLaw" b_Law_law 7 ret false (some (b, Ls, xs)) 11 414 (fun v _ => v = some (.int (nI 1))) 591 [some (.ref b), some (.ref r), some (.ref m), some (.ref ou), some (.int (nI (6 * j))), none, none] [] g' mc' ms') : AW tb "ImageReaderLaw" b_Law_law 7 ret false (some (b, Ls, xs)) 11 414 (fun v _ => v = some (.int (nI 1))) 124 [some (.ref b), some (.ref r), some (.ref m), some (.ref ou), some (.int (nI (6 * j))), none, none] [] g mc ms := by
  obtain ⟨cap, wl, pl, c, B, HC, KC, ln, kl, cd, HB, KB, x0, W, R, hcap, hwl, hpl, hc, hln, hH, bud⟩ := I0
  obtain ⟨kB, kH, kK, k65, kL, kKl⟩ := W.ok
  have hHC := R.hc kH
  have hKC := R.kc kK
  obtain ⟨fr0, hr0⟩ := W.rdr
  have hj : j < 512 := by omega
  obtain ⟨bs1, bs2, bs3⟩ := bud.sl hj hc
  obtain ⟨u1, hu1, ea1⟩ := i32n (xs (6 * j + 1))
  obtain ⟨u2, hu2, ea2⟩ := i32n (xs (6 * j + 2))
  obtain ⟨u3, hu3, ea3⟩ := i32n (xs (6 * j + 3))
  obtain ⟨u4, hu4, ea4⟩ := i32n (xs (6 * j + 4))
  obtain ⟨u5, hu5, ea5⟩ := i32n (xs (6 * j + 5))
  have gb := gN_b (n := c + 20) (show 0 < cap from W.c0)
  have gk : gN cap (c + 20) ≤ 20480 := by rcases gb.2 with z | z <;> omega
  have gge := gN_ge (a := c + 20) (show 0 < cap from W.c0)
  clear gb
  refine aw_aload_n d_Law_law_124 rfl ?_
  refine aw_aload_n d_Law_law_125 rfl ?_
  refine aw_iload d_Law_law_126 rfl ?_
  refine aw_iconst (v := nI 1) d_Law_law_128 (by decide) ?_
  refine aw_iadd (v := nI (6 * j + 1)) d_Law_law_129 (nI_add _ _) ?_
  refine aw_sld (x := nI u1) rfl d_Law_law_130 (vp_in_nI (by omega) (by omega)) (by rw [nI_clamp (by omega)]; exact ea1) ?_
  refine aw_aload_n d_Law_law_131 rfl ?_
  refine aw_iload d_Law_law_132 rfl ?_
  refine aw_iconst (v := nI 2) d_Law_law_134 (by decide) ?_
  refine aw_iadd (v := nI (6 * j + 2)) d_Law_law_135 (nI_add _ _) ?_
  refine aw_sld (x := nI u2) rfl d_Law_law_136 (vp_in_nI (by omega) (by omega)) (by rw [nI_clamp (by omega)]; exact ea2) ?_
  refine aw_aload_n d_Law_law_137 rfl ?_
  refine aw_iload d_Law_law_138 rfl ?_
  refine aw_iconst (v := nI 3) d_Law_law_140 (by decide) ?_
  refine aw_iadd (v := nI (6 * j + 3)) d_Law_law_141 (nI_add _ _) ?_
  refine aw_sld (x := nI u3) rfl d_Law_law_142 (vp_in_nI (by omega) (by omega)) (by rw [nI_clamp (by omega)]; exact ea3) ?_
  refine aw_aload_n d_Law_law_143 rfl ?_
  refine aw_iload d_Law_law_144 rfl ?_
  refine aw_iconst (v := nI 4) d_Law_law_146 (by decide) ?_
  refine aw_iadd (v := nI (6 * j + 4)) d_Law_law_147 (nI_add _ _) ?_
  refine aw_sld (x := nI u4) rfl d_Law_law_148 (vp_in_nI (by omega) (by omega)) (by rw [nI_clamp (by omega)]; exact ea4) ?_
  refine aw_aload_n d_Law_law_149 rfl ?_
  refine aw_iload d_Law_law_150 rfl ?_
  refine aw_iconst (v := nI 5) d_Law_law_152 (by decide) ?_
  refine aw_iadd (v := nI (6 * j + 5)) d_Law_law_153 (nI_add _ _) ?_
  refine aw_sld (x := nI u5) rfl d_Law_law_154 (vp_in_nI (by omega) (by omega)) (by rw [nI_clamp (by omega)]; exact ea5) ?_
  obtain ⟨f1, l1, c1, s1, P1, ua1, ub1, uc1, ud1, A1, Q1⟩ := l_feed (tb := tb) W (by omega) (by omega) (by omega) hcap (by omega) u1 u2 u3 u4 u5 hu1 hu2 hu3 hu4 hu5
  refine aw_callSW (mc2 := mc - (gN cap (c + 20) - cap)) (ms2 := ms - 2 * (gN cap (c + 20) - cap)) (As := [.ref r, .int (nI u1), .int (nI u2), .int (nI u3), .int (nI u4), .int (nI u5)]) (rest := []) A1 lf_s lw_i lf_c lf_n lf_l d_Law_law_155 rfl rfl (Nat.le_of_ble_eq_true rfl) (by omega) (by omega) (by omega) (by omega) (fun v_155 k_155c q_155 => ?_)
  obtain ⟨t1, k1, k2, W1⟩ := Q1 _ _ q_155
  refine aw_st (st' := [.int (nI 0)]) (by rw [t1]; rfl) ?_
  obtain ⟨fm1, hm1⟩ := W1.mdr
  refine aw_istore (L' := [some (.ref b), some (.ref r), some (.ref m), some (.ref ou), some (.int (nI (6 * j))), some (.int (nI 0)), none]) d_Law_law_158 (by decide) rfl rfl ?_
  refine aw_aload_n d_Law_law_160 rfl ?_
  refine aw_aload_n d_Law_law_161 rfl ?_
  refine aw_iload d_Law_law_162 rfl ?_
  refine aw_iconst (v := nI 1) d_Law_law_164 (by decide) ?_
  refine aw_iadd (v := nI (6 * j + 1)) d_Law_law_165 (nI_add _ _) ?_
  refine aw_sld (x := nI u1) rfl d_Law_law_166 (vp_in_nI (by omega) (by omega)) (by rw [nI_clamp (by omega)]; exact ea1) ?_
  refine aw_aload_n d_Law_law_167 rfl ?_
  refine aw_iload d_Law_law_168 rfl ?_
  refine aw_iconst (v := nI 2) d_Law_law_170 (by decide) ?_
  refine aw_iadd (v := nI (6 * j + 2)) d_Law_law_171 (nI_add _ _) ?_
  refine aw_sld (x := nI u2) rfl d_Law_law_172 (vp_in_nI (by omega) (by omega)) (by rw [nI_clamp (by omega)]; exact ea2) ?_
  refine aw_aload_n d_Law_law_173 rfl ?_
  refine aw_iload d_Law_law_174 rfl ?_
  refine aw_iconst (v := nI 3) d_Law_law_176 (by decide) ?_
  refine aw_iadd (v := nI (6 * j + 3)) d_Law_law_177 (nI_add _ _) ?_
  refine aw_sld (x := nI u3) rfl d_Law_law_178 (vp_in_nI (by omega) (by omega)) (by rw [nI_clamp (by omega)]; exact ea3) ?_
  refine aw_aload_n d_Law_law_179 rfl ?_
  refine aw_iload d_Law_law_180 rfl ?_
  refine aw_iconst (v := nI 4) d_Law_law_182 (by decide) ?_
  refine aw_iadd (v := nI (6 * j + 4)) d_Law_law_183 (nI_add _ _) ?_
  refine aw_sld (x := nI u4) rfl d_Law_law_184 (vp_in_nI (by omega) (by omega)) (by rw [nI_clamp (by omega)]; exact ea4) ?_
  refine aw_aload_n d_Law_law_185 rfl ?_
  refine aw_iload d_Law_law_186 rfl ?_
  refine aw_iconst (v := nI 5) d_Law_law_188 (by decide) ?_
  refine aw_iadd (v := nI (6 * j + 5)) d_Law_law_189 (nI_add _ _) ?_
  refine aw_sld (x := nI u5) rfl d_Law_law_190 (vp_in_nI (by omega) (by omega)) (by rw [nI_clamp (by omega)]; exact ea5) ?_
  obtain ⟨f2, l2, c2, s2, P2, ua2, ub2, uc2, ud2, A2, Q2⟩ := z_feed (tb := tb) W1 (by omega) u1 u2 u3 u4 u5 hu1 hu2 hu3 hu4 hu5
  refine aw_callV (mc2 := mc - (gN cap (c + 20) - cap)) (ms2 := ms - 2 * (gN cap (c + 20) - cap)) (As := [.int (nI u1), .int (nI u2), .int (nI u3), .int (nI u4), .int (nI u5)]) (rest := []) A2 cv_Law_30 d_Law_law_191 hm1 rfl rfl rfl (Nat.le_of_ble_eq_true rfl) (by omega) (by omega) (by omega) (by omega) (fun v_191 k_191c q_191 => ?_)
  obtain ⟨t2, W2⟩ := Q2 _ _ q_191
  refine aw_st (st' := []) (by rw [t2]; rfl) ?_
  obtain ⟨fm2, hm2⟩ := W2.mdr
  refine aw_aload_n d_Law_law_194 rfl ?_
  obtain ⟨f3, l3, c3, s3, P3, ua3, ub3, uc3, ud3, A3, Q3⟩ := z_thrown (tb := tb) W2
  refine aw_callV (mc2 := mc - (gN cap (c + 20) - cap)) (ms2 := ms - 2 * (gN cap (c + 20) - cap)) (As := []) (rest := []) A3 cv_Law_31 d_Law_law_195 hm2 rfl rfl rfl (Nat.le_of_ble_eq_true rfl) (by omega) (by omega) (by omega) (by omega) (fun v_195 k_195c q_195 => ?_)
  obtain ⟨t3, W3⟩ := Q3 _ _ q_195
  refine aw_st (st' := [.int (nI 0)]) (by rw [t3]; rfl) ?_
  obtain ⟨fm3, hm3⟩ := W3.mdr
  refine aw_iload d_Law_law_198 rfl ?_
  refine aw_icmp_eq (tgt := 205) d_Law_law_200 (by decide) (fun _ => ?_) (fun z => absurd (by decide) z)
  refine aw_goto (tgt := 591) d_Law_law_205 (by decide) ?_
  refine aw_loc (L' := [some (.ref b), some (.ref r), some (.ref m), some (.ref ou), some (.int (nI (6 * j))), none, none]) (by intro i v hv; match i, hv with | 0, hv => exact hv | 1, hv => exact hv | 2, hv => exact hv | 3, hv => exact hv | 4, hv => exact hv | 5, hv => cases hv | 6, hv => cases hv | i + 7, hv => cases hv) ?_
  exact kk _ _ _ ⟨gN cap (c + 20), wl, pl, c + 20, apB B c 20 (wB u1 u2 u3 u4 u5), HC, KC, ln, kl, _, HB, KB, x0, W3.agr feed_eq, R, k1, hwl, hpl, by omega, by omega, hH, bud.next hj k2 k1 (Nat.le_refl _) hwl (Nat.le_refl _) hpl (by omega) (by omega)⟩

set_option maxHeartbeats 4000000 in
theorem o_end {tb : Nat → Nat} {b Ls : Nat} {xs : Nat → Int32} {r m ou j : Nat} {g : AH} {mc ms : Nat} (hL : Ls ≤ 3072) (hl : 6 * j + 6 ≤ Ls) (I0 : INV g r m ou 20480 j mc ms) (kk : ∀ (g' : AH) (mc' ms' : Nat), INV g' r m ou 20480 (j + 1) mc' ms' → AW tb "ImageReaderLaw" b_Law_law 7 ret false (some (b, Ls, xs)) 11 414 (fun v _ => v = some (.int (nI 1))) 591 [some (.ref b), some (.ref r), some (.ref m), some (.ref ou), some (.int (nI (6 * j))), none, none] [] g' mc' ms') : AW tb "ImageReaderLaw" b_Law_law 7 ret false (some (b, Ls, xs)) 11 414 (fun v _ => v = some (.int (nI 1))) 208 [some (.ref b), some (.ref r), some (.ref m), some (.ref ou), some (.int (nI (6 * j))), none, none] [] g mc ms := by
  obtain ⟨cap, wl, pl, c, B, HC, KC, ln, kl, cd, HB, KB, x0, W, R, hcap, hwl, hpl, hc, hln, hH, bud⟩ := I0
  obtain ⟨kB, kH, kK, k65, kL, kKl⟩ := W.ok
  have hHC := R.hc kH
  have hKC := R.kc kK
  obtain ⟨fr0, hr0⟩ := W.rdr
  have hj : j < 512 := by omega
  obtain ⟨bs1, bs2, bs3⟩ := bud.sl hj hc
  rcases i32 (xs (6 * j + 1)) with hk0 | ⟨n, hn2, en⟩
  · have hk : xs (6 * j + 1) < 0 ∨ nI c < xs (6 * j + 1) := Or.inl hk0
    have hk2 : xs (6 * j + 1) < 0 ∨ c < (xs (6 * j + 1)).toNatClampNeg := Or.inl hk0
    refine aw_aload_n d_Law_law_208 rfl ?_
    refine aw_aload_n d_Law_law_209 rfl ?_
    refine aw_iload d_Law_law_210 rfl ?_
    refine aw_iconst (v := nI 1) d_Law_law_212 (by decide) ?_
    refine aw_iadd (v := nI (6 * j + 1)) d_Law_law_213 (nI_add _ _) ?_
    refine aw_sld (x := xs (6 * j + 1)) rfl d_Law_law_214 (vp_in_nI (by omega) (by omega)) (by rw [nI_clamp (by omega)]) ?_
    refine aw_aload_n d_Law_law_215 rfl ?_
    obtain ⟨f1, l1, c1, s1, P1, ua1, ub1, uc1, ud1, A1, Q1⟩ := l_endT (tb := tb) W (xs (6 * j + 1)) hk
    refine aw_callSW (mc2 := mc - 1) (ms2 := ms - 6) (As := [.ref r, .int (xs (6 * j + 1)), .ref ou]) (rest := []) A1 le_s lw_i le_c le_n le_l d_Law_law_216 rfl rfl (Nat.le_of_ble_eq_true rfl) (by omega) (by omega) (by omega) (by omega) (fun v_216 k_216c q_216 => ?_)
    obtain ⟨t1, W1⟩ := Q1 _ _ q_216
    refine aw_st (st' := [.int (nI 1)]) (by rw [t1]; rfl) ?_
    obtain ⟨fm1, hm1⟩ := W1.mdr
    refine aw_istore (L' := [some (.ref b), some (.ref r), some (.ref m), some (.ref ou), some (.int (nI (6 * j))), some (.int (nI 1)), none]) d_Law_law_219 (by decide) rfl rfl ?_
    refine aw_aload_n d_Law_law_221 rfl ?_
    refine aw_aload_n d_Law_law_222 rfl ?_
    refine aw_iload d_Law_law_223 rfl ?_
    refine aw_iconst (v := nI 1) d_Law_law_225 (by decide) ?_
    refine aw_iadd (v := nI (6 * j + 1)) d_Law_law_226 (nI_add _ _) ?_
    refine aw_sld (x := xs (6 * j + 1)) rfl d_Law_law_227 (vp_in_nI (by omega) (by omega)) (by rw [nI_clamp (by omega)]) ?_
    obtain ⟨f2, l2, c2, s2, P2, ua2, ub2, uc2, ud2, A2, Q2⟩ := z_end_no (tb := tb) W1 (xs (6 * j + 1)) hk2
    refine aw_callV (mc2 := mc - 1) (ms2 := ms - 6) (As := [.int (xs (6 * j + 1))]) (rest := []) A2 cv_Law_38 d_Law_law_228 hm1 rfl rfl rfl (Nat.le_of_ble_eq_true rfl) (by omega) (by omega) (by omega) (by omega) (fun v_228 k_228c q_228 => ?_)
    obtain ⟨t2, W2⟩ := Q2 _ _ q_228
    refine aw_st (st' := [.int (nI 0)]) (by rw [t2]; rfl) ?_
    obtain ⟨fm2, hm2⟩ := W2.mdr
    refine aw_istore (L' := [some (.ref b), some (.ref r), some (.ref m), some (.ref ou), some (.int (nI (6 * j))), some (.int (nI 1)), some (.int (nI 0))]) d_Law_law_231 (by decide) rfl rfl ?_
    refine aw_aload_n d_Law_law_233 rfl ?_
    obtain ⟨f3, l3, c3, s3, P3, ua3, ub3, uc3, ud3, A3, Q3⟩ := z_thrown (tb := tb) W2
    refine aw_callV (mc2 := mc - 1) (ms2 := ms - 6) (As := []) (rest := []) A3 cv_Law_31 d_Law_law_234 hm2 rfl rfl rfl (Nat.le_of_ble_eq_true rfl) (by omega) (by omega) (by omega) (by omega) (fun v_234 k_234c q_234 => ?_)
    obtain ⟨t3, W3⟩ := Q3 _ _ q_234
    refine aw_st (st' := [.int (nI 1)]) (by rw [t3]; rfl) ?_
    obtain ⟨fm3, hm3⟩ := W3.mdr
    refine aw_iload d_Law_law_237 rfl ?_
    refine aw_icmp_eq (tgt := 244) d_Law_law_239 (by decide) (fun _ => ?_) (fun z => absurd (by decide) z)
    refine aw_iload d_Law_law_244 rfl ?_
    refine aw_if_ne (tgt := 261) d_Law_law_246 (by decide) (fun _ => ?_) (fun z => absurd z (by decide))
    refine aw_goto (tgt := 591) d_Law_law_261 (by decide) ?_
    refine aw_loc (L' := [some (.ref b), some (.ref r), some (.ref m), some (.ref ou), some (.int (nI (6 * j))), none, none]) (by intro i v hv; match i, hv with | 0, hv => exact hv | 1, hv => exact hv | 2, hv => exact hv | 3, hv => exact hv | 4, hv => exact hv | 5, hv => cases hv | 6, hv => cases hv | i + 7, hv => cases hv) ?_
    exact kk _ _ _ ⟨cap, wl, pl, c, B, HC, KC, ln, kl, _, HB, KB, x0, W3, R, hcap, hwl, hpl, by omega, by omega, hH, bud.next hj (Nat.le_refl _) hcap (Nat.le_refl _) hwl (Nat.le_refl _) hpl (by omega) (by omega)⟩
  · by_cases hn : n ≤ c
    · refine aw_aload_n d_Law_law_208 rfl ?_
      refine aw_aload_n d_Law_law_209 rfl ?_
      refine aw_iload d_Law_law_210 rfl ?_
      refine aw_iconst (v := nI 1) d_Law_law_212 (by decide) ?_
      refine aw_iadd (v := nI (6 * j + 1)) d_Law_law_213 (nI_add _ _) ?_
      refine aw_sld (x := nI n) rfl d_Law_law_214 (vp_in_nI (by omega) (by omega)) (by rw [nI_clamp (by omega)]; exact en) ?_
      refine aw_aload_n d_Law_law_215 rfl ?_
      obtain ⟨f1, l1, c1, s1, P1, ua1, ub1, uc1, ud1, A1, Q1⟩ := l_end (tb := tb) W kB (by omega) n hn
      refine aw_callSW (mc2 := mc) (ms2 := ms) (As := [.ref r, .int (nI n), .ref ou]) (rest := []) A1 le_s lw_i le_c le_n le_l d_Law_law_216 rfl rfl (Nat.le_of_ble_eq_true rfl) (by omega) (by omega) (by omega) (by omega) (fun v_216 k_216c q_216 => ?_)
      obtain ⟨t1, W1⟩ := Q1 _ _ q_216
      refine aw_st (st' := [.int (nI 0)]) (by rw [t1]; rfl) ?_
      obtain ⟨fm1, hm1⟩ := W1.mdr
      refine aw_istore (L' := [some (.ref b), some (.ref r), some (.ref m), some (.ref ou), some (.int (nI (6 * j))), some (.int (nI 0)), none]) d_Law_law_219 (by decide) rfl rfl ?_
      refine aw_aload_n d_Law_law_221 rfl ?_
      refine aw_aload_n d_Law_law_222 rfl ?_
      refine aw_iload d_Law_law_223 rfl ?_
      refine aw_iconst (v := nI 1) d_Law_law_225 (by decide) ?_
      refine aw_iadd (v := nI (6 * j + 1)) d_Law_law_226 (nI_add _ _) ?_
      refine aw_sld (x := nI n) rfl d_Law_law_227 (vp_in_nI (by omega) (by omega)) (by rw [nI_clamp (by omega)]; exact en) ?_
      obtain ⟨f2, l2, c2, s2, P2, ua2, ub2, uc2, ud2, A2, Q2⟩ := z_end_ok (tb := tb) W1 n hn hn2
      refine aw_callV (mc2 := mc) (ms2 := ms) (As := [.int (nI n)]) (rest := []) A2 cv_Law_38 d_Law_law_228 hm1 rfl rfl rfl (Nat.le_of_ble_eq_true rfl) (by omega) (by omega) (by omega) (by omega) (fun v_228 k_228c q_228 => ?_)
      obtain ⟨t2, W2⟩ := Q2 _ _ q_228
      refine aw_st (st' := [.int (nI c)]) (by rw [t2]; rfl) ?_
      obtain ⟨fm2, hm2⟩ := W2.mdr
      refine aw_istore (L' := [some (.ref b), some (.ref r), some (.ref m), some (.ref ou), some (.int (nI (6 * j))), some (.int (nI 0)), some (.int (nI c))]) d_Law_law_231 (by decide) rfl rfl ?_
      refine aw_aload_n d_Law_law_233 rfl ?_
      obtain ⟨f3, l3, c3, s3, P3, ua3, ub3, uc3, ud3, A3, Q3⟩ := z_thrown (tb := tb) W2
      refine aw_callV (mc2 := mc) (ms2 := ms) (As := []) (rest := []) A3 cv_Law_31 d_Law_law_234 hm2 rfl rfl rfl (Nat.le_of_ble_eq_true rfl) (by omega) (by omega) (by omega) (by omega) (fun v_234 k_234c q_234 => ?_)
      obtain ⟨t3, W3⟩ := Q3 _ _ q_234
      refine aw_st (st' := [.int (nI 0)]) (by rw [t3]; rfl) ?_
      obtain ⟨fm3, hm3⟩ := W3.mdr
      refine aw_iload d_Law_law_237 rfl ?_
      refine aw_icmp_eq (tgt := 244) d_Law_law_239 (by decide) (fun _ => ?_) (fun z => absurd (by decide) z)
      refine aw_iload d_Law_law_244 rfl ?_
      refine aw_if_ne (tgt := 261) d_Law_law_246 (by decide) (fun z => absurd (by decide) z) (fun _ => ?_)
      refine aw_aload_n d_Law_law_249 rfl ?_
      refine aw_iconst (v := nI 0) d_Law_law_250 (by decide) ?_
      obtain ⟨fo, hfo, eo⟩ := W3.outr
      refine aw_lald (x := (nI c).toInt64) d_Law_law_251 hfo (vp_in_nI (by omega) (by omega)) (by rw [nI_clamp (by decide)]; exact eo) ?_
      refine aw_iload d_Law_law_252 rfl ?_
      refine aw_i2l (v := (nI c).toInt64) d_Law_law_254 rfl ?_
      refine aw_lcmp0 d_Law_law_255 ?_
      refine aw_if_eq (tgt := 261) d_Law_law_256 (by decide) (fun _ => ?_) (fun z => absurd rfl z)
      refine aw_goto (tgt := 591) d_Law_law_261 (by decide) ?_
      refine aw_loc (L' := [some (.ref b), some (.ref r), some (.ref m), some (.ref ou), some (.int (nI (6 * j))), none, none]) (by intro i v hv; match i, hv with | 0, hv => exact hv | 1, hv => exact hv | 2, hv => exact hv | 3, hv => exact hv | 4, hv => exact hv | 5, hv => cases hv | 6, hv => cases hv | i + 7, hv => cases hv) ?_
      exact kk _ _ _ ⟨cap, wl, pl, n, B, HC, KC, ln, kl, _, HB, KB, _, W3, R, hcap, hwl, hpl, by omega, by omega, hH, bud.next hj (Nat.le_refl _) hcap (Nat.le_refl _) hwl (Nat.le_refl _) hpl (by omega) (by omega)⟩
    · have hk : nI n < 0 ∨ nI c < nI n := Or.inr (by rw [nI_ltI (by omega) (by omega)]; omega)
      have hk2 : nI n < 0 ∨ c < (nI n).toNatClampNeg := Or.inr (by rw [nI_clamp hn2]; omega)
      refine aw_aload_n d_Law_law_208 rfl ?_
      refine aw_aload_n d_Law_law_209 rfl ?_
      refine aw_iload d_Law_law_210 rfl ?_
      refine aw_iconst (v := nI 1) d_Law_law_212 (by decide) ?_
      refine aw_iadd (v := nI (6 * j + 1)) d_Law_law_213 (nI_add _ _) ?_
      refine aw_sld (x := nI n) rfl d_Law_law_214 (vp_in_nI (by omega) (by omega)) (by rw [nI_clamp (by omega)]; exact en) ?_
      refine aw_aload_n d_Law_law_215 rfl ?_
      obtain ⟨f1, l1, c1, s1, P1, ua1, ub1, uc1, ud1, A1, Q1⟩ := l_endT (tb := tb) W (nI n) hk
      refine aw_callSW (mc2 := mc - 1) (ms2 := ms - 6) (As := [.ref r, .int (nI n), .ref ou]) (rest := []) A1 le_s lw_i le_c le_n le_l d_Law_law_216 rfl rfl (Nat.le_of_ble_eq_true rfl) (by omega) (by omega) (by omega) (by omega) (fun v_216 k_216c q_216 => ?_)
      obtain ⟨t1, W1⟩ := Q1 _ _ q_216
      refine aw_st (st' := [.int (nI 1)]) (by rw [t1]; rfl) ?_
      obtain ⟨fm1, hm1⟩ := W1.mdr
      refine aw_istore (L' := [some (.ref b), some (.ref r), some (.ref m), some (.ref ou), some (.int (nI (6 * j))), some (.int (nI 1)), none]) d_Law_law_219 (by decide) rfl rfl ?_
      refine aw_aload_n d_Law_law_221 rfl ?_
      refine aw_aload_n d_Law_law_222 rfl ?_
      refine aw_iload d_Law_law_223 rfl ?_
      refine aw_iconst (v := nI 1) d_Law_law_225 (by decide) ?_
      refine aw_iadd (v := nI (6 * j + 1)) d_Law_law_226 (nI_add _ _) ?_
      refine aw_sld (x := nI n) rfl d_Law_law_227 (vp_in_nI (by omega) (by omega)) (by rw [nI_clamp (by omega)]; exact en) ?_
      obtain ⟨f2, l2, c2, s2, P2, ua2, ub2, uc2, ud2, A2, Q2⟩ := z_end_no (tb := tb) W1 (nI n) hk2
      refine aw_callV (mc2 := mc - 1) (ms2 := ms - 6) (As := [.int (nI n)]) (rest := []) A2 cv_Law_38 d_Law_law_228 hm1 rfl rfl rfl (Nat.le_of_ble_eq_true rfl) (by omega) (by omega) (by omega) (by omega) (fun v_228 k_228c q_228 => ?_)
      obtain ⟨t2, W2⟩ := Q2 _ _ q_228
      refine aw_st (st' := [.int (nI 0)]) (by rw [t2]; rfl) ?_
      obtain ⟨fm2, hm2⟩ := W2.mdr
      refine aw_istore (L' := [some (.ref b), some (.ref r), some (.ref m), some (.ref ou), some (.int (nI (6 * j))), some (.int (nI 1)), some (.int (nI 0))]) d_Law_law_231 (by decide) rfl rfl ?_
      refine aw_aload_n d_Law_law_233 rfl ?_
      obtain ⟨f3, l3, c3, s3, P3, ua3, ub3, uc3, ud3, A3, Q3⟩ := z_thrown (tb := tb) W2
      refine aw_callV (mc2 := mc - 1) (ms2 := ms - 6) (As := []) (rest := []) A3 cv_Law_31 d_Law_law_234 hm2 rfl rfl rfl (Nat.le_of_ble_eq_true rfl) (by omega) (by omega) (by omega) (by omega) (fun v_234 k_234c q_234 => ?_)
      obtain ⟨t3, W3⟩ := Q3 _ _ q_234
      refine aw_st (st' := [.int (nI 1)]) (by rw [t3]; rfl) ?_
      obtain ⟨fm3, hm3⟩ := W3.mdr
      refine aw_iload d_Law_law_237 rfl ?_
      refine aw_icmp_eq (tgt := 244) d_Law_law_239 (by decide) (fun _ => ?_) (fun z => absurd (by decide) z)
      refine aw_iload d_Law_law_244 rfl ?_
      refine aw_if_ne (tgt := 261) d_Law_law_246 (by decide) (fun _ => ?_) (fun z => absurd z (by decide))
      refine aw_goto (tgt := 591) d_Law_law_261 (by decide) ?_
      refine aw_loc (L' := [some (.ref b), some (.ref r), some (.ref m), some (.ref ou), some (.int (nI (6 * j))), none, none]) (by intro i v hv; match i, hv with | 0, hv => exact hv | 1, hv => exact hv | 2, hv => exact hv | 3, hv => exact hv | 4, hv => exact hv | 5, hv => cases hv | 6, hv => cases hv | i + 7, hv => cases hv) ?_
      exact kk _ _ _ ⟨cap, wl, pl, c, B, HC, KC, ln, kl, _, HB, KB, x0, W3, R, hcap, hwl, hpl, by omega, by omega, hH, bud.next hj (Nat.le_refl _) hcap (Nat.le_refl _) hwl (Nat.le_refl _) hpl (by omega) (by omega)⟩
