set_option maxHeartbeats 4000000 in
theorem c_M_put1 {tb : Nat → Nat} {h : AH} {m ai am ak as_ aks ar an ab ln kl mn : Nat} {cd : Int32} {B : Nat → Nat} {o : OS} (hm : h m = some (mO cd ai o.1 am ln ak kl as_ aks ar an ab mn)) (hi_ : h ai = some (.inl (1, 65536, .inl (bsf B)))) (hW : RW o B) (hB_ : ∀ i, B i < 256) (hc : o.1 + 1 ≤ 65536) (u : Nat) (hu : u < 4294967296) : AM tb y_M_put b_M_put 4 none 0 0 [.ref m, .int (nI u), .int (nI 1)] h 0 0 (fun v h' => v = none ∧ ∃ B', h' m = some (mO cd ai ((o1 o u).1) am ln ak kl as_ aks ar an ab mn) ∧ h' ai = some (.inl (1, 65536, .inl (bsf B'))) ∧ RW (o1 o u) B' ∧ (∀ i, B' i < 256) ∧ ∀ q, q ≠ m → q ≠ ai → h' q = h q) := by
  refine am_of (ini := false) [some (.ref m), some (.int (nI u)), some (.int (nI 1)), none] (by decide) (fun z => by cases z) (Nat.le_of_ble_eq_true rfl) rfl ?_
  refine aw_iload_n d_M_put_0 rfl ?_
  refine aw_iconst (v := nI 1) d_M_put_1 (by decide) ?_
  refine aw_isub (v := nI 0) d_M_put_2 (by decide) ?_
  refine aw_istore_n (L' := [some (.ref m), some (.int (nI u)), some (.int (nI 1)), some (.int (nI 0))]) d_M_put_3 (by decide) rfl rfl ?_
  refine aw_iload_n d_M_put_4 rfl ?_
  refine aw_if_lt (tgt := 40) d_M_put_5 (by decide) (fun z => absurd z (by decide)) (fun _ => ?_)
  refine aw_aload_n d_M_put_8 rfl ?_
  refine aw_get fl_M_8 d_M_put_9 hm rfl ?_
  refine aw_aload_n d_M_put_12 rfl ?_
  refine aw_get fl_M_40 d_M_put_13 hm rfl ?_
  refine aw_iload_n d_M_put_16 rfl ?_
  refine aw_bipush (v := nI 8) d_M_put_17 (by decide) ?_
  refine aw_iload_n d_M_put_19 rfl ?_
  refine aw_imul (v := nI 0) d_M_put_20 (by decide) ?_
  refine aw_ishr (v := nI u >>> (nI 0 &&& 31)) d_M_put_21 rfl ?_
  refine aw_i2b (v := bs (u / 2 ^ 0 % 256)) d_M_put_22 (shr_b (by omega) (by decide)) ?_
  refine aw_bast (f' := bsf (uB B (o.1) (u / 2 ^ 0 % 256))) d_M_put_23 hi_ (vp_in_nI (by omega) (by omega)) (by rw [nI_clamp (by omega)]; exact uB_upd _ _ _) ?_
  obtain ⟨k_1, e_k_1⟩ : ∃ z, z = av_up h ai (.inl (1, 65536, .inl (bsf (uB B (o.1) (u / 2 ^ 0 % 256))))) := ⟨_, rfl⟩
  refine aw_heap (h' := k_1) e_k_1.symm ?_
  have g1_m : k_1 m = some (.inr (5, [.int cd, .ref ai, .int (nI o.1), .ref am, .int (nI ln), .ref ak, .int (nI kl), .ref as_, .ref aks, .ref ar, .ref an, .ref ab, .int (nI mn)])) := by rw [e_k_1, av_up_ne (av_apart' hm hi_)]; exact hm
  have g1_ai : k_1 ai = some (.inl (1, 65536, .inl (bsf (uB B (o.1) (u / 2 ^ 0 % 256))))) := by rw [e_k_1]; exact av_up_self _ _ _
  refine aw_aload_n d_M_put_24 rfl ?_
  refine aw_dup d_M_put_25 rfl ?_
  refine aw_get fl_M_40 d_M_put_26 g1_m rfl ?_
  refine aw_iconst (v := nI 1) d_M_put_29 (by decide) ?_
  refine aw_iadd (v := nI (o.1 + 1)) d_M_put_30 (nI_add _ _) ?_
  refine aw_put (fs' := [.int cd, .ref ai, .int (nI (o.1 + 1)), .ref am, .int (nI ln), .ref ak, .int (nI kl), .ref as_, .ref aks, .ref ar, .ref an, .ref ab, .int (nI mn)]) (pt_M_40 _) d_M_put_31 g1_m rfl rfl (by simp) rfl ?_
  obtain ⟨k_2, e_k_2⟩ : ∃ z, z = av_up k_1 m (.inr (5, [.int cd, .ref ai, .int (nI (o.1 + 1)), .ref am, .int (nI ln), .ref ak, .int (nI kl), .ref as_, .ref aks, .ref ar, .ref an, .ref ab, .int (nI mn)])) := ⟨_, rfl⟩
  refine aw_heap (h' := k_2) e_k_2.symm ?_
  have g2_ai : k_2 ai = some (.inl (1, 65536, .inl (bsf (uB B (o.1) (u / 2 ^ 0 % 256))))) := by rw [e_k_2, av_up_ne (av_apart g1_ai g1_m)]; exact g1_ai
  have g2_m : k_2 m = some (.inr (5, [.int cd, .ref ai, .int (nI (o.1 + 1)), .ref am, .int (nI ln), .ref ak, .int (nI kl), .ref as_, .ref aks, .ref ar, .ref an, .ref ab, .int (nI mn)])) := by rw [e_k_2]; exact av_up_self _ _ _
  refine aw_iinc (v := (-1)) (L' := [some (.ref m), some (.int (nI u)), some (.int (nI 1)), some (.int (-1))]) d_M_put_34 rfl (by decide) (by decide) rfl rfl ?_
  refine aw_goto (tgt := 4) d_M_put_37 (by decide) ?_
  refine aw_iload_n d_M_put_4 rfl ?_
  refine aw_if_lt (tgt := 40) d_M_put_5 (by decide) (fun _ => ?_) (fun z => absurd (by decide) z)
  exact aw_vret d_M_put_40 rfl ⟨rfl, _, g2_m, g2_ai, by have q := hW.o1 u; rw [show u / 2 ^ 0 = u by simp]; exact q, uB_lt (hB_) (Nat.mod_lt _ (by decide)) _, fun q a_m a_ai => by rw [e_k_2, av_up_ne a_m, e_k_1, av_up_ne a_ai]⟩

set_option maxHeartbeats 4000000 in
theorem c_M_put2 {tb : Nat → Nat} {h : AH} {m ai am ak as_ aks ar an ab ln kl mn : Nat} {cd : Int32} {B : Nat → Nat} {o : OS} (hm : h m = some (mO cd ai o.1 am ln ak kl as_ aks ar an ab mn)) (hi_ : h ai = some (.inl (1, 65536, .inl (bsf B)))) (hW : RW o B) (hB_ : ∀ i, B i < 256) (hc : o.1 + 2 ≤ 65536) (u : Nat) (hu : u < 4294967296) : AM tb y_M_put b_M_put 4 none 0 0 [.ref m, .int (nI u), .int (nI 2)] h 0 0 (fun v h' => v = none ∧ ∃ B', h' m = some (mO cd ai ((o2 o u).1) am ln ak kl as_ aks ar an ab mn) ∧ h' ai = some (.inl (1, 65536, .inl (bsf B'))) ∧ RW (o2 o u) B' ∧ (∀ i, B' i < 256) ∧ ∀ q, q ≠ m → q ≠ ai → h' q = h q) := by
  refine am_of (ini := false) [some (.ref m), some (.int (nI u)), some (.int (nI 2)), none] (by decide) (fun z => by cases z) (Nat.le_of_ble_eq_true rfl) rfl ?_
  refine aw_iload_n d_M_put_0 rfl ?_
  refine aw_iconst (v := nI 1) d_M_put_1 (by decide) ?_
  refine aw_isub (v := nI 1) d_M_put_2 (by decide) ?_
  refine aw_istore_n (L' := [some (.ref m), some (.int (nI u)), some (.int (nI 2)), some (.int (nI 1))]) d_M_put_3 (by decide) rfl rfl ?_
  refine aw_iload_n d_M_put_4 rfl ?_
  refine aw_if_lt (tgt := 40) d_M_put_5 (by decide) (fun z => absurd z (by decide)) (fun _ => ?_)
  refine aw_aload_n d_M_put_8 rfl ?_
  refine aw_get fl_M_8 d_M_put_9 hm rfl ?_
  refine aw_aload_n d_M_put_12 rfl ?_
  refine aw_get fl_M_40 d_M_put_13 hm rfl ?_
  refine aw_iload_n d_M_put_16 rfl ?_
  refine aw_bipush (v := nI 8) d_M_put_17 (by decide) ?_
  refine aw_iload_n d_M_put_19 rfl ?_
  refine aw_imul (v := nI 8) d_M_put_20 (by decide) ?_
  refine aw_ishr (v := nI u >>> (nI 8 &&& 31)) d_M_put_21 rfl ?_
  refine aw_i2b (v := bs (u / 2 ^ 8 % 256)) d_M_put_22 (shr_b (by omega) (by decide)) ?_
  refine aw_bast (f' := bsf (uB B (o.1) (u / 2 ^ 8 % 256))) d_M_put_23 hi_ (vp_in_nI (by omega) (by omega)) (by rw [nI_clamp (by omega)]; exact uB_upd _ _ _) ?_
  obtain ⟨k_1, e_k_1⟩ : ∃ z, z = av_up h ai (.inl (1, 65536, .inl (bsf (uB B (o.1) (u / 2 ^ 8 % 256))))) := ⟨_, rfl⟩
  refine aw_heap (h' := k_1) e_k_1.symm ?_
  have g1_m : k_1 m = some (.inr (5, [.int cd, .ref ai, .int (nI o.1), .ref am, .int (nI ln), .ref ak, .int (nI kl), .ref as_, .ref aks, .ref ar, .ref an, .ref ab, .int (nI mn)])) := by rw [e_k_1, av_up_ne (av_apart' hm hi_)]; exact hm
  have g1_ai : k_1 ai = some (.inl (1, 65536, .inl (bsf (uB B (o.1) (u / 2 ^ 8 % 256))))) := by rw [e_k_1]; exact av_up_self _ _ _
  refine aw_aload_n d_M_put_24 rfl ?_
  refine aw_dup d_M_put_25 rfl ?_
  refine aw_get fl_M_40 d_M_put_26 g1_m rfl ?_
  refine aw_iconst (v := nI 1) d_M_put_29 (by decide) ?_
  refine aw_iadd (v := nI (o.1 + 1)) d_M_put_30 (nI_add _ _) ?_
  refine aw_put (fs' := [.int cd, .ref ai, .int (nI (o.1 + 1)), .ref am, .int (nI ln), .ref ak, .int (nI kl), .ref as_, .ref aks, .ref ar, .ref an, .ref ab, .int (nI mn)]) (pt_M_40 _) d_M_put_31 g1_m rfl rfl (by simp) rfl ?_
  obtain ⟨k_2, e_k_2⟩ : ∃ z, z = av_up k_1 m (.inr (5, [.int cd, .ref ai, .int (nI (o.1 + 1)), .ref am, .int (nI ln), .ref ak, .int (nI kl), .ref as_, .ref aks, .ref ar, .ref an, .ref ab, .int (nI mn)])) := ⟨_, rfl⟩
  refine aw_heap (h' := k_2) e_k_2.symm ?_
  have g2_ai : k_2 ai = some (.inl (1, 65536, .inl (bsf (uB B (o.1) (u / 2 ^ 8 % 256))))) := by rw [e_k_2, av_up_ne (av_apart g1_ai g1_m)]; exact g1_ai
  have g2_m : k_2 m = some (.inr (5, [.int cd, .ref ai, .int (nI (o.1 + 1)), .ref am, .int (nI ln), .ref ak, .int (nI kl), .ref as_, .ref aks, .ref ar, .ref an, .ref ab, .int (nI mn)])) := by rw [e_k_2]; exact av_up_self _ _ _
  refine aw_iinc (v := nI 0) (L' := [some (.ref m), some (.int (nI u)), some (.int (nI 2)), some (.int (nI 0))]) d_M_put_34 rfl (by decide) (by decide) rfl rfl ?_
  refine aw_goto (tgt := 4) d_M_put_37 (by decide) ?_
  refine aw_iload_n d_M_put_4 rfl ?_
  refine aw_if_lt (tgt := 40) d_M_put_5 (by decide) (fun z => absurd z (by decide)) (fun _ => ?_)
  refine aw_aload_n d_M_put_8 rfl ?_
  refine aw_get fl_M_8 d_M_put_9 g2_m rfl ?_
  refine aw_aload_n d_M_put_12 rfl ?_
  refine aw_get fl_M_40 d_M_put_13 g2_m rfl ?_
  refine aw_iload_n d_M_put_16 rfl ?_
  refine aw_bipush (v := nI 8) d_M_put_17 (by decide) ?_
  refine aw_iload_n d_M_put_19 rfl ?_
  refine aw_imul (v := nI 0) d_M_put_20 (by decide) ?_
  refine aw_ishr (v := nI u >>> (nI 0 &&& 31)) d_M_put_21 rfl ?_
  refine aw_i2b (v := bs (u / 2 ^ 0 % 256)) d_M_put_22 (shr_b (by omega) (by decide)) ?_
  refine aw_bast (f' := bsf (uB (uB B (o.1) (u / 2 ^ 8 % 256)) (o.1 + 1) (u / 2 ^ 0 % 256))) d_M_put_23 g2_ai (vp_in_nI (by omega) (by omega)) (by rw [nI_clamp (by omega)]; exact uB_upd _ _ _) ?_
  obtain ⟨k_3, e_k_3⟩ : ∃ z, z = av_up k_2 ai (.inl (1, 65536, .inl (bsf (uB (uB B (o.1) (u / 2 ^ 8 % 256)) (o.1 + 1) (u / 2 ^ 0 % 256))))) := ⟨_, rfl⟩
  refine aw_heap (h' := k_3) e_k_3.symm ?_
  have g3_m : k_3 m = some (.inr (5, [.int cd, .ref ai, .int (nI (o.1 + 1)), .ref am, .int (nI ln), .ref ak, .int (nI kl), .ref as_, .ref aks, .ref ar, .ref an, .ref ab, .int (nI mn)])) := by rw [e_k_3, av_up_ne (av_apart' g2_m g2_ai)]; exact g2_m
  have g3_ai : k_3 ai = some (.inl (1, 65536, .inl (bsf (uB (uB B (o.1) (u / 2 ^ 8 % 256)) (o.1 + 1) (u / 2 ^ 0 % 256))))) := by rw [e_k_3]; exact av_up_self _ _ _
  refine aw_aload_n d_M_put_24 rfl ?_
  refine aw_dup d_M_put_25 rfl ?_
  refine aw_get fl_M_40 d_M_put_26 g3_m rfl ?_
  refine aw_iconst (v := nI 1) d_M_put_29 (by decide) ?_
  refine aw_iadd (v := nI (o.1 + 1 + 1)) d_M_put_30 (nI_add _ _) ?_
  refine aw_put (fs' := [.int cd, .ref ai, .int (nI (o.1 + 1 + 1)), .ref am, .int (nI ln), .ref ak, .int (nI kl), .ref as_, .ref aks, .ref ar, .ref an, .ref ab, .int (nI mn)]) (pt_M_40 _) d_M_put_31 g3_m rfl rfl (by simp) rfl ?_
  obtain ⟨k_4, e_k_4⟩ : ∃ z, z = av_up k_3 m (.inr (5, [.int cd, .ref ai, .int (nI (o.1 + 1 + 1)), .ref am, .int (nI ln), .ref ak, .int (nI kl), .ref as_, .ref aks, .ref ar, .ref an, .ref ab, .int (nI mn)])) := ⟨_, rfl⟩
  refine aw_heap (h' := k_4) e_k_4.symm ?_
  have g4_ai : k_4 ai = some (.inl (1, 65536, .inl (bsf (uB (uB B (o.1) (u / 2 ^ 8 % 256)) (o.1 + 1) (u / 2 ^ 0 % 256))))) := by rw [e_k_4, av_up_ne (av_apart g3_ai g3_m)]; exact g3_ai
  have g4_m : k_4 m = some (.inr (5, [.int cd, .ref ai, .int (nI (o.1 + 1 + 1)), .ref am, .int (nI ln), .ref ak, .int (nI kl), .ref as_, .ref aks, .ref ar, .ref an, .ref ab, .int (nI mn)])) := by rw [e_k_4]; exact av_up_self _ _ _
  refine aw_iinc (v := (-1)) (L' := [some (.ref m), some (.int (nI u)), some (.int (nI 2)), some (.int (-1))]) d_M_put_34 rfl (by decide) (by decide) rfl rfl ?_
  refine aw_goto (tgt := 4) d_M_put_37 (by decide) ?_
  refine aw_iload_n d_M_put_4 rfl ?_
  refine aw_if_lt (tgt := 40) d_M_put_5 (by decide) (fun _ => ?_) (fun z => absurd (by decide) z)
  exact aw_vret d_M_put_40 rfl ⟨rfl, _, g4_m, g4_ai, by have q := (hW.o1 (u / 256)).o1 u; rw [show u / 2 ^ 0 = u by simp]; exact q, uB_lt (uB_lt (hB_) (Nat.mod_lt _ (by decide)) _) (Nat.mod_lt _ (by decide)) _, fun q a_m a_ai => by rw [e_k_4, av_up_ne a_m, e_k_3, av_up_ne a_ai, e_k_2, av_up_ne a_m, e_k_1, av_up_ne a_ai]⟩

set_option maxHeartbeats 4000000 in
theorem c_M_put4 {tb : Nat → Nat} {h : AH} {m ai am ak as_ aks ar an ab ln kl mn : Nat} {cd : Int32} {B : Nat → Nat} {o : OS} (hm : h m = some (mO cd ai o.1 am ln ak kl as_ aks ar an ab mn)) (hi_ : h ai = some (.inl (1, 65536, .inl (bsf B)))) (hW : RW o B) (hB_ : ∀ i, B i < 256) (hc : o.1 + 4 ≤ 65536) (u : Nat) (hu : u < 4294967296) : AM tb y_M_put b_M_put 4 none 0 0 [.ref m, .int (nI u), .int (nI 4)] h 0 0 (fun v h' => v = none ∧ ∃ B', h' m = some (mO cd ai ((o4 o u).1) am ln ak kl as_ aks ar an ab mn) ∧ h' ai = some (.inl (1, 65536, .inl (bsf B'))) ∧ RW (o4 o u) B' ∧ (∀ i, B' i < 256) ∧ ∀ q, q ≠ m → q ≠ ai → h' q = h q) := by
  refine am_of (ini := false) [some (.ref m), some (.int (nI u)), some (.int (nI 4)), none] (by decide) (fun z => by cases z) (Nat.le_of_ble_eq_true rfl) rfl ?_
  refine aw_iload_n d_M_put_0 rfl ?_
  refine aw_iconst (v := nI 1) d_M_put_1 (by decide) ?_
  refine aw_isub (v := nI 3) d_M_put_2 (by decide) ?_
  refine aw_istore_n (L' := [some (.ref m), some (.int (nI u)), some (.int (nI 4)), some (.int (nI 3))]) d_M_put_3 (by decide) rfl rfl ?_
  refine aw_iload_n d_M_put_4 rfl ?_
  refine aw_if_lt (tgt := 40) d_M_put_5 (by decide) (fun z => absurd z (by decide)) (fun _ => ?_)
  refine aw_aload_n d_M_put_8 rfl ?_
  refine aw_get fl_M_8 d_M_put_9 hm rfl ?_
  refine aw_aload_n d_M_put_12 rfl ?_
  refine aw_get fl_M_40 d_M_put_13 hm rfl ?_
  refine aw_iload_n d_M_put_16 rfl ?_
  refine aw_bipush (v := nI 8) d_M_put_17 (by decide) ?_
  refine aw_iload_n d_M_put_19 rfl ?_
  refine aw_imul (v := nI 24) d_M_put_20 (by decide) ?_
  refine aw_ishr (v := nI u >>> (nI 24 &&& 31)) d_M_put_21 rfl ?_
  refine aw_i2b (v := bs (u / 2 ^ 24 % 256)) d_M_put_22 (shr_b (by omega) (by decide)) ?_
  refine aw_bast (f' := bsf (uB B (o.1) (u / 2 ^ 24 % 256))) d_M_put_23 hi_ (vp_in_nI (by omega) (by omega)) (by rw [nI_clamp (by omega)]; exact uB_upd _ _ _) ?_
  obtain ⟨k_1, e_k_1⟩ : ∃ z, z = av_up h ai (.inl (1, 65536, .inl (bsf (uB B (o.1) (u / 2 ^ 24 % 256))))) := ⟨_, rfl⟩
  refine aw_heap (h' := k_1) e_k_1.symm ?_
  have g1_m : k_1 m = some (.inr (5, [.int cd, .ref ai, .int (nI o.1), .ref am, .int (nI ln), .ref ak, .int (nI kl), .ref as_, .ref aks, .ref ar, .ref an, .ref ab, .int (nI mn)])) := by rw [e_k_1, av_up_ne (av_apart' hm hi_)]; exact hm
  have g1_ai : k_1 ai = some (.inl (1, 65536, .inl (bsf (uB B (o.1) (u / 2 ^ 24 % 256))))) := by rw [e_k_1]; exact av_up_self _ _ _
  refine aw_aload_n d_M_put_24 rfl ?_
  refine aw_dup d_M_put_25 rfl ?_
  refine aw_get fl_M_40 d_M_put_26 g1_m rfl ?_
  refine aw_iconst (v := nI 1) d_M_put_29 (by decide) ?_
  refine aw_iadd (v := nI (o.1 + 1)) d_M_put_30 (nI_add _ _) ?_
  refine aw_put (fs' := [.int cd, .ref ai, .int (nI (o.1 + 1)), .ref am, .int (nI ln), .ref ak, .int (nI kl), .ref as_, .ref aks, .ref ar, .ref an, .ref ab, .int (nI mn)]) (pt_M_40 _) d_M_put_31 g1_m rfl rfl (by simp) rfl ?_
  obtain ⟨k_2, e_k_2⟩ : ∃ z, z = av_up k_1 m (.inr (5, [.int cd, .ref ai, .int (nI (o.1 + 1)), .ref am, .int (nI ln), .ref ak, .int (nI kl), .ref as_, .ref aks, .ref ar, .ref an, .ref ab, .int (nI mn)])) := ⟨_, rfl⟩
  refine aw_heap (h' := k_2) e_k_2.symm ?_
  have g2_ai : k_2 ai = some (.inl (1, 65536, .inl (bsf (uB B (o.1) (u / 2 ^ 24 % 256))))) := by rw [e_k_2, av_up_ne (av_apart g1_ai g1_m)]; exact g1_ai
  have g2_m : k_2 m = some (.inr (5, [.int cd, .ref ai, .int (nI (o.1 + 1)), .ref am, .int (nI ln), .ref ak, .int (nI kl), .ref as_, .ref aks, .ref ar, .ref an, .ref ab, .int (nI mn)])) := by rw [e_k_2]; exact av_up_self _ _ _
  refine aw_iinc (v := nI 2) (L' := [some (.ref m), some (.int (nI u)), some (.int (nI 4)), some (.int (nI 2))]) d_M_put_34 rfl (by decide) (by decide) rfl rfl ?_
  refine aw_goto (tgt := 4) d_M_put_37 (by decide) ?_
  refine aw_iload_n d_M_put_4 rfl ?_
  refine aw_if_lt (tgt := 40) d_M_put_5 (by decide) (fun z => absurd z (by decide)) (fun _ => ?_)
  refine aw_aload_n d_M_put_8 rfl ?_
  refine aw_get fl_M_8 d_M_put_9 g2_m rfl ?_
  refine aw_aload_n d_M_put_12 rfl ?_
  refine aw_get fl_M_40 d_M_put_13 g2_m rfl ?_
  refine aw_iload_n d_M_put_16 rfl ?_
  refine aw_bipush (v := nI 8) d_M_put_17 (by decide) ?_
  refine aw_iload_n d_M_put_19 rfl ?_
  refine aw_imul (v := nI 16) d_M_put_20 (by decide) ?_
  refine aw_ishr (v := nI u >>> (nI 16 &&& 31)) d_M_put_21 rfl ?_
  refine aw_i2b (v := bs (u / 2 ^ 16 % 256)) d_M_put_22 (shr_b (by omega) (by decide)) ?_
  refine aw_bast (f' := bsf (uB (uB B (o.1) (u / 2 ^ 24 % 256)) (o.1 + 1) (u / 2 ^ 16 % 256))) d_M_put_23 g2_ai (vp_in_nI (by omega) (by omega)) (by rw [nI_clamp (by omega)]; exact uB_upd _ _ _) ?_
  obtain ⟨k_3, e_k_3⟩ : ∃ z, z = av_up k_2 ai (.inl (1, 65536, .inl (bsf (uB (uB B (o.1) (u / 2 ^ 24 % 256)) (o.1 + 1) (u / 2 ^ 16 % 256))))) := ⟨_, rfl⟩
  refine aw_heap (h' := k_3) e_k_3.symm ?_
  have g3_m : k_3 m = some (.inr (5, [.int cd, .ref ai, .int (nI (o.1 + 1)), .ref am, .int (nI ln), .ref ak, .int (nI kl), .ref as_, .ref aks, .ref ar, .ref an, .ref ab, .int (nI mn)])) := by rw [e_k_3, av_up_ne (av_apart' g2_m g2_ai)]; exact g2_m
  have g3_ai : k_3 ai = some (.inl (1, 65536, .inl (bsf (uB (uB B (o.1) (u / 2 ^ 24 % 256)) (o.1 + 1) (u / 2 ^ 16 % 256))))) := by rw [e_k_3]; exact av_up_self _ _ _
  refine aw_aload_n d_M_put_24 rfl ?_
  refine aw_dup d_M_put_25 rfl ?_
  refine aw_get fl_M_40 d_M_put_26 g3_m rfl ?_
  refine aw_iconst (v := nI 1) d_M_put_29 (by decide) ?_
  refine aw_iadd (v := nI (o.1 + 1 + 1)) d_M_put_30 (nI_add _ _) ?_
  refine aw_put (fs' := [.int cd, .ref ai, .int (nI (o.1 + 1 + 1)), .ref am, .int (nI ln), .ref ak, .int (nI kl), .ref as_, .ref aks, .ref ar, .ref an, .ref ab, .int (nI mn)]) (pt_M_40 _) d_M_put_31 g3_m rfl rfl (by simp) rfl ?_
  obtain ⟨k_4, e_k_4⟩ : ∃ z, z = av_up k_3 m (.inr (5, [.int cd, .ref ai, .int (nI (o.1 + 1 + 1)), .ref am, .int (nI ln), .ref ak, .int (nI kl), .ref as_, .ref aks, .ref ar, .ref an, .ref ab, .int (nI mn)])) := ⟨_, rfl⟩
  refine aw_heap (h' := k_4) e_k_4.symm ?_
  have g4_ai : k_4 ai = some (.inl (1, 65536, .inl (bsf (uB (uB B (o.1) (u / 2 ^ 24 % 256)) (o.1 + 1) (u / 2 ^ 16 % 256))))) := by rw [e_k_4, av_up_ne (av_apart g3_ai g3_m)]; exact g3_ai
  have g4_m : k_4 m = some (.inr (5, [.int cd, .ref ai, .int (nI (o.1 + 1 + 1)), .ref am, .int (nI ln), .ref ak, .int (nI kl), .ref as_, .ref aks, .ref ar, .ref an, .ref ab, .int (nI mn)])) := by rw [e_k_4]; exact av_up_self _ _ _
  refine aw_iinc (v := nI 1) (L' := [some (.ref m), some (.int (nI u)), some (.int (nI 4)), some (.int (nI 1))]) d_M_put_34 rfl (by decide) (by decide) rfl rfl ?_
  refine aw_goto (tgt := 4) d_M_put_37 (by decide) ?_
  refine aw_iload_n d_M_put_4 rfl ?_
  refine aw_if_lt (tgt := 40) d_M_put_5 (by decide) (fun z => absurd z (by decide)) (fun _ => ?_)
  refine aw_aload_n d_M_put_8 rfl ?_
  refine aw_get fl_M_8 d_M_put_9 g4_m rfl ?_
  refine aw_aload_n d_M_put_12 rfl ?_
  refine aw_get fl_M_40 d_M_put_13 g4_m rfl ?_
  refine aw_iload_n d_M_put_16 rfl ?_
  refine aw_bipush (v := nI 8) d_M_put_17 (by decide) ?_
  refine aw_iload_n d_M_put_19 rfl ?_
  refine aw_imul (v := nI 8) d_M_put_20 (by decide) ?_
  refine aw_ishr (v := nI u >>> (nI 8 &&& 31)) d_M_put_21 rfl ?_
  refine aw_i2b (v := bs (u / 2 ^ 8 % 256)) d_M_put_22 (shr_b (by omega) (by decide)) ?_
  refine aw_bast (f' := bsf (uB (uB (uB B (o.1) (u / 2 ^ 24 % 256)) (o.1 + 1) (u / 2 ^ 16 % 256)) (o.1 + 1 + 1) (u / 2 ^ 8 % 256))) d_M_put_23 g4_ai (vp_in_nI (by omega) (by omega)) (by rw [nI_clamp (by omega)]; exact uB_upd _ _ _) ?_
  obtain ⟨k_5, e_k_5⟩ : ∃ z, z = av_up k_4 ai (.inl (1, 65536, .inl (bsf (uB (uB (uB B (o.1) (u / 2 ^ 24 % 256)) (o.1 + 1) (u / 2 ^ 16 % 256)) (o.1 + 1 + 1) (u / 2 ^ 8 % 256))))) := ⟨_, rfl⟩
  refine aw_heap (h' := k_5) e_k_5.symm ?_
  have g5_m : k_5 m = some (.inr (5, [.int cd, .ref ai, .int (nI (o.1 + 1 + 1)), .ref am, .int (nI ln), .ref ak, .int (nI kl), .ref as_, .ref aks, .ref ar, .ref an, .ref ab, .int (nI mn)])) := by rw [e_k_5, av_up_ne (av_apart' g4_m g4_ai)]; exact g4_m
  have g5_ai : k_5 ai = some (.inl (1, 65536, .inl (bsf (uB (uB (uB B (o.1) (u / 2 ^ 24 % 256)) (o.1 + 1) (u / 2 ^ 16 % 256)) (o.1 + 1 + 1) (u / 2 ^ 8 % 256))))) := by rw [e_k_5]; exact av_up_self _ _ _
  refine aw_aload_n d_M_put_24 rfl ?_
  refine aw_dup d_M_put_25 rfl ?_
  refine aw_get fl_M_40 d_M_put_26 g5_m rfl ?_
  refine aw_iconst (v := nI 1) d_M_put_29 (by decide) ?_
  refine aw_iadd (v := nI (o.1 + 1 + 1 + 1)) d_M_put_30 (nI_add _ _) ?_
  refine aw_put (fs' := [.int cd, .ref ai, .int (nI (o.1 + 1 + 1 + 1)), .ref am, .int (nI ln), .ref ak, .int (nI kl), .ref as_, .ref aks, .ref ar, .ref an, .ref ab, .int (nI mn)]) (pt_M_40 _) d_M_put_31 g5_m rfl rfl (by simp) rfl ?_
  obtain ⟨k_6, e_k_6⟩ : ∃ z, z = av_up k_5 m (.inr (5, [.int cd, .ref ai, .int (nI (o.1 + 1 + 1 + 1)), .ref am, .int (nI ln), .ref ak, .int (nI kl), .ref as_, .ref aks, .ref ar, .ref an, .ref ab, .int (nI mn)])) := ⟨_, rfl⟩
  refine aw_heap (h' := k_6) e_k_6.symm ?_
  have g6_ai : k_6 ai = some (.inl (1, 65536, .inl (bsf (uB (uB (uB B (o.1) (u / 2 ^ 24 % 256)) (o.1 + 1) (u / 2 ^ 16 % 256)) (o.1 + 1 + 1) (u / 2 ^ 8 % 256))))) := by rw [e_k_6, av_up_ne (av_apart g5_ai g5_m)]; exact g5_ai
  have g6_m : k_6 m = some (.inr (5, [.int cd, .ref ai, .int (nI (o.1 + 1 + 1 + 1)), .ref am, .int (nI ln), .ref ak, .int (nI kl), .ref as_, .ref aks, .ref ar, .ref an, .ref ab, .int (nI mn)])) := by rw [e_k_6]; exact av_up_self _ _ _
  refine aw_iinc (v := nI 0) (L' := [some (.ref m), some (.int (nI u)), some (.int (nI 4)), some (.int (nI 0))]) d_M_put_34 rfl (by decide) (by decide) rfl rfl ?_
  refine aw_goto (tgt := 4) d_M_put_37 (by decide) ?_
  refine aw_iload_n d_M_put_4 rfl ?_
  refine aw_if_lt (tgt := 40) d_M_put_5 (by decide) (fun z => absurd z (by decide)) (fun _ => ?_)
  refine aw_aload_n d_M_put_8 rfl ?_
  refine aw_get fl_M_8 d_M_put_9 g6_m rfl ?_
  refine aw_aload_n d_M_put_12 rfl ?_
  refine aw_get fl_M_40 d_M_put_13 g6_m rfl ?_
  refine aw_iload_n d_M_put_16 rfl ?_
  refine aw_bipush (v := nI 8) d_M_put_17 (by decide) ?_
  refine aw_iload_n d_M_put_19 rfl ?_
  refine aw_imul (v := nI 0) d_M_put_20 (by decide) ?_
  refine aw_ishr (v := nI u >>> (nI 0 &&& 31)) d_M_put_21 rfl ?_
  refine aw_i2b (v := bs (u / 2 ^ 0 % 256)) d_M_put_22 (shr_b (by omega) (by decide)) ?_
  refine aw_bast (f' := bsf (uB (uB (uB (uB B (o.1) (u / 2 ^ 24 % 256)) (o.1 + 1) (u / 2 ^ 16 % 256)) (o.1 + 1 + 1) (u / 2 ^ 8 % 256)) (o.1 + 1 + 1 + 1) (u / 2 ^ 0 % 256))) d_M_put_23 g6_ai (vp_in_nI (by omega) (by omega)) (by rw [nI_clamp (by omega)]; exact uB_upd _ _ _) ?_
  obtain ⟨k_7, e_k_7⟩ : ∃ z, z = av_up k_6 ai (.inl (1, 65536, .inl (bsf (uB (uB (uB (uB B (o.1) (u / 2 ^ 24 % 256)) (o.1 + 1) (u / 2 ^ 16 % 256)) (o.1 + 1 + 1) (u / 2 ^ 8 % 256)) (o.1 + 1 + 1 + 1) (u / 2 ^ 0 % 256))))) := ⟨_, rfl⟩
  refine aw_heap (h' := k_7) e_k_7.symm ?_
  have g7_m : k_7 m = some (.inr (5, [.int cd, .ref ai, .int (nI (o.1 + 1 + 1 + 1)), .ref am, .int (nI ln), .ref ak, .int (nI kl), .ref as_, .ref aks, .ref ar, .ref an, .ref ab, .int (nI mn)])) := by rw [e_k_7, av_up_ne (av_apart' g6_m g6_ai)]; exact g6_m
  have g7_ai : k_7 ai = some (.inl (1, 65536, .inl (bsf (uB (uB (uB (uB B (o.1) (u / 2 ^ 24 % 256)) (o.1 + 1) (u / 2 ^ 16 % 256)) (o.1 + 1 + 1) (u / 2 ^ 8 % 256)) (o.1 + 1 + 1 + 1) (u / 2 ^ 0 % 256))))) := by rw [e_k_7]; exact av_up_self _ _ _
  refine aw_aload_n d_M_put_24 rfl ?_
  refine aw_dup d_M_put_25 rfl ?_
  refine aw_get fl_M_40 d_M_put_26 g7_m rfl ?_
  refine aw_iconst (v := nI 1) d_M_put_29 (by decide) ?_
  refine aw_iadd (v := nI (o.1 + 1 + 1 + 1 + 1)) d_M_put_30 (nI_add _ _) ?_
  refine aw_put (fs' := [.int cd, .ref ai, .int (nI (o.1 + 1 + 1 + 1 + 1)), .ref am, .int (nI ln), .ref ak, .int (nI kl), .ref as_, .ref aks, .ref ar, .ref an, .ref ab, .int (nI mn)]) (pt_M_40 _) d_M_put_31 g7_m rfl rfl (by simp) rfl ?_
  obtain ⟨k_8, e_k_8⟩ : ∃ z, z = av_up k_7 m (.inr (5, [.int cd, .ref ai, .int (nI (o.1 + 1 + 1 + 1 + 1)), .ref am, .int (nI ln), .ref ak, .int (nI kl), .ref as_, .ref aks, .ref ar, .ref an, .ref ab, .int (nI mn)])) := ⟨_, rfl⟩
  refine aw_heap (h' := k_8) e_k_8.symm ?_
  have g8_ai : k_8 ai = some (.inl (1, 65536, .inl (bsf (uB (uB (uB (uB B (o.1) (u / 2 ^ 24 % 256)) (o.1 + 1) (u / 2 ^ 16 % 256)) (o.1 + 1 + 1) (u / 2 ^ 8 % 256)) (o.1 + 1 + 1 + 1) (u / 2 ^ 0 % 256))))) := by rw [e_k_8, av_up_ne (av_apart g7_ai g7_m)]; exact g7_ai
  have g8_m : k_8 m = some (.inr (5, [.int cd, .ref ai, .int (nI (o.1 + 1 + 1 + 1 + 1)), .ref am, .int (nI ln), .ref ak, .int (nI kl), .ref as_, .ref aks, .ref ar, .ref an, .ref ab, .int (nI mn)])) := by rw [e_k_8]; exact av_up_self _ _ _
  refine aw_iinc (v := (-1)) (L' := [some (.ref m), some (.int (nI u)), some (.int (nI 4)), some (.int (-1))]) d_M_put_34 rfl (by decide) (by decide) rfl rfl ?_
  refine aw_goto (tgt := 4) d_M_put_37 (by decide) ?_
  refine aw_iload_n d_M_put_4 rfl ?_
  refine aw_if_lt (tgt := 40) d_M_put_5 (by decide) (fun _ => ?_) (fun z => absurd (by decide) z)
  exact aw_vret d_M_put_40 rfl ⟨rfl, _, g8_m, g8_ai, by have q := (((hW.o1 (u / 65536 / 256)).o1 (u / 65536)).o1 (u / 256)).o1 u; rw [show u / 2 ^ 0 = u by simp, show u / 2 ^ 24 = u / 65536 / 256 by omega]; exact q, uB_lt (uB_lt (uB_lt (uB_lt (hB_) (Nat.mod_lt _ (by decide)) _) (Nat.mod_lt _ (by decide)) _) (Nat.mod_lt _ (by decide)) _) (Nat.mod_lt _ (by decide)) _, fun q a_m a_ai => by rw [e_k_8, av_up_ne a_m, e_k_7, av_up_ne a_ai, e_k_6, av_up_ne a_m, e_k_5, av_up_ne a_ai, e_k_4, av_up_ne a_m, e_k_3, av_up_ne a_ai, e_k_2, av_up_ne a_m, e_k_1, av_up_ne a_ai]⟩

set_option maxHeartbeats 4000000 in
theorem c_M_renumbered {tb : Nat → Nat} {h : AH} {m ai am ak as_ aks ar an ab cn ln kl mn : Nat} {cd : Int32} {M : Nat → Nat} {f : Nat → Int32} {N : Nat} (hm : h m = some (mO cd ai cn am ln ak kl as_ aks ar an ab mn)) (hn_ : h an = some (.inl (0, 8192, .inl f))) (hN : N ≤ 8191) (hf : ∀ j, 1 ≤ j → j ≤ N → f j = nI (nuM M j)) (u : Nat) (hu : u < 4294967296) (hv : vl N u) : AM tb y_M_renumbered b_M_renumbered 2 (some .int) 1 20 [.ref m, .int (nI u)] h 0 0 (av_Pi (nI (rn M u)) h) := by
  refine am_of (ini := false) [some (.ref m), some (.int (nI u))] (by decide) (fun z => by cases z) (Nat.le_of_ble_eq_true rfl) rfl ?_
  refine aw_iload_n d_M_renumbered_0 rfl ?_
  refine aw_callSi (mc2 := 0) (ms2 := 0) (r := bP (ob u ≠ 0)) (As := [.int (nI u)]) (rest := []) (c_M_isObject u (by omega) (vl_e hv hN)) cs_M_57 d_M_renumbered_1 rfl rfl (Nat.le_of_ble_eq_true rfl) (by decide) (by decide) (by omega) (by omega) ?_
  refine aw_if_eq (tgt := 20) d_M_renumbered_4 (by decide) (fun c_4 => ?_) (fun c_4 => ?_)
  · rw [bP_eq0] at c_4
    refine aw_iload_n d_M_renumbered_20 rfl ?_
    exact aw_iret d_M_renumbered_21 rfl rfl (rt_i (by unfold rn; first | rw [if_pos (Classical.not_not.mp c_4)] | rw [if_neg c_4]))
  · rw [bP_eq0, Classical.not_not] at c_4
    obtain ⟨e_1, e_2, e_3, e_4, e_5, e_6⟩ := ob_of hv c_4
    refine aw_iconst (v := nI 2) d_M_renumbered_7 (by decide) ?_
    refine aw_aload_n d_M_renumbered_8 rfl ?_
    refine aw_get fl_M_30 d_M_renumbered_9 hm rfl ?_
    refine aw_iload_n d_M_renumbered_12 rfl ?_
    refine aw_iconst (v := nI 2) d_M_renumbered_13 (by decide) ?_
    refine aw_idiv (v := nI (u / 2)) d_M_renumbered_14 (by decide) (pk_div (by omega) (by decide) (by decide)) ?_
    refine aw_iald (x := nI (nuM M (ob u))) d_M_renumbered_15 hn_ (vp_in_nI (by omega) (by omega)) (by rw [nI_clamp (by omega), ← e_4]; exact hf _ e_5 e_6) ?_
    refine aw_imul (v := nI (2 * (nuM M (ob u)))) d_M_renumbered_16 (pk_mul _ _) ?_
    refine aw_goto (tgt := 21) d_M_renumbered_17 (by decide) ?_
    exact aw_iret d_M_renumbered_21 rfl rfl (rt_i (by unfold rn; first | rw [if_pos (Classical.not_not.mp c_4)] | rw [if_neg c_4]))

theorem rn_lt {u n : Nat} (M : Nat → Nat) (hv : vl n u) (hn : n ≤ 8191) (hu : u < 4294967296) : rn M u < 4294967296 := by
  unfold rn
  split
  · exact hu
  · have a := ob_le hv
    have b := nuM_le M (ob u)
    omega

set_option maxHeartbeats 4000000 in
theorem lp_M_writeI {tb : Nat → Nat} {h : AH} {fr lo : Nat} {mc ms : Nat} (hfr : 2 ≤ fr) (hlo : 43 ≤ lo) {m ai am ak as_ aks ar an ab ln kl mn : Nat} {HB : Nat → Nat} {fs f : Nat → Int32} (hHB : ∀ i, HB i < 256) (D0 : mND ai am ak as_ aks ar an ab) (X : VX HB ln fs) (hf : ∀ j, 1 ≤ j → j ≤ nn HB → f j = nI (nuM (vfin HB).1 j)) (o : OS) (k : Nat) (q1 : 1 ≤ k) (q2 : k ≤ nn HB) (ho : o.1 ≤ oa HB k) (kx : ∀ (g : AH) (B : Nat → Nat), g m = some (mO (nI 0) ai ((wF HB (vfin HB).1 o k (sz HB k)).1) am ln ak kl as_ aks ar an ab mn) → g ai = some (.inl (1, 65536, .inl (bsf B))) → g am = some (.inl (1, 65536, .inl (bsf HB))) → g as_ = some (.inl (0, 8192, .inl fs)) → g an = some (.inl (0, 8192, .inl f)) → (∀ q, q ≠ m → q ≠ ai → g q = h q) → RW (wF HB (vfin HB).1 o k (sz HB k)) B → (∀ i, B i < 256) → AW tb "ImageReaderModel" b_M_write 6 (some .int) false none fr lo (fun v h' => v = some (.int (nI (wout HB).1)) ∧ ∃ B', h' m = some (mO (nI 0) ai ((wout HB).1) am ln ak kl as_ aks ar an ab mn) ∧ h' ai = some (.inl (1, 65536, .inl (bsf B'))) ∧ h' an = some (.inl (0, 8192, .inl f)) ∧ RW (wout HB) B' ∧ (∀ i, B' i < 256) ∧ (∀ q, q ≠ m → q ≠ ai → h' q = h q)) 298 [some (.ref m), none, some (.int (nI k)), none, none, none] [] g mc ms) : ∀ (d : Nat) (i : Nat) (g : AH) (B : Nat → Nat), g m = some (mO (nI 0) ai ((wF HB (vfin HB).1 o k i).1) am ln ak kl as_ aks ar an ab mn) → g ai = some (.inl (1, 65536, .inl (bsf B))) → g am = some (.inl (1, 65536, .inl (bsf HB))) → g as_ = some (.inl (0, 8192, .inl fs)) → g an = some (.inl (0, 8192, .inl f)) → (∀ q, q ≠ m → q ≠ ai → g q = h q) → RW (wF HB (vfin HB).1 o k i) B → (∀ i, B i < 256) → i ≤ sz HB k → sz HB k < i + d → AW tb "ImageReaderModel" b_M_write 6 (some .int) false none fr lo (fun v h' => v = some (.int (nI (wout HB).1)) ∧ ∃ B', h' m = some (mO (nI 0) ai ((wout HB).1) am ln ak kl as_ aks ar an ab mn) ∧ h' ai = some (.inl (1, 65536, .inl (bsf B'))) ∧ h' an = some (.inl (0, 8192, .inl f)) ∧ RW (wout HB) B' ∧ (∀ i, B' i < 256) ∧ (∀ q, q ≠ m → q ≠ ai → h' q = h q)) 225 [some (.ref m), none, some (.int (nI k)), some (.int (nI (oa HB k))), some (.int (nI (sz HB k))), some (.int (nI i))] [] g mc ms := by
  intro d
  induction d with
  | zero => intro i g B gm gi gim gs gn gf hW hB_ hi hd; omega
  | succ d ih =>
    intro i g B gm gi gim gs gn gf hW hB_ hi hd
    have hN := X.n
    have o_k := X.at k q1 q2
    have z_k := sz_lt hHB k
    have hlen := wF_1 HB (vfin HB).1 o k i
    have hlo_ := (X.1.2.2.2.2.2 k q1 q2).2.2.2.1
    have hl_2 := X.1.2.1
    refine aw_iload d_M_write_225 rfl ?_
    refine aw_iload d_M_write_227 rfl ?_
    refine aw_icmp_ge (tgt := 298) d_M_write_229 (by decide) (fun c_229 => ?_) (fun c_229 => ?_)
    · rw [nI_leI (by omega) (by omega)] at c_229
      refine aw_loc (L' := [some (.ref m), none, some (.int (nI k)), none, none, none]) (by intro i v hv; match i, hv with | 0, hv => exact hv | 1, hv => cases hv | 2, hv => exact hv | 3, hv => cases hv | 4, hv => cases hv | 5, hv => cases hv | i + 6, hv => cases hv) ?_
      have e9 : i = sz HB k := by omega
      exact kx g B (e9 ▸ gm) gi gim gs gn gf (e9 ▸ hW) hB_
    · rw [nI_leI (by omega) (by omega)] at c_229
      refine aw_aload_n d_M_write_232 rfl ?_
      refine aw_aload_n d_M_write_233 rfl ?_
      refine aw_get fl_M_14 d_M_write_234 gm rfl ?_
      refine aw_iload_n d_M_write_237 rfl ?_
      refine aw_callSi (mc2 := mc) (ms2 := ms) (r := bP (kd HB k = 1)) (As := [.ref am, .int (nI (oa HB k))]) (rest := [.ref m]) (c_M_isOfBytes hHB gim (by omega) (oa HB k) (by omega)) cs_M_50 d_M_write_238 rfl rfl (Nat.le_of_ble_eq_true rfl) (by omega) (by omega) (by omega) (by omega) ?_
      refine aw_if_eq (tgt := 259) d_M_write_241 (by decide) (fun c_241 => ?_) (fun c_241 => ?_)
      · rw [bP_eq0] at c_241
        have c_k : kd HB k ≠ 1 := c_241
        have o_f := X.fp k i q1 q2 c_241 (by omega)
        rw [if_neg c_241] at hlen
        have hbl : bl HB (oa HB k) = 4 * sz HB k := bl_0 c_241
        refine aw_aload_n d_M_write_259 rfl ?_
        refine aw_aload_n d_M_write_260 rfl ?_
        refine aw_get fl_M_14 d_M_write_261 gm rfl ?_
        refine aw_iload_n d_M_write_264 rfl ?_
        refine aw_iload d_M_write_265 rfl ?_
        refine aw_callSi (mc2 := mc) (ms2 := ms) (r := nI (fd HB k i)) (As := [.ref am, .int (nI (oa HB k)), .int (nI i)]) (rest := [.ref m, .ref m]) (c_M_fieldAt hHB gim (by omega) (oa HB k) i (by omega)) cs_M_61 d_M_write_267 rfl rfl (Nat.le_of_ble_eq_true rfl) (by omega) (by omega) (by omega) (by omega) ?_
        have b_267 := fd_lt hHB k i
        refine aw_callVi (mc2 := mc) (ms2 := ms) (r := nI (rn (vfin HB).1 (fd HB k i))) (As := [.int (nI (fd HB k i))]) (rest := [.ref m]) (c_M_renumbered (M := (vfin HB).1) gm gn X.n.2 hf (fd HB k i) (by omega) (X.fv q1 q2 c_k (by omega))) cv_M_173 d_M_write_270 gm rfl rfl rfl (Nat.le_of_ble_eq_true rfl) (by omega) (by omega) (by omega) (by omega) ?_
        have r_270 := rn_lt (vfin HB).1 (X.fv q1 q2 c_k (by omega)) X.n.2 (show fd HB k i < 4294967296 by omega)
        refine aw_aload_n d_M_write_273 rfl ?_
        refine aw_get fl_M_14 d_M_write_274 gm rfl ?_
        refine aw_iload_n d_M_write_277 rfl ?_
        refine aw_callSi (mc2 := mc) (ms2 := ms) (r := bP (kd HB k = 1)) (As := [.ref am, .int (nI (oa HB k))]) (rest := [.int (nI (rn (vfin HB).1 (fd HB k i))), .ref m]) (c_M_isOfBytes hHB gim (by omega) (oa HB k) (by omega)) cs_M_50 d_M_write_278 rfl rfl (Nat.le_of_ble_eq_true rfl) (by omega) (by omega) (by omega) (by omega) ?_
        refine aw_if_eq (tgt := 288) d_M_write_281 (by decide) (fun c_281 => ?_) (fun c_281 => absurd c_281 (by rw [bP_eq0, Classical.not_not]; exact c_241))
        try rw [bP_eq0] at c_281
        refine aw_iconst (v := nI 4) d_M_write_288 (by decide) ?_
        refine aw_callV (mc2 := mc) (ms2 := ms) (As := [.int (nI (rn (vfin HB).1 (fd HB k i))), .int (nI 4)]) (rest := []) (c_M_put4 gm gi hW hB_ (by omega) (rn (vfin HB).1 (fd HB k i)) (by omega)) cv_M_169 d_M_write_289 gm rfl rfl rfl (Nat.le_of_ble_eq_true rfl) (by omega) (by omega) (by omega) (by omega) (fun v_289 k_289c q_289 => ?_)
        obtain ⟨p1_289, B_289, p2_289, p3_289, p4_289, p5_289, p6_289⟩ := q_289
        refine aw_st (st' := []) (by rw [p1_289]; rfl) ?_
        have p_289_am : k_289c am = some (.inl (1, 65536, .inl (bsf HB))) := by rw [p6_289 _ (av_apart gim gm) (Ne.symm D0.1.1)]; exact gim
        have p_289_as_ : k_289c as_ = some (.inl (0, 8192, .inl fs)) := by rw [p6_289 _ (av_apart gs gm) (av_apT gs gi (by decide))]; exact gs
        have p_289_an : k_289c an = some (.inl (0, 8192, .inl f)) := by rw [p6_289 _ (av_apart gn gm) (av_apT gn gi (by decide))]; exact gn
        have l_289 : (o4 (wF HB (vfin HB).1 o k i) (rn (vfin HB).1 (fd HB k i))).1 = (wF HB (vfin HB).1 o k i).1 + 4 := rfl
        refine aw_iinc (v := nI (i + 1)) (L' := [some (.ref m), none, some (.int (nI k)), some (.int (nI (oa HB k))), some (.int (nI (sz HB k))), some (.int (nI (i + 1)))]) d_M_write_292 rfl (nI_add i 1) (by decide) rfl rfl ?_
        refine aw_goto (tgt := 225) d_M_write_295 (by decide) ?_
        exact ih (i + 1) _ _ (by rw [wF, if_neg c_241]; exact p2_289) p3_289 p_289_am p_289_as_ p_289_an (fun q b1 b2 => ((p6_289 q b1 b2).trans (gf q b1 b2))) (by rw [wF, if_neg c_241]; exact p4_289) p5_289 (by omega) (by omega)
      · rw [bP_eq0, Classical.not_not] at c_241
        have o_f := X.bp k i q1 q2 c_241 (by omega)
        rw [if_pos c_241] at hlen
        have hbl : bl HB (oa HB k) = sz HB k := bl_1 c_241
        refine aw_aload_n d_M_write_244 rfl ?_
        refine aw_get fl_M_14 d_M_write_245 gm rfl ?_
        refine aw_iload_n d_M_write_248 rfl ?_
        refine aw_bipush (v := nI 7) d_M_write_249 (by decide) ?_
        refine aw_iadd (v := nI (oa HB k + 7)) d_M_write_251 (nI_add _ _) ?_
        refine aw_iload d_M_write_252 rfl ?_
        refine aw_iadd (v := nI (oa HB k + 7 + i)) d_M_write_254 (nI_add _ _) ?_
        refine aw_bald (x := bs (HB (oa HB k + 7 + i))) d_M_write_255 gim (vp_in_nI (by omega) (by omega)) (by rw [nI_clamp (by omega)]; rfl) ?_
        refine aw_goto (tgt := 273) d_M_write_256 (by decide) ?_
        refine aw_aload_n d_M_write_273 rfl ?_
        refine aw_get fl_M_14 d_M_write_274 gm rfl ?_
        refine aw_iload_n d_M_write_277 rfl ?_
        refine aw_callSi (mc2 := mc) (ms2 := ms) (r := bP (kd HB k = 1)) (As := [.ref am, .int (nI (oa HB k))]) (rest := [.int (bs (HB (oa HB k + 7 + i))), .ref m]) (c_M_isOfBytes hHB gim (by omega) (oa HB k) (by omega)) cs_M_50 d_M_write_278 rfl rfl (Nat.le_of_ble_eq_true rfl) (by omega) (by omega) (by omega) (by omega) ?_
        refine aw_if_eq (tgt := 288) d_M_write_281 (by decide) (fun c_281 => absurd c_281 (by rw [bP_eq0]; exact fun z => z c_241)) (fun c_281 => ?_)
        try rw [bP_eq0, Classical.not_not] at c_281
        refine aw_iconst (v := nI 1) d_M_write_284 (by decide) ?_
        refine aw_goto (tgt := 289) d_M_write_285 (by decide) ?_
        obtain ⟨u_289, w1_289, w2_289, w3_289⟩ := bs_nat (hHB (oa HB k + 7 + i))
        refine aw_st (st' := [.int (nI 1), .int (nI u_289), .ref m]) (by rw [w2_289]) ?_
        refine aw_callV (mc2 := mc) (ms2 := ms) (As := [.int (nI u_289), .int (nI 1)]) (rest := []) (c_M_put1 gm gi hW hB_ (by omega) u_289 (by omega)) cv_M_169 d_M_write_289 gm rfl rfl rfl (Nat.le_of_ble_eq_true rfl) (by omega) (by omega) (by omega) (by omega) (fun v_289 k_289c q_289 => ?_)
        rw [(show o1 (wF HB (vfin HB).1 o k i) u_289 = o1 (wF HB (vfin HB).1 o k i) (HB (oa HB k + 7 + i)) by unfold o1; rw [w3_289, Nat.mod_eq_of_lt (hHB (oa HB k + 7 + i))])] at q_289
        obtain ⟨p1_289, B_289, p2_289, p3_289, p4_289, p5_289, p6_289⟩ := q_289
        refine aw_st (st' := []) (by rw [p1_289]; rfl) ?_
        have p_289_am : k_289c am = some (.inl (1, 65536, .inl (bsf HB))) := by rw [p6_289 _ (av_apart gim gm) (Ne.symm D0.1.1)]; exact gim
        have p_289_as_ : k_289c as_ = some (.inl (0, 8192, .inl fs)) := by rw [p6_289 _ (av_apart gs gm) (av_apT gs gi (by decide))]; exact gs
        have p_289_an : k_289c an = some (.inl (0, 8192, .inl f)) := by rw [p6_289 _ (av_apart gn gm) (av_apT gn gi (by decide))]; exact gn
        have l_289 : (o1 (wF HB (vfin HB).1 o k i) (HB (oa HB k + 7 + i))).1 = (wF HB (vfin HB).1 o k i).1 + 1 := rfl
        refine aw_iinc (v := nI (i + 1)) (L' := [some (.ref m), none, some (.int (nI k)), some (.int (nI (oa HB k))), some (.int (nI (sz HB k))), some (.int (nI (i + 1)))]) d_M_write_292 rfl (nI_add i 1) (by decide) rfl rfl ?_
        refine aw_goto (tgt := 225) d_M_write_295 (by decide) ?_
        exact ih (i + 1) _ _ (by rw [wF, if_pos c_241]; exact p2_289) p3_289 p_289_am p_289_as_ p_289_an (fun q b1 b2 => ((p6_289 q b1 b2).trans (gf q b1 b2))) (by rw [wF, if_pos c_241]; exact p4_289) p5_289 (by omega) (by omega)

set_option maxHeartbeats 4000000 in
theorem lp_M_writeO {tb : Nat → Nat} {h : AH} {fr lo : Nat} {mc ms : Nat} (hfr : 2 ≤ fr) (hlo : 43 ≤ lo) {m ai am ak as_ aks ar an ab ln kl mn : Nat} {HB : Nat → Nat} {fs f : Nat → Int32} (hHB : ∀ i, HB i < 256) (D0 : mND ai am ak as_ aks ar an ab) (X : VX HB ln fs) (hf : ∀ j, 1 ≤ j → j ≤ nn HB → f j = nI (nuM (vfin HB).1 j)) : ∀ (d : Nat) (k : Nat) (g : AH) (B : Nat → Nat), g m = some (mO (nI 0) ai ((wO HB (vfin HB).1 (k - 1)).1) am ln ak kl as_ aks ar an ab mn) → g ai = some (.inl (1, 65536, .inl (bsf B))) → g am = some (.inl (1, 65536, .inl (bsf HB))) → g as_ = some (.inl (0, 8192, .inl fs)) → g an = some (.inl (0, 8192, .inl f)) → (∀ q, q ≠ m → q ≠ ai → g q = h q) → RW (wO HB (vfin HB).1 (k - 1)) B → (∀ i, B i < 256) → 1 ≤ k → k ≤ nn HB + 1 → nn HB + 1 < k + d → AW tb "ImageReaderModel" b_M_write 6 (some .int) false none fr lo (fun v h' => v = some (.int (nI (wout HB).1)) ∧ ∃ B', h' m = some (mO (nI 0) ai ((wout HB).1) am ln ak kl as_ aks ar an ab mn) ∧ h' ai = some (.inl (1, 65536, .inl (bsf B'))) ∧ h' an = some (.inl (0, 8192, .inl f)) ∧ RW (wout HB) B' ∧ (∀ i, B' i < 256) ∧ (∀ q, q ≠ m → q ≠ ai → h' q = h q)) 145 [some (.ref m), none, some (.int (nI k)), none, none, none] [] g mc ms := by
  intro d
  induction d with
  | zero => intro k g B gm gi gim gs gn gf hW hB_ q1 hk hd; omega
  | succ d ih =>
    intro k g B gm gi gim gs gn gf hW hB_ q1 hk hd
    have hN := X.n
    have hok : (wO HB (vfin HB).1 (k - 1)).1 ≤ oa HB k := by have q := wO_le HB (vfin HB).1 (k - 1); rw [show k - 1 + 1 = k by omega] at q; exact q
    have hl_2 := X.1.2.1
    refine aw_iload_n d_M_write_145 rfl ?_
    refine aw_aload_n d_M_write_146 rfl ?_
    refine aw_get fl_M_14 d_M_write_147 gm rfl ?_
    refine aw_callSi (mc2 := mc) (ms2 := ms) (r := nI (nn HB)) (As := [.ref am]) (rest := [.int (nI k)]) (c_M_objects_aB hHB gim (by omega) (by omega)) cs_M_101 d_M_write_150 rfl rfl (Nat.le_of_ble_eq_true rfl) (by omega) (by omega) (by omega) (by omega) ?_
    have b_150 : nn HB < 65536 := bh_lt hHB 6
    refine aw_icmp_gt (tgt := 304) d_M_write_153 (by decide) (fun c_153 => ?_) (fun c_153 => ?_)
    · rw [nI_ltI (by omega) (by omega)] at c_153
      refine aw_aload_n d_M_write_304 rfl ?_
      refine aw_get fl_M_40 d_M_write_305 gm rfl ?_
      have e9 : wO HB (vfin HB).1 (k - 1) = wout HB := by unfold wout; rw [show k - 1 = nn HB by omega]
      rw [e9] at gm hW
      rw [e9]
      exact aw_iret d_M_write_308 rfl rfl ⟨rfl, B, gm, gi, gn, hW, hB_, gf⟩
    · rw [nI_ltI (by omega) (by omega)] at c_153
      have q2 : k ≤ nn HB := by omega
      have hlo_ := (X.1.2.2.2.2.2 k q1 q2).2.2.2.1
      have z_k := sz_lt hHB k
      refine aw_aload_n d_M_write_156 rfl ?_
      refine aw_get fl_M_30 d_M_write_157 gm rfl ?_
      refine aw_iload_n d_M_write_160 rfl ?_
      refine aw_iald (x := nI (nuM (vfin HB).1 k)) d_M_write_161 gn (vp_in_nI (by omega) (by omega)) (by rw [nI_clamp (by omega)]; exact hf k q1 (by omega)) ?_
      have hnk := nuM_le (vfin HB).1 k
      refine aw_if_ne (tgt := 168) d_M_write_162 (by decide) (fun c_162 => ?_) (fun c_162 => ?_)
      · rw [w_eq0 (by omega)] at c_162
        have hmk : ¬ (vfin HB).1 k = 0 := fun z => c_162 ((nuM_0 q1).mpr z)
        refine aw_aload_n d_M_write_168 rfl ?_
        refine aw_get fl_M_20 d_M_write_169 gm rfl ?_
        refine aw_iload_n d_M_write_172 rfl ?_
        refine aw_iald (x := nI (oa HB k)) d_M_write_173 gs (vp_in_nI (by omega) (by omega)) (by rw [nI_clamp (by omega)]; exact (X).2 _ (by omega) (by omega)) ?_
        have o_173 := (X).at k (by omega) (by omega)
        refine aw_istore_n (L' := [some (.ref m), none, some (.int (nI k)), some (.int (nI (oa HB k))), none, none]) d_M_write_174 (by decide) rfl rfl ?_
        refine aw_aload_n d_M_write_175 rfl ?_
        refine aw_get fl_M_14 d_M_write_176 gm rfl ?_
        refine aw_iload_n d_M_write_179 rfl ?_
        refine aw_callSi (mc2 := mc) (ms2 := ms) (r := nI (sz HB k)) (As := [.ref am, .int (nI (oa HB k))]) (rest := []) (c_M_sizeAt hHB gim (by omega) (oa HB k) (by omega)) cs_M_54 d_M_write_180 rfl rfl (Nat.le_of_ble_eq_true rfl) (by omega) (by omega) (by omega) (by omega) ?_
        have b_180 := sz_lt hHB k
        refine aw_istore (L' := [some (.ref m), none, some (.int (nI k)), some (.int (nI (oa HB k))), some (.int (nI (sz HB k))), none]) d_M_write_183 (by decide) rfl rfl ?_
        refine aw_aload_n d_M_write_185 rfl ?_
        refine aw_aload_n d_M_write_186 rfl ?_
        refine aw_aload_n d_M_write_187 rfl ?_
        refine aw_get fl_M_14 d_M_write_188 gm rfl ?_
        refine aw_iload_n d_M_write_191 rfl ?_
        refine aw_callSi (mc2 := mc) (ms2 := ms) (r := nI (cl HB k)) (As := [.ref am, .int (nI (oa HB k))]) (rest := [.ref m, .ref m]) (c_M_word hHB gim (by omega) (oa HB k) (by omega)) cs_M_47 d_M_write_192 rfl rfl (Nat.le_of_ble_eq_true rfl) (by omega) (by omega) (by omega) (by omega) ?_
        have b_192 := cl_lt hHB k
        refine aw_callVi (mc2 := mc) (ms2 := ms) (r := nI (rn (vfin HB).1 (cl HB k))) (As := [.int (nI (cl HB k))]) (rest := [.ref m]) (c_M_renumbered (M := (vfin HB).1) gm gn X.n.2 hf (cl HB k) (by omega) (X.cv q1 q2)) cv_M_173 d_M_write_195 gm rfl rfl rfl (Nat.le_of_ble_eq_true rfl) (by omega) (by omega) (by omega) (by omega) ?_
        have r_195 := rn_lt (vfin HB).1 (X.cv q1 q2) X.n.2 (show cl HB k < 4294967296 by omega)
        refine aw_iconst (v := nI 4) d_M_write_198 (by decide) ?_
        refine aw_callV (mc2 := mc) (ms2 := ms) (As := [.int (nI (rn (vfin HB).1 (cl HB k))), .int (nI 4)]) (rest := []) (c_M_put4 gm gi hW hB_ (by omega) (rn (vfin HB).1 (cl HB k)) (by omega)) cv_M_169 d_M_write_199 gm rfl rfl rfl (Nat.le_of_ble_eq_true rfl) (by omega) (by omega) (by omega) (by omega) (fun v_199 k_199c q_199 => ?_)
        obtain ⟨p1_199, B_199, p2_199, p3_199, p4_199, p5_199, p6_199⟩ := q_199
        refine aw_st (st' := []) (by rw [p1_199]; rfl) ?_
        have p_199_am : k_199c am = some (.inl (1, 65536, .inl (bsf HB))) := by rw [p6_199 _ (av_apart gim gm) (Ne.symm D0.1.1)]; exact gim
        have p_199_as_ : k_199c as_ = some (.inl (0, 8192, .inl fs)) := by rw [p6_199 _ (av_apart gs gm) (av_apT gs gi (by decide))]; exact gs
        have p_199_an : k_199c an = some (.inl (0, 8192, .inl f)) := by rw [p6_199 _ (av_apart gn gm) (av_apT gn gi (by decide))]; exact gn
        have l_199 : (o4 (wO HB (vfin HB).1 (k - 1)) (rn (vfin HB).1 (cl HB k))).1 = (wO HB (vfin HB).1 (k - 1)).1 + 4 := rfl
        refine aw_aload_n d_M_write_202 rfl ?_
        refine aw_aload_n d_M_write_203 rfl ?_
        refine aw_get fl_M_14 d_M_write_204 p2_199 rfl ?_
        refine aw_iload_n d_M_write_207 rfl ?_
        refine aw_iconst (v := nI 4) d_M_write_208 (by decide) ?_
        refine aw_iadd (v := nI (oa HB k + 4)) d_M_write_209 (nI_add _ _) ?_
        refine aw_bald (x := bs (HB (oa HB k + 4))) d_M_write_210 p_199_am (vp_in_nI (by omega) (by omega)) (by rw [nI_clamp (by omega)]; rfl) ?_
        refine aw_iconst (v := nI 1) d_M_write_211 (by decide) ?_
        obtain ⟨u_212, w1_212, w2_212, w3_212⟩ := bs_nat (hHB (oa HB k + 4))
        refine aw_st (st' := [.int (nI 1), .int (nI u_212), .ref m]) (by rw [w2_212]) ?_
        refine aw_callV (mc2 := mc) (ms2 := ms) (As := [.int (nI u_212), .int (nI 1)]) (rest := []) (c_M_put1 p2_199 p3_199 p4_199 p5_199 (by omega) u_212 (by omega)) cv_M_169 d_M_write_212 p2_199 rfl rfl rfl (Nat.le_of_ble_eq_true rfl) (by omega) (by omega) (by omega) (by omega) (fun v_212 k_212c q_212 => ?_)
        rw [(show o1 (o4 (wO HB (vfin HB).1 (k - 1)) (rn (vfin HB).1 (cl HB k))) u_212 = o1 (o4 (wO HB (vfin HB).1 (k - 1)) (rn (vfin HB).1 (cl HB k))) (HB (oa HB k + 4)) by unfold o1; rw [w3_212, Nat.mod_eq_of_lt (hHB (oa HB k + 4))])] at q_212
        obtain ⟨p1_212, B_212, p2_212, p3_212, p4_212, p5_212, p6_212⟩ := q_212
        refine aw_st (st' := []) (by rw [p1_212]; rfl) ?_
        have p_212_am : k_212c am = some (.inl (1, 65536, .inl (bsf HB))) := by rw [p6_212 _ (av_apart p_199_am p2_199) (Ne.symm D0.1.1)]; exact p_199_am
        have p_212_as_ : k_212c as_ = some (.inl (0, 8192, .inl fs)) := by rw [p6_212 _ (av_apart p_199_as_ p2_199) (av_apT p_199_as_ p3_199 (by decide))]; exact p_199_as_
        have p_212_an : k_212c an = some (.inl (0, 8192, .inl f)) := by rw [p6_212 _ (av_apart p_199_an p2_199) (av_apT p_199_an p3_199 (by decide))]; exact p_199_an
        have l_212 : (o1 (o4 (wO HB (vfin HB).1 (k - 1)) (rn (vfin HB).1 (cl HB k))) (HB (oa HB k + 4))).1 = (o4 (wO HB (vfin HB).1 (k - 1)) (rn (vfin HB).1 (cl HB k))).1 + 1 := rfl
        refine aw_aload_n d_M_write_215 rfl ?_
        refine aw_iload d_M_write_216 rfl ?_
        refine aw_iconst (v := nI 2) d_M_write_218 (by decide) ?_
        refine aw_callV (mc2 := mc) (ms2 := ms) (As := [.int (nI (sz HB k)), .int (nI 2)]) (rest := []) (c_M_put2 p2_212 p3_212 p4_212 p5_212 (by omega) (sz HB k) (by omega)) cv_M_169 d_M_write_219 p2_212 rfl rfl rfl (Nat.le_of_ble_eq_true rfl) (by omega) (by omega) (by omega) (by omega) (fun v_219 k_219c q_219 => ?_)
        obtain ⟨p1_219, B_219, p2_219, p3_219, p4_219, p5_219, p6_219⟩ := q_219
        refine aw_st (st' := []) (by rw [p1_219]; rfl) ?_
        have p_219_am : k_219c am = some (.inl (1, 65536, .inl (bsf HB))) := by rw [p6_219 _ (av_apart p_212_am p2_212) (Ne.symm D0.1.1)]; exact p_212_am
        have p_219_as_ : k_219c as_ = some (.inl (0, 8192, .inl fs)) := by rw [p6_219 _ (av_apart p_212_as_ p2_212) (av_apT p_212_as_ p3_212 (by decide))]; exact p_212_as_
        have p_219_an : k_219c an = some (.inl (0, 8192, .inl f)) := by rw [p6_219 _ (av_apart p_212_an p2_212) (av_apT p_212_an p3_212 (by decide))]; exact p_212_an
        have l_219 : (o2 (o1 (o4 (wO HB (vfin HB).1 (k - 1)) (rn (vfin HB).1 (cl HB k))) (HB (oa HB k + 4))) (sz HB k)).1 = (o1 (o4 (wO HB (vfin HB).1 (k - 1)) (rn (vfin HB).1 (cl HB k))) (HB (oa HB k + 4))).1 + 2 := rfl
        refine aw_iconst (v := nI 0) d_M_write_222 (by decide) ?_
        refine aw_istore (L' := [some (.ref m), none, some (.int (nI k)), some (.int (nI (oa HB k))), some (.int (nI (sz HB k))), some (.int (nI 0))]) d_M_write_223 (by decide) rfl rfl ?_
        refine lp_M_writeI (by omega) (by omega) hHB D0 X hf (wO HB (vfin HB).1 (k - 1)) k q1 q2 hok (fun g2 B2 a1 a2 a3 a4 a5 a6 a7 a8 => ?_) (sz HB k + 1) 0 _ _ p2_219 p3_219 p_219_am p_219_as_ p_219_an (fun q b1 b2 => ((p6_219 q b1 b2).trans ((p6_212 q b1 b2).trans ((p6_199 q b1 b2).trans (gf q b1 b2))))) p4_219 p5_219 (Nat.zero_le _) (by omega)
        refine aw_iinc (v := nI (k + 1)) (L' := [some (.ref m), none, some (.int (nI (k + 1))), none, none, none]) d_M_write_298 rfl (nI_add k 1) (by decide) rfl rfl ?_
        refine aw_goto (tgt := 145) d_M_write_301 (by decide) ?_
        have eo : wO HB (vfin HB).1 (k + 1 - 1) = wF HB (vfin HB).1 (wO HB (vfin HB).1 (k - 1)) k (sz HB k) := by obtain ⟨j, rfl⟩ : ∃ q, k = q + 1 := ⟨k - 1, by omega⟩; show wO HB (vfin HB).1 (j + 1) = _; rw [wO, if_neg hmk]; rfl
        exact ih (k + 1) g2 B2 (by rw [eo]; exact a1) a2 a3 a4 a5 a6 (by rw [eo]; exact a7) a8 (by omega) (by omega) (by omega)
      · rw [w_eq0 (by omega)] at c_162
        have hmk := (nuM_0 q1).mp c_162
        refine aw_goto (tgt := 298) d_M_write_165 (by decide) ?_
        refine aw_iinc (v := nI (k + 1)) (L' := [some (.ref m), none, some (.int (nI (k + 1))), none, none, none]) d_M_write_298 rfl (nI_add k 1) (by decide) rfl rfl ?_
        refine aw_goto (tgt := 145) d_M_write_301 (by decide) ?_
        have eo : wO HB (vfin HB).1 (k + 1 - 1) = wO HB (vfin HB).1 (k - 1) := by obtain ⟨j, rfl⟩ : ∃ q, k = q + 1 := ⟨k - 1, by omega⟩; show wO HB (vfin HB).1 (j + 1) = _; rw [wO, if_pos hmk]; rfl
        exact ih (k + 1) g B (by rw [eo]; exact gm) gi gim gs gn gf (by rw [eo]; exact hW) hB_ (by omega) (by omega) (by omega)

set_option maxHeartbeats 4000000 in
theorem lp_M_writeS {tb : Nat → Nat} {h : AH} {fr lo : Nat} {mc ms : Nat} (hfr : 2 ≤ fr) (hlo : 43 ≤ lo) {m ai am ak as_ aks ar an ab ln kl mn : Nat} {HB : Nat → Nat} {fs f : Nat → Int32} (hHB : ∀ i, HB i < 256) (D0 : mND ai am ak as_ aks ar an ab) (X : VX HB ln fs) (hf : ∀ j, 1 ≤ j → j ≤ nn HB → f j = nI (nuM (vfin HB).1 j)) : ∀ (d : Nat) (k : Nat) (g : AH) (B : Nat → Nat), g m = some (mO (nI 0) ai ((wS HB (vfin HB).1 k).1) am ln ak kl as_ aks ar an ab mn) → g ai = some (.inl (1, 65536, .inl (bsf B))) → g am = some (.inl (1, 65536, .inl (bsf HB))) → g as_ = some (.inl (0, 8192, .inl fs)) → g an = some (.inl (0, 8192, .inl f)) → (∀ q, q ≠ m → q ≠ ai → g q = h q) → RW (wS HB (vfin HB).1 k) B → (∀ i, B i < 256) → k ≤ 50 → 50 < k + d → AW tb "ImageReaderModel" b_M_write 6 (some .int) false none fr lo (fun v h' => v = some (.int (nI (wout HB).1)) ∧ ∃ B', h' m = some (mO (nI 0) ai ((wout HB).1) am ln ak kl as_ aks ar an ab mn) ∧ h' ai = some (.inl (1, 65536, .inl (bsf B'))) ∧ h' an = some (.inl (0, 8192, .inl f)) ∧ RW (wout HB) B' ∧ (∀ i, B' i < 256) ∧ (∀ q, q ≠ m → q ≠ ai → h' q = h q)) 114 [some (.ref m), none, some (.int (nI k)), none, none, none] [] g mc ms := by
  intro d
  induction d with
  | zero => intro k g B gm gi gim gs gn gf hW hB_ hk hd; omega
  | succ d ih =>
    intro k g B gm gi gim gs gn gf hW hB_ hk hd
    have hN := X.n
    have hlen := wS_1 HB (vfin HB).1 k
    have hl_2 := X.1.2.1
    refine aw_iload_n d_M_write_114 rfl ?_
    refine aw_bipush (v := nI 50) d_M_write_115 (by decide) ?_
    refine aw_icmp_ge (tgt := 143) d_M_write_117 (by decide) (fun c_117 => ?_) (fun c_117 => ?_)
    · rw [nI_leI (by omega) (by omega)] at c_117
      refine aw_iconst (v := nI 1) d_M_write_143 (by decide) ?_
      refine aw_istore_n (L' := [some (.ref m), none, some (.int (nI 1)), none, none, none]) d_M_write_144 (by decide) rfl rfl ?_
      have e9 : wS HB (vfin HB).1 k = wO HB (vfin HB).1 (1 - 1) := by rw [show k = 50 by omega]; rfl
      rw [e9] at gm hW
      exact lp_M_writeO (by omega) (by omega) hHB D0 X hf (nn HB + 1) 1 g B gm gi gim gs gn gf hW hB_ (by omega) (by omega) (by omega)
    · rw [nI_leI (by omega) (by omega)] at c_117
      refine aw_aload_n d_M_write_120 rfl ?_
      refine aw_aload_n d_M_write_121 rfl ?_
      refine aw_aload_n d_M_write_122 rfl ?_
      refine aw_get fl_M_14 d_M_write_123 gm rfl ?_
      refine aw_iload_n d_M_write_126 rfl ?_
      refine aw_callSi (mc2 := mc) (ms2 := ms) (r := nI (sp HB k)) (As := [.ref am, .int (nI k)]) (rest := [.ref m, .ref m]) (c_M_special_aBI hHB gim (by omega) k (by omega)) cs_M_65 d_M_write_127 rfl rfl (Nat.le_of_ble_eq_true rfl) (by omega) (by omega) (by omega) (by omega) ?_
      have b_127 : sp HB k < 4294967296 := bw_lt hHB _
      refine aw_callVi (mc2 := mc) (ms2 := ms) (r := nI (rn (vfin HB).1 (sp HB k))) (As := [.int (nI (sp HB k))]) (rest := [.ref m]) (c_M_renumbered (M := (vfin HB).1) gm gn X.n.2 hf (sp HB k) (by omega) (X.sv (by omega))) cv_M_173 d_M_write_130 gm rfl rfl rfl (Nat.le_of_ble_eq_true rfl) (by omega) (by omega) (by omega) (by omega) ?_
      have r_130 := rn_lt (vfin HB).1 (X.sv (by omega)) X.n.2 (show sp HB k < 4294967296 by omega)
      refine aw_iconst (v := nI 4) d_M_write_133 (by decide) ?_
      refine aw_callV (mc2 := mc) (ms2 := ms) (As := [.int (nI (rn (vfin HB).1 (sp HB k))), .int (nI 4)]) (rest := []) (c_M_put4 gm gi hW hB_ (by omega) (rn (vfin HB).1 (sp HB k)) (by omega)) cv_M_169 d_M_write_134 gm rfl rfl rfl (Nat.le_of_ble_eq_true rfl) (by omega) (by omega) (by omega) (by omega) (fun v_134 k_134c q_134 => ?_)
      obtain ⟨p1_134, B_134, p2_134, p3_134, p4_134, p5_134, p6_134⟩ := q_134
      refine aw_st (st' := []) (by rw [p1_134]; rfl) ?_
      have p_134_am : k_134c am = some (.inl (1, 65536, .inl (bsf HB))) := by rw [p6_134 _ (av_apart gim gm) (Ne.symm D0.1.1)]; exact gim
      have p_134_as_ : k_134c as_ = some (.inl (0, 8192, .inl fs)) := by rw [p6_134 _ (av_apart gs gm) (av_apT gs gi (by decide))]; exact gs
      have p_134_an : k_134c an = some (.inl (0, 8192, .inl f)) := by rw [p6_134 _ (av_apart gn gm) (av_apT gn gi (by decide))]; exact gn
      have l_134 : (o4 (wS HB (vfin HB).1 k) (rn (vfin HB).1 (sp HB k))).1 = (wS HB (vfin HB).1 k).1 + 4 := rfl
      refine aw_iinc (v := nI (k + 1)) (L' := [some (.ref m), none, some (.int (nI (k + 1))), none, none, none]) d_M_write_137 rfl (nI_add k 1) (by decide) rfl rfl ?_
      refine aw_goto (tgt := 114) d_M_write_140 (by decide) ?_
      exact ih (k + 1) _ _ p2_134 p3_134 p_134_am p_134_as_ p_134_an (fun q b1 b2 => ((p6_134 q b1 b2).trans (gf q b1 b2))) p4_134 p5_134 (by omega) (by omega)

set_option maxHeartbeats 4000000 in
theorem lp_M_writeH {tb : Nat → Nat} {h : AH} {fr lo : Nat} {mc ms : Nat} (hfr : 2 ≤ fr) (hlo : 43 ≤ lo) {m ai am ak as_ aks ar an ab ln kl mn : Nat} {HB : Nat → Nat} {fs f : Nat → Int32} (hHB : ∀ i, HB i < 256) (D0 : mND ai am ak as_ aks ar an ab) (X : VX HB ln fs) (hf : ∀ j, 1 ≤ j → j ≤ nn HB → f j = nI (nuM (vfin HB).1 j)) : ∀ (d : Nat) (k : Nat) (g : AH) (B : Nat → Nat), g m = some (mO (nI 0) ai ((wH HB k).1) am ln ak kl as_ aks ar an ab mn) → g ai = some (.inl (1, 65536, .inl (bsf B))) → g am = some (.inl (1, 65536, .inl (bsf HB))) → g as_ = some (.inl (0, 8192, .inl fs)) → g an = some (.inl (0, 8192, .inl f)) → (∀ q, q ≠ m → q ≠ ai → g q = h q) → RW (wH HB k) B → (∀ i, B i < 256) → k ≤ 6 → 6 < k + d → AW tb "ImageReaderModel" b_M_write 6 (some .int) false none fr lo (fun v h' => v = some (.int (nI (wout HB).1)) ∧ ∃ B', h' m = some (mO (nI 0) ai ((wout HB).1) am ln ak kl as_ aks ar an ab mn) ∧ h' ai = some (.inl (1, 65536, .inl (bsf B'))) ∧ h' an = some (.inl (0, 8192, .inl f)) ∧ RW (wout HB) B' ∧ (∀ i, B' i < 256) ∧ (∀ q, q ≠ m → q ≠ ai → h' q = h q)) 83 [some (.ref m), some (.int (nI (cntM (vfin HB).1 (nn HB)))), some (.int (nI k)), none, none, none] [] g mc ms := by
  intro d
  induction d with
  | zero => intro k g B gm gi gim gs gn gf hW hB_ hk hd; omega
  | succ d ih =>
    intro k g B gm gi gim gs gn gf hW hB_ hk hd
    have hN := X.n
    have hlen := wH_1 HB k
    have hl_2 := X.1.2.1
    have hcn := cntM_le (vfin HB).1 (nn HB)
    refine aw_iload_n d_M_write_83 rfl ?_
    refine aw_bipush (v := nI 6) d_M_write_84 (by decide) ?_
    refine aw_icmp_ge (tgt := 106) d_M_write_86 (by decide) (fun c_86 => ?_) (fun c_86 => ?_)
    · rw [nI_leI (by omega) (by omega)] at c_86
      have e6 : k = 6 := by omega
      refine aw_aload_n d_M_write_106 rfl ?_
      refine aw_iload_n d_M_write_107 rfl ?_
      refine aw_iconst (v := nI 2) d_M_write_108 (by decide) ?_
      refine aw_callV (mc2 := mc) (ms2 := ms) (As := [.int (nI (cntM (vfin HB).1 (nn HB))), .int (nI 2)]) (rest := []) (c_M_put2 gm gi hW hB_ (by omega) (cntM (vfin HB).1 (nn HB)) (by omega)) cv_M_169 d_M_write_109 gm rfl rfl rfl (Nat.le_of_ble_eq_true rfl) (by omega) (by omega) (by omega) (by omega) (fun v_109 k_109c q_109 => ?_)
      obtain ⟨p1_109, B_109, p2_109, p3_109, p4_109, p5_109, p6_109⟩ := q_109
      refine aw_st (st' := []) (by rw [p1_109]; rfl) ?_
      have p_109_am : k_109c am = some (.inl (1, 65536, .inl (bsf HB))) := by rw [p6_109 _ (av_apart gim gm) (Ne.symm D0.1.1)]; exact gim
      have p_109_as_ : k_109c as_ = some (.inl (0, 8192, .inl fs)) := by rw [p6_109 _ (av_apart gs gm) (av_apT gs gi (by decide))]; exact gs
      have p_109_an : k_109c an = some (.inl (0, 8192, .inl f)) := by rw [p6_109 _ (av_apart gn gm) (av_apT gn gi (by decide))]; exact gn
      have l_109 : (o2 (wH HB k) (cntM (vfin HB).1 (nn HB))).1 = (wH HB k).1 + 2 := rfl
      refine aw_iconst (v := nI 0) d_M_write_112 (by decide) ?_
      refine aw_istore_n (L' := [some (.ref m), some (.int (nI (cntM (vfin HB).1 (nn HB)))), some (.int (nI 0)), none, none, none]) d_M_write_113 (by decide) rfl rfl ?_
      refine aw_loc (L' := [some (.ref m), none, some (.int (nI 0)), none, none, none]) (by intro i v hv; match i, hv with | 0, hv => exact hv | 1, hv => cases hv | 2, hv => exact hv | 3, hv => cases hv | 4, hv => cases hv | 5, hv => cases hv | i + 6, hv => cases hv) ?_
      subst e6
      exact lp_M_writeS (by omega) (by omega) hHB D0 X hf 51 0 _ _ p2_109 p3_109 p_109_am p_109_as_ p_109_an (fun q b1 b2 => ((p6_109 q b1 b2).trans (gf q b1 b2))) p4_109 p5_109 (by omega) (by omega)
    · rw [nI_leI (by omega) (by omega)] at c_86
      refine aw_aload_n d_M_write_89 rfl ?_
      refine aw_aload_n d_M_write_90 rfl ?_
      refine aw_get fl_M_14 d_M_write_91 gm rfl ?_
      refine aw_iload_n d_M_write_94 rfl ?_
      refine aw_bald (x := bs (HB k)) d_M_write_95 gim (vp_in_nI (by omega) (by omega)) (by rw [nI_clamp (by omega)]; rfl) ?_
      refine aw_iconst (v := nI 1) d_M_write_96 (by decide) ?_
      obtain ⟨u_97, w1_97, w2_97, w3_97⟩ := bs_nat (hHB k)
      refine aw_st (st' := [.int (nI 1), .int (nI u_97), .ref m]) (by rw [w2_97]) ?_
      refine aw_callV (mc2 := mc) (ms2 := ms) (As := [.int (nI u_97), .int (nI 1)]) (rest := []) (c_M_put1 gm gi hW hB_ (by omega) u_97 (by omega)) cv_M_169 d_M_write_97 gm rfl rfl rfl (Nat.le_of_ble_eq_true rfl) (by omega) (by omega) (by omega) (by omega) (fun v_97 k_97c q_97 => ?_)
      rw [(show o1 (wH HB k) u_97 = o1 (wH HB k) (HB k) by unfold o1; rw [w3_97, Nat.mod_eq_of_lt (hHB k)])] at q_97
      obtain ⟨p1_97, B_97, p2_97, p3_97, p4_97, p5_97, p6_97⟩ := q_97
      refine aw_st (st' := []) (by rw [p1_97]; rfl) ?_
      have p_97_am : k_97c am = some (.inl (1, 65536, .inl (bsf HB))) := by rw [p6_97 _ (av_apart gim gm) (Ne.symm D0.1.1)]; exact gim
      have p_97_as_ : k_97c as_ = some (.inl (0, 8192, .inl fs)) := by rw [p6_97 _ (av_apart gs gm) (av_apT gs gi (by decide))]; exact gs
      have p_97_an : k_97c an = some (.inl (0, 8192, .inl f)) := by rw [p6_97 _ (av_apart gn gm) (av_apT gn gi (by decide))]; exact gn
      have l_97 : (o1 (wH HB k) (HB k)).1 = (wH HB k).1 + 1 := rfl
      refine aw_iinc (v := nI (k + 1)) (L' := [some (.ref m), some (.int (nI (cntM (vfin HB).1 (nn HB)))), some (.int (nI (k + 1))), none, none, none]) d_M_write_100 rfl (nI_add k 1) (by decide) rfl rfl ?_
      refine aw_goto (tgt := 83) d_M_write_103 (by decide) ?_
      exact ih (k + 1) _ _ p2_97 p3_97 p_97_am p_97_as_ p_97_an (fun q b1 b2 => ((p6_97 q b1 b2).trans (gf q b1 b2))) p4_97 p5_97 (by omega) (by omega)

set_option maxHeartbeats 4000000 in
theorem lp_M_writeN {tb : Nat → Nat} {fr lo : Nat} {mc ms : Nat} (hfr : 2 ≤ fr) (hlo : 41 ≤ lo) {m ai am ak as_ aks ar an ab cn ln kl mn : Nat} {HB : Nat → Nat} {fs f0 : Nat → Int32} {g0 : AH} {Post : Option Value → AH → Prop} (hHB : ∀ i, HB i < 256) (D0 : mND ai am ak as_ aks ar an ab) (X : VX HB ln fs) (hm : g0 m = some (mO (nI 0) ai cn am ln ak kl as_ aks ar an ab mn)) (him : g0 am = some (.inl (1, 65536, .inl (bsf HB)))) (hn_ : g0 an = some (.inl (0, 8192, .inl f0))) (kx : ∀ f : Nat → Int32, (∀ j, 1 ≤ j → j ≤ nn HB → f j = nI (nuM (vfin HB).1 j)) → AW tb "ImageReaderModel" b_M_write 6 (some .int) false none fr lo Post 76 [some (.ref m), some (.int (nI (cntM (vfin HB).1 (nn HB)))), none, none, none, none] [] (av_up g0 an (.inl (0, 8192, .inl f))) mc ms) : ∀ (d : Nat) (k : Nat) (f : Nat → Int32), 1 ≤ k → k ≤ nn HB + 1 → (∀ j, j < 8192 → f j = nI (if j < k then nuM (vfin HB).1 j else (vfin HB).1 j)) → nn HB + 1 < k + d → AW tb "ImageReaderModel" b_M_write 6 (some .int) false none fr lo (Post) 22 [some (.ref m), some (.int (nI (cntM (vfin HB).1 (k - 1)))), some (.int (nI k)), none, none, none] [] (av_up g0 an (.inl (0, 8192, .inl f))) mc ms := by
  intro d
  induction d with
  | zero => intro k f hk1 hk hz hd; omega
  | succ d ih =>
    intro k f hk1 hk hz hd
    have hN := X.n
    have hg := vst_good X.1 (nn HB)
    have hm1 : (av_up g0 an (.inl (0, 8192, .inl f))) m = some (mO (nI 0) ai cn am ln ak kl as_ aks ar an ab mn) := by rw [av_up_ne (av_apart' hm hn_)]; exact hm
    have hi1 : (av_up g0 an (.inl (0, 8192, .inl f))) am = some (.inl (1, 65536, .inl (bsf HB))) := by rw [av_up_ne (av_apT him hn_ (by decide))]; exact him
    have hn1 : (av_up g0 an (.inl (0, 8192, .inl f))) an = some (.inl (0, 8192, .inl f)) := av_up_self _ _ _
    have hck := cntM_le (vfin HB).1 (k - 1)
    have hm1_ : (vfin HB).1 k ≤ 1 := hg.2.1 k
    refine aw_iload_n d_M_write_22 rfl ?_
    refine aw_aload_n d_M_write_23 rfl ?_
    refine aw_get fl_M_14 d_M_write_24 hm1 rfl ?_
    refine aw_callSi (mc2 := mc) (ms2 := ms) (r := nI (nn HB)) (As := [.ref am]) (rest := [.int (nI k)]) (c_M_objects_aB hHB hi1 (by omega) (by omega)) cs_M_101 d_M_write_27 rfl rfl (Nat.le_of_ble_eq_true rfl) (by omega) (by omega) (by omega) (by omega) ?_
    have b_27 : nn HB < 65536 := bh_lt hHB 6
    refine aw_icmp_gt (tgt := 76) d_M_write_30 (by decide) (fun c_30 => ?_) (fun c_30 => ?_)
    · rw [nI_ltI (by omega) (by omega)] at c_30
      refine aw_loc (L' := [some (.ref m), some (.int (nI (cntM (vfin HB).1 (nn HB)))), none, none, none, none]) (by intro i v hv; match i, hv with | 0, hv => exact hv | 1, hv => (rw [show k - 1 = nn HB by omega]; exact hv) | 2, hv => cases hv | 3, hv => cases hv | 4, hv => cases hv | 5, hv => cases hv | i + 6, hv => cases hv) ?_
      exact kx f (fun j h1 h2 => by rw [hz j (by omega), if_pos (by omega)])
    · rw [nI_ltI (by omega) (by omega)] at c_30
      have eM : cntM (vfin HB).1 k = cntM (vfin HB).1 (k - 1) + (if (vfin HB).1 k = 0 then 0 else 1) := by obtain ⟨j, rfl⟩ : ∃ q, k = q + 1 := ⟨k - 1, by omega⟩; rfl
      refine aw_aload_n d_M_write_33 rfl ?_
      refine aw_get fl_M_30 d_M_write_34 hm1 rfl ?_
      refine aw_iload_n d_M_write_37 rfl ?_
      refine aw_iald (x := nI ((vfin HB).1 k)) d_M_write_38 hn1 (vp_in_nI (by omega) (by omega)) (by rw [nI_clamp (by omega), hz k (by omega), if_neg (by omega)]) ?_
      refine aw_if_le (tgt := 48) d_M_write_39 (by decide) (fun c_39 => ?_) (fun c_39 => ?_)
      · rw [z_le (by omega)] at c_39
        rw [if_pos c_39] at eM
        refine aw_iload_n d_M_write_48 rfl ?_
        refine aw_istore_n (L' := [some (.ref m), some (.int (nI (cntM (vfin HB).1 (k - 1)))), some (.int (nI k)), none, none, none]) d_M_write_49 (by decide) rfl rfl ?_
        refine aw_aload_n d_M_write_50 rfl ?_
        refine aw_get fl_M_30 d_M_write_51 hm1 rfl ?_
        refine aw_iload_n d_M_write_54 rfl ?_
        refine aw_aload_n d_M_write_55 rfl ?_
        refine aw_get fl_M_30 d_M_write_56 hm1 rfl ?_
        refine aw_iload_n d_M_write_59 rfl ?_
        refine aw_iald (x := nI ((vfin HB).1 k)) d_M_write_60 hn1 (vp_in_nI (by omega) (by omega)) (by rw [nI_clamp (by omega), hz k (by omega), if_neg (by omega)]) ?_
        refine aw_if_le (tgt := 68) d_M_write_61 (by decide) (fun c_61 => ?_) (fun c_61 => absurd c_61 (by rw [z_le (by omega)]; omega))
        try rw [z_le (by omega)] at c_61
        refine aw_iconst (v := nI 0) d_M_write_68 (by decide) ?_
        refine aw_iast (f' := upd f k (nI 0)) d_M_write_69 hn1 (vp_in_nI (by omega) (by omega)) (by rw [nI_clamp (by omega)]) ?_
        obtain ⟨k_1, e_k_1⟩ : ∃ z, z = av_up (av_up g0 an (.inl (0, 8192, .inl f))) an (.inl (0, 8192, .inl (upd f k (nI 0)))) := ⟨_, rfl⟩
        refine aw_heap (h' := k_1) e_k_1.symm ?_
        have g1_m : k_1 m = some (.inr (5, [.int (nI 0), .ref ai, .int (nI cn), .ref am, .int (nI ln), .ref ak, .int (nI kl), .ref as_, .ref aks, .ref ar, .ref an, .ref ab, .int (nI mn)])) := by rw [e_k_1, av_up_ne (av_apart' hm hn_)]; exact hm1
        have g1_am : k_1 am = some (.inl (1, 65536, .inl (bsf HB))) := by rw [e_k_1, av_up_ne (av_apT him hn_ (by decide))]; exact hi1
        have g1_an : k_1 an = some (.inl (0, 8192, .inl (upd f k (nI 0)))) := by rw [e_k_1]; exact av_up_self _ _ _
        refine aw_iinc (v := nI (k + 1)) (L' := [some (.ref m), some (.int (nI (cntM (vfin HB).1 (k - 1)))), some (.int (nI (k + 1))), none, none, none]) d_M_write_70 rfl (nI_add k 1) (by decide) rfl rfl ?_
        refine aw_goto (tgt := 22) d_M_write_73 (by decide) ?_
        refine aw_heap (h' := (av_up g0 an (.inl (0, 8192, .inl (upd f k (nI 0)))))) (by rw [e_k_1, av_up_up]) ?_
        refine aw_loc (L' := [some (.ref m), some (.int (nI (cntM (vfin HB).1 (k + 1 - 1)))), some (.int (nI (k + 1))), none, none, none]) (by intro i v hv; match i, hv with | 0, hv => exact hv | 1, hv => (rw [show k + 1 - 1 = k by omega, eM] at hv; exact hv) | 2, hv => exact hv | 3, hv => cases hv | 4, hv => cases hv | 5, hv => cases hv | i + 6, hv => cases hv) ?_
        exact ih (k + 1) _ (by omega) (by omega) (fun j h => by
        unfold upd
        by_cases z : j = k
        · rw [if_pos z, if_pos (by omega), z]; unfold nuM; first | rw [if_pos c_39] | (rw [if_neg (by omega), eM])
        · rw [if_neg z, hz j h]; by_cases z2 : j < k
          · rw [if_pos z2, if_pos (by omega)]
          · rw [if_neg z2, if_neg (by omega)]) (by omega)
      · rw [z_le (by omega)] at c_39
        rw [if_neg (by omega)] at eM
        refine aw_iload_n d_M_write_42 rfl ?_
        refine aw_iconst (v := nI 1) d_M_write_43 (by decide) ?_
        refine aw_iadd (v := nI (cntM (vfin HB).1 (k - 1) + 1)) d_M_write_44 (nI_add _ _) ?_
        refine aw_goto (tgt := 49) d_M_write_45 (by decide) ?_
        refine aw_istore_n (L' := [some (.ref m), some (.int (nI (cntM (vfin HB).1 (k - 1) + 1))), some (.int (nI k)), none, none, none]) d_M_write_49 (by decide) rfl rfl ?_
        refine aw_aload_n d_M_write_50 rfl ?_
        refine aw_get fl_M_30 d_M_write_51 hm1 rfl ?_
        refine aw_iload_n d_M_write_54 rfl ?_
        refine aw_aload_n d_M_write_55 rfl ?_
        refine aw_get fl_M_30 d_M_write_56 hm1 rfl ?_
        refine aw_iload_n d_M_write_59 rfl ?_
        refine aw_iald (x := nI ((vfin HB).1 k)) d_M_write_60 hn1 (vp_in_nI (by omega) (by omega)) (by rw [nI_clamp (by omega), hz k (by omega), if_neg (by omega)]) ?_
        refine aw_if_le (tgt := 68) d_M_write_61 (by decide) (fun c_61 => absurd c_61 (by rw [z_le (by omega)]; omega)) (fun c_61 => ?_)
        try rw [z_le (by omega)] at c_61
        refine aw_iload_n d_M_write_64 rfl ?_
        refine aw_goto (tgt := 69) d_M_write_65 (by decide) ?_
        refine aw_iast (f' := upd f k (nI (cntM (vfin HB).1 (k - 1) + 1))) d_M_write_69 hn1 (vp_in_nI (by omega) (by omega)) (by rw [nI_clamp (by omega)]) ?_
        obtain ⟨k_2, e_k_2⟩ : ∃ z, z = av_up (av_up g0 an (.inl (0, 8192, .inl f))) an (.inl (0, 8192, .inl (upd f k (nI (cntM (vfin HB).1 (k - 1) + 1))))) := ⟨_, rfl⟩
        refine aw_heap (h' := k_2) e_k_2.symm ?_
        have g2_m : k_2 m = some (.inr (5, [.int (nI 0), .ref ai, .int (nI cn), .ref am, .int (nI ln), .ref ak, .int (nI kl), .ref as_, .ref aks, .ref ar, .ref an, .ref ab, .int (nI mn)])) := by rw [e_k_2, av_up_ne (av_apart' hm hn_)]; exact hm1
        have g2_am : k_2 am = some (.inl (1, 65536, .inl (bsf HB))) := by rw [e_k_2, av_up_ne (av_apT him hn_ (by decide))]; exact hi1
        have g2_an : k_2 an = some (.inl (0, 8192, .inl (upd f k (nI (cntM (vfin HB).1 (k - 1) + 1))))) := by rw [e_k_2]; exact av_up_self _ _ _
        refine aw_iinc (v := nI (k + 1)) (L' := [some (.ref m), some (.int (nI (cntM (vfin HB).1 (k - 1) + 1))), some (.int (nI (k + 1))), none, none, none]) d_M_write_70 rfl (nI_add k 1) (by decide) rfl rfl ?_
        refine aw_goto (tgt := 22) d_M_write_73 (by decide) ?_
        refine aw_heap (h' := (av_up g0 an (.inl (0, 8192, .inl (upd f k (nI (cntM (vfin HB).1 (k - 1) + 1))))))) (by rw [e_k_2, av_up_up]) ?_
        refine aw_loc (L' := [some (.ref m), some (.int (nI (cntM (vfin HB).1 (k + 1 - 1)))), some (.int (nI (k + 1))), none, none, none]) (by intro i v hv; match i, hv with | 0, hv => exact hv | 1, hv => (rw [show k + 1 - 1 = k by omega, eM] at hv; exact hv) | 2, hv => exact hv | 3, hv => cases hv | 4, hv => cases hv | 5, hv => cases hv | i + 6, hv => cases hv) ?_
        exact ih (k + 1) _ (by omega) (by omega) (fun j h => by
        unfold upd
        by_cases z : j = k
        · rw [if_pos z, if_pos (by omega), z]; unfold nuM; first | rw [if_pos c_39] | (rw [if_neg (by omega), eM])
        · rw [if_neg z, hz j h]; by_cases z2 : j < k
          · rw [if_pos z2, if_pos (by omega)]
          · rw [if_neg z2, if_neg (by omega)]) (by omega)
