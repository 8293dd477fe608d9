/-! ===== both together: the reader, the reference, the law's own array ===== -/
def AMX (tb : Nat → Nat) (y : MethodName) (cc : ByteArray) (nL : Nat) (ret : Option FieldType) (fr lo : Nat) (av : List Value) (h : AH) (mc ms : Nat) (Q : Option Value → AH → Prop) : Prop :=
  ∃ (fr' lo' mc' ms' : Nat) (P : Option Value → AH → Prop), fr' ≤ fr ∧ lo' ≤ lo ∧ mc' ≤ mc ∧ ms' ≤ ms ∧ AM tb y cc nL ret fr' lo' av h mc' ms' P ∧ ∀ v h', P v h' → Q v h'
def MOD (h : AH) (m : Nat) (L : List Nat) (cd : Int32) (cn ln kl : Nat) (B HB KB : Nat → Nat) : Prop := ∃ ai am ak as_ aks ar an ab mn fs fks fq fn fb, L = [m, ai, am, ak, as_, aks, ar, an, ab] ∧ mS h m ai am ak as_ aks ar an ab cd cn ln kl mn B HB KB fs fks fq fn fb ∧ mOK cn ln kl B HB KB fs ∧ mND ai am ak as_ aks ar an ab
theorem mS.lo {h h' : AH} {m ai am ak as_ aks ar an ab cn ln kl mn : Nat} {cd : Int32} {B HB KB : Nat → Nat} {fs fks fq fn fb : Nat → Int32} (M : mS h m ai am ak as_ aks ar an ab cd cn ln kl mn B HB KB fs fks fq fn fb) (e : ∀ x ∈ [m, ai, am, ak, as_, aks, ar, an, ab], h' x = h x) : mS h' m ai am ak as_ aks ar an ab cd cn ln kl mn B HB KB fs fks fq fn fb := by
  obtain ⟨q0, q1, q2, q3, q4, q5, q6, q7, q8⟩ := M
  exact ⟨eqS e (by simp) q0, eqS e (by simp) q1, eqS e (by simp) q2, eqS e (by simp) q3, eqS e (by simp) q4, eqS e (by simp) q5, eqS e (by simp) q6, eqS e (by simp) q7, eqS e (by simp) q8⟩
theorem mS.ex {h : AH} {m ai am ak as_ aks ar an ab cn ln kl mn : Nat} {cd : Int32} {B HB KB : Nat → Nat} {fs fks fq fn fb : Nat → Int32} (M : mS h m ai am ak as_ aks ar an ab cd cn ln kl mn B HB KB fs fks fq fn fb) : LV h [m, ai, am, ak, as_, aks, ar, an, ab] := by
  obtain ⟨q0, q1, q2, q3, q4, q5, q6, q7, q8⟩ := M
  intro x hx
  simp only [List.mem_cons, List.not_mem_nil, or_false] at hx
  rcases hx with z | z | z | z | z | z | z | z | z <;> subst z
  · rw [q0]; exact Option.some_ne_none _
  · rw [q1]; exact Option.some_ne_none _
  · rw [q2]; exact Option.some_ne_none _
  · rw [q3]; exact Option.some_ne_none _
  · rw [q4]; exact Option.some_ne_none _
  · rw [q5]; exact Option.some_ne_none _
  · rw [q6]; exact Option.some_ne_none _
  · rw [q7]; exact Option.some_ne_none _
  · rw [q8]; exact Option.some_ne_none _
theorem MOD.lo {h h' : AH} {m : Nat} {L : List Nat} {cd : Int32} {cn ln kl : Nat} {B HB KB : Nat → Nat} (M : MOD h m L cd cn ln kl B HB KB) (e : ∀ x ∈ L, h' x = h x) : MOD h' m L cd cn ln kl B HB KB := by
  obtain ⟨ai, am, ak, as_, aks, ar, an, ab, mn, fs, fks, fq, fn, fb, rfl, M, q⟩ := M
  exact ⟨ai, am, ak, as_, aks, ar, an, ab, mn, fs, fks, fq, fn, fb, rfl, M.lo e, q⟩
theorem MOD.ex {h : AH} {m : Nat} {L : List Nat} {cd : Int32} {cn ln kl : Nat} {B HB KB : Nat → Nat} (M : MOD h m L cd cn ln kl B HB KB) : LV h L := by
  obtain ⟨ai, am, ak, as_, aks, ar, an, ab, mn, fs, fks, fq, fn, fb, rfl, M, q⟩ := M
  exact M.ex
/-- the law's array of one long -/
def oU (h : AH) (ou : Nat) (x : Int64) : Prop := ∃ f : Nat → Int64, h ou = some (.inl (2, 1, .inr (.inl f))) ∧ f 0 = x
def WLD (h : AH) (r m ou K cap wl pl c : Nat) (B HC KC : Nat → Nat) (cn ln kl : Nat) (cd : Int32) (B2 HB KB : Nat → Nat) (x0 : Int64) : Prop :=
  ∃ F L, CLS h r F K cap wl pl c B HC KC ∧ MOD h m L cd cn ln kl B2 HB KB ∧ (∀ x ∈ F, x ∉ L) ∧ ou ∉ F ∧ ou ∉ L ∧ oU h ou x0
section
variable {h h' : AH} {r m ou K cap wl pl c : Nat} {B HC KC : Nat → Nat} {cn ln kl : Nat} {cd : Int32} {B2 HB KB : Nat → Nat} {x0 : Int64}
theorem WLD.cls {F L F' : List Nat} {cap' wl' pl' c' : Nat} {B' HC' KC' : Nat → Nat} (hM : MOD h m L cd cn ln kl B2 HB KB) (hd : ∀ x ∈ F, x ∉ L) (h1 : ou ∉ F) (h2 : ou ∉ L) (h3 : oU h ou x0) (hC : CLS h' r F' K cap' wl' pl' c' B' HC' KC') (T : frm F F' h h') : WLD h' r m ou K cap' wl' pl' c' B' HC' KC' cn ln kl cd B2 HB KB x0 := by
  obtain ⟨f, hf, h0⟩ := h3
  refine ⟨F', L, hC, hM.lo (fun x hx => T.1 x (fun z => hd x z hx) (hM.ex x hx)), dj_fr T hd hM.ex, fun z => ?_, h2, f, T.at h1 hf, h0⟩
  rcases T.2.2 ou z with y | y
  · exact h1 y
  · rw [hf] at y; cases y
theorem WLD.mod {F L : List Nat} {cn' ln' kl' : Nat} {cd' : Int32} {B2' HB' KB' : Nat → Nat} (hC : CLS h r F K cap wl pl c B HC KC) (hd : ∀ x ∈ F, x ∉ L) (h1 : ou ∉ F) (h2 : ou ∉ L) (h3 : oU h ou x0) (hM : MOD h' m L cd' cn' ln' kl' B2' HB' KB') (e : ∀ q, q ∉ L → h' q = h q) : WLD h' r m ou K cap wl pl c B HC KC cn' ln' kl' cd' B2' HB' KB' x0 := by
  obtain ⟨f, hf, h0⟩ := h3
  exact ⟨F, L, hC.lo (fun x hx => e x (hd x hx)), hM, hd, h1, h2, f, (e ou h2).trans hf, h0⟩
theorem WLD.rdr (W : WLD h r m ou K cap wl pl c B HC KC cn ln kl cd B2 HB KB x0) : ∃ fs, h r = some (.inr (0, fs)) := by
  obtain ⟨F, L, ⟨Z, X, b, w, p, jh, jk, P, hF, C⟩, q⟩ := W
  exact ⟨_, C.rd⟩
theorem WLD.mdr (W : WLD h r m ou K cap wl pl c B HC KC cn ln kl cd B2 HB KB x0) : ∃ fs, h m = some (.inr (5, fs)) := by
  obtain ⟨F, L, C, ⟨ai, am, ak, as_, aks, ar, an, ab, mn, fs, fks, fq, fn, fb, e, M, q⟩, _⟩ := W
  exact ⟨_, M.1⟩
theorem WLD.ok (W : WLD h r m ou K cap wl pl c B HC KC cn ln kl cd B2 HB KB x0) : (∀ i, B2 i < 256) ∧ (∀ i, HB i < 256) ∧ (∀ i, KB i < 256) ∧ cn ≤ 65536 ∧ (0 < ln → laid HB ln (nn HB)) ∧ (0 < kl → laid KB kl (nn KB)) := by
  obtain ⟨F, L, C, ⟨ai, am, ak, as_, aks, ar, an, ab, mn, fs, fks, fq, fn, fb, e, M, K0, q⟩, _⟩ := W
  exact ⟨K0.1, K0.2.1, K0.2.2.1, K0.2.2.2.1, fun z => (K0.2.2.2.2.2.2.1 z).1, K0.2.2.2.2.2.2.2⟩
theorem WLD.out (W : WLD h r m ou K cap wl pl c B HC KC cn ln kl cd B2 HB KB x0) {f : Nat → Int64} (hh : h' = av_up h ou (.inl (2, 1, .inr (.inl f)))) : WLD h' r m ou K cap wl pl c B HC KC cn ln kl cd B2 HB KB (f 0) := by
  obtain ⟨F, L, C, hM, hd, h1, h2, h3⟩ := W
  have e : ∀ x, x ≠ ou → h' x = h x := fun x hx => by rw [hh, av_up_ne hx]
  exact ⟨F, L, C.lo (fun x hx => e x (fun z => h1 (z ▸ hx))), hM.lo (fun x hx => e x (fun z => h2 (z ▸ hx))), hd, h1, h2, f, by rw [hh]; exact av_up_self _ _ _, rfl⟩
theorem WLD.outr (W : WLD h r m ou K cap wl pl c B HC KC cn ln kl cd B2 HB KB x0) : oU h ou x0 := by
  obtain ⟨F, L, C, hM, hd, h1, h2, h3⟩ := W
  exact h3
/-- what the reader holds of the bytes -/
theorem WLD.byt (W : WLD h r m ou K cap wl pl c B HC KC cn ln kl cd B2 HB KB x0) : ∃ b ro fs, h r = some (.inr (0, .ref b :: fs)) ∧ h b = some (.inr (1, [.ref ro, .int (nI c)])) := by
  obtain ⟨F, L, ⟨Z, X, b, w, p, jh, jk, P, hF, C⟩, q⟩ := W
  obtain ⟨ro, G, eZ, y1, _⟩ := C.by_
  exact ⟨b, ro, _, C.rd, y1⟩
theorem WLD.c0 (W : WLD h r m ou K cap wl pl c B HC KC cn ln kl cd B2 HB KB x0) : 0 < cap := by
  obtain ⟨F, L, ⟨Z, X, b, w, p, jh, jk, P, hF, C⟩, q⟩ := W
  exact CG.c0 C
theorem WLD.agr {B' : Nat → Nat} (W : WLD h r m ou K cap wl pl c B HC KC cn ln kl cd B2 HB KB x0) (e : ∀ i, i < c → B i = B' i) : WLD h r m ou K cap wl pl c B' HC KC cn ln kl cd B2 HB KB x0 := by
  obtain ⟨F, L, C, q⟩ := W
  exact ⟨F, L, C.agr e, q⟩
end
theorem N_3 {b ro r im a0 a1 a2 a3 a4 a5 w nu qu : Nat} (h1 : ∀ x ∈ [b, ro], x ∉ [r]) (h2 : ∀ x ∈ [b, ro], x ∉ [im, a0, a1, a2, a3, a4, a5]) (h3 : ∀ x ∈ [b, ro], x ∉ [w, nu, qu]) : ∀ x ∈ [b, ro], x ∉ [r, im, a0, a1, a2, a3, a4, a5, w, nu, qu] := fun x hx hy => by
  have hy' : x ∈ [r] ++ ([im, a0, a1, a2, a3, a4, a5] ++ [w, nu, qu]) := hy
  rcases List.mem_append.mp hy' with z | z
  · exact h1 x hx z
  · rcases List.mem_append.mp z with z | z
    · exact h2 x hx z
    · exact h3 x hx z
theorem i32 (k : Int32) : k < 0 ∨ ∃ n, n < 2147483648 ∧ k = nI n := by
  by_cases z : k < 0
  · exact Or.inl z
  · refine Or.inr ⟨k.toNatClampNeg, ?_, ?_⟩
    · have := Int32.toInt_lt k
      unfold Int32.toNatClampNeg
      omega
    · apply Int32.toInt_inj.1
      rw [Int32.lt_iff_toInt_lt, Int32.toInt_zero] at z
      have h2 := Int32.toInt_lt k
      unfold nI
      rw [Int32.toInt_ofNat_of_lt (by unfold Int32.toNatClampNeg; omega)]
      unfold Int32.toNatClampNeg
      omega
/-! ===== answers ===== -/
def xSpec (C : Nat → Nat) (k : Int32) : Int32 := if k < 0 then nI 0 else nI (if 49 < k.toNatClampNeg then 0 else sp C k.toNatClampNeg)
def xKind (C : Nat → Nat) (k : Int32) : Int32 := if k < 0 then -1 else rK C k.toNatClampNeg
def xCls (C : Nat → Nat) (k : Int32) : Int32 := if k < 0 then nI 0 else nI (CA C k.toNatClampNeg)
def xSize (C : Nat → Nat) (k : Int32) : Int32 := if k < 0 then -1 else rZ C k.toNatClampNeg
def xFld (C : Nat → Nat) (k i : Int32) : Int32 := if k < 0 then nI 0 else if i < 0 then nI 0 else nI (FA C k.toNatClampNeg i.toNatClampNeg)
def xByt (C : Nat → Nat) (k i : Int32) : Int32 := if k < 0 then -1 else if i < 0 then -1 else BA C k.toNatClampNeg i.toNatClampNeg
def xCame (B : Nat → Nat) (c : Nat) (k : Int32) : Int32 := if k < 0 then -1 else if k.toNatClampNeg < c then nI (B k.toNatClampNeg) else -1
def xOk (c : Nat) (k j : Int32) : Prop := ¬ k < 0 ∧ k.toNatClampNeg < c ∧ ¬ j < 0 ∧ j.toNatClampNeg ≤ 255
noncomputable def xCh (B : Nat → Nat) (c : Nat) (k j : Int32) : Nat → Nat := @ite (Nat → Nat) (xOk c k j) (Classical.propDecidable _) (uB B k.toNatClampNeg j.toNatClampNeg) B
noncomputable def xChv (B : Nat → Nat) (c : Nat) (k j : Int32) : Int32 := @ite Int32 (xOk c k j) (Classical.propDecidable _) (nI (B k.toNatClampNeg)) (-1)

set_option maxHeartbeats 4000000 in
theorem x_objects {tb : Nat → Nat} {h : AH} {r m ou K cap wl pl c : Nat} {B HC KC : Nat → Nat} {cn ln kl : Nat} {cd : Int32} {B2 HB KB : Nat → Nat} {x0 : Int64} (W : WLD h r m ou K cap wl pl c B HC KC cn ln kl cd B2 HB KB x0) (hHC : ∀ i, HC i < 256) (hK : K ≤ 200000) : AMX tb y_R_objects b_R_objects 1 (some .int) 9 330 [.ref r] h 0 0 (fun v h' => v = some (.int (nI (nn HC))) ∧ WLD h' r m ou K cap wl pl c B HC KC cn ln kl cd B2 HB KB x0) := by
  obtain ⟨F, L, C0_, hM, hd, o1_, o2_, o3_⟩ := W
  obtain ⟨Z, X, b, w, p, jh, jk, P, hF, C⟩ := C0_
  obtain ⟨a0, a1, a2, a3, a4, a5, cc, pc, us, f0, f1, f2, f3, f4, f5, e, M, D, q64, q256, qc, qp, V, L_⟩ := C.ha
  exact ⟨_, _, _, _, _, (by decide), (by decide), Nat.le_refl _, Nat.le_refl _, c_R_objects M V L_ hHC (by omega) (by omega) C.rd, fun v h' q => ⟨q.1, by rw [q.2]; exact ⟨F, L, ⟨Z, X, b, w, p, jh, jk, P, hF, C⟩, hM, hd, o1_, o2_, o3_⟩⟩⟩

set_option maxHeartbeats 4000000 in
theorem x_words {tb : Nat → Nat} {h : AH} {r m ou K cap wl pl c : Nat} {B HC KC : Nat → Nat} {cn ln kl : Nat} {cd : Int32} {B2 HB KB : Nat → Nat} {x0 : Int64} (W : WLD h r m ou K cap wl pl c B HC KC cn ln kl cd B2 HB KB x0) (hHC : ∀ i, HC i < 256) (hK : K ≤ 200000) : AMX tb y_R_words b_R_words 1 (some .int) 9 330 [.ref r] h 0 0 (fun v h' => v = some (.int (nI (wds HC (nn HC)))) ∧ WLD h' r m ou K cap wl pl c B HC KC cn ln kl cd B2 HB KB x0) := by
  obtain ⟨F, L, C0_, hM, hd, o1_, o2_, o3_⟩ := W
  obtain ⟨Z, X, b, w, p, jh, jk, P, hF, C⟩ := C0_
  obtain ⟨a0, a1, a2, a3, a4, a5, cc, pc, us, f0, f1, f2, f3, f4, f5, e, M, D, q64, q256, qc, qp, V, L_⟩ := C.ha
  exact ⟨_, _, _, _, _, (by decide), (by decide), Nat.le_refl _, Nat.le_refl _, c_R_words M V L_ hHC (by omega) (by omega) C.rd, fun v h' q => ⟨q.1, by rw [q.2]; exact ⟨F, L, ⟨Z, X, b, w, p, jh, jk, P, hF, C⟩, hM, hd, o1_, o2_, o3_⟩⟩⟩

set_option maxHeartbeats 4000000 in
theorem x_special {tb : Nat → Nat} {h : AH} {r m ou K cap wl pl c : Nat} {B HC KC : Nat → Nat} {cn ln kl : Nat} {cd : Int32} {B2 HB KB : Nat → Nat} {x0 : Int64} (W : WLD h r m ou K cap wl pl c B HC KC cn ln kl cd B2 HB KB x0) (hHC : ∀ i, HC i < 256) (hK : K ≤ 200000) (k : Int32) : AMX tb y_R_special b_R_special 2 (some .int) 9 330 [.ref r, .int k] h 0 0 (fun v h' => v = some (.int (xSpec HC k)) ∧ WLD h' r m ou K cap wl pl c B HC KC cn ln kl cd B2 HB KB x0) := by
  obtain ⟨F, L, C0_, hM, hd, o1_, o2_, o3_⟩ := W
  obtain ⟨Z, X, b, w, p, jh, jk, P, hF, C⟩ := C0_
  obtain ⟨a0, a1, a2, a3, a4, a5, cc, pc, us, f0, f1, f2, f3, f4, f5, e, M, D, q64, q256, qc, qp, V, L_⟩ := C.ha
  rcases i32 k with hk | ⟨n, hn, rfl⟩
  · exact ⟨_, _, _, _, _, (by decide), (by decide), Nat.le_refl _, Nat.le_refl _, c_R_special_neg M V L_ hHC (by omega) (by omega) C.rd k hk, fun v h' q => ⟨by rw [q.1, xSpec, if_pos hk], by rw [q.2]; exact ⟨F, L, ⟨Z, X, b, w, p, jh, jk, P, hF, C⟩, hM, hd, o1_, o2_, o3_⟩⟩⟩
  · exact ⟨_, _, _, _, _, (by decide), (by decide), Nat.le_refl _, Nat.le_refl _, c_R_special M V L_ hHC (by omega) (by omega) C.rd n hn, fun v h' q => ⟨by rw [q.1, xSpec, if_neg (nI_pos hn), nI_clamp hn], by rw [q.2]; exact ⟨F, L, ⟨Z, X, b, w, p, jh, jk, P, hF, C⟩, hM, hd, o1_, o2_, o3_⟩⟩⟩

set_option maxHeartbeats 4000000 in
theorem x_kind {tb : Nat → Nat} {h : AH} {r m ou K cap wl pl c : Nat} {B HC KC : Nat → Nat} {cn ln kl : Nat} {cd : Int32} {B2 HB KB : Nat → Nat} {x0 : Int64} (W : WLD h r m ou K cap wl pl c B HC KC cn ln kl cd B2 HB KB x0) (hHC : ∀ i, HC i < 256) (hK : K ≤ 200000) (k : Int32) : AMX tb y_R_kind b_R_kind 2 (some .int) 9 330 [.ref r, .int k] h 0 0 (fun v h' => v = some (.int (xKind HC k)) ∧ WLD h' r m ou K cap wl pl c B HC KC cn ln kl cd B2 HB KB x0) := by
  obtain ⟨F, L, C0_, hM, hd, o1_, o2_, o3_⟩ := W
  obtain ⟨Z, X, b, w, p, jh, jk, P, hF, C⟩ := C0_
  obtain ⟨a0, a1, a2, a3, a4, a5, cc, pc, us, f0, f1, f2, f3, f4, f5, e, M, D, q64, q256, qc, qp, V, L_⟩ := C.ha
  rcases i32 k with hk | ⟨n, hn, rfl⟩
  · exact ⟨_, _, _, _, _, (by decide), (by decide), Nat.le_refl _, Nat.le_refl _, c_R_kind_neg M V L_ hHC (by omega) (by omega) C.rd k hk, fun v h' q => ⟨by rw [q.1, xKind, if_pos hk], by rw [q.2]; exact ⟨F, L, ⟨Z, X, b, w, p, jh, jk, P, hF, C⟩, hM, hd, o1_, o2_, o3_⟩⟩⟩
  · exact ⟨_, _, _, _, _, (by decide), (by decide), Nat.le_refl _, Nat.le_refl _, c_R_kind M V L_ hHC (by omega) (by omega) C.rd n hn, fun v h' q => ⟨by rw [q.1, xKind, if_neg (nI_pos hn), nI_clamp hn], by rw [q.2]; exact ⟨F, L, ⟨Z, X, b, w, p, jh, jk, P, hF, C⟩, hM, hd, o1_, o2_, o3_⟩⟩⟩

set_option maxHeartbeats 4000000 in
theorem x_classOf {tb : Nat → Nat} {h : AH} {r m ou K cap wl pl c : Nat} {B HC KC : Nat → Nat} {cn ln kl : Nat} {cd : Int32} {B2 HB KB : Nat → Nat} {x0 : Int64} (W : WLD h r m ou K cap wl pl c B HC KC cn ln kl cd B2 HB KB x0) (hHC : ∀ i, HC i < 256) (hK : K ≤ 200000) (k : Int32) : AMX tb y_R_classOf b_R_classOf 2 (some .int) 9 330 [.ref r, .int k] h 0 0 (fun v h' => v = some (.int (xCls HC k)) ∧ WLD h' r m ou K cap wl pl c B HC KC cn ln kl cd B2 HB KB x0) := by
  obtain ⟨F, L, C0_, hM, hd, o1_, o2_, o3_⟩ := W
  obtain ⟨Z, X, b, w, p, jh, jk, P, hF, C⟩ := C0_
  obtain ⟨a0, a1, a2, a3, a4, a5, cc, pc, us, f0, f1, f2, f3, f4, f5, e, M, D, q64, q256, qc, qp, V, L_⟩ := C.ha
  rcases i32 k with hk | ⟨n, hn, rfl⟩
  · exact ⟨_, _, _, _, _, (by decide), (by decide), Nat.le_refl _, Nat.le_refl _, c_R_classOf_neg M V L_ hHC (by omega) (by omega) C.rd k hk, fun v h' q => ⟨by rw [q.1, xCls, if_pos hk], by rw [q.2]; exact ⟨F, L, ⟨Z, X, b, w, p, jh, jk, P, hF, C⟩, hM, hd, o1_, o2_, o3_⟩⟩⟩
  · exact ⟨_, _, _, _, _, (by decide), (by decide), Nat.le_refl _, Nat.le_refl _, c_R_classOf M V L_ hHC (by omega) (by omega) C.rd n hn, fun v h' q => ⟨by rw [q.1, xCls, if_neg (nI_pos hn), nI_clamp hn], by rw [q.2]; exact ⟨F, L, ⟨Z, X, b, w, p, jh, jk, P, hF, C⟩, hM, hd, o1_, o2_, o3_⟩⟩⟩

set_option maxHeartbeats 4000000 in
theorem x_size {tb : Nat → Nat} {h : AH} {r m ou K cap wl pl c : Nat} {B HC KC : Nat → Nat} {cn ln kl : Nat} {cd : Int32} {B2 HB KB : Nat → Nat} {x0 : Int64} (W : WLD h r m ou K cap wl pl c B HC KC cn ln kl cd B2 HB KB x0) (hHC : ∀ i, HC i < 256) (hK : K ≤ 200000) (k : Int32) : AMX tb y_R_size b_R_size 2 (some .int) 9 330 [.ref r, .int k] h 0 0 (fun v h' => v = some (.int (xSize HC k)) ∧ WLD h' r m ou K cap wl pl c B HC KC cn ln kl cd B2 HB KB x0) := by
  obtain ⟨F, L, C0_, hM, hd, o1_, o2_, o3_⟩ := W
  obtain ⟨Z, X, b, w, p, jh, jk, P, hF, C⟩ := C0_
  obtain ⟨a0, a1, a2, a3, a4, a5, cc, pc, us, f0, f1, f2, f3, f4, f5, e, M, D, q64, q256, qc, qp, V, L_⟩ := C.ha
  rcases i32 k with hk | ⟨n, hn, rfl⟩
  · exact ⟨_, _, _, _, _, (by decide), (by decide), Nat.le_refl _, Nat.le_refl _, c_R_size_neg M V L_ hHC (by omega) (by omega) C.rd k hk, fun v h' q => ⟨by rw [q.1, xSize, if_pos hk], by rw [q.2]; exact ⟨F, L, ⟨Z, X, b, w, p, jh, jk, P, hF, C⟩, hM, hd, o1_, o2_, o3_⟩⟩⟩
  · exact ⟨_, _, _, _, _, (by decide), (by decide), Nat.le_refl _, Nat.le_refl _, c_R_size M V L_ hHC (by omega) (by omega) C.rd n hn, fun v h' q => ⟨by rw [q.1, xSize, if_neg (nI_pos hn), nI_clamp hn], by rw [q.2]; exact ⟨F, L, ⟨Z, X, b, w, p, jh, jk, P, hF, C⟩, hM, hd, o1_, o2_, o3_⟩⟩⟩

set_option maxHeartbeats 4000000 in
theorem x_field {tb : Nat → Nat} {h : AH} {r m ou K cap wl pl c : Nat} {B HC KC : Nat → Nat} {cn ln kl : Nat} {cd : Int32} {B2 HB KB : Nat → Nat} {x0 : Int64} (W : WLD h r m ou K cap wl pl c B HC KC cn ln kl cd B2 HB KB x0) (hHC : ∀ i, HC i < 256) (hK : K ≤ 200000) (k i : Int32) : AMX tb y_R_field b_R_field 3 (some .int) 9 330 [.ref r, .int k, .int i] h 0 0 (fun v h' => v = some (.int (xFld HC k i)) ∧ WLD h' r m ou K cap wl pl c B HC KC cn ln kl cd B2 HB KB x0) := by
  obtain ⟨F, L, C0_, hM, hd, o1_, o2_, o3_⟩ := W
  obtain ⟨Z, X, b, w, p, jh, jk, P, hF, C⟩ := C0_
  obtain ⟨a0, a1, a2, a3, a4, a5, cc, pc, us, f0, f1, f2, f3, f4, f5, e, M, D, q64, q256, qc, qp, V, L_⟩ := C.ha
  rcases i32 k with hk | ⟨n, hn, rfl⟩
  · exact ⟨_, _, _, _, _, (by decide), (by decide), Nat.le_refl _, Nat.le_refl _, c_R_field_neg M V L_ hHC (by omega) (by omega) C.rd k hk i, fun v h' q => ⟨by rw [q.1, xFld, if_pos hk], by rw [q.2]; exact ⟨F, L, ⟨Z, X, b, w, p, jh, jk, P, hF, C⟩, hM, hd, o1_, o2_, o3_⟩⟩⟩
  · rcases i32 i with hi | ⟨j, hj, rfl⟩
    · exact ⟨_, _, _, _, _, (by decide), (by decide), Nat.le_refl _, Nat.le_refl _, c_R_field_ineg M V L_ hHC (by omega) (by omega) C.rd n hn i hi, fun v h' q => ⟨by rw [q.1, xFld, if_neg (nI_pos hn), if_pos hi], by rw [q.2]; exact ⟨F, L, ⟨Z, X, b, w, p, jh, jk, P, hF, C⟩, hM, hd, o1_, o2_, o3_⟩⟩⟩
    · exact ⟨_, _, _, _, _, (by decide), (by decide), Nat.le_refl _, Nat.le_refl _, c_R_field M V L_ hHC (by omega) (by omega) C.rd n hn j hj, fun v h' q => ⟨by rw [q.1, xFld, if_neg (nI_pos hn), if_neg (nI_pos hj), nI_clamp hn, nI_clamp hj], by rw [q.2]; exact ⟨F, L, ⟨Z, X, b, w, p, jh, jk, P, hF, C⟩, hM, hd, o1_, o2_, o3_⟩⟩⟩

set_option maxHeartbeats 4000000 in
theorem x_byteAt {tb : Nat → Nat} {h : AH} {r m ou K cap wl pl c : Nat} {B HC KC : Nat → Nat} {cn ln kl : Nat} {cd : Int32} {B2 HB KB : Nat → Nat} {x0 : Int64} (W : WLD h r m ou K cap wl pl c B HC KC cn ln kl cd B2 HB KB x0) (hHC : ∀ i, HC i < 256) (hK : K ≤ 200000) (k i : Int32) : AMX tb y_R_byteAt b_R_byteAt 3 (some .int) 9 330 [.ref r, .int k, .int i] h 0 0 (fun v h' => v = some (.int (xByt HC k i)) ∧ WLD h' r m ou K cap wl pl c B HC KC cn ln kl cd B2 HB KB x0) := by
  obtain ⟨F, L, C0_, hM, hd, o1_, o2_, o3_⟩ := W
  obtain ⟨Z, X, b, w, p, jh, jk, P, hF, C⟩ := C0_
  obtain ⟨a0, a1, a2, a3, a4, a5, cc, pc, us, f0, f1, f2, f3, f4, f5, e, M, D, q64, q256, qc, qp, V, L_⟩ := C.ha
  rcases i32 k with hk | ⟨n, hn, rfl⟩
  · exact ⟨_, _, _, _, _, (by decide), (by decide), Nat.le_refl _, Nat.le_refl _, c_R_byteAt_neg M V L_ hHC (by omega) (by omega) C.rd k hk i, fun v h' q => ⟨by rw [q.1, xByt, if_pos hk], by rw [q.2]; exact ⟨F, L, ⟨Z, X, b, w, p, jh, jk, P, hF, C⟩, hM, hd, o1_, o2_, o3_⟩⟩⟩
  · rcases i32 i with hi | ⟨j, hj, rfl⟩
    · exact ⟨_, _, _, _, _, (by decide), (by decide), Nat.le_refl _, Nat.le_refl _, c_R_byteAt_ineg M V L_ hHC (by omega) (by omega) C.rd n hn i hi, fun v h' q => ⟨by rw [q.1, xByt, if_neg (nI_pos hn), if_pos hi], by rw [q.2]; exact ⟨F, L, ⟨Z, X, b, w, p, jh, jk, P, hF, C⟩, hM, hd, o1_, o2_, o3_⟩⟩⟩
    · exact ⟨_, _, _, _, _, (by decide), (by decide), Nat.le_refl _, Nat.le_refl _, c_R_byteAt M V L_ hHC (by omega) (by omega) C.rd n hn j hj, fun v h' q => ⟨by rw [q.1, xByt, if_neg (nI_pos hn), if_neg (nI_pos hj), nI_clamp hn, nI_clamp hj], by rw [q.2]; exact ⟨F, L, ⟨Z, X, b, w, p, jh, jk, P, hF, C⟩, hM, hd, o1_, o2_, o3_⟩⟩⟩

set_option maxHeartbeats 4000000 in
theorem x_came {tb : Nat → Nat} {h : AH} {r m ou K cap wl pl c : Nat} {B HC KC : Nat → Nat} {cn ln kl : Nat} {cd : Int32} {B2 HB KB : Nat → Nat} {x0 : Int64} (W : WLD h r m ou K cap wl pl c B HC KC cn ln kl cd B2 HB KB x0) (hB : ∀ i, B i < 256) (hcap : cap ≤ 200000) (k : Int32) : AMX tb y_R_came b_R_came 2 (some .int) 9 330 [.ref r, .int k] h 0 0 (fun v h' => v = some (.int (xCame B c k)) ∧ WLD h' r m ou K cap wl pl c B HC KC cn ln kl cd B2 HB KB x0) := by
  obtain ⟨F, L, C0_, hM, hd, o1_, o2_, o3_⟩ := W
  obtain ⟨Z, X, b, w, p, jh, jk, P, hF, C⟩ := C0_
  obtain ⟨ro, G, eZ, y1, y2, y3, y4⟩ := C.by_
  rcases i32 k with hk | ⟨n, hn, rfl⟩
  · exact ⟨_, _, _, _, _, (by decide), (by decide), Nat.le_refl _, Nat.le_refl _, c_R_came_neg y4 hB y3 y1 y2 C.cc (by omega) C.rd k hk, fun v h' q => ⟨by rw [q.1, xCame, if_pos hk], by rw [q.2]; exact ⟨F, L, ⟨Z, X, b, w, p, jh, jk, P, hF, C⟩, hM, hd, o1_, o2_, o3_⟩⟩⟩
  · by_cases hc : n < c
    · exact ⟨_, _, _, _, _, (by decide), (by decide), Nat.le_refl _, Nat.le_refl _, c_R_came y4 hB y3 y1 y2 C.cc (by omega) C.rd n hc, fun v h' q => ⟨by rw [q.1, xCame, if_neg (nI_pos hn), nI_clamp hn, if_pos hc], by rw [q.2]; exact ⟨F, L, ⟨Z, X, b, w, p, jh, jk, P, hF, C⟩, hM, hd, o1_, o2_, o3_⟩⟩⟩
    · exact ⟨_, _, _, _, _, (by decide), (by decide), Nat.le_refl _, Nat.le_refl _, c_R_came_out y4 hB y3 y1 y2 C.cc (by omega) C.rd n (by omega) hn, fun v h' q => ⟨by rw [q.1, xCame, if_neg (nI_pos hn), nI_clamp hn, if_neg hc], by rw [q.2]; exact ⟨F, L, ⟨Z, X, b, w, p, jh, jk, P, hF, C⟩, hM, hd, o1_, o2_, o3_⟩⟩⟩

theorem xCh_n {B : Nat → Nat} {c : Nat} {k j : Int32} (h : ¬ xOk c k j) : xCh B c k j = B := if_neg h
theorem xChv_n {B : Nat → Nat} {c : Nat} {k j : Int32} (h : ¬ xOk c k j) : xChv B c k j = -1 := if_neg h
theorem xCh_y {B : Nat → Nat} {c : Nat} {k j : Int32} (h : xOk c k j) : xCh B c k j = uB B k.toNatClampNeg j.toNatClampNeg := if_pos h
theorem xChv_y {B : Nat → Nat} {c : Nat} {k j : Int32} (h : xOk c k j) : xChv B c k j = nI (B k.toNatClampNeg) := if_pos h
theorem frm_one {l : List Nat} {h : AH} {a : Nat} {x : AE} (ha : a ∈ l) : frm l l h (av_up h a x) := (frm.refl l).up rfl ha

set_option maxHeartbeats 4000000 in
theorem x_change {tb : Nat → Nat} {h : AH} {r m ou K cap wl pl c : Nat} {B HC KC : Nat → Nat} {cn ln kl : Nat} {cd : Int32} {B2 HB KB : Nat → Nat} {x0 : Int64} (W : WLD h r m ou K cap wl pl c B HC KC cn ln kl cd B2 HB KB x0) (hB : ∀ i, B i < 256) (hcap : cap ≤ 200000) (k j : Int32) : AMX tb y_R_change b_R_change 4 (some .int) 9 330 [.ref r, .int k, .int j] h 0 0 (fun v h' => v = some (.int (xChv B c k j)) ∧ WLD h' r m ou K cap wl pl c (xCh B c k j) HC KC cn ln kl cd B2 HB KB x0) := by
  obtain ⟨F, L, C0_, hM, hd, o1_, o2_, o3_⟩ := W
  obtain ⟨Z, X, b, w, p, jh, jk, P, hF, C⟩ := C0_
  obtain ⟨ro, G, eZ, y1, y2, y3, y4⟩ := C.by_
  rcases i32 k with hk | ⟨n, hn, rfl⟩
  · exact ⟨_, _, _, _, _, (by decide), (by decide), Nat.le_refl _, Nat.le_refl _, c_R_change_neg y4 hB y3 y1 y2 C.cc (by omega) C.rd k hk j, fun v h' q => ⟨by rw [q.1, xChv_n (fun z => z.1 hk)], by rw [q.2, xCh_n (fun z => z.1 hk)]; exact ⟨F, L, ⟨Z, X, b, w, p, jh, jk, P, hF, C⟩, hM, hd, o1_, o2_, o3_⟩⟩⟩
  · by_cases hc : n < c
    · rcases i32 j with hj | ⟨i, hi, rfl⟩
      · exact ⟨_, _, _, _, _, (by decide), (by decide), Nat.le_refl _, Nat.le_refl _, c_R_change_jneg y4 hB y3 y1 y2 C.cc (by omega) C.rd n hc j hj, fun v h' q => ⟨by rw [q.1, xChv_n (fun z => z.2.2.1 hj)], by rw [q.2, xCh_n (fun z => z.2.2.1 hj)]; exact ⟨F, L, ⟨Z, X, b, w, p, jh, jk, P, hF, C⟩, hM, hd, o1_, o2_, o3_⟩⟩⟩
      · refine ⟨_, _, _, _, _, (by decide), (by decide), Nat.le_refl _, Nat.le_refl _, c_R_change y4 hB y3 y1 y2 C.cc (by omega) C.rd n hc i hi, fun v h' q => ?_⟩
        by_cases z : i ≤ 255
        · have ok : xOk c (nI n) (nI i) := ⟨nI_pos hn, by rw [nI_clamp hn]; exact hc, nI_pos hi, by rw [nI_clamp hi]; exact z⟩
          obtain ⟨t1, t2⟩ := q.1 z
          rw [xCh_y ok, xChv_y ok, nI_clamp hn, nI_clamp hi]
          have T : frm (Z 1) [b, ro] h h' := by rw [t2, eZ]; exact frm_one (by simp)
          refine ⟨t1, WLD.cls hM hd o1_ o2_ o3_ ⟨Zu Z 1 [b, ro], X, b, w, p, jh, jk, P.step C.live (by decide) T, Zu_sub hF, C.bytes (fun j hj hne => P.same C.live (by decide) T hj hne) ?_ C.cc C.c0⟩ (T.F (by decide) hF)⟩
          refine ⟨ro, _, rfl, by rw [t2, av_up_ne (av_apart' y1 y2)]; exact y1, by rw [t2]; exact av_up_self _ _ _, fun x hx => ?_, uB_lt y4 (by omega) _⟩
          unfold uB
          by_cases s : x = n
          · rw [if_pos s, if_pos s]
          · rw [if_neg s, if_neg s]; exact y3 x hx
        · have no : ¬ xOk c (nI n) (nI i) := fun y => z (by have := y.2.2.2; rw [nI_clamp hi] at this; exact this)
          obtain ⟨t1, t2⟩ := q.2 (by omega)
          exact ⟨by rw [t1, xChv_n no], by rw [t2, xCh_n no]; exact ⟨F, L, ⟨Z, X, b, w, p, jh, jk, P, hF, C⟩, hM, hd, o1_, o2_, o3_⟩⟩
    · exact ⟨_, _, _, _, _, (by decide), (by decide), Nat.le_refl _, Nat.le_refl _, c_R_change_out y4 hB y3 y1 y2 C.cc (by omega) C.rd n (by omega) hn j, fun v h' q => ⟨by rw [q.1, xChv_n (fun z => hc (by have := z.2.1; rw [nI_clamp hn] at this; exact this))], by rw [q.2, xCh_n (fun z => hc (by have := z.2.1; rw [nI_clamp hn] at this; exact this))]; exact ⟨F, L, ⟨Z, X, b, w, p, jh, jk, P, hF, C⟩, hM, hd, o1_, o2_, o3_⟩⟩⟩

set_option maxHeartbeats 4000000 in
theorem x_end {tb : Nat → Nat} {h : AH} {r m ou K cap wl pl c : Nat} {B HC KC : Nat → Nat} {cn ln kl : Nat} {cd : Int32} {B2 HB KB : Nat → Nat} {x0 : Int64} (W : WLD h r m ou K cap wl pl c B HC KC cn ln kl cd B2 HB KB x0) (hB : ∀ i, B i < 256) (hcap : cap ≤ 200000) (n : Nat) (hn : n ≤ c) : AMX tb y_R_end b_R_end 3 (some .int) 9 330 [.ref r, .int (nI n)] h 0 0 (fun v h' => v = some (.int (nI c)) ∧ WLD h' r m ou K cap wl pl n B HC KC cn ln kl cd B2 HB KB x0) := by
  obtain ⟨F, L, C0_, hM, hd, o1_, o2_, o3_⟩ := W
  obtain ⟨Z, X, b, w, p, jh, jk, P, hF, C⟩ := C0_
  obtain ⟨ro, G, eZ, y1, y2, y3, y4⟩ := C.by_
  refine ⟨_, _, _, _, _, (by decide), (by decide), Nat.le_refl _, Nat.le_refl _, c_R_end y4 hB y3 y1 y2 C.cc (by omega) C.rd n hn, fun v h' q => ?_⟩
  have T : frm (Z 1) [b, ro] h h' := by rw [q.2, eZ]; exact frm_one (by simp)
  refine ⟨q.1, WLD.cls hM hd o1_ o2_ o3_ ⟨Zu Z 1 [b, ro], X, b, w, p, jh, jk, P.step C.live (by decide) T, Zu_sub hF, C.bytes (fun j hj hne => P.same C.live (by decide) T hj hne) ?_ (Nat.le_trans hn C.cc) C.c0⟩ (T.F (by decide) hF)⟩
  exact ⟨ro, G, rfl, by rw [q.2]; exact av_up_self _ _ _, by rw [q.2, av_up_ne (av_apart y2 y1)]; exact y2, fun i hi => y3 i (by omega), y4⟩

set_option maxHeartbeats 4000000 in
theorem x_keep {tb : Nat → Nat} {h : AH} {r m ou K cap wl pl c : Nat} {B HC KC : Nat → Nat} {cn ln kl : Nat} {cd : Int32} {B2 HB KB : Nat → Nat} {x0 : Int64} (W : WLD h r m ou K cap wl pl c B HC KC cn ln kl cd B2 HB KB x0) (hHC : ∀ i, HC i < 256) (hK : K ≤ 200000) : AMX tb y_R_keep b_R_keep 1 (some .boolean) 9 330 [.ref r] h 0 0 (fun v h' => v = some (.int (bP (0 < nn HC))) ∧ (nn HC = 0 → WLD h' r m ou K cap wl pl c B HC KC cn ln kl cd B2 HB KB x0) ∧ (0 < nn HC → ∀ KC' : Nat → Nat, (∀ (K im : Nat) (l : List Nat) (h : AH), iA h K im l HC → iA h K im l KC') → WLD h' r m ou K cap wl pl c B HC KC' cn ln kl cd B2 HB KB x0)) := by
  obtain ⟨F, L, C0_, hM, hd, o1_, o2_, o3_⟩ := W
  obtain ⟨Z, X, b, w, p, jh, jk, P, hF, C⟩ := C0_
  obtain ⟨a0, a1, a2, a3, a4, a5, cc, pc, us, f0, f1, f2, f3, f4, f5, e, M, D, q64, q256, qc, qp, V, L_⟩ := C.ha
  refine ⟨_, _, _, _, _, (by decide), (by decide), Nat.le_refl _, Nat.le_refl _, c_R_keep M V L_ hHC (by omega) (by omega) C.rd, fun v h' q => ?_⟩
  obtain ⟨t1, t2, t3⟩ := q
  refine ⟨t1, fun z => by rw [t2 z]; exact ⟨F, L, ⟨Z, X, b, w, p, jh, jk, P, hF, C⟩, hM, hd, o1_, o2_, o3_⟩, fun z KC' hk' => ?_⟩
  have T : frm (Z 0) [r] h h' := by rw [t3 z, C.zr]; exact frm_one (by simp)
  exact WLD.cls hM hd o1_ o2_ o3_ ⟨Z, X, b, w, p, jh, jh, P, hF, C.own C.hj C.hj (fun j hj hne => P.same C.live (by decide) T hj hne) (by rw [t3 z]; exact av_up_self _ _ _) C.ha (hk' K _ _ h C.ha)⟩ (T.wd (hF 0 (by decide)) (fun x hx => Or.inr hx))

theorem P64_max {a b : Nat} (h1 : P64 a) (h2 : P64 b) : P64 (max a b) := by
  by_cases z : a ≤ b
  · rw [Nat.max_eq_right z]; exact h2
  · rw [Nat.max_eq_left (by omega)]; exact h1

set_option maxHeartbeats 4000000 in
theorem x_reachable {tb : Nat → Nat} {h : AH} {r m ou K cap wl pl c : Nat} {B HC KC : Nat → Nat} {cn ln kl : Nat} {cd : Int32} {B2 HB KB : Nat → Nat} {x0 : Int64} (W : WLD h r m ou K cap wl pl c B HC KC cn ln kl cd B2 HB KB x0) (hHC : ∀ i, HC i < 256) (hK : K ≤ 200000) (hwl : wl ≤ K) : ∃ wl', wl ≤ wl' ∧ wl' ≤ K ∧ AMX tb y_R_reachable b_R_reachable 1 (some .int) 9 330 [.ref r] h (wl' - wl) (4 * (wl' - wl)) (fun v h' => v = some (.int (nI (vfin HC).2.2)) ∧ WLD h' r m ou K cap wl' pl c B HC KC cn ln kl cd B2 HB KB x0) := by
  obtain ⟨F, L, C0_, hM, hd, o1_, o2_, o3_⟩ := W
  obtain ⟨Z, X, b, w, p, jh, jk, P, hF, C⟩ := C0_
  obtain ⟨a0, a1, a2, a3, a4, a5, cc, pc, us, f0, f1, f2, f3, f4, f5, e, M, D, q64, q256, qc, qp, V, L_⟩ := C.ha
  obtain ⟨nu0, qu0, mn0, fn0, fq0, eW, Mw0, hnq0⟩ := C.wk
  have NW0 : ∀ x ∈ [w, nu0, qu0], x ∉ [X jh, a0, a1, a2, a3, a4, a5] := (by rw [← eW, ← e]; exact P 5 (jh + 2) (by have := C.hj; have := C.hk; omega) (by have := C.hj; have := C.hk; omega) (by have := C.hj; have := C.hk; omega))
  refine ⟨max wl cc, by omega, by omega, _, _, _, _, _, (by decide), (by decide), Nat.le_refl _, Nat.le_refl _, c_R_reachable M V L_ hHC (by omega) (by omega) C.rd Mw0 hnq0 NW0 C.w64 q64 (by omega) (by omega), fun v h' q => ?_⟩
  obtain ⟨t1, nu, qu, fn, fq, Mw, _, hnq, T⟩ := q
  rw [← eW] at T
  refine ⟨t1, WLD.cls hM hd o1_ o2_ o3_ ⟨Zu Z 5 [w, nu, qu], X, b, w, p, jh, jk, P.step C.live (by decide) T, Zu_sub hF, C.walk (fun j hj hne => P.same C.live (by decide) T hj hne) ⟨nu, qu, _, fn, fq, rfl, Mw, hnq⟩ (P64_max C.w64 q64)⟩ (T.F (by decide) hF)⟩

set_option maxHeartbeats 4000000 in
theorem x_same {tb : Nat → Nat} {h : AH} {r m ou K cap wl pl c : Nat} {B HC KC : Nat → Nat} {cn ln kl : Nat} {cd : Int32} {B2 HB KB : Nat → Nat} {x0 : Int64} (W : WLD h r m ou K cap wl pl c B HC KC cn ln kl cd B2 HB KB x0) (hHC : ∀ i, HC i < 256) (hK : K ≤ 200000) (hKC : ∀ i, KC i < 256) (hpl : pl ≤ K) (n1 : ¬ nn HC = 0) (n2 : ¬ nn KC = 0) : ∃ pl', pl ≤ pl' ∧ pl' ≤ K ∧ AMX tb y_R_same b_R_same 1 (some .boolean) 9 330 [.ref r] h (pl' - pl) (6 * (pl' - pl)) (fun v h' => v = some (.int (bP (¬ nn HC = 0 ∧ ¬ nn KC = 0 ∧ HC 4 = KC 4 ∧ HC 5 = KC 5 ∧ gfin HC KC = true))) ∧ WLD h' r m ou K cap wl pl' c B HC KC cn ln kl cd B2 HB KB x0) := by
  obtain ⟨F, L, C0_, hM, hd, o1_, o2_, o3_⟩ := W
  obtain ⟨Z, X, b, w, p, jh, jk, P, hF, C⟩ := C0_
  obtain ⟨a0, a1, a2, a3, a4, a5, cc, pc, us, f0, f1, f2, f3, f4, f5, e, M, D, q64, q256, qc, qp, V, L_⟩ := C.ha
  obtain ⟨c0, c1, c2, c3, c4, c5, dc, dq, du, e0, e1, e2, e3, e4, e5, e_, M2, D2, r64, r256, rc, rp, V2, L2⟩ := C.ka
  obtain ⟨pa0, pb0, pq0, mn0, fn0, fb0, fq0, eP, Mp0, Dp0⟩ := C.pr
  have NI0 : ∀ x ∈ [p, pa0, pb0, pq0], x ∉ [X jh, a0, a1, a2, a3, a4, a5] := (by rw [← eP, ← e]; exact P 6 (jh + 2) (by have := C.hj; have := C.hk; omega) (by have := C.hj; have := C.hk; omega) (by have := C.hj; have := C.hk; omega))
  have NJ0 : ∀ x ∈ [p, pa0, pb0, pq0], x ∉ [X jk, c0, c1, c2, c3, c4, c5] := (by rw [← eP, ← e_]; exact P 6 (jk + 2) (by have := C.hj; have := C.hk; omega) (by have := C.hj; have := C.hk; omega) (by have := C.hj; have := C.hk; omega))
  refine ⟨max pl (max cc dc), by omega, by omega, _, _, _, _, _, (by decide), (by decide), Nat.le_refl _, Nat.le_refl _, c_R_same M V L_ hHC (by omega) (by omega) M2 V2 L2 hKC (by omega) (by omega) C.rd Mp0 Dp0 NI0 NJ0 C.p64 q64 r64 (by omega) (by omega) (by omega) (hHC 4) (hKC 4) (hHC 5) (hKC 5) (max cc dc) rfl (P64_max q64 r64) (by omega) (Nat.le_max_left _ _) (Nat.le_max_right _ _) n1 n2, fun v h' q => ?_⟩
  obtain ⟨t1, pa, pb, pq, fn, fb, fq, mn, Mp, Dp, T⟩ := q
  rw [← eP] at T
  refine ⟨t1, WLD.cls hM hd o1_ o2_ o3_ ⟨Zu Z 6 [p, pa, pb, pq], X, b, w, p, jh, jk, P.step C.live (by decide) T, Zu_sub hF, C.pair (fun j hj hne => P.same C.live (by decide) T hj hne) ⟨pa, pb, pq, mn, fn, fb, fq, rfl, Mp, Dp⟩ (P64_max C.p64 (P64_max q64 r64))⟩ (T.F (by decide) hF)⟩

set_option maxHeartbeats 4000000 in
theorem x_same_no {tb : Nat → Nat} {h : AH} {r m ou K cap wl pl c : Nat} {B HC KC : Nat → Nat} {cn ln kl : Nat} {cd : Int32} {B2 HB KB : Nat → Nat} {x0 : Int64} (W : WLD h r m ou K cap wl pl c B HC KC cn ln kl cd B2 HB KB x0) (hHC : ∀ i, HC i < 256) (hK : K ≤ 200000) (hKC : ∀ i, KC i < 256) (hz : nn HC = 0 ∨ nn KC = 0) : AMX tb y_R_same b_R_same 1 (some .boolean) 9 330 [.ref r] h 0 0 (fun v h' => v = some (.int (bP (¬ nn HC = 0 ∧ ¬ nn KC = 0 ∧ HC 4 = KC 4 ∧ HC 5 = KC 5 ∧ gfin HC KC = true))) ∧ WLD h' r m ou K cap wl pl c B HC KC cn ln kl cd B2 HB KB x0) := by
  obtain ⟨F, L, C0_, hM, hd, o1_, o2_, o3_⟩ := W
  obtain ⟨Z, X, b, w, p, jh, jk, P, hF, C⟩ := C0_
  obtain ⟨a0, a1, a2, a3, a4, a5, cc, pc, us, f0, f1, f2, f3, f4, f5, e, M, D, q64, q256, qc, qp, V, L_⟩ := C.ha
  obtain ⟨c0, c1, c2, c3, c4, c5, dc, dq, du, e0, e1, e2, e3, e4, e5, e_, M2, D2, r64, r256, rc, rp, V2, L2⟩ := C.ka
  exact ⟨_, _, _, _, _, (by decide), (by decide), Nat.le_refl _, Nat.le_refl _, c_R_same_no M V L_ hHC (by omega) (by omega) M2 V2 L2 hKC (by omega) (by omega) C.rd hz, fun v h' q => ⟨by rw [q.1, bP_f (fun y => hz.elim y.1 y.2.1)], by rw [q.2]; exact ⟨F, L, ⟨Z, X, b, w, p, jh, jk, P, hF, C⟩, hM, hd, o1_, o2_, o3_⟩⟩⟩

set_option maxHeartbeats 4000000 in
theorem x_feed {tb : Nat → Nat} {h : AH} {r m ou K cap wl pl c : Nat} {B HC KC : Nat → Nat} {cn ln kl : Nat} {cd : Int32} {B2 HB KB : Nat → Nat} {x0 : Int64} (W : WLD h r m ou K cap wl pl c B HC KC cn ln kl cd B2 HB KB x0) (hcap : cap ≤ 200000) (hc : c + 20 ≤ 65536) (hK : K ≤ 200000) (hcK : cap ≤ K) (h2 : 2 * (c + 20) ≤ K) (u1 u2 u3 u4 u5 : Nat) (hu1 : u1 < 4294967296) (hu2 : u2 < 4294967296) (hu3 : u3 < 4294967296) (hu4 : u4 < 4294967296) (hu5 : u5 < 4294967296) : AMX tb y_R_feed b_R_feed 6 none 9 330 [.ref r, .int (nI u1), .int (nI u2), .int (nI u3), .int (nI u4), .int (nI u5)] h (gN cap (c + 20) - cap) (2 * (gN cap (c + 20) - cap)) (fun v h' => v = none ∧ gN cap (c + 20) ≤ K ∧ cap ≤ gN cap (c + 20) ∧ WLD h' r m ou K (gN cap (c + 20)) wl pl (c + 20) ((o4 (o4 (o4 (o4 (o4 ((c, B) : OS) u1) u2) u3) u4) u5).2) HC KC cn ln kl cd B2 HB KB x0) := by
  obtain ⟨F, L, C0_, hM, hd, o1_, o2_, o3_⟩ := W
  obtain ⟨Z, X, b, w, p, jh, jk, P, hF, C⟩ := C0_
  obtain ⟨ro, G, eZ, y1, y2, y3, y4⟩ := C.by_
  have e0 : gN cap c = cap := gN_le C.cc
  have Mb : bS h b ro cap ((c, B) : OS) G := ⟨y1, by rw [show gN cap ((c, B) : OS).1 = cap from e0]; exact y2, y3, y4⟩
  have gb := gN_b (n := c + 20) C.c0
  have gk : gN cap (c + 20) ≤ K := by rcases gb.2 with z | z <;> omega
  have gge := gN_ge (a := c + 20) C.c0
  refine ⟨_, _, _, _, _, (by decide), (by decide), (show gN cap (c + 20) - gN cap c ≤ gN cap (c + 20) - cap by rw [e0]; exact Nat.le_refl _), (show 2 * (gN cap (c + 20) - gN cap c) ≤ 2 * (gN cap (c + 20) - cap) by rw [e0]; exact Nat.le_refl _), c_R_feed C.rd Mb C.c0 (show c + 20 ≤ 65536 by omega) (show gN cap (c + 20) ≤ 524288 by omega) u1 u2 u3 u4 u5 hu1 hu2 hu3 hu4 hu5, fun v h' q => ?_⟩
  obtain ⟨t1, ro', G', B', T⟩ := q
  rw [← eZ] at T
  obtain ⟨s1, s2, s3, s4⟩ := B'
  refine ⟨t1, gk, gge, WLD.cls hM hd o1_ o2_ o3_ ⟨Zu Z 1 [b, ro'], X, b, w, p, jh, jk, P.step C.live (by decide) T, Zu_sub hF, C.bytes (fun j hj hne => P.same C.live (by decide) T hj hne) ⟨ro', G', rfl, s1, s2, s3, s4⟩ gb.1 (by have := C.c0; omega)⟩ (T.F (by decide) hF)⟩

set_option maxHeartbeats 4000000 in
theorem x_read {tb : Nat → Nat} {h : AH} {r m ou K cap wl pl c : Nat} {B HC KC : Nat → Nat} {cn ln kl : Nat} {cd : Int32} {B2 HB KB : Nat → Nat} {x0 : Int64} (W : WLD h r m ou K cap wl pl c B HC KC cn ln kl cd B2 HB KB x0) (hB : ∀ i, B i < 256) (hK : K ≤ 200000) (hcK : cap ≤ K) (h2 : 2 * c ≤ K) (hc : c ≤ 65536) : AMX tb y_R_read b_R_read 3 (some .int) 9 330 [.ref r] h (c / 32) (4 * c) (fun v h' => v = some (.int (pI (plc B c))) ∧ (plc B c ≠ none → WLD h' r m ou K cap wl pl 0 B HC KC cn ln kl cd B2 HB KB x0) ∧ (plc B c = none → ∀ HC' : Nat → Nat, (∀ (K im : Nat) (l : List Nat) (h : AH), iA h K im l B → iA h K im l HC') → WLD h' r m ou K cap wl pl 0 B HC' KC cn ln kl cd B2 HB KB x0)) := by
  obtain ⟨F, L, C0_, hM, hd, o1_, o2_, o3_⟩ := W
  obtain ⟨Z, X, b, w, p, jh, jk, P, hF, C⟩ := C0_
  obtain ⟨ro, G, eZ, y1, y2, y3, y4⟩ := C.by_
  have HN : ∀ j, j < 3 → ∀ x ∈ [b, ro], x ∉ Z (j + 2) := fun j hj => by rw [← eZ]; exact P 1 (j + 2) (by decide) (by omega) (by omega)
  have nx : ∀ i j, i < 3 → j < 3 → i ≠ j → ¬ X i = X j := fun i j hi hj hne z => by
    obtain ⟨_, _, _, _, _, _, _, _, _, _, _, _, _, _, _, _, _, _, _, ei, _⟩ := C.im i hi
    obtain ⟨_, _, _, _, _, _, _, _, _, _, _, _, _, _, _, _, _, _, _, ej, _⟩ := C.im j hj
    exact P (i + 2) (j + 2) (by omega) (by omega) (by omega) (X i) (by rw [ei]; simp) (by rw [ej, z]; simp)
  refine ⟨_, _, _, _, _, (by decide), (by decide), Nat.le_refl _, Nat.le_refl _, c_R_read y4 hB y3 y1 y2 C.cc (by omega) C.rd (nx 0 1 (by decide) (by decide) (by decide)) (nx 0 2 (by decide) (by decide) (by decide)) (nx 1 2 (by decide) (by decide) (by decide)) C.hj C.hk (K := K) (Z := fun j => Z (j + 2)) C.im HN hK h2 hc, fun v h' q => ?_⟩
  obtain ⟨t1, j, l', h1, hj3, n1, n2, E1, hA, T, t2, t3⟩ := q
  have j1 : j ≠ jh := fun z => n1 (by rw [z])
  have j2 : j ≠ jk := fun z => n2 (by rw [z])
  have T1 : frm (Z (j + 2)) l' h h1 := T
  have hj7 : j + 2 < 7 := by omega
  have P1 := P.step C.live hj7 T1
  have C1 := C.image hj3 j1 j2 (fun i hi hne => P.same C.live hj7 T1 hi hne) E1
  have hF1 : ∀ i, i < 7 → ∀ x ∈ Zu Z (j + 2) l' i, x ∈ l' ++ F := Zu_sub hF
  have F1 := T1.F hj7 hF
  have e1 : Zu Z (j + 2) l' 1 = [b, ro] := by rw [Zu_ne (by omega)]; exact eZ
  have y1' : h1 b = some (.inr (1, [.ref ro, .int (nI c)])) := T1.at (HN j hj3 b (by simp)) y1
  have y2' : h1 ro = some (.inl (1, cap, .inl (bsf G))) := T1.at (HN j hj3 ro (by simp)) y2
  obtain ⟨h2_, eh⟩ : ∃ z, z = av_up h1 b (.inr (1, [.ref ro, .int (nI 0)])) := ⟨_, rfl⟩
  have T2 : frm (Zu Z (j + 2) l' 1) [b, ro] h1 h2_ := by rw [eh, e1]; exact frm_one (by simp)
  have P2 := P1.step C1.live (by decide) T2
  have B2_ : bC h2_ b [b, ro] cap 0 B := ⟨ro, G, rfl, by rw [eh]; exact av_up_self _ _ _, by rw [eh, av_up_ne (av_apart y2' y1')]; exact y2', fun i hi => absurd hi (Nat.not_lt_zero i), y4⟩
  have C2 := C1.bytes (fun i hi hne => P1.same C1.live (by decide) T2 hi hne) B2_ (Nat.zero_le _) C.c0
  have hF2 : ∀ i, i < 7 → ∀ x ∈ Zu (Zu Z (j + 2) l') 1 [b, ro] i, x ∈ [b, ro] ++ (l' ++ F) := Zu_sub hF1
  have F2 := F1.tr (T2.F (by decide) hF1)
  refine ⟨t1, fun z => ?_, fun z HC' hA' => ?_⟩
  · rw [t3 z, ← eh]; exact WLD.cls hM hd o1_ o2_ o3_ ⟨_, X, b, w, p, jh, jk, P2, hF2, C2⟩ F2
  · have ez : Zu (Zu Z (j + 2) l') 1 [b, ro] (j + 2) = l' := by rw [Zu_ne (by omega), Zu_at]
    have A2 : iA h2_ K (X j) (Zu (Zu Z (j + 2) l') 1 [b, ro] (j + 2)) HC' := by rw [ez]; exact hA' K _ _ h2_ ((hA z).lo (fun x hx => P1.same C1.live (by decide) T2 (j := j + 2) hj7 (by omega) x (by rw [Zu_at]; exact hx)))
    have e0 : Zu (Zu Z (j + 2) l') 1 [b, ro] 0 = [r] := C2.zr
    have T3 : frm (Zu (Zu Z (j + 2) l') 1 [b, ro] 0) [r] h2_ h' := by rw [t2 z, ← eh, e0]; exact frm_one (by simp)
    refine WLD.cls hM hd o1_ o2_ o3_ ⟨_, X, b, w, p, j, jk, P2, hF2, C2.own hj3 C.hk (fun i hi hne => P2.same C2.live (by decide) T3 hi hne) (by rw [t2 z, ← eh]; exact av_up_self _ _ _) A2 C2.ka⟩ (F2.tr (T3.wd (hF2 0 (by decide)) (fun x hx => Or.inr hx)))

set_option maxHeartbeats 4000000 in
theorem x_write {tb : Nat → Nat} {h : AH} {r m ou K cap wl pl c : Nat} {B HC KC : Nat → Nat} {cn ln kl : Nat} {cd : Int32} {B2 HB KB : Nat → Nat} {x0 : Int64} (W : WLD h r m ou K cap wl pl c B HC KC cn ln kl cd B2 HB KB x0) (hHC : ∀ i, HC i < 256) (hK : K ≤ 200000) (hwl : wl ≤ K) (hcK : cap ≤ K) (hh : nn HC ≠ 0 → HC 0 = 77 ∧ HC 1 = 77 ∧ HC 2 = 1 ∧ HC 3 = 0) (hE : (wout HC).1 ≤ 65536) (hE2 : 2 * (wout HC).1 ≤ K) (nz : nn HC ≠ 0) : ∃ wl' cap', wl ≤ wl' ∧ wl' ≤ K ∧ cap ≤ cap' ∧ cap' ≤ K ∧ AMX tb y_R_write b_R_write 3 (some .int) 9 330 [.ref r] h ((wl' - wl) + (cap' - cap)) (4 * (wl' - wl) + 2 * (cap' - cap)) (fun v h' => v = some (.int (nI (wout HC).1)) ∧ WLD h' r m ou K cap' wl' pl ((wout HC).1) ((wout HC).2) HC KC cn ln kl cd B2 HB KB x0) := by
  obtain ⟨F, L, C0_, hM, hd, o1_, o2_, o3_⟩ := W
  obtain ⟨Z, X, b, w, p, jh, jk, P, hF, C⟩ := C0_
  obtain ⟨a0, a1, a2, a3, a4, a5, cc, pc, us, f0, f1, f2, f3, f4, f5, e, M, D, q64, q256, qc, qp, V, L_⟩ := C.ha
  obtain ⟨ro, G, eZ, y1, y2, y3, y4⟩ := C.by_
  obtain ⟨nu0, qu0, mn0, fn0, fq0, eW, Mw0, hnq0⟩ := C.wk
  have NW0 : ∀ x ∈ [w, nu0, qu0], x ∉ [X jh, a0, a1, a2, a3, a4, a5] := (by rw [← eW, ← e]; exact P 5 (jh + 2) (by have := C.hj; have := C.hk; omega) (by have := C.hj; have := C.hk; omega) (by have := C.hj; have := C.hk; omega))
  have N1 : ∀ x ∈ [b, ro], x ∉ [X jh, a0, a1, a2, a3, a4, a5] := (by rw [← eZ, ← e]; exact P 1 (jh + 2) (by have := C.hj; have := C.hk; omega) (by have := C.hj; have := C.hk; omega) (by have := C.hj; have := C.hk; omega))
  have N2 : ∀ x ∈ [b, ro], x ∉ [w, nu0, qu0] := (by rw [← eZ, ← eW]; exact P 1 5 (by have := C.hj; have := C.hk; omega) (by have := C.hj; have := C.hk; omega) (by have := C.hj; have := C.hk; omega))
  have N3 : ∀ x ∈ [b, ro], x ∉ [r] := by rw [← eZ, ← C.zr]; exact P 1 0 (by decide) (by decide) (by decide)
  have N := N_3 N3 N1 N2
  have gb := gN_b (n := (wout HC).1) C.c0
  have gk : gN cap (wout HC).1 ≤ K := by rcases gb.2 with z | z <;> omega
  have gge := gN_ge (a := (wout HC).1) C.c0
  refine ⟨max wl cc, gN cap (wout HC).1, by omega, by omega, gge, gk, _, _, _, _, _, (by decide), (by decide), Nat.le_refl _, Nat.le_refl _, c_R_write V L_ hHC (by omega) (by omega) ⟨C.rd, M, Mw0⟩ hnq0 C.w64 q64 (by omega) NW0 y1 y2 y4 C.c0 N hh hE (by omega), fun v h' q => ?_⟩
  obtain ⟨t1, h1, nu, qu, mn, fn, fq, ro', G', Mw, hnq, ⟨s1, s2, s3, s4⟩, T1, T2⟩ := q.2 nz
  rw [← eW] at T1
  have P1 := P.step C.live (by decide) T1
  have hF1 : ∀ i, i < 7 → ∀ x ∈ Zu Z 5 [w, nu, qu] i, x ∈ [w, nu, qu] ++ F := Zu_sub hF
  have e1 : Zu Z 5 [w, nu, qu] 1 = [b, ro] := eZ
  rw [← e1] at T2
  have W1 : wC h1 w [w, nu, qu] (max wl cc) := ⟨nu, qu, mn, fn, fq, rfl, Mw, hnq⟩
  have C1 := C.walk (fun j hj hne => P.same C.live (by decide) T1 hj hne) W1 (P64_max C.w64 q64)
  have P2 := P1.step C1.live (by decide) T2
  have C2 := C1.bytes (fun j hj hne => P1.same C1.live (by decide) T2 hj hne) (⟨ro', G', rfl, s1, s2, s3, s4⟩ : bC h' b [b, ro'] (gN cap (wout HC).1) (wout HC).1 (wout HC).2) gb.1 (by have := C.c0; omega)
  exact ⟨t1, WLD.cls hM hd o1_ o2_ o3_ ⟨_, X, b, w, p, jh, jk, P2, Zu_sub hF1, C2⟩ ((T1.F (by decide) hF).tr (T2.F (by decide) hF1))⟩

set_option maxHeartbeats 4000000 in
theorem x_write_no {tb : Nat → Nat} {h : AH} {r m ou K cap wl pl c : Nat} {B HC KC : Nat → Nat} {cn ln kl : Nat} {cd : Int32} {B2 HB KB : Nat → Nat} {x0 : Int64} (W : WLD h r m ou K cap wl pl c B HC KC cn ln kl cd B2 HB KB x0) (hHC : ∀ i, HC i < 256) (hK : K ≤ 200000) (hz : nn HC = 0) : AMX tb y_R_write b_R_write 3 (some .int) 9 330 [.ref r] h 0 0 (fun v h' => v = some (.int (-1)) ∧ WLD h' r m ou K cap wl pl c B HC KC cn ln kl cd B2 HB KB x0) := by
  obtain ⟨F, L, C0_, hM, hd, o1_, o2_, o3_⟩ := W
  obtain ⟨Z, X, b, w, p, jh, jk, P, hF, C⟩ := C0_
  obtain ⟨a0, a1, a2, a3, a4, a5, cc, pc, us, f0, f1, f2, f3, f4, f5, e, M, D, q64, q256, qc, qp, V, L_⟩ := C.ha
  exact ⟨_, _, _, _, _, (by decide), (by decide), Nat.le_refl _, Nat.le_refl _, c_R_write_no M V L_ hHC (by omega) (by omega) C.rd hz, fun v h' q => ⟨q.1, by rw [q.2]; exact ⟨F, L, ⟨Z, X, b, w, p, jh, jk, P, hF, C⟩, hM, hd, o1_, o2_, o3_⟩⟩⟩
