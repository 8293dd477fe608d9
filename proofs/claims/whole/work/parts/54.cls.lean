/-! ===== the reader as a whole: its parts stand apart ===== -/
def PD (Z : Nat → List Nat) : Prop := ∀ i j, i < 7 → j < 7 → i ≠ j → ∀ x ∈ Z i, x ∉ Z j
def Zu (Z : Nat → List Nat) (i : Nat) (l : List Nat) : Nat → List Nat := fun j => if j = i then l else Z j
theorem Zu_at (Z : Nat → List Nat) (i : Nat) (l : List Nat) : Zu Z i l i = l := if_pos rfl
theorem Zu_ne {Z : Nat → List Nat} {i j : Nat} {l : List Nat} (h : j ≠ i) : Zu Z i l j = Z j := if_neg h
theorem PD.step {Z : Nat → List Nat} {h h' : AH} {i : Nat} {l' : List Nat} (P : PD Z) (E : ∀ j, j < 7 → LV h (Z j)) (hi : i < 7) (T : frm (Z i) l' h h') : PD (Zu Z i l') := by
  intro a b ha hb hab x hx hy
  by_cases za : a = i
  · subst za
    rw [Zu_at] at hx
    rw [Zu_ne (Ne.symm hab)] at hy
    rcases T.2.2 x hx with z | z
    · exact P a b ha hb hab x z hy
    · exact E b hb x hy z
  · rw [Zu_ne za] at hx
    by_cases zb : b = i
    · subst zb
      rw [Zu_at] at hy
      rcases T.2.2 x hy with z | z
      · exact P a b ha hb hab x hx z
      · exact E a ha x hx z
    · rw [Zu_ne zb] at hy
      exact P a b ha hb hab x hx hy
theorem PD.same {Z : Nat → List Nat} {h h' : AH} {i : Nat} {l' : List Nat} (P : PD Z) (E : ∀ j, j < 7 → LV h (Z j)) (hi : i < 7) (T : frm (Z i) l' h h') {j : Nat} (hj : j < 7) (hne : j ≠ i) : ∀ x ∈ Z j, h' x = h x := fun x hx => T.1 x (P j i hj hi hne x hx) (E j hj x hx)
abbrev rO (b : Nat) (X : Nat → Nat) (w p jh jk : Nat) : AE := .inr (0, [.ref b, .ref (X 0), .ref (X 1), .ref (X 2), .ref w, .ref p, .ref (X jh), .ref (X jk)])
def CG (h : AH) (Z : Nat → List Nat) (X : Nat → Nat) (r b w p jh jk K cap wl pl c : Nat) (B HC KC : Nat → Nat) : Prop :=
  (Z 0 = [r]) ∧ (h r = some (rO b X w p jh jk)) ∧ (bC h b (Z 1) cap c B) ∧ (∀ j, j < 3 → iE h K (X j) (Z (j + 2))) ∧ (iA h K (X jh) (Z (jh + 2)) HC) ∧ (iA h K (X jk) (Z (jk + 2)) KC) ∧ (wC h w (Z 5) wl) ∧ (pC h p (Z 6) pl) ∧ (jh < 3) ∧ (jk < 3) ∧ (c ≤ cap) ∧ (0 < cap) ∧ (P64 wl) ∧ (P64 pl)
theorem CG.zr {h : AH} {Z : Nat → List Nat} {X : Nat → Nat} {r b w p jh jk K cap wl pl c : Nat} {B HC KC : Nat → Nat} (C : CG h Z X r b w p jh jk K cap wl pl c B HC KC) : Z 0 = [r] := C.1
theorem CG.rd {h : AH} {Z : Nat → List Nat} {X : Nat → Nat} {r b w p jh jk K cap wl pl c : Nat} {B HC KC : Nat → Nat} (C : CG h Z X r b w p jh jk K cap wl pl c B HC KC) : h r = some (rO b X w p jh jk) := C.2.1
theorem CG.by_ {h : AH} {Z : Nat → List Nat} {X : Nat → Nat} {r b w p jh jk K cap wl pl c : Nat} {B HC KC : Nat → Nat} (C : CG h Z X r b w p jh jk K cap wl pl c B HC KC) : bC h b (Z 1) cap c B := C.2.2.1
theorem CG.im {h : AH} {Z : Nat → List Nat} {X : Nat → Nat} {r b w p jh jk K cap wl pl c : Nat} {B HC KC : Nat → Nat} (C : CG h Z X r b w p jh jk K cap wl pl c B HC KC) : ∀ j, j < 3 → iE h K (X j) (Z (j + 2)) := C.2.2.2.1
theorem CG.ha {h : AH} {Z : Nat → List Nat} {X : Nat → Nat} {r b w p jh jk K cap wl pl c : Nat} {B HC KC : Nat → Nat} (C : CG h Z X r b w p jh jk K cap wl pl c B HC KC) : iA h K (X jh) (Z (jh + 2)) HC := C.2.2.2.2.1
theorem CG.ka {h : AH} {Z : Nat → List Nat} {X : Nat → Nat} {r b w p jh jk K cap wl pl c : Nat} {B HC KC : Nat → Nat} (C : CG h Z X r b w p jh jk K cap wl pl c B HC KC) : iA h K (X jk) (Z (jk + 2)) KC := C.2.2.2.2.2.1
theorem CG.wk {h : AH} {Z : Nat → List Nat} {X : Nat → Nat} {r b w p jh jk K cap wl pl c : Nat} {B HC KC : Nat → Nat} (C : CG h Z X r b w p jh jk K cap wl pl c B HC KC) : wC h w (Z 5) wl := C.2.2.2.2.2.2.1
theorem CG.pr {h : AH} {Z : Nat → List Nat} {X : Nat → Nat} {r b w p jh jk K cap wl pl c : Nat} {B HC KC : Nat → Nat} (C : CG h Z X r b w p jh jk K cap wl pl c B HC KC) : pC h p (Z 6) pl := C.2.2.2.2.2.2.2.1
theorem CG.hj {h : AH} {Z : Nat → List Nat} {X : Nat → Nat} {r b w p jh jk K cap wl pl c : Nat} {B HC KC : Nat → Nat} (C : CG h Z X r b w p jh jk K cap wl pl c B HC KC) : jh < 3 := C.2.2.2.2.2.2.2.2.1
theorem CG.hk {h : AH} {Z : Nat → List Nat} {X : Nat → Nat} {r b w p jh jk K cap wl pl c : Nat} {B HC KC : Nat → Nat} (C : CG h Z X r b w p jh jk K cap wl pl c B HC KC) : jk < 3 := C.2.2.2.2.2.2.2.2.2.1
theorem CG.cc {h : AH} {Z : Nat → List Nat} {X : Nat → Nat} {r b w p jh jk K cap wl pl c : Nat} {B HC KC : Nat → Nat} (C : CG h Z X r b w p jh jk K cap wl pl c B HC KC) : c ≤ cap := C.2.2.2.2.2.2.2.2.2.2.1
theorem CG.c0 {h : AH} {Z : Nat → List Nat} {X : Nat → Nat} {r b w p jh jk K cap wl pl c : Nat} {B HC KC : Nat → Nat} (C : CG h Z X r b w p jh jk K cap wl pl c B HC KC) : 0 < cap := C.2.2.2.2.2.2.2.2.2.2.2.1
theorem CG.w64 {h : AH} {Z : Nat → List Nat} {X : Nat → Nat} {r b w p jh jk K cap wl pl c : Nat} {B HC KC : Nat → Nat} (C : CG h Z X r b w p jh jk K cap wl pl c B HC KC) : P64 wl := C.2.2.2.2.2.2.2.2.2.2.2.2.1
theorem CG.p64 {h : AH} {Z : Nat → List Nat} {X : Nat → Nat} {r b w p jh jk K cap wl pl c : Nat} {B HC KC : Nat → Nat} (C : CG h Z X r b w p jh jk K cap wl pl c B HC KC) : P64 pl := C.2.2.2.2.2.2.2.2.2.2.2.2.2
theorem CG.live {h : AH} {Z : Nat → List Nat} {X : Nat → Nat} {r b w p jh jk K cap wl pl c : Nat} {B HC KC : Nat → Nat} (C : CG h Z X r b w p jh jk K cap wl pl c B HC KC) : ∀ j, j < 7 → LV h (Z j) := by
  intro j hj
  have e : j = 0 ∨ j = 1 ∨ (∃ i, i < 3 ∧ j = i + 2) ∨ j = 5 ∨ j = 6 := by
    by_cases z : 2 ≤ j ∧ j < 5
    · exact Or.inr (Or.inr (Or.inl ⟨j - 2, by omega, by omega⟩))
    · omega
  rcases e with rfl | rfl | ⟨i, hi, rfl⟩ | rfl | rfl
  · intro x hx
    rw [C.zr] at hx
    simp only [List.mem_cons, List.not_mem_nil, or_false] at hx
    subst hx
    rw [C.rd]
    exact Option.some_ne_none _
  · exact C.by_.ex
  · exact (C.im i hi).ex
  · exact C.wk.ex
  · exact C.pr.ex
section
variable {h h' : AH} {Z : Nat → List Nat} {X : Nat → Nat} {r b w p jh jk K cap wl pl c : Nat} {B HC KC : Nat → Nat}
theorem CG.bytes (C : CG h Z X r b w p jh jk K cap wl pl c B HC KC) {l' : List Nat} {cap' c' : Nat} {B' : Nat → Nat} (e : ∀ j, j < 7 → j ≠ 1 → ∀ x ∈ Z j, h' x = h x) (H : bC h' b l' cap' c' B') (h1 : c' ≤ cap') (h2 : 0 < cap') : CG h' (Zu Z 1 l') X r b w p jh jk K cap' wl pl c' B' HC KC := by
  refine ⟨(C.zr), (eqS (e 0 (by decide) (by decide)) (by rw [C.zr]; simp) C.rd), (H), (fun j hj => by rw [Zu_ne (by omega)]; exact (C.im j hj).lo (e _ (by omega) (by omega))), (by have := C.hj; rw [Zu_ne (by omega)]; exact C.ha.lo (e _ (by omega) (by omega))), (by have := C.hk; rw [Zu_ne (by omega)]; exact C.ka.lo (e _ (by omega) (by omega))), (C.wk.lo (e 5 (by decide) (by decide))), (C.pr.lo (e 6 (by decide) (by decide))), (C.hj), (C.hk), (h1), (h2), (C.w64), (C.p64)⟩
theorem CG.walk (C : CG h Z X r b w p jh jk K cap wl pl c B HC KC) {l' : List Nat} {wl' : Nat} (e : ∀ j, j < 7 → j ≠ 5 → ∀ x ∈ Z j, h' x = h x) (H : wC h' w l' wl') (h1 : P64 wl') : CG h' (Zu Z 5 l') X r b w p jh jk K cap wl' pl c B HC KC := by
  refine ⟨(C.zr), (eqS (e 0 (by decide) (by decide)) (by rw [C.zr]; simp) C.rd), (C.by_.lo (e 1 (by decide) (by decide))), (fun j hj => by rw [Zu_ne (by omega)]; exact (C.im j hj).lo (e _ (by omega) (by omega))), (by have := C.hj; rw [Zu_ne (by omega)]; exact C.ha.lo (e _ (by omega) (by omega))), (by have := C.hk; rw [Zu_ne (by omega)]; exact C.ka.lo (e _ (by omega) (by omega))), (H), (C.pr.lo (e 6 (by decide) (by decide))), (C.hj), (C.hk), (C.cc), (C.c0), (h1), (C.p64)⟩
theorem CG.pair (C : CG h Z X r b w p jh jk K cap wl pl c B HC KC) {l' : List Nat} {pl' : Nat} (e : ∀ j, j < 7 → j ≠ 6 → ∀ x ∈ Z j, h' x = h x) (H : pC h' p l' pl') (h1 : P64 pl') : CG h' (Zu Z 6 l') X r b w p jh jk K cap wl pl' c B HC KC := by
  refine ⟨(C.zr), (eqS (e 0 (by decide) (by decide)) (by rw [C.zr]; simp) C.rd), (C.by_.lo (e 1 (by decide) (by decide))), (fun j hj => by rw [Zu_ne (by omega)]; exact (C.im j hj).lo (e _ (by omega) (by omega))), (by have := C.hj; rw [Zu_ne (by omega)]; exact C.ha.lo (e _ (by omega) (by omega))), (by have := C.hk; rw [Zu_ne (by omega)]; exact C.ka.lo (e _ (by omega) (by omega))), (C.wk.lo (e 5 (by decide) (by decide))), (H), (C.hj), (C.hk), (C.cc), (C.c0), (C.w64), (h1)⟩
theorem CG.image (C : CG h Z X r b w p jh jk K cap wl pl c B HC KC) {l' : List Nat} {j : Nat} (hj : j < 3) (n1 : j ≠ jh) (n2 : j ≠ jk) (e : ∀ i, i < 7 → i ≠ j + 2 → ∀ x ∈ Z i, h' x = h x) (H : iE h' K (X j) l') : CG h' (Zu Z (j + 2) l') X r b w p jh jk K cap wl pl c B HC KC := by
  refine ⟨(by rw [Zu_ne (by omega)]; exact C.zr), (eqS (e 0 (by decide) (by omega)) (by rw [C.zr]; simp) C.rd), (by rw [Zu_ne (by omega)]; exact C.by_.lo (e 1 (by decide) (by omega))), ?_, (by have := C.hj; rw [Zu_ne (by omega)]; exact C.ha.lo (e _ (by omega) (by omega))), (by have := C.hk; rw [Zu_ne (by omega)]; exact C.ka.lo (e _ (by omega) (by omega))), (by rw [Zu_ne (by omega)]; exact C.wk.lo (e 5 (by decide) (by omega))), (by rw [Zu_ne (by omega)]; exact C.pr.lo (e 6 (by decide) (by omega))), (C.hj), (C.hk), (C.cc), (C.c0), (C.w64), (C.p64)⟩
  intro i hi
  by_cases z : i = j
  · subst z; rw [Zu_at]; exact H
  · rw [Zu_ne (by omega)]; exact (C.im i hi).lo (e _ (by omega) (by omega))
/-- only the reader's own object is written: another image at hand, another one kept -/
theorem CG.own (C : CG h Z X r b w p jh jk K cap wl pl c B HC KC) {j i : Nat} {HC' KC' : Nat → Nat} (hj : j < 3) (hi : i < 3) (e : ∀ i, i < 7 → i ≠ 0 → ∀ x ∈ Z i, h' x = h x) (hr : h' r = some (rO b X w p j i)) (H : iA h K (X j) (Z (j + 2)) HC') (H2 : iA h K (X i) (Z (i + 2)) KC') : CG h' Z X r b w p j i K cap wl pl c B HC' KC' := by
  refine ⟨(C.zr), (hr), (C.by_.lo (e 1 (by decide) (by decide))), (fun i hi => (C.im i hi).lo (e _ (by omega) (by omega))), (H.lo (e _ (by omega) (by omega))), (H2.lo (e _ (by omega) (by omega))), (C.wk.lo (e 5 (by decide) (by decide))), (C.pr.lo (e 6 (by decide) (by decide))), (hj), (hi), (C.cc), (C.c0), (C.w64), (C.p64)⟩
end
theorem bC.agr {h : AH} {b : Nat} {l : List Nat} {cap c : Nat} {B B' : Nat → Nat} (H : bC h b l cap c B) (e : ∀ i, i < c → B i = B' i) : bC h b l cap c B' := by
  obtain ⟨ro, G, q0, q1, q2, q3, q4⟩ := H
  exact ⟨ro, G, q0, q1, q2, fun i hi => (q3 i hi).trans (e i hi), q4⟩
def CLS (h : AH) (r : Nat) (F : List Nat) (K cap wl pl c : Nat) (B HC KC : Nat → Nat) : Prop := ∃ (Z : Nat → List Nat) (X : Nat → Nat) (b w p jh jk : Nat), PD Z ∧ (∀ j, j < 7 → ∀ x ∈ Z j, x ∈ F) ∧ CG h Z X r b w p jh jk K cap wl pl c B HC KC
theorem CLS.agr {h : AH} {r : Nat} {F : List Nat} {K cap wl pl c : Nat} {B B' HC KC : Nat → Nat} (C : CLS h r F K cap wl pl c B HC KC) (e : ∀ i, i < c → B i = B' i) : CLS h r F K cap wl pl c B' HC KC := by
  obtain ⟨Z, X, b, w, p, jh, jk, P, hF, C⟩ := C
  exact ⟨Z, X, b, w, p, jh, jk, P, hF, ⟨C.zr, C.rd, C.by_.agr e, C.im, C.ha, C.ka, C.wk, C.pr, C.hj, C.hk, C.cc, C.c0, C.w64, C.p64⟩⟩
/-- what lies outside the reader does not touch it -/
theorem CLS.lo {h h' : AH} {r : Nat} {F : List Nat} {K cap wl pl c : Nat} {B HC KC : Nat → Nat} (C : CLS h r F K cap wl pl c B HC KC) (e : ∀ x ∈ F, h' x = h x) : CLS h' r F K cap wl pl c B HC KC := by
  obtain ⟨Z, X, b, w, p, jh, jk, P, hF, C⟩ := C
  have e' : ∀ j, j < 7 → ∀ x ∈ Z j, h' x = h x := fun j hj x hx => e x (hF j hj x hx)
  refine ⟨Z, X, b, w, p, jh, jk, P, hF, ⟨C.zr, eqS (e' 0 (by decide)) (by rw [C.zr]; simp) C.rd, C.by_.lo (e' 1 (by decide)), fun j hj => (C.im j hj).lo (e' _ (by omega)), ?_, ?_, C.wk.lo (e' 5 (by decide)), C.pr.lo (e' 6 (by decide)), C.hj, C.hk, C.cc, C.c0, C.w64, C.p64⟩⟩
  · exact C.ha.lo (e' _ (by have := C.hj; omega))
  · exact C.ka.lo (e' _ (by have := C.hk; omega))
/-- one part is written, the others stand -/
theorem Zu_sub {Z : Nat → List Nat} {F l' : List Nat} {i : Nat} (hF : ∀ j, j < 7 → ∀ x ∈ Z j, x ∈ F) : ∀ j, j < 7 → ∀ x ∈ Zu Z i l' j, x ∈ l' ++ F := by
  intro j hj x hx
  by_cases z : j = i
  · subst z; rw [Zu_at] at hx; exact List.mem_append_left _ hx
  · rw [Zu_ne z] at hx; exact List.mem_append_right _ (hF j hj x hx)
theorem frm.F {Z : Nat → List Nat} {F l' : List Nat} {i : Nat} {h h' : AH} (T : frm (Z i) l' h h') (hi : i < 7) (hF : ∀ j, j < 7 → ∀ x ∈ Z j, x ∈ F) : frm F (l' ++ F) h h' := T.wd (hF i hi) (fun x hx => List.mem_append.mp hx)
/-! ===== images over bytes that agree ===== -/
theorem ps_agr {B B' : Nat → Nat} {c : Nat} (h : agr B B' c) (hl : laid B c (nn B)) : ∀ k, k ≤ nn B + 1 → ps B' k = ps B k
  | 0, _ => rfl
  | 1, _ => rfl
  | k + 2, hk => by
    have e := ps_agr h hl (k + 1) (by omega)
    have s := (ob_agr h hl (k := k + 1) (by omega) (by omega)).2.2.1
    rw [ps, ps, e, s]
theorem wd_agr {B B' : Nat → Nat} {c : Nat} (h : agr B B' c) (hl : laid B c (nn B)) {k : Nat} (h1 : 1 ≤ k) (h2 : k ≤ nn B) : wd B' k = wd B k := by
  have s := ob_agr h hl h1 h2
  unfold wd
  rw [s.2.1, s.2.2.1]
theorem iA.agr {h : AH} {K im : Nat} {l : List Nat} {B B' : Nat → Nat} {c : Nat} (H : iA h K im l B) (ha : agr B B' c) (hl : laid B c (nn B)) : iA h K im l B' := by
  obtain ⟨a0, a1, a2, a3, a4, a5, cc, pc, us, f0, f1, f2, f3, f4, f5, e, M, q1, q2, q3, q4, q5, V, L⟩ := H
  have h208 : 208 ≤ c := hl.1
  have en : nn B' = nn B := nn_agr ha (by omega)
  have ew : wds B' (nn B') = wds B (nn B) := by
    have z : ∀ n, n ≤ nn B → wds B' n = wds B n := by
      intro n
      induction n with
      | zero => intro _; rfl
      | succ n ih =>
        intro hn
        rw [wds, wds, ih (by omega), wd_agr ha hl (by omega) hn]
    rw [en]
    exact z _ (Nat.le_refl _)
  refine ⟨a0, a1, a2, a3, a4, a5, cc, pc, us, f0, f1, f2, f3, f4, f5, e, ?_, q1, q2, q3, q4, q5, ?_, (laid_agr ha hl).lx⟩
  · rw [ew, en, ← ha 4 (by omega), ← ha 5 (by omega)]
    exact M
  · refine ⟨by rw [en]; exact V.1, fun k hk => by rw [sp_agr ha h208 hk]; exact V.2.1 k hk, fun k h1 h2 => ?_⟩
    rw [en] at h2
    obtain ⟨v1, v2, v3, v4, v5, v6⟩ := V.2.2 k h1 h2
    have s := ob_agr ha hl h1 h2
    have p := ps_agr ha hl k (by omega)
    refine ⟨by rw [s.1]; exact v1, by rw [s.2.1]; exact v2, by rw [s.2.2.1]; exact v3, by rw [p]; exact v4, by rw [p, s.2.2.1]; exact v5, fun i hi => ?_⟩
    rw [s.2.2.1] at hi
    rw [p, v6 i hi]
    unfold prt
    by_cases z : kd B k = 1
    · rw [s.2.1, if_pos z, if_pos z, s.2.2.2.2 z i hi]
    · rw [s.2.1, if_neg z, if_neg z, s.2.2.2.1 z i hi]
theorem iA.mono {h : AH} {K K' im : Nat} {l : List Nat} {C : Nat → Nat} (H : iA h K im l C) (hK : K ≤ K') : iA h K' im l C := by
  obtain ⟨a0, a1, a2, a3, a4, a5, cc, pc, us, f0, f1, f2, f3, f4, f5, e, M, q1, q2, q3, q4, q5, V, L⟩ := H
  exact ⟨a0, a1, a2, a3, a4, a5, cc, pc, us, f0, f1, f2, f3, f4, f5, e, M, q1, q2, q3, Nat.le_trans q4 hK, Nat.le_trans q5 hK, V, L⟩
def Z7 (z0 z1 z2 z3 z4 z5 z6 : List Nat) : Nat → List Nat := fun j => if j = 0 then z0 else if j = 1 then z1 else if j = 2 then z2 else if j = 3 then z3 else if j = 4 then z4 else if j = 5 then z5 else z6
theorem PD_mk {z0 z1 z2 z3 z4 z5 z6 : List Nat} (d10 : ∀ x ∈ z1, x ∉ z0) (d20 : ∀ x ∈ z2, x ∉ z0) (d21 : ∀ x ∈ z2, x ∉ z1) (d30 : ∀ x ∈ z3, x ∉ z0) (d31 : ∀ x ∈ z3, x ∉ z1) (d32 : ∀ x ∈ z3, x ∉ z2) (d40 : ∀ x ∈ z4, x ∉ z0) (d41 : ∀ x ∈ z4, x ∉ z1) (d42 : ∀ x ∈ z4, x ∉ z2) (d43 : ∀ x ∈ z4, x ∉ z3) (d50 : ∀ x ∈ z5, x ∉ z0) (d51 : ∀ x ∈ z5, x ∉ z1) (d52 : ∀ x ∈ z5, x ∉ z2) (d53 : ∀ x ∈ z5, x ∉ z3) (d54 : ∀ x ∈ z5, x ∉ z4) (d60 : ∀ x ∈ z6, x ∉ z0) (d61 : ∀ x ∈ z6, x ∉ z1) (d62 : ∀ x ∈ z6, x ∉ z2) (d63 : ∀ x ∈ z6, x ∉ z3) (d64 : ∀ x ∈ z6, x ∉ z4) (d65 : ∀ x ∈ z6, x ∉ z5) : PD (Z7 z0 z1 z2 z3 z4 z5 z6) := by
  intro i j hi hj hne x hx hy
  have ci : i = 0 ∨ i = 1 ∨ i = 2 ∨ i = 3 ∨ i = 4 ∨ i = 5 ∨ i = 6 := by omega
  have cj : j = 0 ∨ j = 1 ∨ j = 2 ∨ j = 3 ∨ j = 4 ∨ j = 5 ∨ j = 6 := by omega
  rcases ci with rfl | rfl | rfl | rfl | rfl | rfl | rfl
  · rcases cj with rfl | rfl | rfl | rfl | rfl | rfl | rfl
    · exact hne rfl
    · exact d10 x hy hx
    · exact d20 x hy hx
    · exact d30 x hy hx
    · exact d40 x hy hx
    · exact d50 x hy hx
    · exact d60 x hy hx
  · rcases cj with rfl | rfl | rfl | rfl | rfl | rfl | rfl
    · exact d10 x hx hy
    · exact hne rfl
    · exact d21 x hy hx
    · exact d31 x hy hx
    · exact d41 x hy hx
    · exact d51 x hy hx
    · exact d61 x hy hx
  · rcases cj with rfl | rfl | rfl | rfl | rfl | rfl | rfl
    · exact d20 x hx hy
    · exact d21 x hx hy
    · exact hne rfl
    · exact d32 x hy hx
    · exact d42 x hy hx
    · exact d52 x hy hx
    · exact d62 x hy hx
  · rcases cj with rfl | rfl | rfl | rfl | rfl | rfl | rfl
    · exact d30 x hx hy
    · exact d31 x hx hy
    · exact d32 x hx hy
    · exact hne rfl
    · exact d43 x hy hx
    · exact d53 x hy hx
    · exact d63 x hy hx
  · rcases cj with rfl | rfl | rfl | rfl | rfl | rfl | rfl
    · exact d40 x hx hy
    · exact d41 x hx hy
    · exact d42 x hx hy
    · exact d43 x hx hy
    · exact hne rfl
    · exact d54 x hy hx
    · exact d64 x hy hx
  · rcases cj with rfl | rfl | rfl | rfl | rfl | rfl | rfl
    · exact d50 x hx hy
    · exact d51 x hx hy
    · exact d52 x hx hy
    · exact d53 x hx hy
    · exact d54 x hx hy
    · exact hne rfl
    · exact d65 x hy hx
  · rcases cj with rfl | rfl | rfl | rfl | rfl | rfl | rfl
    · exact d60 x hx hy
    · exact d61 x hx hy
    · exact d62 x hx hy
    · exact d63 x hx hy
    · exact d64 x hx hy
    · exact d65 x hx hy
    · exact hne rfl
theorem Z7_mem {z0 z1 z2 z3 z4 z5 z6 F : List Nat} (h0 : ∀ x ∈ z0, x ∈ F) (h1 : ∀ x ∈ z1, x ∈ F) (h2 : ∀ x ∈ z2, x ∈ F) (h3 : ∀ x ∈ z3, x ∈ F) (h4 : ∀ x ∈ z4, x ∈ F) (h5 : ∀ x ∈ z5, x ∈ F) (h6 : ∀ x ∈ z6, x ∈ F) : ∀ j, j < 7 → ∀ x ∈ Z7 z0 z1 z2 z3 z4 z5 z6 j, x ∈ F := by
  intro j hj
  have cj : j = 0 ∨ j = 1 ∨ j = 2 ∨ j = 3 ∨ j = 4 ∨ j = 5 ∨ j = 6 := by omega
  rcases cj with rfl | rfl | rfl | rfl | rfl | rfl | rfl
  · exact h0
  · exact h1
  · exact h2
  · exact h3
  · exact h4
  · exact h5
  · exact h6
def X3 (x0 x1 x2 : Nat) : Nat → Nat := fun j => if j = 0 then x0 else if j = 1 then x1 else x2
