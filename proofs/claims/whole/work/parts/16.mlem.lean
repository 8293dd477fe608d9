theorem orE_l {a b : Option Nat} (h : a ≠ none) : orE a b = a := by
  cases a with
  | none => exact absurd rfl h
  | some p => rfl
theorem orE_r {a b : Option Nat} (h : a = none) : orE a b = b := by rw [h]; rfl
theorem orE_none {a b : Option Nat} (h : orE a b = none) : a = none ∧ b = none := by
  cases a with
  | none => exact ⟨rfl, h⟩
  | some p => cases h
theorem orE_some {a b : Option Nat} {p : Nat} (h : orE a b = some p) : a = some p ∨ b = some p := by
  cases a with
  | none => exact Or.inr h
  | some q => exact Or.inl h
theorem plH_none {B : Nat → Nat} {c : Nat} (h : plH B c = none) : (∀ i, i < 8 → i < c ∧ hdr i (B i)) ∧ 1 ≤ nn B ∧ nn B ≤ 8191 := by
  unfold plH at h
  cases q : ffst (fun i => i < c ∧ hdr i (B i)) (fun i => i) 8 0 with
  | some p => rw [q] at h; cases h
  | none =>
    rw [q] at h
    refine ⟨fun i hi => ffst_none q i (by omega) (by omega), ?_⟩
    by_cases z : nn B < 1 ∨ 8191 < nn B
    · replace h : (if nn B < 1 ∨ 8191 < nn B then some 6 else none) = _ := h
      rw [if_pos z] at h
      cases h
    · omega
theorem plH_lt {B : Nat → Nat} {c p : Nat} (h : plH B c = some p) : p < 8 := by
  unfold plH at h
  cases q : ffst (fun i => i < c ∧ hdr i (B i)) (fun i => i) 8 0 with
  | some r =>
    rw [q] at h
    obtain ⟨j, h1, h2, h3⟩ := ffst_some q
    have h4 := Option.some.inj h
    omega
  | none =>
    rw [q] at h
    by_cases z : nn B < 1 ∨ 8191 < nn B
    · replace h : (if nn B < 1 ∨ 8191 < nn B then some 6 else none) = _ := h
      rw [if_pos z] at h
      have h4 := Option.some.inj h
      omega
    · replace h : (if nn B < 1 ∨ 8191 < nn B then some 6 else none) = _ := h
      rw [if_neg z] at h
      cases h
/-- what an object that isn't refused is -/
def good (B : Nat → Nat) (c a : Nat) : Prop := vl (nn B) (bw B a) ∧ B (a + 4) ≤ 1 ∧ a + 7 + bl B a ≤ c ∧ (B (a + 4) = 0 → ∀ i, i < bh B (a + 5) → vl (nn B) (bw B (a + 7 + 4 * i)))
theorem plO1_none {B : Nat → Nat} {c a : Nat} (h : plO1 B c a = none) : good B c a := by
  by_cases h1 : vok B c a
  · by_cases h2 : a + 5 ≤ c ∧ B (a + 4) ≤ 1
    · by_cases h3 : a + 7 ≤ c
      · by_cases h4 : B (a + 4) = 1
        · rw [plO1_d h1 h3 h4] at h
          by_cases h5 : a + 7 + bh B (a + 5) ≤ c
          · exact ⟨h1.2, h2.2, by rw [bl_1 h4]; exact h5, fun z => by omega⟩
          · rw [if_neg h5] at h; cases h
        · rw [plO1_e h1 h2.2 h3 h4] at h
          exact ⟨h1.2, h2.2, by rw [bl_0 h4]; exact plF_fit h h3, fun _ i hi => (ffst_none (P := fun i => vok B c (a + 7 + 4 * i)) h i (by omega) (by omega)).2⟩
      · rw [plO1_c h1 h2 h3] at h; cases h
    · rw [plO1_b h1 h2] at h; cases h
  · rw [plO1_a h1] at h; cases h
theorem plO1_lt {B : Nat → Nat} (hB : ∀ i, B i < 256) {c a p : Nat} (h : plO1 B c a = some p) : p ≤ a + 262147 := by
  have hb := bh_lt hB (a + 5)
  by_cases h1 : vok B c a
  · by_cases h2 : a + 5 ≤ c ∧ B (a + 4) ≤ 1
    · by_cases h3 : a + 7 ≤ c
      · by_cases h4 : B (a + 4) = 1
        · rw [plO1_d h1 h3 h4] at h
          by_cases h5 : a + 7 + bh B (a + 5) ≤ c
          · rw [if_pos h5] at h; cases h
          · rw [if_neg h5] at h
            have := Option.some.inj h
            omega
        · rw [plO1_e h1 h2.2 h3 h4] at h
          obtain ⟨j, j1, j2, j3⟩ := ffst_some h
          omega
      · rw [plO1_c h1 h2 h3] at h
        have := Option.some.inj h
        omega
    · rw [plO1_b h1 h2] at h
      have := Option.some.inj h
      omega
  · rw [plO1_a h1] at h
    have := Option.some.inj h
    omega
theorem plO_lt {B : Nat → Nat} (hB : ∀ i, B i < 256) {c : Nat} : ∀ {f a p : Nat}, a ≤ c → plO B c f a = some p → p ≤ c + 262147
  | 0, a, p, ha, h => by
    rw [plO] at h
    by_cases z : a < c
    · rw [if_pos z] at h
      have := Option.some.inj h
      omega
    · rw [if_neg z] at h; cases h
  | f + 1, a, p, ha, h => by
    cases q : plO1 B c a with
    | some r =>
      rw [plO_some q] at h
      have h1 := plO1_lt hB q
      have h2 := Option.some.inj h
      omega
    | none =>
      rw [plO_none q] at h
      exact plO_lt hB (plO1_none q).2.2.1 h
theorem plO_all {B : Nat → Nat} {c : Nat} : ∀ {f k : Nat}, 1 ≤ k → 208 ≤ oa B k → oa B k ≤ c → plO B c f (oa B k) = none → (∀ j, k ≤ j → j < k + f → good B c (oa B j) ∧ 208 ≤ oa B j) ∧ oa B (k + f) = c
  | 0, k, h1, h2, h3, h => by
    refine ⟨fun j a b => by omega, ?_⟩
    rw [plO] at h
    by_cases z : oa B k < c
    · rw [if_pos z] at h; cases h
    · show oa B k = c
      omega
  | f + 1, k, h1, h2, h3, h => by
    cases q : plO1 B c (oa B k) with
    | some r => rw [plO_some q] at h; cases h
    | none =>
      have g := plO1_none q
      rw [plO_none q, ← oa_s B h1] at h
      have h4 := g.2.2.1
      rw [← oa_s B h1] at h4
      have h5 : 208 ≤ oa B (k + 1) := by rw [oa_s B h1]; omega
      obtain ⟨r1, r2⟩ := plO_all (by omega) h5 h4 h
      refine ⟨fun j a b => ?_, by rw [← r2]; congr 1; omega⟩
      by_cases z : j = k
      · rw [z]; exact ⟨g, h2⟩
      · exact r1 j (by omega) (by omega)
theorem laid_of {B : Nat → Nat} {c : Nat} (hc : c ≤ 65536) (h1 : plH B c = none) (h2 : plS B c = none) (h3 : plO B c (nn B) 208 = none) : laid B c (nn B) ∧ oa B (nn B + 1) = c := by
  have a1 := plH_none h1
  have a2 : ∀ k, k < 50 → vok B c (8 + 4 * k) := fun k hk => ffst_none (P := fun k => vok B c (8 + 4 * k)) h2 k (by omega) (by omega)
  have c1 : 208 ≤ c := by
    have := (a2 49 (by decide)).1
    omega
  obtain ⟨a3, a4⟩ := plO_all (k := 1) (Nat.le_refl 1) (Nat.le_refl 208) c1 h3
  refine ⟨⟨c1, hc, a1.2.1, a1.2.2, fun k hk => (a2 k hk).2, fun k k1 k2 => ?_⟩, by rw [← a4]; congr 1; omega⟩
  obtain ⟨g, g2⟩ := a3 k k1 (by omega)
  exact ⟨g.1, g.2.1, g2, g.2.2.1, g.2.2.2⟩
theorem plS_lt {B : Nat → Nat} {c p : Nat} (h : plS B c = some p) : p < 208 := by
  obtain ⟨j, h1, h2, h3⟩ := ffst_some h
  omega
theorem plS_c {B : Nat → Nat} {c : Nat} (h : plS B c = none) : 208 ≤ c := by
  have := (ffst_none (P := fun k => vok B c (8 + 4 * k)) h 49 (by omega) (by omega)).1
  omega
theorem plV_lt {B : Nat → Nat} (hB : ∀ i, B i < 256) {c p : Nat} (hc : c ≤ 65536) (h : orE (plS B c) (plO B c (nn B) 208) = some p) : p < 2 ^ 31 := by
  cases q : plS B c with
  | some r => rw [q] at h; have h1 := plS_lt q; have h2 := Option.some.inj h; omega
  | none =>
    rw [q] at h
    have := plO_lt hB (plS_c q) (show plO B c (nn B) 208 = some p from h)
    omega
theorem plR_lt {B : Nat → Nat} {p : Nat} (h : plR B = some p) : p < 2 ^ 31 := by
  unfold plR at h
  split at h
  · have := Option.some.inj h; omega
  · split at h
    · have := Option.some.inj h; omega
    · cases h
theorem plP_lt {B : Nat → Nat} {p : Nat} (h : plP B = some p) : p < 2 ^ 31 := by
  obtain ⟨j, h1, h2, h3⟩ := ffst_some h
  omega
theorem plB_lt {B : Nat → Nat} {c p : Nat} (hl : laid B c (nn B)) (h : plB B = some p) : p < 2 ^ 31 := by
  obtain ⟨j, h1, h2, h3⟩ := ffst_some h
  have a := (hl.2.2.2.2.2 j h1 (by omega)).2.2.2.1
  have b := hl.2.1
  omega
theorem plQ_lt {B : Nat → Nat} {p : Nat} (h : plQ B = some p) : p < 2 ^ 31 := by
  unfold plQ at h
  split at h
  · cases h
  · have := Option.some.inj h; omega
theorem plP_14 {B : Nat → Nat} (h : plP B = none) : HF B (sp B 14) 2 := ((ffst_none h 14 (by omega) (by omega)).2.2.2 rfl).1
