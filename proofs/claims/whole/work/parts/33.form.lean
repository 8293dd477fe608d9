/-! ===== the class's rules (4) to (7), by object numbers, are the document's ===== -/
theorem FC_ok {B : Nat → Nat} {k : Nat} (h1 : 1 ≤ k) (h2 : k ≤ nn B) (hk : kd B k ≠ 1) : FC B k = sz B k := by unfold FC; rw [if_pos ⟨h1, h2, hk⟩]
theorem FA_ok {B : Nat → Nat} {k i : Nat} (h1 : 1 ≤ k) (h2 : k ≤ nn B) (hk : kd B k ≠ 1) (hi : i < sz B k) : FA B k i = fd B k i := by unfold FA; rw [if_pos ⟨h1, h2, hk, hi⟩]
theorem CA_ok {B : Nat → Nat} {k : Nat} (h1 : 1 ≤ k) (h2 : k ≤ nn B) : CA B k = cl B k := by unfold CA; rw [if_pos ⟨h1, h2⟩]
theorem FC_pos {B : Nat → Nat} {k : Nat} (h : 0 < FC B k) : 1 ≤ k ∧ k ≤ nn B ∧ kd B k ≠ 1 ∧ FC B k = sz B k := by
  by_cases z : 1 ≤ k ∧ k ≤ nn B ∧ kd B k ≠ 1
  · exact ⟨z.1, z.2.1, z.2.2, FC_ok z.1 z.2.1 z.2.2⟩
  · unfold FC at h; rw [if_neg z] at h; omega
theorem FA_nz {B : Nat → Nat} {k i : Nat} (h : FA B k i ≠ 0) : 1 ≤ k ∧ k ≤ nn B ∧ kd B k ≠ 1 ∧ i < sz B k ∧ FA B k i = fd B k i := by
  by_cases z : 1 ≤ k ∧ k ≤ nn B ∧ kd B k ≠ 1 ∧ i < sz B k
  · exact ⟨z.1, z.2.1, z.2.2.1, z.2.2.2, FA_ok z.1 z.2.1 z.2.2.1 z.2.2.2⟩
  · unfold FA at h; rw [if_neg z] at h; exact absurd rfl h
def byt (B : Nat → Nat) (k : Nat) : Prop := 1 ≤ k ∧ k ≤ nn B ∧ kd B k = 1
def xCX (B : Nat → Nat) (k : Nat) : Prop := 1 ≤ k ∧ k ≤ nn B ∧ (cl B k = sp B 7 ∨ cl B k = sp B 8)
def xCL (B : Nat → Nat) (k : Nat) : Prop := 3 ≤ FC B k ∧ shp (FA B k 2)
def xME (B : Nat → Nat) (k : Nat) : Prop := 2 ≤ FC B k ∧ mh (FA B k 0) ∧ byt B (ob (FA B k 1))
def xPL (B : Nat → Nat) (k m : Nat) : Prop := m ≤ FC B k ∧ ¬ xCX B k
def xNC (u : Nat) : Prop := u = 0 ∨ NI u 0 1073741823
def xLK (B : Nat → Nat) (k : Nat) : Prop := (FA B k 0 = 0 ∨ xCX B (ob (FA B k 0))) ∧ xNC (FA B k 1)
def xNF (B : Nat → Nat) (k f : Nat) : Prop := ∀ i, f ≤ i → i < FC B k → FA B k i = 0
def xtm (B : Nat → Nat) (j : Nat) : Nat := FA B j 0 / 2 / 16 % 32
def xdp (B : Nat → Nat) (j : Nat) : Nat := FA B j 0 / 2 / 512 % 64
def xMC (B : Nat → Nat) (k : Nat) : Prop := xME B (ob (FA B k 3)) ∧ FC B k = 5 + (xtm B (ob (FA B k 3)) + xdp B (ob (FA B k 3))) ∧ xLK B k ∧ NI (FA B k 2) (xtm B (ob (FA B k 3))) (xtm B (ob (FA B k 3)) + xdp B (ob (FA B k 3))) ∧ xNF B k (5 + FA B k 2 / 2)
def xBC (B : Nat → Nat) (k : Nat) : Prop := (1 ≤ ob (FA B k 5) ∧ ob (FA B k 5) ≤ nn B ∧ cl B (ob (FA B k 5)) = sp B 7) ∧ 5 ≤ FC B (ob (FA B k 5)) ∧ xME B (ob (FA B (ob (FA B k 5)) 3)) ∧ FC B k = 6 + xdp B (ob (FA B (ob (FA B k 5)) 3)) ∧ xLK B k ∧ NI (FA B k 2) 0 (xdp B (ob (FA B (ob (FA B k 5)) 3))) ∧ NI (FA B k 3) 0 15 ∧ xNC (FA B k 4) ∧ xNF B k (6 + FA B k 2 / 2)
def xFT (B : Nat → Nat) (k : Nat) : Prop := xCL B (ob (CA B k)) ∧ ((2048 ≤ FA B (ob (CA B k)) 2 / 2 ∧ byt B k) ∨ (FA B (ob (CA B k)) 2 / 2 < 2048 ∧ ¬ byt B k ∧ (FC B k = FA B (ob (CA B k)) 2 / 2 % 256 ∨ (FA B (ob (CA B k)) 2 / 2 % 256 < FC B k ∧ FA B (ob (CA B k)) 2 / 2 / 1024 % 2 = 1))))
theorem ob_1 {u : Nat} : ob u ≠ 0 ↔ 1 ≤ ob u := by omega
theorem xHF {B : Nat → Nat} {u m : Nat} (hv : vl (nn B) u) (hm : 1 ≤ m) : m ≤ FC B (ob u) ↔ HF B u m := by
  have hl := ob_le hv
  constructor
  · intro h
    obtain ⟨a, b, c, d⟩ := FC_pos (show 0 < FC B (ob u) by omega)
    exact ⟨by omega, c, by omega⟩
  · intro h
    rw [FC_ok (by have := h.1; omega) hl h.2.1]
    exact h.2.2
theorem xFA {B : Nat → Nat} {u m i : Nat} (hv : vl (nn B) u) (h : HF B u m) (hi : i < m) : FA B (ob u) i = fd B (ob u) i := FA_ok (by have := h.1; omega) (ob_le hv) h.2.1 (by have := h.2.2; omega)
theorem xCX_iff {B : Nat → Nat} {u : Nat} (hv : vl (nn B) u) : xCX B (ob u) ↔ CX B u := by
  have hl := ob_le hv
  unfold xCX CX
  constructor
  · intro h; exact ⟨by omega, h.2.2⟩
  · intro h; exact ⟨by have := h.1; omega, hl, h.2⟩
theorem xCL_iff {B : Nat → Nat} {u : Nat} (hv : vl (nn B) u) : xCL B (ob u) ↔ CL B u := by
  unfold xCL CL
  rw [xHF hv (by decide)]
  constructor
  · intro h; exact ⟨h.1, by rw [← xFA hv h.1 (by decide)]; exact h.2⟩
  · intro h; exact ⟨h.1, by rw [xFA hv h.1 (by decide)]; exact h.2⟩
theorem byt_iff {B : Nat → Nat} {u : Nat} (hv : vl (nn B) u) : byt B (ob u) ↔ ob u ≠ 0 ∧ kd B (ob u) = 1 := by
  have hl := ob_le hv
  unfold byt
  constructor
  · intro h; exact ⟨by omega, h.2.2⟩
  · intro h; exact ⟨by have := h.1; omega, hl, h.2⟩
theorem xME_iff {B : Nat → Nat} (L : LX B) {u : Nat} (hv : vl (nn B) u) : xME B (ob u) ↔ ME B u := by
  unfold xME ME
  rw [xHF hv (by decide), byt_iff (L.fa _ _)]
  constructor
  · intro h
    have e0 := xFA hv h.1 (show 0 < 2 by decide)
    have e1 := xFA hv h.1 (show 1 < 2 by decide)
    rw [e0, e1] at h
    exact h
  · intro h
    have e0 := xFA hv h.1 (show 0 < 2 by decide)
    have e1 := xFA hv h.1 (show 1 < 2 by decide)
    rw [e0, e1]
    exact h
theorem xPL_iff {B : Nat → Nat} {u m : Nat} (hv : vl (nn B) u) (hm : 1 ≤ m) : xPL B (ob u) m ↔ PL B u m := by
  unfold xPL PL
  rw [xHF hv hm, xCX_iff hv]
theorem xtm_eq {B : Nat → Nat} (L : LX B) {u : Nat} (hv : vl (nn B) u) (h : ME B u) : xtm B (ob u) = tm B u ∧ xdp B (ob u) = dp B u := by
  have e0 := xFA hv h.1 (show 0 < 2 by decide)
  unfold xtm xdp tm dp
  rw [e0]
  exact ⟨rfl, rfl⟩
theorem xCO_iff {B : Nat → Nat} (L : LX B) {k f : Nat} (h1 : 1 ≤ k) (h2 : k ≤ nn B) (hk : kd B k ≠ 1) (hs : 2 ≤ sz B k) : (xLK B k ∧ xNF B k f) ↔ CO B k f := by
  unfold xLK xNF CO xNC
  rw [FA_ok h1 h2 hk (show 0 < sz B k by omega), FA_ok h1 h2 hk (show 1 < sz B k by omega), FC_ok h1 h2 hk, xCX_iff ((L.2.2 k h1 h2).2.2 (by have := L.k2 h1 h2; omega) 0 (by omega))]
  constructor
  · intro h; exact ⟨h.1.1, h.1.2, fun i a b => by rw [← FA_ok h1 h2 hk b]; exact h.2 i a b⟩
  · intro h; exact ⟨⟨h.1, h.2.1⟩, fun i a b => by rw [FA_ok h1 h2 hk b]; exact h.2.2 i a b⟩
theorem xMC_iff {B : Nat → Nat} (L : LX B) {k : Nat} (h1 : 1 ≤ k) (h2 : k ≤ nn B) : xMC B k ↔ MC B k := by
  unfold xMC MC
  rw [xME_iff L (L.fa k 3)]
  constructor
  · rintro ⟨a, b, c, d, e⟩
    have p : 0 < FC B k := by omega
    obtain ⟨_, _, hk, q⟩ := FC_pos p
    have e3 : FA B k 3 = fd B k 3 := FA_ok h1 h2 hk (by omega)
    have e2 : FA B k 2 = fd B k 2 := FA_ok h1 h2 hk (by omega)
    obtain ⟨t1, t2⟩ := xtm_eq L (L.fa k 3) a
    rw [t1, t2] at b d
    rw [e3] at a b d
    rw [e2] at d e
    exact ⟨hk, by omega, a, by omega, d, (xCO_iff L h1 h2 hk (by omega)).mp ⟨c, e⟩⟩
  · rintro ⟨hk, b, c, d, e, f⟩
    have e3 : FA B k 3 = fd B k 3 := FA_ok h1 h2 hk (by omega)
    have e2 : FA B k 2 = fd B k 2 := FA_ok h1 h2 hk (by omega)
    have c' : ME B (FA B k 3) := by rw [e3]; exact c
    obtain ⟨t1, t2⟩ := xtm_eq L (L.fa k 3) c'
    obtain ⟨g1, g2⟩ := (xCO_iff L h1 h2 hk (by omega)).mpr f
    rw [t1, t2, e3, e2, FC_ok h1 h2 hk]
    exact ⟨c, by omega, g1, e, g2⟩
theorem xBC_iff {B : Nat → Nat} (L : LX B) {k : Nat} (h1 : 1 ≤ k) (h2 : k ≤ nn B) : xBC B k ↔ BC B k := by
  unfold xBC BC
  rw [xME_iff L (L.fa _ 3), xHF (L.fa k 5) (by decide)]
  constructor
  · rintro ⟨z, a1, a, b, c, d, d2, d3, e⟩
    have p : 0 < FC B k := by omega
    obtain ⟨_, _, hk, q⟩ := FC_pos p
    have e5 : FA B k 5 = fd B k 5 := FA_ok h1 h2 hk (by omega)
    have e4 : FA B k 4 = fd B k 4 := FA_ok h1 h2 hk (by omega)
    have e3 : FA B k 3 = fd B k 3 := FA_ok h1 h2 hk (by omega)
    have e2 : FA B k 2 = fd B k 2 := FA_ok h1 h2 hk (by omega)
    have eh := xFA (i := 3) (L.fa k 5) a1 (by decide)
    obtain ⟨t1, t2⟩ := xtm_eq L (L.fa (ob (FA B k 5)) 3) a
    rw [t2] at b d
    rw [eh] at a b d
    rw [e5] at a b d a1 z
    rw [e2] at d e
    rw [e3] at d2
    rw [e4] at d3
    exact ⟨hk, by omega, a1, z.2.2, a, by omega, d, d2, d3, (xCO_iff L h1 h2 hk (by omega)).mp ⟨c, e⟩⟩
  · rintro ⟨hk, b, a1, z, a, s, d, d2, d3, f⟩
    have e5 : FA B k 5 = fd B k 5 := FA_ok h1 h2 hk (by omega)
    have e4 : FA B k 4 = fd B k 4 := FA_ok h1 h2 hk (by omega)
    have e3 : FA B k 3 = fd B k 3 := FA_ok h1 h2 hk (by omega)
    have e2 : FA B k 2 = fd B k 2 := FA_ok h1 h2 hk (by omega)
    have a1' : HF B (FA B k 5) 5 := by rw [e5]; exact a1
    have eh := xFA (i := 3) (L.fa k 5) a1' (by decide)
    have a' : ME B (FA B (ob (FA B k 5)) 3) := by rw [eh, e5]; exact a
    obtain ⟨t1, t2⟩ := xtm_eq L (L.fa (ob (FA B k 5)) 3) a'
    obtain ⟨g1, g2⟩ := (xCO_iff L h1 h2 hk (by omega)).mpr f
    have hl := ob_le (L.fa k 5)
    rw [e5] at hl
    rw [t2, eh, e5, e4, e3, e2, FC_ok h1 h2 hk]
    exact ⟨⟨by have := a1.1; omega, hl, z⟩, a1, a, s, g1, d, d2, d3, g2⟩
theorem xRO_iff {B : Nat → Nat} (L : LX B) {k : Nat} (h1 : 1 ≤ k) (h2 : k ≤ nn B) : (xFT B k ∧ (cl B k = sp B 7 → xMC B k) ∧ (cl B k = sp B 8 → xBC B k)) ↔ RO B k := by
  unfold xFT RO
  rw [xCL_iff (L.ca k), CA_ok h1 h2, xMC_iff L h1 h2, xBC_iff L h1 h2]
  have k2 := L.k2 h1 h2
  have hv := (L.2.2 k h1 h2).1
  have hb : byt B k ↔ kd B k = 1 := ⟨fun z => z.2.2, fun z => ⟨h1, h2, z⟩⟩
  constructor
  · rintro ⟨⟨a, b⟩, c, d⟩
    have e := xFA (i := 2) hv a.1 (by decide)
    rw [e] at b
    rw [hb] at b
    refine ⟨a, ?_, ?_, c, d⟩
    · unfold shF; omega
    · unfold shF
      rcases b with b | b
      · exact Or.inl b.1
      · rw [FC_ok h1 h2 (by omega)] at b
        omega
  · rintro ⟨a, b, b2, c, d⟩
    have e := xFA (i := 2) hv a.1 (by decide)
    rw [e, hb]
    refine ⟨⟨a, ?_⟩, c, d⟩
    unfold shF at b b2
    by_cases z : kd B k = 1
    · exact Or.inl ⟨by omega, z⟩
    · rw [FC_ok h1 h2 z]
      refine Or.inr ⟨by omega, z, ?_⟩
      omega
/-- a number's bits -/
def su (u : Nat) : Nat := if u < 2147483648 then u / 2 else u / 2 + 2147483648
theorem su_lt {u : Nat} (h : u < 4294967296) : su u < 4294967296 := by unfold su; split <;> omega
theorem shr_su {u : Nat} (h : u < 4294967296) : nI u >>> (nI 1 &&& 31) = nI (su u) := by
  apply Int32.toInt_inj.mp
  rw [w_shr1 h, nI_i32 (su_lt h)]
  unfold su
  by_cases z : u < 2147483648
  · simp only [if_pos z]
    rw [if_pos (by omega)]
    omega
  · simp only [if_neg z]
    rw [if_neg (by omega)]
    omega
theorem and_2048 : ∀ s, s < 4096 → (nI s &&& nI 2048 = 0 ↔ s < 2048) := by
  intro s hs
  have q : ∀ a, a < 64 → ∀ b, b < 64 → (nI (64 * a + b) &&& nI 2048 = 0 ↔ (64 * a + b) < 2048) := by decide +kernel
  have r := q (s / 64) (by omega) (s % 64) (by omega)
  rw [show 64 * (s / 64) + s % 64 = s by omega] at r
  exact r
theorem and_1024e : ∀ s, s < 4096 → (nI s &&& nI 1024 = 0 ↔ s / 1024 % 2 = 0) := by
  intro s hs
  have q : ∀ a, a < 64 → ∀ b, b < 64 → (nI (64 * a + b) &&& nI 1024 = 0 ↔ (64 * a + b) / 1024 % 2 = 0) := by decide +kernel
  have r := q (s / 64) (by omega) (s % 64) (by omega)
  rw [show 64 * (s / 64) + s % 64 = s by omega] at r
  exact r
theorem and_1280 : ∀ s, s < 2048 → (nI s &&& (-1280) = 0 ↔ s / 256 % 4 = 0) := by
  intro s hs
  have q : ∀ a, a < 32 → ∀ b, b < 64 → (nI (64 * a + b) &&& (-1280) = 0 ↔ (64 * a + b) / 256 % 4 = 0) := by decide +kernel
  have r := q (s / 64) (by omega) (s % 64) (by omega)
  rw [show 64 * (s / 64) + s % 64 = s by omega] at r
  exact r
theorem and_1280b {s : Nat} (h : 4096 ≤ s) (h2 : s < 4294967296) : ¬ nI s &&& (-1280) = 0 := by
  rw [show (-1280 : Int32) = nI 4294966016 from by decide, nI_andd, w_eq0 (Nat.lt_of_le_of_lt Nat.and_le_right (by decide))]
  intro z
  have e : (s &&& 4294966016) >>> 12 = s / 4096 := by
    rw [Nat.shiftRight_and_distrib, show (4294966016 : Nat) >>> 12 = 2 ^ 20 - 1 by decide, Nat.and_two_pow_sub_one_eq_mod, Nat.shiftRight_eq_div_pow]
    omega
  rw [z] at e
  have : (0 : Nat) >>> 12 = 0 := by decide
  omega
theorem shp_0 {u : Nat} (h : u < 4294967296) (ho : u % 2 = 1) (hz : nI (su u) &&& nI 2048 = 0) : nI (su u) &&& (-1280) = 0 ↔ shp u := by
  unfold shp
  by_cases z : su u < 4096
  · have a := (and_2048 _ z).mp hz
    rw [and_1280 _ a]
    unfold su at *
    split at z <;> rename_i y
    · rw [if_pos y] at a ⊢; omega
    · omega
  · constructor
    · intro q; exact absurd q (and_1280b (by omega) (su_lt h))
    · intro q
      unfold su at z
      rw [if_pos q.2.1] at z
      omega
theorem shp_1 {u : Nat} (h : u < 4294967296) (ho : u % 2 = 1) (hz : ¬ nI (su u) &&& nI 2048 = 0) : nI (su u) = nI 3072 ↔ shp u := by
  unfold shp
  rw [w_eq (su_lt h) (by decide)]
  by_cases z : su u < 4096
  · have a : ¬ su u < 2048 := fun y => hz ((and_2048 _ z).mpr y)
    unfold su at *
    split at z <;> rename_i y
    · rw [if_pos y] at a ⊢; omega
    · omega
  · constructor
    · intro q; omega
    · intro q
      unfold su at z
      rw [if_pos q.2.1] at z
      omega
theorem shl1 : ∀ p, p < 31 → nI 1 <<< (nI p &&& 31) = nI (2 ^ p) := by decide +kernel
