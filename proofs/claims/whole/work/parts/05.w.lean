theorem nI_i32 {u : Nat} (h : u < 4294967296) : (nI u).toInt = if u < 2147483648 then (u : Int) else (u : Int) - 4294967296 := by
  show (Int32.ofNat u).toInt = _
  split
  · exact nI_toInt (by omega)
  · rw [Int32.toInt_ofNat']
    have : Int32.size = 4294967296 := rfl
    rw [Int.bmod_def, this]
    omega
theorem w_le {u : Nat} (h : u < 4294967296) : nI u ≤ 0 ↔ u = 0 ∨ 2147483648 ≤ u := by
  rw [Int32.le_iff_toInt_le, nI_i32 h, Int32.toInt_zero]
  split <;> omega
theorem w_eq {u v : Nat} (h : u < 4294967296) (h2 : v < 4294967296) : nI u = nI v ↔ u = v := by
  constructor
  · intro q
    have a := pk_tn h
    rw [q, pk_tn h2] at a
    exact a.symm
  · intro q; rw [q]
theorem w_eq0 {u : Nat} (h : u < 4294967296) : nI u = 0 ↔ u = 0 := w_eq (v := 0) h (by decide)
/-- numbers: shifted by one, and compared -/
theorem w_shr1 {u : Nat} (h : u < 4294967296) : (nI u >>> (nI 1 &&& 31)).toInt = if u < 2147483648 then (u : Int) / 2 else ((u : Int) - 4294967296) / 2 := by
  rw [pk_shr _ _ 1 (by decide), nI_i32 h, Int.shiftRight_eq_div_pow]
  split <;> rfl
theorem w_geL {u l : Nat} (h : u < 4294967296) (hl : l < 2147483648) : nI u >>> (nI 1 &&& 31) < nI l ↔ 2147483648 ≤ u ∨ u / 2 < l := by
  rw [Int32.lt_iff_toInt_lt, w_shr1 h, nI_toInt hl]
  split <;> omega
theorem w_leH {u l : Nat} (h : u < 4294967296) (hl : l < 2147483648) : nI l < nI u >>> (nI 1 &&& 31) ↔ u < 2147483648 ∧ l < u / 2 := by
  rw [Int32.lt_iff_toInt_lt, w_shr1 h, nI_toInt hl]
  split <;> omega
theorem w_shr1N {u : Nat} (h : u < 2147483648) : nI u >>> (nI 1 &&& 31) = nI (u / 2) := pk_shrN (by omega) _ 1 (by decide)
theorem w_lt0 {u : Nat} (h : u < 4294967296) : nI u >>> (nI 1 &&& 31) < 0 ↔ 2147483648 ≤ u := by
  rw [Int32.lt_iff_toInt_lt, w_shr1 h, Int32.toInt_zero]
  split <;> omega
theorem and_768 : ∀ s, s < 4096 → (nI s &&& nI 768 = 0 ↔ s / 256 % 4 = 0) := by
  intro s hs
  have q : ∀ a, a < 64 → ∀ b, b < 64 → (nI (64 * a + b) &&& nI 768 = 0 ↔ (64 * a + b) / 256 % 4 = 0) := by decide +kernel
  have r := q (s / 64) (by omega) (s % 64) (by omega)
  rw [show 64 * (s / 64) + s % 64 = s by omega] at r
  exact r
theorem and_1024 : ∀ s, s < 4096 → (nI s &&& nI 1024 ≤ 0 ↔ s / 1024 % 2 = 0) := by
  intro s hs
  have q : ∀ a, a < 64 → ∀ b, b < 64 → (nI (64 * a + b) &&& nI 1024 ≤ 0 ↔ (64 * a + b) / 1024 % 2 = 0) := by decide +kernel
  have r := q (s / 64) (by omega) (s % 64) (by omega)
  rw [show 64 * (s / 64) + s % 64 = s by omega] at r
  exact r
theorem and_1024g : ∀ s, s < 4096 → (0 < nI s &&& nI 1024 ↔ s / 1024 % 2 = 1) := by
  intro s hs
  have q : ∀ a, a < 64 → ∀ b, b < 64 → (0 < nI (64 * a + b) &&& nI 1024 ↔ (64 * a + b) / 1024 % 2 = 1) := by decide +kernel
  have r := q (s / 64) (by omega) (s % 64) (by omega)
  rw [show 64 * (s / 64) + s % 64 = s by omega] at r
  exact r
