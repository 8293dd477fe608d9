/-! ===== numbers, bytes, booleans, places ===== -/
theorem av_apart {h : AH} {a b : Nat} {x : Nat × vp_A} {y : Nat × List Value} (h1 : h a = some (.inl x)) (h2 : h b = some (.inr y)) : a ≠ b := fun z => by
  rw [z, h2] at h1
  cases h1
theorem av_apart' {h : AH} {a b : Nat} {x : Nat × vp_A} {y : Nat × List Value} (h2 : h b = some (.inr y)) (h1 : h a = some (.inl x)) : b ≠ a := fun z => av_apart h1 h2 z.symm
/-- a truth as javac spells it -/
noncomputable def bP (P : Prop) : Int32 := @ite Int32 P (Classical.propDecidable P) 1 0
theorem bP_t {P : Prop} (h : P) : bP P = nI 1 := by unfold bP; rw [if_pos h]; rfl
theorem bP_f {P : Prop} (h : ¬ P) : bP P = nI 0 := by unfold bP; rw [if_neg h]; rfl
theorem bP_eq0 {P : Prop} : bP P = 0 ↔ ¬ P := by
  by_cases h : P
  · rw [bP_t h]; exact ⟨fun q => absurd q (by decide), fun q => absurd h q⟩
  · rw [bP_f h]; exact ⟨fun _ => h, fun _ => rfl⟩
theorem bP_nar (P : Prop) : narrow .boolean (.int (bP P)) = .int (bP P) := by
  by_cases h : P
  · rw [bP_t h]; rfl
  · rw [bP_f h]; rfl
theorem bP_congr {P Q : Prop} (h : P ↔ Q) : bP P = bP Q := by rw [propext h]
theorem nar1 : narrow .boolean (.int (nI 1)) = .int (nI 1) := rfl
theorem nar0 : narrow .boolean (.int (nI 0)) = .int (nI 0) := rfl
theorem rt_t {P : Prop} {h : AH} (q : P) : av_Pi (bP P) h (some (.int (nI 1))) h := ⟨by rw [bP_t q], rfl⟩
theorem rt_f {P : Prop} {h : AH} (q : ¬ P) : av_Pi (bP P) h (some (.int (nI 0))) h := ⟨by rw [bP_f q], rfl⟩
theorem rt_b {P Q : Prop} {h : AH} (q : P ↔ Q) : av_Pi (bP Q) h (some (.int (bP P))) h := ⟨by rw [bP_congr q], rfl⟩
theorem rt_i {x y : Int32} {h : AH} (q : x = y) : av_Pi y h (some (.int x)) h := ⟨by rw [q], rfl⟩
/-- a place, or NONE -/
def pI (o : Option Nat) : Int32 := match o with
  | none => -1
  | some p => nI p
theorem nI_m1 {n : Nat} (h : n < 2 ^ 31) : ¬ nI n = -1 := fun q => by
  have a := nI_toInt h
  rw [q] at a
  have b : ((-1 : Int32)).toInt = -1 := by decide
  omega
theorem pI_m1 {o : Option Nat} (h : ∀ p, o = some p → p < 2 ^ 31) : pI o = (-1) ↔ o = none := by
  cases o with
  | none => exact ⟨fun _ => rfl, fun _ => rfl⟩
  | some p => exact ⟨fun q => absurd q (nI_m1 (h p rfl)), fun q => by cases q⟩
theorem z_eq {n : Nat} (h : n < 2 ^ 31) : nI n = 0 ↔ n = 0 := by
  show nI n = nI 0 ↔ _
  exact nI_eq h (by decide)
theorem z_lt {n : Nat} (h : n < 2 ^ 31) : nI n < 0 ↔ False := ⟨fun q => absurd q (nI_pos h), fun q => q.elim⟩
theorem z_ge {n : Nat} (h : n < 2 ^ 31) : 0 ≤ nI n ↔ True := ⟨fun _ => trivial, fun _ => nI_pos' h⟩
theorem z_gt {n : Nat} (h : n < 2 ^ 31) : 0 < nI n ↔ 0 < n := by
  show nI 0 < nI n ↔ _
  exact nI_ltI (by decide) h
theorem z_le {n : Nat} (h : n < 2 ^ 31) : nI n ≤ 0 ↔ n = 0 := by
  show nI n ≤ nI 0 ↔ _
  rw [nI_leI h (by decide)]
  omega
theorem nI_orr (a b : Nat) : nI a ||| nI b = nI (a ||| b) := by
  apply Int32.toBitVec_inj.1
  show BitVec.ofNat 32 a ||| BitVec.ofNat 32 b = BitVec.ofNat 32 (a ||| b)
  apply BitVec.eq_of_getLsbD_eq
  intro i hi
  simp [hi]
theorem nI_andd (a b : Nat) : nI a &&& nI b = nI (a &&& b) := by
  apply Int32.toBitVec_inj.1
  show BitVec.ofNat 32 a &&& BitVec.ofNat 32 b = BitVec.ofNat 32 (a &&& b)
  apply BitVec.eq_of_getLsbD_eq
  intro i hi
  simp [hi]
theorem or_add (k : Nat) {u v : Nat} (hu : u % 2 ^ k = 0) (hv : v < 2 ^ k) : u ||| v = u + v := by
  have e : u = 2 ^ k * (u / 2 ^ k) := by
    have := Nat.div_add_mod u (2 ^ k)
    omega
  rw [e, ← Nat.two_pow_add_eq_or_of_lt hv]
theorem or_8 {u v : Nat} (hu : u % 256 = 0) (hv : v < 256) : nI u ||| nI v = nI (u + v) := by rw [nI_orr, or_add 8 hu hv]
theorem or_16 {u v : Nat} (hu : u % 65536 = 0) (hv : v < 65536) : nI u ||| nI v = nI (u + v) := by rw [nI_orr, or_add 16 hu hv]
theorem or_24 {u v : Nat} (hu : u % 16777216 = 0) (hv : v < 16777216) : nI u ||| nI v = nI (u + v) := by rw [nI_orr, or_add 24 hu hv]
theorem shl_8 {n : Nat} (h : n < 16777216) : nI n <<< (nI 8 &&& 31) = nI (n * 256) := pk_shlN _ 8 (by decide) (by omega)
theorem shl_16 {n : Nat} (h : n < 65536) : nI n <<< (nI 16 &&& 31) = nI (n * 65536) := pk_shlN _ 16 (by decide) (by omega)
theorem shl_24 {n : Nat} (h : n < 256) : nI n <<< (nI 24 &&& 31) = nI (n * 16777216) := pk_shlN _ 24 (by decide) (by omega)
/-- an int's low bits; halves; parity: of an int that is u as an unsigned number -/
theorem nI_mod (u : Nat) : nI u = nI (u % 4294967296) := by
  apply Int32.toBitVec_inj.1
  show BitVec.ofNat 32 u = BitVec.ofNat 32 (u % 4294967296)
  apply BitVec.eq_of_toNat_eq
  simp
theorem and_1 (u : Nat) : nI u &&& nI 1 = nI (u % 2) := by rw [nI_andd, Nat.and_one_is_mod]
theorem and_255 (u : Nat) : nI u &&& nI 255 = nI (u % 256) := by rw [nI_andd, show (255 : Nat) = 2 ^ 8 - 1 from rfl, Nat.and_two_pow_sub_one_eq_mod]
theorem and_31 (u : Nat) : nI u &&& nI 31 = nI (u % 32) := by rw [nI_andd, show (31 : Nat) = 2 ^ 5 - 1 from rfl, Nat.and_two_pow_sub_one_eq_mod]
theorem and_63 (u : Nat) : nI u &&& nI 63 = nI (u % 64) := by rw [nI_andd, show (63 : Nat) = 2 ^ 6 - 1 from rfl, Nat.and_two_pow_sub_one_eq_mod]
theorem and_15 (u : Nat) : nI u &&& nI 15 = nI (u % 16) := by rw [nI_andd, show (15 : Nat) = 2 ^ 4 - 1 from rfl, Nat.and_two_pow_sub_one_eq_mod]
/-- a byte as an array keeps it -/
def bs (b : Nat) : Int32 := (nI b).toInt8.toInt32
def bsf (B : Nat → Nat) : Nat → Int32 := fun i => bs (B i)
theorem bs_and {b : Nat} (h : b < 256) : bs b &&& nI 255 = nI b := (by decide +kernel : ∀ b, b < 256 → bs b &&& nI 255 = nI b) b h
theorem bs_inj : ∀ b, b < 256 → ∀ c, c < 2 → (bs b = nI c ↔ b = c) := by decide +kernel
theorem bs_toInt8 (x : Int32) : x.toInt8.toInt32 = bs (x.toBitVec.toNat % 256) := by
  unfold bs
  congr 1
  apply Int8.toBitVec_inj.mp
  rw [Int32.toBitVec_toInt8, Int32.toBitVec_toInt8]
  rw [BitVec.signExtend_eq_setWidth_of_le _ (by decide), BitVec.signExtend_eq_setWidth_of_le _ (by decide)]
  apply BitVec.eq_of_toNat_eq
  show _ = (BitVec.setWidth 8 (BitVec.ofNat 32 _)).toNat
  simp
theorem bs_nI (u : Nat) : (nI u).toInt8.toInt32 = bs (u % 256) := by
  rw [bs_toInt8]
  congr 1
  show (BitVec.ofNat 32 u).toNat % 256 = _
  simp
theorem bs_nar (x : Int32) : vp_nar .byte x = x.toInt8.toInt32 := rfl
theorem bs_bs (b : Nat) : (bs b).toInt8.toInt32 = bs b := by unfold bs; simp
theorem bsf_upd (B : Nat → Nat) (j b : Nat) : upd (bsf B) j (bs b) = bsf (fun i => if i = j then b else B i) := by
  funext i
  unfold upd bsf
  by_cases h : i = j
  · simp [h]
  · simp [h]
def bh (B : Nat → Nat) (j : Nat) : Nat := B j * 256 + B (j + 1)
def bw (B : Nat → Nat) (j : Nat) : Nat := B j * 16777216 + B (j + 1) * 65536 + B (j + 2) * 256 + B (j + 3)
theorem bh_lt {B : Nat → Nat} (hB : ∀ i, B i < 256) (j : Nat) : bh B j < 65536 := by
  have h1 := hB j
  have h2 := hB (j + 1)
  unfold bh
  omega
theorem bw_lt {B : Nat → Nat} (hB : ∀ i, B i < 256) (j : Nat) : bw B j < 4294967296 := by
  have h1 := hB j
  have h2 := hB (j + 1)
  have h3 := hB (j + 2)
  have h4 := hB (j + 3)
  unfold bw
  omega
theorem bs_shl24 {b : Nat} (h : b < 256) : bs b <<< (nI 24 &&& 31) = nI (b * 16777216) := (by decide +kernel : ∀ b, b < 256 → bs b <<< (nI 24 &&& 31) = nI (b * 16777216)) b h
theorem av_apT {h : AH} {a b : Nat} {t u : Nat} {x y : vp_A} (h1 : h a = some (.inl (t, x))) (h2 : h b = some (.inl (u, y))) (hn : t ≠ u) : a ≠ b := fun z => by
  rw [z, h2] at h1
  cases h1
  exact hn rfl
theorem aw_heap {tb : Nat → Nat} {own : String} {cc : ByteArray} {nL : Nat} {ret : Option FieldType} {ini : Bool} {sc : Option (Nat × Nat × (Nat → Int32))} {fr lo : Nat} {Post : Option Value → AH → Prop} {pc : Nat} {L : List (Option Value)} {st : List Value} {h h' : AH} {mc ms : Nat} (e : h = h') (k : AW tb own cc nL ret ini sc fr lo Post pc L st h' mc ms) : AW tb own cc nL ret ini sc fr lo Post pc L st h mc ms := e ▸ k
theorem aw_st {tb : Nat → Nat} {own : String} {cc : ByteArray} {nL : Nat} {ret : Option FieldType} {ini : Bool} {sc : Option (Nat × Nat × (Nat → Int32))} {fr lo : Nat} {Post : Option Value → AH → Prop} {pc : Nat} {L : List (Option Value)} {st st' : List Value} {h : AH} {mc ms : Nat} (e : st = st') (k : AW tb own cc nL ret ini sc fr lo Post pc L st' h mc ms) : AW tb own cc nL ret ini sc fr lo Post pc L st h mc ms := e ▸ k
