/-! ===== what is written: one sequence of bytes for both sides ===== -/
abbrev OS : Type := Nat × (Nat → Nat)
def o1 (o : OS) (b : Nat) : OS := (o.1 + 1, uB o.2 o.1 (b % 256))
def o2 (o : OS) (u : Nat) : OS := o1 (o1 o (u / 256)) u
def o4 (o : OS) (u : Nat) : OS := o2 (o2 o (u / 65536)) u
def nuM (M : Nat → Nat) (k : Nat) : Nat := if M k = 0 then 0 else cntM M k
def rn (M : Nat → Nat) (u : Nat) : Nat := if ob u = 0 then u else 2 * nuM M (ob u)
def wH (B : Nat → Nat) : Nat → OS
  | 0 => (0, fun _ => 0)
  | k + 1 => o1 (wH B k) (B k)
def wS (B M : Nat → Nat) : Nat → OS
  | 0 => o2 (wH B 6) (cntM M (nn B))
  | k + 1 => o4 (wS B M k) (rn M (sp B k))
def wF (B M : Nat → Nat) (o : OS) (k : Nat) : Nat → OS
  | 0 => o2 (o1 (o4 o (rn M (cl B k))) (kd B k)) (sz B k)
  | i + 1 => if kd B k = 1 then o1 (wF B M o k i) (bt B k i) else o4 (wF B M o k i) (rn M (fd B k i))
def wO (B M : Nat → Nat) : Nat → OS
  | 0 => wS B M 50
  | k + 1 => if M (k + 1) = 0 then wO B M k else wF B M (wO B M k) (k + 1) (sz B (k + 1))
def wout (B : Nat → Nat) : OS := wO B (vfin B).1 (nn B)
theorem o1_1 (o : OS) (b : Nat) : (o1 o b).1 = o.1 + 1 := rfl
theorem o2_1 (o : OS) (b : Nat) : (o2 o b).1 = o.1 + 2 := rfl
theorem o4_1 (o : OS) (b : Nat) : (o4 o b).1 = o.1 + 4 := rfl
theorem wH_1 (B : Nat → Nat) : ∀ k, (wH B k).1 = k
  | 0 => rfl
  | k + 1 => by rw [wH, o1_1, wH_1 B k]
theorem wS_1 (B M : Nat → Nat) : ∀ k, (wS B M k).1 = 8 + 4 * k
  | 0 => by rw [wS, o2_1, wH_1]
  | k + 1 => by rw [wS, o4_1, wS_1 B M k]; omega
theorem wF_1 (B M : Nat → Nat) (o : OS) (k : Nat) : ∀ i, (wF B M o k i).1 = o.1 + 7 + (if kd B k = 1 then 1 else 4) * i
  | 0 => by rw [wF, o2_1, o1_1, o4_1]; omega
  | i + 1 => by
    have e := wF_1 B M o k i
    rw [wF]
    by_cases z : kd B k = 1
    · rw [if_pos z, o1_1, e, if_pos z]; omega
    · rw [if_neg z, o4_1, e, if_neg z]; omega
theorem wF_b (B M : Nat → Nat) (o : OS) (k : Nat) : (wF B M o k (sz B k)).1 = o.1 + 7 + bl B (oa B k) := by
  rw [wF_1]
  rfl
theorem wO_le (B M : Nat → Nat) : ∀ k, (wO B M k).1 ≤ oa B (k + 1)
  | 0 => by rw [wO, wS_1]; exact Nat.le_refl 208
  | k + 1 => by
    have e := wO_le B M k
    rw [wO, oa_s B (show 1 ≤ k + 1 by omega)]
    by_cases z : M (k + 1) = 0
    · rw [if_pos z]; omega
    · rw [if_neg z, wF_b]; omega
theorem nuM_0 {M : Nat → Nat} {k : Nat} (h1 : 1 ≤ k) : nuM M k = 0 ↔ M k = 0 := by
  unfold nuM
  by_cases z : M k = 0
  · rw [if_pos z]; exact ⟨fun _ => z, fun _ => rfl⟩
  · rw [if_neg z]
    obtain ⟨k, rfl⟩ : ∃ q, k = q + 1 := ⟨k - 1, by omega⟩
    rw [cntM, if_neg z]
    exact ⟨fun q => by omega, fun q => absurd q z⟩
theorem cntM_mono (M : Nat → Nat) : ∀ a b, a ≤ b → cntM M a ≤ cntM M b
  | a, 0, h => by rw [show a = 0 by omega]; exact Nat.le_refl _
  | a, b + 1, h => by
    by_cases z : a = b + 1
    · rw [z]; exact Nat.le_refl _
    · have := cntM_mono M a b (by omega)
      rw [cntM]
      omega
theorem nuM_le (M : Nat → Nat) (k : Nat) : nuM M k ≤ k := by
  unfold nuM
  split
  · omega
  · exact cntM_le M k
/-- the bytes that came in are those that are written so far -/
def RW (o : OS) (B : Nat → Nat) : Prop := ∀ i, i < o.1 → B i = o.2 i
theorem RW.o1 {o : OS} {B : Nat → Nat} (h : RW o B) (b : Nat) : RW (o1 o b) (uB B o.1 (b % 256)) := fun i hi => by
  show uB B o.1 (b % 256) i = uB o.2 o.1 (b % 256) i
  have hi : i < o.1 + 1 := hi
  unfold uB
  by_cases z : i = o.1
  · rw [if_pos z, if_pos z]
  · rw [if_neg z, if_neg z]; exact h i (by omega)
theorem bs_nat {b : Nat} (h : b < 256) : ∃ u, u < 4294967296 ∧ bs b = nI u ∧ u % 256 = b := by
  refine ⟨(bs b).toBitVec.toNat, (bs b).toBitVec.isLt, ?_, ?_⟩
  · apply Int32.toBitVec_inj.1
    show (bs b).toBitVec = BitVec.ofNat 32 (bs b).toBitVec.toNat
    simp
  · exact (by decide +kernel : ∀ b, b < 256 → (bs b).toBitVec.toNat % 256 = b) b h
