/-! ===== what can be reached: one step function for both sides ===== -/
/-- marks, the queue, how many -/
abbrev BS : Type := (Nat → Nat) × (Nat → Nat) × Nat
def vis (s : BS) (k : Nat) : BS := if k ≠ 0 ∧ s.1 k = 0 then (uB s.1 k 1, uB s.2.1 s.2.2 k, s.2.2 + 1) else s
def vsp (B : Nat → Nat) : Nat → BS
  | 0 => (fun _ => 0, fun _ => 0, 0)
  | k + 1 => vis (vsp B k) (ob (sp B k))
def vfd (B : Nat → Nat) (s : BS) (k : Nat) : Nat → BS
  | 0 => vis s (ob (cl B k))
  | i + 1 => vis (vfd B s k i) (ob (fd B k i))
def vob (B : Nat → Nat) (s : BS) (k : Nat) : BS := vfd B s k (if kd B k = 1 then 0 else sz B k)
def vst (B : Nat → Nat) : Nat → BS
  | 0 => vsp B 50
  | j + 1 => if j < (vst B j).2.2 then vob B (vst B j) ((vst B j).2.1 j) else vst B j
def vfin (B : Nat → Nat) : BS := vst B (nn B)
def cntM (M : Nat → Nat) : Nat → Nat
  | 0 => 0
  | k + 1 => cntM M k + (if M (k + 1) = 0 then 0 else 1)
theorem cntM_le (M : Nat → Nat) : ∀ n, cntM M n ≤ n
  | 0 => Nat.le_refl 0
  | n + 1 => by
    have h := cntM_le M n
    rw [cntM]
    split <;> omega
theorem cntM_lt {M : Nat → Nat} {k : Nat} (hM : M k = 0) (h1 : 1 ≤ k) : ∀ n, k ≤ n → cntM M n < n
  | 0, h => by omega
  | n + 1, h => by
    rw [cntM]
    by_cases z : k = n + 1
    · have q := cntM_le M n
      rw [z] at hM
      rw [if_pos hM]
      omega
    · have q := cntM_lt hM h1 n (by omega)
      split <;> omega
theorem cntM_eq {M M' : Nat → Nat} : ∀ n, (∀ k, 1 ≤ k → k ≤ n → (M k = 0 ↔ M' k = 0)) → cntM M n = cntM M' n
  | 0, _ => rfl
  | n + 1, h => by
    rw [cntM, cntM, cntM_eq n (fun k a b => h k a (by omega))]
    by_cases z : M (n + 1) = 0
    · rw [if_pos z, if_pos ((h (n + 1) (by omega) (by omega)).mp z)]
    · rw [if_neg z, if_neg (fun q => z ((h (n + 1) (by omega) (by omega)).mpr q))]
theorem cntM_up {M : Nat → Nat} {k : Nat} (hM : M k = 0) (h1 : 1 ≤ k) : ∀ n, k ≤ n → cntM (uB M k 1) n = cntM M n + 1
  | 0, h => by omega
  | n + 1, h => by
    rw [cntM, cntM]
    by_cases z : k = n + 1
    · have e : cntM (uB M k 1) n = cntM M n := cntM_eq n (fun j a b => by unfold uB; rw [if_neg (by omega)])
      have e2 : uB M k 1 (n + 1) = 1 := by unfold uB; rw [if_pos z.symm]
      rw [z] at hM
      rw [e, e2, if_neg (by decide), if_pos hM]
    · have e2 : uB M k 1 (n + 1) = M (n + 1) := by unfold uB; rw [if_neg (fun q => z q.symm)]
      rw [cntM_up hM h1 n (by omega), e2]
      omega
def vgood (N : Nat) (s : BS) : Prop := s.2.2 = cntM s.1 N ∧ (∀ k, s.1 k ≤ 1) ∧ (∀ k, s.1 k ≠ 0 → 1 ≤ k ∧ k ≤ N) ∧ ∀ j, j < s.2.2 → 1 ≤ s.2.1 j ∧ s.2.1 j ≤ N
theorem vgood.le {N : Nat} {s : BS} (h : vgood N s) : s.2.2 ≤ N := by rw [h.1]; exact cntM_le _ _
theorem vgood.lt {N k : Nat} {s : BS} (h : vgood N s) (hk : s.1 k = 0) (h1 : 1 ≤ k) (h2 : k ≤ N) : s.2.2 < N := by rw [h.1]; exact cntM_lt hk h1 N h2
theorem vis_y {s : BS} {k : Nat} (h : k ≠ 0 ∧ s.1 k = 0) : vis s k = (uB s.1 k 1, uB s.2.1 s.2.2 k, s.2.2 + 1) := by unfold vis; rw [if_pos h]
theorem vis_n {s : BS} {k : Nat} (h : ¬ (k ≠ 0 ∧ s.1 k = 0)) : vis s k = s := by unfold vis; rw [if_neg h]
theorem vis_good {N : Nat} {s : BS} {k : Nat} (h : vgood N s) (hk : k ≤ N) : vgood N (vis s k) := by
  by_cases z : k ≠ 0 ∧ s.1 k = 0
  · rw [vis_y z]
    refine ⟨?_, fun j => ?_, fun j hj => ?_, fun j hj => ?_⟩
    · show s.2.2 + 1 = cntM (uB s.1 k 1) N
      rw [cntM_up z.2 (by omega) N hk, ← h.1]
    · show uB s.1 k 1 j ≤ 1
      unfold uB
      split
      · exact Nat.le_refl 1
      · exact h.2.1 j
    · have hj : uB s.1 k 1 j ≠ 0 := hj
      unfold uB at hj
      by_cases q : j = k
      · omega
      · rw [if_neg q] at hj
        exact h.2.2.1 j hj
    · show 1 ≤ uB s.2.1 s.2.2 k j ∧ uB s.2.1 s.2.2 k j ≤ N
      have hj : j < s.2.2 + 1 := hj
      unfold uB
      by_cases q : j = s.2.2
      · rw [if_pos q]
        omega
      · rw [if_neg q]
        exact h.2.2.2 j (by omega)
  · rw [vis_n z]; exact h
theorem v0_good (N : Nat) : vgood N ((fun _ => 0, fun _ => 0, 0) : BS) := by
  have e : ∀ n, cntM (fun _ => 0) n = 0 := fun n => by
    induction n with
    | zero => rfl
    | succ n ih => rw [cntM, ih]; rfl
  exact ⟨(e N).symm, fun _ => Nat.zero_le 1, fun k h => absurd rfl h, fun j h => absurd h (Nat.not_lt_zero j)⟩
theorem vsp_good {B : Nat → Nat} {c : Nat} (hl : laid B c (nn B)) : ∀ k, k ≤ 50 → vgood (nn B) (vsp B k)
  | 0, _ => v0_good _
  | k + 1, h => vis_good (vsp_good hl k (by omega)) (ob_le (hl.2.2.2.2.1 k (by omega)))
theorem vfd_good {B : Nat → Nat} {c : Nat} (hl : laid B c (nn B)) {s : BS} (hs : vgood (nn B) s) {k : Nat} (h1 : 1 ≤ k) (h2 : k ≤ nn B) : ∀ i, i ≤ (if kd B k = 1 then 0 else sz B k) → vgood (nn B) (vfd B s k i)
  | 0, _ => vis_good hs (ob_le (hl.2.2.2.2.2 k h1 h2).1)
  | i + 1, h => by
    have a := hl.2.2.2.2.2 k h1 h2
    by_cases z : kd B k = 1
    · rw [if_pos z] at h; omega
    · have z0 : kd B k = 0 := by omega
      rw [if_neg z] at h
      exact vis_good (vfd_good hl hs h1 h2 i (by rw [if_neg z]; omega)) (ob_le (a.2.2.2.2 z0 i (by omega)))
theorem vst_good {B : Nat → Nat} {c : Nat} (hl : laid B c (nn B)) : ∀ j, vgood (nn B) (vst B j)
  | 0 => vsp_good hl 50 (Nat.le_refl 50)
  | j + 1 => by
    have g := vst_good hl j
    rw [vst]
    by_cases z : j < (vst B j).2.2
    · rw [if_pos z]
      have q := g.2.2.2 j z
      exact vfd_good hl g q.1 q.2 _ (Nat.le_refl _)
    · rw [if_neg z]; exact g
theorem vst_stop {B : Nat → Nat} {j : Nat} (h : (vst B j).2.2 ≤ j) : ∀ i, vst B (j + i) = vst B j
  | 0 => rfl
  | i + 1 => by
    have e := vst_stop h i
    show vst B (j + i + 1) = _
    rw [vst, if_neg (by rw [e]; omega), e]
theorem vfin_at {B : Nat → Nat} {j : Nat} (h : (vst B j).2.2 ≤ j) (hj : j ≤ nn B) : vfin B = vst B j := by
  unfold vfin
  rw [show nn B = j + (nn B - j) by omega]
  exact vst_stop h _
/-- the arrays hold the state -/
def RB (s : BS) (fn fq : Nat → Int32) (mn : Nat) : Prop := mn = s.2.2 ∧ (∀ k, k < 8192 → fn k = nI (s.1 k)) ∧ ∀ j, j < s.2.2 → fq j = nI (s.2.1 j)
theorem RB.y {s : BS} {fn fq : Nat → Int32} {mn k : Nat} (h : RB s fn fq mn) (hk : k ≠ 0 ∧ s.1 k = 0) : RB (vis s k) (upd fn k (nI 1)) (upd fq mn (nI k)) (mn + 1) := by
  rw [vis_y hk]
  refine ⟨by show mn + 1 = s.2.2 + 1; rw [h.1], fun j hj => ?_, fun j hj => ?_⟩
  · show upd fn k (nI 1) j = nI (uB s.1 k 1 j)
    unfold upd uB
    split
    · rfl
    · exact h.2.1 j hj
  · show upd fq mn (nI k) j = nI (uB s.2.1 s.2.2 k j)
    have hj : j < s.2.2 + 1 := hj
    unfold upd uB
    rw [h.1]
    split
    · rfl
    · exact h.2.2 j (by omega)
