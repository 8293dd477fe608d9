/-! ===== two images side by side: one step function for both sides ===== -/
/-- partners, back, the queue, how many -/
abbrev PS : Type := (Nat → Nat) × (Nat → Nat) × (Nat → Nat) × Nat
def pgo (s : PS) (u w : Nat) : PS × Bool :=
  if ob u = 0 ∨ ob w = 0 then (s, decide (u = w)) else
  if s.1 (ob u) = 0 ∧ s.2.1 (ob w) = 0 then ((uB s.1 (ob u) (ob w), uB s.2.1 (ob w) (ob u), uB s.2.2.1 s.2.2.2 (ob u), s.2.2.2 + 1), true)
  else (s, decide (s.1 (ob u) = ob w ∧ s.2.1 (ob w) = ob u))
def gsp (B C : Nat → Nat) : Nat → PS × Bool
  | 0 => ((fun _ => 0, fun _ => 0, fun _ => 0, 0), true)
  | k + 1 => if (gsp B C k).2 = true then pgo (gsp B C k).1 (sp B k) (sp C k) else gsp B C k
def gf0 (r : PS × Bool) (b : Bool) : PS × Bool := (r.1, r.2 && b)
theorem gf0_1 (r : PS × Bool) (b : Bool) : (gf0 r b).1 = r.1 := rfl
theorem gf0_2 (r : PS × Bool) (b : Bool) : (gf0 r b).2 = (r.2 && b) := rfl
def gfd (B C : Nat → Nat) (s : PS) (k l : Nat) : Nat → PS × Bool
  | 0 => gf0 (pgo s (cl B k) (cl C l)) (decide (kd B k = kd C l) && decide (sz B k = sz C l))
  | i + 1 => if (gfd B C s k l i).2 = true then (if kd B k = 1 then ((gfd B C s k l i).1, decide (bt B k i = bt C l i)) else pgo (gfd B C s k l i).1 (fd B k i) (fd C l i)) else gfd B C s k l i
def gbo (B C : Nat → Nat) (s : PS) (k l : Nat) : PS × Bool := gfd B C s k l (sz B k)
def gst (B C : Nat → Nat) : Nat → PS × Bool
  | 0 => gsp B C 50
  | j + 1 => if (gst B C j).2 = true ∧ j < (gst B C j).1.2.2.2 then gbo B C (gst B C j).1 ((gst B C j).1.2.2.1 j) ((gst B C j).1.1 ((gst B C j).1.2.2.1 j)) else gst B C j
def gfin (B C : Nat → Nat) : Bool := (gst B C (nn B)).2
def pgd (N K : Nat) (s : PS) : Prop := s.2.2.2 = cntM s.1 N ∧ (∀ k, s.1 k ≠ 0 → 1 ≤ k ∧ k ≤ N ∧ s.1 k ≤ K ∧ s.2.1 (s.1 k) = k) ∧ (∀ l, s.2.1 l ≠ 0 → 1 ≤ l ∧ l ≤ K ∧ s.2.1 l ≤ N ∧ s.1 (s.2.1 l) = l) ∧ ∀ j, j < s.2.2.2 → 1 ≤ s.2.2.1 j ∧ s.2.2.1 j ≤ N ∧ s.1 (s.2.2.1 j) ≠ 0
theorem pgd.le {N K : Nat} {s : PS} (h : pgd N K s) : s.2.2.2 ≤ N := by rw [h.1]; exact cntM_le _ _
theorem pgd.lt {N K k : Nat} {s : PS} (h : pgd N K s) (hk : s.1 k = 0) (h1 : 1 ≤ k) (h2 : k ≤ N) : s.2.2.2 < N := by rw [h.1]; exact cntM_lt hk h1 N h2
theorem pgd.pl {N K : Nat} {s : PS} (h : pgd N K s) (k : Nat) : s.1 k ≤ K := by
  by_cases z : s.1 k = 0
  · rw [z]; exact Nat.zero_le _
  · exact (h.2.1 k z).2.2.1
theorem pgd.bl {N K : Nat} {s : PS} (h : pgd N K s) (k : Nat) : s.2.1 k ≤ N := by
  by_cases z : s.2.1 k = 0
  · rw [z]; exact Nat.zero_le _
  · exact (h.2.2.1 k z).2.2.1
theorem cntM_upw {M : Nat → Nat} {k v : Nat} (hM : M k = 0) (hv : v ≠ 0) (h1 : 1 ≤ k) (n : Nat) (h : k ≤ n) : cntM (uB M k v) n = cntM M n + 1 := by
  rw [← cntM_up hM h1 n h]
  exact cntM_eq n (fun j _ _ => by
    unfold uB
    by_cases z : j = k
    · rw [if_pos z, if_pos z]; exact ⟨fun q => absurd q hv, fun q => absurd q (by decide)⟩
    · rw [if_neg z, if_neg z])
theorem pgo_gd {N K : Nat} {s : PS} (h : pgd N K s) {u w : Nat} (hu : ob u ≤ N) (hw : ob w ≤ K) : pgd N K (pgo s u w).1 := by
  unfold pgo
  split
  · exact h
  · next z =>
    split
    · next y =>
      have n1 : ob u ≠ 0 := fun q => z (Or.inl q)
      have n2 : ob w ≠ 0 := fun q => z (Or.inr q)
      refine ⟨?_, fun k hk => ?_, fun l hl => ?_, fun j hj => ?_⟩
      · show s.2.2.2 + 1 = cntM (uB s.1 (ob u) (ob w)) N
        rw [cntM_upw y.1 n2 (by omega) N hu, ← h.1]
      · have hk : uB s.1 (ob u) (ob w) k ≠ 0 := hk
        show 1 ≤ k ∧ k ≤ N ∧ uB s.1 (ob u) (ob w) k ≤ K ∧ uB s.2.1 (ob w) (ob u) (uB s.1 (ob u) (ob w) k) = k
        unfold uB at hk ⊢
        by_cases q : k = ob u
        · rw [if_pos q]
          rw [if_pos rfl]
          exact ⟨by omega, by omega, hw, q.symm⟩
        · rw [if_neg q] at hk ⊢
          obtain ⟨a, b, c, d⟩ := h.2.1 k hk
          refine ⟨a, b, c, ?_⟩
          rw [if_neg (fun r => by rw [r, y.2] at d; omega)]
          exact d
      · have hl : uB s.2.1 (ob w) (ob u) l ≠ 0 := hl
        show 1 ≤ l ∧ l ≤ K ∧ uB s.2.1 (ob w) (ob u) l ≤ N ∧ uB s.1 (ob u) (ob w) (uB s.2.1 (ob w) (ob u) l) = l
        unfold uB at hl ⊢
        by_cases q : l = ob w
        · rw [if_pos q]
          rw [if_pos rfl]
          exact ⟨by omega, by omega, hu, q.symm⟩
        · rw [if_neg q] at hl ⊢
          obtain ⟨a, b, c, d⟩ := h.2.2.1 l hl
          refine ⟨a, b, c, ?_⟩
          rw [if_neg (fun r => by rw [r, y.1] at d; omega)]
          exact d
      · have hj : j < s.2.2.2 + 1 := hj
        show 1 ≤ uB s.2.2.1 s.2.2.2 (ob u) j ∧ uB s.2.2.1 s.2.2.2 (ob u) j ≤ N ∧ uB s.1 (ob u) (ob w) (uB s.2.2.1 s.2.2.2 (ob u) j) ≠ 0
        unfold uB
        by_cases q : j = s.2.2.2
        · rw [if_pos q, if_pos rfl]
          exact ⟨by omega, hu, n2⟩
        · rw [if_neg q]
          obtain ⟨a, b, c⟩ := h.2.2.2 j (by omega)
          refine ⟨a, b, ?_⟩
          split
          · exact n2
          · exact c
    · exact h
theorem p0_gd (N K : Nat) : pgd N K ((fun _ => 0, fun _ => 0, fun _ => 0, 0) : PS) := by
  have e : ∀ n, cntM (fun _ => 0) n = 0 := fun n => by
    induction n with
    | zero => rfl
    | succ n ih => rw [cntM, ih]; rfl
  exact ⟨(e N).symm, fun k h => absurd rfl h, fun k h => absurd rfl h, fun j h => absurd h (Nat.not_lt_zero j)⟩
theorem gsp_gd {B C : Nat → Nat} {b c : Nat} (hB : laid B b (nn B)) (hC : laid C c (nn C)) : ∀ k, k ≤ 50 → pgd (nn B) (nn C) (gsp B C k).1
  | 0, _ => p0_gd _ _
  | k + 1, h => by
    have g := gsp_gd hB hC k (by omega)
    rw [gsp]
    split
    · exact pgo_gd g (ob_le (hB.2.2.2.2.1 k (by omega))) (ob_le (hC.2.2.2.2.1 k (by omega)))
    · exact g
theorem gfd_stop {B C : Nat → Nat} {s : PS} {k l i : Nat} (h : ¬ (gfd B C s k l i).2 = true) : ∀ j, gfd B C s k l (i + j) = gfd B C s k l i
  | 0 => rfl
  | j + 1 => by
    have e := gfd_stop h j
    show gfd B C s k l (i + j + 1) = _
    rw [gfd, e, if_neg h]
theorem gfd_t {B C : Nat → Nat} {s : PS} {k l : Nat} : ∀ i, (gfd B C s k l i).2 = true → kd B k = kd C l ∧ sz B k = sz C l
  | 0, h => by
    rw [gfd, gf0_2] at h
    simp only [Bool.and_eq_true, decide_eq_true_eq] at h
    exact h.2
  | i + 1, h => by
    by_cases z : (gfd B C s k l i).2 = true
    · exact gfd_t i z
    · rw [gfd, if_neg z] at h; exact absurd h z
theorem gfd_z {B C : Nat → Nat} {s : PS} {k l : Nat} : (gfd B C s k l 0).1 = (pgo s (cl B k) (cl C l)).1 := by rw [gfd, gf0_1]
theorem gfd_b {B C : Nat → Nat} {s : PS} {k l i : Nat} (z : (gfd B C s k l i).2 = true) (y : kd B k = 1) : gfd B C s k l (i + 1) = ((gfd B C s k l i).1, decide (bt B k i = bt C l i)) := by rw [gfd, if_pos z, if_pos y]
theorem gfd_f {B C : Nat → Nat} {s : PS} {k l i : Nat} (z : (gfd B C s k l i).2 = true) (y : ¬ kd B k = 1) : gfd B C s k l (i + 1) = pgo (gfd B C s k l i).1 (fd B k i) (fd C l i) := by rw [gfd, if_pos z, if_neg y]
theorem gfd_n {B C : Nat → Nat} {s : PS} {k l i : Nat} (z : ¬ (gfd B C s k l i).2 = true) : gfd B C s k l (i + 1) = gfd B C s k l i := by rw [gfd, if_neg z]
theorem laid_f {B : Nat → Nat} {c n k i : Nat} (h : laid B c n) (h1 : 1 ≤ k) (h2 : k ≤ n) (hk : ¬ kd B k = 1) (hi : i < sz B k) : vl n (fd B k i) := by
  have a := h.2.2.2.2.2 k h1 h2
  have b := a.2.1
  exact a.2.2.2.2 (by omega) i hi
theorem gfd_gd {B C : Nat → Nat} {b c : Nat} (hB : laid B b (nn B)) (hC : laid C c (nn C)) {s : PS} (hs : pgd (nn B) (nn C) s) {k l : Nat} (h1 : 1 ≤ k) (h2 : k ≤ nn B) (h3 : 1 ≤ l) (h4 : l ≤ nn C) (i : Nat) (hi : i ≤ sz B k) : pgd (nn B) (nn C) (gfd B C s k l i).1 := by
  revert hi
  generalize eN : nn B = N at *
  generalize eK : nn C = K at *
  induction i with
  | zero =>
    intro _
    rw [gfd_z]
    exact pgo_gd hs (ob_le (hB.2.2.2.2.2 k h1 h2).1) (ob_le (hC.2.2.2.2.2 l h3 h4).1)
  | succ i ih =>
    intro h
    have g := ih (by omega)
    by_cases z : (gfd B C s k l i).2 = true
    · have e := gfd_t i z
      by_cases y : kd B k = 1
      · rw [gfd_b z y]; exact g
      · rw [gfd_f z y]
        exact pgo_gd g (ob_le (laid_f hB h1 h2 y h)) (ob_le (laid_f hC h3 h4 (by rw [← e.1]; exact y) (by rw [← e.2]; exact h)))
    · rw [gfd_n z]; exact g
theorem gst_gd {B C : Nat → Nat} {b c : Nat} (hB : laid B b (nn B)) (hC : laid C c (nn C)) : ∀ j, pgd (nn B) (nn C) (gst B C j).1
  | 0 => gsp_gd hB hC 50 (Nat.le_refl 50)
  | j + 1 => by
    have g := gst_gd hB hC j
    rw [gst]
    by_cases z : (gst B C j).2 = true ∧ j < (gst B C j).1.2.2.2
    · rw [if_pos z]
      obtain ⟨a, b, c⟩ := g.2.2.2 j z.2
      obtain ⟨_, _, d, _⟩ := g.2.1 _ c
      exact gfd_gd hB hC g a b (by omega) d _ (Nat.le_refl _)
    · rw [if_neg z]; exact g
theorem gst_stop {B C : Nat → Nat} {j : Nat} (h : ¬ ((gst B C j).2 = true ∧ j < (gst B C j).1.2.2.2)) : ∀ i, (gst B C (j + i)) = gst B C j
  | 0 => rfl
  | i + 1 => by
    have e := gst_stop h i
    show gst B C (j + i + 1) = _
    rw [gst, e]
    by_cases z : (gst B C j).2 = true ∧ j + i < (gst B C j).1.2.2.2
    · exact absurd ⟨z.1, by omega⟩ h
    · rw [if_neg z]
theorem gfin_at {B C : Nat → Nat} {j : Nat} (h : ¬ ((gst B C j).2 = true ∧ j < (gst B C j).1.2.2.2)) (hj : j ≤ nn B) : gfin B C = (gst B C j).2 := by
  unfold gfin
  rw [show nn B = j + (nn B - j) by omega, gst_stop h]
def RP (s : PS) (fn fb fq : Nat → Int32) (mn : Nat) : Prop := mn = s.2.2.2 ∧ (∀ k, k < 8192 → fn k = nI (s.1 k)) ∧ (∀ k, k < 8192 → fb k = nI (s.2.1 k)) ∧ ∀ j, j < s.2.2.2 → fq j = nI (s.2.2.1 j)
theorem pgo_0 {s : PS} {u w : Nat} (h : ob u = 0 ∨ ob w = 0) : pgo s u w = (s, decide (u = w)) := by unfold pgo; rw [if_pos h]
theorem pgo_y {s : PS} {u w : Nat} (h1 : ob u ≠ 0) (h2 : ob w ≠ 0) (h : s.1 (ob u) = 0 ∧ s.2.1 (ob w) = 0) : pgo s u w = ((uB s.1 (ob u) (ob w), uB s.2.1 (ob w) (ob u), uB s.2.2.1 s.2.2.2 (ob u), s.2.2.2 + 1), true) := by unfold pgo; rw [if_neg (fun q => q.elim h1 h2), if_pos h]
theorem pgo_n {s : PS} {u w : Nat} (h1 : ob u ≠ 0) (h2 : ob w ≠ 0) (h : ¬ (s.1 (ob u) = 0 ∧ s.2.1 (ob w) = 0)) : pgo s u w = (s, decide (s.1 (ob u) = ob w ∧ s.2.1 (ob w) = ob u)) := by unfold pgo; rw [if_neg (fun q => q.elim h1 h2), if_neg h]
theorem RP.y {s : PS} {fn fb fq : Nat → Int32} {mn u w : Nat} (h : RP s fn fb fq mn) (h1 : ob u ≠ 0) (h2 : ob w ≠ 0) (hk : s.1 (ob u) = 0 ∧ s.2.1 (ob w) = 0) : RP (pgo s u w).1 (upd fn (ob u) (nI (ob w))) (upd fb (ob w) (nI (ob u))) (upd fq mn (nI (ob u))) (mn + 1) := by
  rw [pgo_y h1 h2 hk]
  refine ⟨by show mn + 1 = s.2.2.2 + 1; rw [h.1], fun j hj => ?_, fun j hj => ?_, fun j hj => ?_⟩
  · show upd fn (ob u) (nI (ob w)) j = nI (uB s.1 (ob u) (ob w) j)
    unfold upd uB
    split
    · rfl
    · exact h.2.1 j hj
  · show upd fb (ob w) (nI (ob u)) j = nI (uB s.2.1 (ob w) (ob u) j)
    unfold upd uB
    split
    · rfl
    · exact h.2.2.1 j hj
  · show upd fq mn (nI (ob u)) j = nI (uB s.2.2.1 s.2.2.2 (ob u) j)
    have hj : j < s.2.2.2 + 1 := hj
    unfold upd uB
    rw [h.1]
    split
    · rfl
    · exact h.2.2.2 j (by omega)
theorem bs_eq {x y : Nat} (hx : x < 256) (hy : y < 256) : bs x = bs y ↔ x = y := by
  constructor
  · intro q
    have a := bs_and hx
    rw [q, bs_and hy] at a
    exact ((nI_eq (by omega) (by omega)).mp a).symm
  · intro q; rw [q]
