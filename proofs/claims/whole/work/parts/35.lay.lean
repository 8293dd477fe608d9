/-! ===== frames by lists of addresses; an image that is being taken in ===== -/
/-- from h to h' only what lies at l (or is new) was written; nothing vanished; l' is of l or new -/
def frm (l l' : List Nat) (h h' : AH) : Prop := (∀ q, q ∉ l → h q ≠ none → h' q = h q) ∧ (∀ q, h q ≠ none → h' q ≠ none) ∧ ∀ x ∈ l', x ∈ l ∨ h x = none
theorem frm.refl (l : List Nat) {h : AH} : frm l l h h := ⟨fun _ _ _ => Eq.refl _, fun _ q => q, fun _ hx => Or.inl hx⟩
theorem av_up_nv {h : AH} {a q : Nat} {e : AE} (hq : h q ≠ none) : av_up h a e q ≠ none := by
  by_cases z : q = a
  · rw [z, av_up_self]; exact Option.some_ne_none _
  · rw [av_up_ne z]; exact hq
theorem frm.up {l l' : List Nat} {h h' h'' : AH} (T : frm l l' h h') {a : Nat} {x : AE} (e : h'' = av_up h' a x) (ha : a ∈ l') : frm l l' h h'' := by
  subst e
  refine ⟨fun q hq h0 => ?_, fun q h0 => av_up_nv (T.2.1 q h0), T.2.2⟩
  rw [av_up_ne (fun z => by
    rcases T.2.2 a ha with y | y
    · exact hq (by rw [z]; exact y)
    · exact h0 (by rw [z]; exact y))]
  exact T.1 q hq h0
theorem frm.nw {l l' : List Nat} {h h' h'' : AH} (T : frm l l' h h') {a : Nat} {x : AE} (e : h'' = av_up h' a x) (ha : h' a = none) : frm l (a :: l') h h'' := by
  subst e
  have ha0 : h a = none := by
    cases q : h a with
    | none => rfl
    | some y => exact absurd ha (T.2.1 a (by rw [q]; exact Option.some_ne_none _))
  refine ⟨fun q hq h0 => ?_, fun q h0 => av_up_nv (T.2.1 q h0), fun y hy => ?_⟩
  · rw [av_up_ne (fun z => h0 (by rw [z]; exact ha0))]
    exact T.1 q hq h0
  · rcases List.mem_cons.mp hy with z | z
    · rw [z]; exact Or.inr ha0
    · exact T.2.2 y z
theorem frm.sub {l l' l'' : List Nat} {h h' : AH} (T : frm l l' h h') (hs : ∀ x ∈ l'', x ∈ l') : frm l l'' h h' := ⟨T.1, T.2.1, fun x hx => T.2.2 x (hs x hx)⟩
theorem frm.tr {l l' l'' : List Nat} {h h' h'' : AH} (T : frm l l' h h') (U : frm l' l'' h' h'') : frm l l'' h h'' := by
  refine ⟨fun q hq h0 => ?_, fun q h0 => U.2.1 q (T.2.1 q h0), fun x hx => ?_⟩
  · have e := T.1 q hq h0
    rw [U.1 q (fun z => by
      rcases T.2.2 q z with y | y
      · exact hq y
      · exact h0 y) (by rw [e]; exact h0), e]
  · rcases U.2.2 x hx with z | z
    · exact T.2.2 x z
    · cases q : h x with
      | none => exact Or.inr rfl
      | some y => exact absurd z (T.2.1 x (by rw [q]; exact Option.some_ne_none _))
/-- a wider list -/
theorem frm.wd {l l' m m' : List Nat} {h h' : AH} (T : frm l l' h h') (h1 : ∀ x ∈ l, x ∈ m) (h2 : ∀ x ∈ m', x ∈ l' ∨ x ∈ m) : frm m m' h h' := ⟨fun q hq h0 => T.1 q (fun z => hq (h1 q z)) h0, T.2.1, fun x hx => by
  rcases h2 x hx with z | z
  · rcases T.2.2 x z with y | y
    · exact Or.inl (h1 x y)
    · exact Or.inr y
  · exact Or.inl z⟩
theorem frm.at {l l' : List Nat} {h h' : AH} (T : frm l l' h h') {q : Nat} {e : AE} (hq : q ∉ l) (h0 : h q = some e) : h' q = some e := by rw [T.1 q hq (by rw [h0]; exact Option.some_ne_none _)]; exact h0
theorem nm2 {q a b : Nat} (h1 : q ≠ a) (h2 : q ≠ b) : q ∉ [a, b] := by simp [h1, h2]
theorem nm7 {q a b c d e f g : Nat} (h1 : q ≠ a) (h2 : q ≠ b) (h3 : q ≠ c) (h4 : q ≠ d) (h5 : q ≠ e) (h6 : q ≠ f) (h7 : q ≠ g) : q ∉ [a, b, c, d, e, f, g] := by simp [h1, h2, h3, h4, h5, h6, h7]
def iND (a0 a1 a2 a3 a4 a5 : Nat) : Prop := a0 ≠ a1 ∧ a0 ≠ a2 ∧ a0 ≠ a3 ∧ a0 ≠ a4 ∧ a0 ≠ a5 ∧ a1 ≠ a2 ∧ a1 ≠ a3 ∧ a1 ≠ a4 ∧ a1 ≠ a5 ∧ a2 ≠ a3 ∧ a2 ≠ a4 ∧ a2 ≠ a5 ∧ a3 ≠ a4 ∧ a3 ≠ a5 ∧ a4 ≠ a5
/-- powers of two times 64 -/
def P64 (n : Nat) : Prop := ∃ e, n = 64 * 2 ^ e
theorem P64.dbl {n : Nat} (h : P64 n) : P64 (2 * n) := by
  obtain ⟨e, he⟩ := h
  exact ⟨e + 1, by rw [he, Nat.pow_succ]; omega⟩
theorem P64.ge {n : Nat} (h : P64 n) : 64 ≤ n := by
  obtain ⟨e, he⟩ := h
  have := Nat.one_le_two_pow (n := e)
  omega
theorem P64.lt {m n : Nat} (h : P64 m) (h2 : P64 n) (hl : m < n) : 2 * m ≤ n := by
  obtain ⟨e, he⟩ := h
  obtain ⟨f, hf⟩ := h2
  have hef : e < f := by
    rcases Nat.lt_or_ge e f with z | z
    · exact z
    · have := Nat.pow_le_pow_right (show 2 > 0 by decide) z
      omega
  have := Nat.pow_le_pow_right (show 2 > 0 by decide) (show e + 1 ≤ f from hef)
  rw [Nat.pow_succ] at this
  omega
theorem P64.gFp {m : Nat} : ∀ (f n : Nat), P64 n → P64 (gF f n m)
  | 0, n, h => h
  | f + 1, n, h => by
    rw [gF]
    split
    · exact h
    · exact P64.gFp f (2 * n) h.dbl
theorem P64.gN {n m : Nat} (h : P64 n) : P64 (gN n m) := h.gFp m n
theorem oa_ps (B : Nat → Nat) : ∀ k, 208 + 7 * k + ps B (k + 1) ≤ oa B (k + 1)
  | 0 => by show 208 + 7 * 0 + 0 ≤ 208; omega
  | k + 1 => by
    have e := oa_ps B k
    rw [ps_s B (show 1 ≤ k + 1 by omega), oa_s B (show 1 ≤ k + 1 by omega)]
    have b : sz B (k + 1) ≤ bl B (oa B (k + 1)) := by
      show bh B (oa B (k + 1) + 5) ≤ (if B (oa B (k + 1) + 4) = 1 then 1 else 4) * bh B (oa B (k + 1) + 5)
      split <;> omega
    omega
theorem ps_mono (B : Nat → Nat) : ∀ {j k : Nat}, 1 ≤ k → k < j → ps B k + sz B k ≤ ps B j
  | 0, k, _, h => by omega
  | j + 1, k, h1, h => by
    have e := ps_s B (show 1 ≤ j by omega)
    by_cases z : k = j
    · rw [z, e]; omega
    · have := ps_mono B (j := j) h1 (by omega); omega
/-- j objects are in (the last one with i of its parts) -/
def IQ (B : Nat → Nat) (f1 f2 f3 f4 f5 : Nat → Int32) (j i : Nat) : Prop := (∀ k, 1 ≤ k → k ≤ j → f1 k = nI (cl B k) ∧ f2 k = nI (kd B k) ∧ f3 k = nI (sz B k) ∧ f4 k = nI (ps B k)) ∧ ∀ k m, 1 ≤ k → k ≤ j → m < sz B k → (k < j ∨ m < i) → f5 (ps B k + m) = nI (prt B k m)
theorem IQ_0 (B : Nat → Nat) (f1 f2 f3 f4 f5 : Nat → Int32) (i : Nat) : IQ B f1 f2 f3 f4 f5 0 i := ⟨fun k h1 h2 => by omega, fun k m h1 h2 => by omega⟩
theorem IQ.obj {B : Nat → Nat} {f1 f2 f3 f4 f5 g1 g2 g3 g4 : Nat → Int32} {j : Nat} (H : IQ B f1 f2 f3 f4 f5 j (sz B j)) (hk : ∀ k, k ≤ j → g1 k = f1 k ∧ g2 k = f2 k ∧ g3 k = f3 k ∧ g4 k = f4 k) (hn : g1 (j + 1) = nI (cl B (j + 1)) ∧ g2 (j + 1) = nI (kd B (j + 1)) ∧ g3 (j + 1) = nI (sz B (j + 1)) ∧ g4 (j + 1) = nI (ps B (j + 1))) : IQ B g1 g2 g3 g4 f5 (j + 1) 0 := by
  refine ⟨fun k h1 h2 => ?_, fun k m h1 h2 h3 h4 => ?_⟩
  · by_cases z : k = j + 1
    · rw [z]; exact hn
    · obtain ⟨e1, e2, e3, e4⟩ := hk k (by omega)
      rw [e1, e2, e3, e4]
      exact H.1 k h1 (by omega)
  · have h5 : k ≤ j := by omega
    refine H.2 k m h1 h5 h3 ?_
    by_cases z : k = j
    · rw [z] at h3; exact Or.inr h3
    · exact Or.inl (by omega)
theorem IQ.parts {B : Nat → Nat} {f1 f2 f3 f4 f5 g5 : Nat → Int32} {j m : Nat} (H : IQ B f1 f2 f3 f4 f5 (j + 1) 0) (hk : ∀ k, k < ps B (j + 1) → g5 k = f5 k) (hn : ∀ i, i < m → i < sz B (j + 1) → g5 (ps B (j + 1) + i) = nI (prt B (j + 1) i)) : IQ B f1 f2 f3 f4 g5 (j + 1) m := by
  refine ⟨H.1, fun k i h1 h2 h3 h4 => ?_⟩
  by_cases z : k = j + 1
  · rw [z] at h3 ⊢; exact hn i (by omega) h3
  · have q := ps_mono B (j := j + 1) h1 (by omega)
    rw [hk _ (by omega)]
    exact H.2 k i h1 h2 h3 (Or.inl (by omega))
theorem IQ.iv {B : Nat → Nat} {f0 f1 f2 f3 f4 f5 : Nat → Int32} {cc pc j : Nat} (H : IQ B f1 f2 f3 f4 f5 j (sz B j)) (hj : j = nn B) (hc : j < cc) (hp : ps B (j + 1) ≤ pc) (h0 : ∀ k, k < 50 → f0 k = nI (sp B k)) : IV B f0 f1 f2 f3 f4 f5 cc pc := by
  subst hj
  refine ⟨hc, h0, fun k h1 h2 => ?_⟩
  obtain ⟨e1, e2, e3, e4⟩ := H.1 k h1 h2
  refine ⟨e1, e2, e3, e4, ?_, fun i hi => H.2 k i h1 h2 hi ?_⟩
  · have := ps_mono B (j := nn B + 1) h1 (by omega); omega
  · by_cases z : k = nn B
    · rw [← z]; exact Or.inr hi
    · exact Or.inl (by omega)
def hL (i : Nat) : Nat := if i < 2 then 77 else if i = 2 then 1 else if i = 3 then 0 else if i = 4 then 12 else 10
def hH (i : Nat) : Nat := if i < 2 then 77 else if i = 2 then 1 else if i = 3 then 0 else if i = 4 then 18 else 14
theorem hd_lo_eq : ∀ i, i < 6 → hd_lo i = nI (hL i) := by decide +kernel
theorem hd_hi_eq : ∀ i, i < 6 → hd_hi i = nI (hH i) := by decide +kernel
theorem hL_lt (i : Nat) : hL i ≤ 77 := by unfold hL; repeat (first | omega | split)
theorem hH_lt (i : Nat) : hH i ≤ 77 := by unfold hH; repeat (first | omega | split)
theorem hdr_iff {i b : Nat} (h : i < 6) : hdr i b ↔ hL i ≤ b ∧ b ≤ hH i := by
  unfold hdr hL hH
  by_cases z0 : i < 2
  · rw [if_pos z0, if_pos z0]
    exact ⟨fun q => by have := q.1 z0; omega, fun q => ⟨fun _ => by omega, fun y => by omega, fun y => by omega, fun y => by omega, fun y => by omega⟩⟩
  · rw [if_neg z0, if_neg z0]
    by_cases z1 : i = 2
    · rw [if_pos z1, if_pos z1]
      exact ⟨fun q => by have := q.2.1 z1; omega, fun q => ⟨fun y => by omega, fun y => by omega, fun y => by omega, fun y => by omega, fun y => by omega⟩⟩
    · rw [if_neg z1, if_neg z1]
      by_cases z2 : i = 3
      · rw [if_pos z2, if_pos z2]
        exact ⟨fun q => by have := q.2.2.1 z2; omega, fun q => ⟨fun y => by omega, fun y => by omega, fun y => by omega, fun y => by omega, fun y => by omega⟩⟩
      · rw [if_neg z2, if_neg z2]
        by_cases z3 : i = 4
        · rw [if_pos z3, if_pos z3]
          exact ⟨fun q => q.2.2.2.1 z3, fun q => ⟨fun y => by omega, fun y => by omega, fun y => by omega, fun y => q, fun y => by omega⟩⟩
        · rw [if_neg z3, if_neg z3]
          have z4 : i = 5 := by omega
          exact ⟨fun q => q.2.2.2.2 z4, fun q => ⟨fun y => by omega, fun y => by omega, fun y => by omega, fun y => by omega, fun y => q⟩⟩
theorem hdr_67 {i b : Nat} (h : 6 ≤ i) : hdr i b := by unfold hdr; omega
theorem m1_lt {n : Nat} (h : n < 2147483648) : (-1 : Int32) < nI n := by
  rw [Int32.lt_iff_toInt_lt, nI_toInt h]
  have : (-1 : Int32).toInt = -1 := by decide
  omega
theorem w_ltz {u : Nat} (h : u < 4294967296) : nI u < 0 ↔ 2147483648 ≤ u := by
  rw [Int32.lt_iff_toInt_lt, nI_i32 h, Int32.toInt_zero]
  split <;> omega
