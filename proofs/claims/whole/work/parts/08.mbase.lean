/-- what the reference's 'starts' say of the bytes at hand -/
def VX (B : Nat → Nat) (c : Nat) (fs : Nat → Int32) : Prop := laid B c (nn B) ∧ ∀ k, 1 ≤ k → k ≤ nn B → fs k = nI (oa B k)
theorem VX.n {B : Nat → Nat} {c : Nat} {fs : Nat → Int32} (X : VX B c fs) : 1 ≤ nn B ∧ nn B ≤ 8191 := ⟨X.1.2.2.1, X.1.2.2.2.1⟩
theorem VX.at {B : Nat → Nat} {c : Nat} {fs : Nat → Int32} (X : VX B c fs) (k : Nat) (h1 : 1 ≤ k) (h2 : k ≤ nn B) : 208 ≤ oa B k ∧ oa B k + 7 ≤ 65536 := by
  have a := X.1.2.2.2.2.2 k h1 h2
  have b := X.1.2.1
  exact ⟨a.2.2.1, by omega⟩
theorem VX.fp {B : Nat → Nat} {c : Nat} {fs : Nat → Int32} (X : VX B c fs) (k i : Nat) (h1 : 1 ≤ k) (h2 : k ≤ nn B) (hk : kd B k ≠ 1) (hi : i < sz B k) : oa B k + 7 + 4 * i + 4 ≤ 65536 := by
  have a := X.1.2.2.2.2.2 k h1 h2
  have b := X.1.2.1
  have e : bl B (oa B k) = 4 * sz B k := bl_0 hk
  omega
theorem VX.bp {B : Nat → Nat} {c : Nat} {fs : Nat → Int32} (X : VX B c fs) (k i : Nat) (h1 : 1 ≤ k) (h2 : k ≤ nn B) (hk : kd B k = 1) (hi : i < sz B k) : oa B k + 7 + i + 1 ≤ 65536 := by
  have a := X.1.2.2.2.2.2 k h1 h2
  have b := X.1.2.1
  have e : bl B (oa B k) = sz B k := bl_1 hk
  omega
theorem VX.k0 {B : Nat → Nat} {c : Nat} {fs : Nat → Int32} (X : VX B c fs) {k : Nat} (h1 : 1 ≤ k) (h2 : k ≤ nn B) (hk : kd B k ≠ 1) : kd B k = 0 := by
  have a := (X.1.2.2.2.2.2 k h1 h2).2.1
  omega
theorem VX.fv {B : Nat → Nat} {c : Nat} {fs : Nat → Int32} (X : VX B c fs) {k i : Nat} (h1 : 1 ≤ k) (h2 : k ≤ nn B) (hk : kd B k ≠ 1) (hi : i < sz B k) : vl (nn B) (fd B k i) := (X.1.2.2.2.2.2 k h1 h2).2.2.2.2 (X.k0 h1 h2 hk) i hi
theorem VX.cv {B : Nat → Nat} {c : Nat} {fs : Nat → Int32} (X : VX B c fs) {k : Nat} (h1 : 1 ≤ k) (h2 : k ≤ nn B) : vl (nn B) (cl B k) := (X.1.2.2.2.2.2 k h1 h2).1
theorem VX.sv {B : Nat → Nat} {c : Nat} {fs : Nat → Int32} (X : VX B c fs) {k : Nat} (h : k < 50) : vl (nn B) (sp B k) := X.1.2.2.2.2.1 k h
/-- of a value that is an object -/
theorem ob_of {n u : Nat} (hv : vl n u) (ho : ob u ≠ 0) : u % 2 = 0 ∧ 0 < u ∧ u ≤ 2 * n ∧ ob u = u / 2 ∧ 1 ≤ ob u ∧ ob u ≤ n := by
  obtain ⟨e1, e2⟩ := ob_ne.mp ho
  have e3 := ob_e e1
  rcases hv with h | h
  · omega
  · omega
theorem vl_e {n u : Nat} (hv : vl n u) (hn : n ≤ 8191) : u % 2 = 0 → u < 2147483648 := by
  intro h
  rcases hv with q | q <;> omega
