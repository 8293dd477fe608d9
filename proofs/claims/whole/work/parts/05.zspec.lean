/-! ===== the document's words over a row of bytes B ===== -/
def bl (B : Nat → Nat) (a : Nat) : Nat := (if B (a + 4) = 1 then 1 else 4) * bh B (a + 5)
/-- the byte at which object k begins (k from 1 on) -/
def oa (B : Nat → Nat) : Nat → Nat
  | 0 => 0
  | 1 => 208
  | k + 2 => oa B (k + 1) + 7 + bl B (oa B (k + 1))
theorem oa_1 (B : Nat → Nat) : oa B 1 = 208 := rfl
theorem oa_s (B : Nat → Nat) {k : Nat} (h : 1 ≤ k) : oa B (k + 1) = oa B k + 7 + bl B (oa B k) := by
  cases k with
  | zero => omega
  | succ k => rfl
theorem bl_1 {B : Nat → Nat} {a : Nat} (h : B (a + 4) = 1) : bl B a = bh B (a + 5) := by unfold bl; rw [if_pos h]; omega
theorem bl_0 {B : Nat → Nat} {a : Nat} (h : ¬ B (a + 4) = 1) : bl B a = 4 * bh B (a + 5) := by unfold bl; rw [if_neg h]
def sp (B : Nat → Nat) (k : Nat) : Nat := bw B (8 + 4 * k)
def cl (B : Nat → Nat) (k : Nat) : Nat := bw B (oa B k)
def kd (B : Nat → Nat) (k : Nat) : Nat := B (oa B k + 4)
def sz (B : Nat → Nat) (k : Nat) : Nat := bh B (oa B k + 5)
def fd (B : Nat → Nat) (k i : Nat) : Nat := bw B (oa B k + 7 + 4 * i)
def bt (B : Nat → Nat) (k i : Nat) : Nat := B (oa B k + 7 + i)
def nn (B : Nat → Nat) : Nat := bh B 6
/-- a value of four bytes is nil, a number, or an object from 1 to n -/
def vl (n u : Nat) : Prop := u % 2 = 1 ∨ u ≤ 2 * n
def ob (u : Nat) : Nat := if u % 2 = 0 then u / 2 else 0
theorem ob_le {n u : Nat} (h : vl n u) : ob u ≤ n := by
  unfold ob
  rcases h with h | h
  · rw [if_neg (by omega)]; omega
  · split <;> omega
theorem ob_e {u : Nat} (h : u % 2 = 0) : ob u = u / 2 := by unfold ob; rw [if_pos h]
theorem ob_o {u : Nat} (h : ¬ u % 2 = 0) : ob u = 0 := by unfold ob; rw [if_neg h]
theorem ob_ne {u : Nat} : ob u ≠ 0 ↔ u % 2 = 0 ∧ 0 < u := by
  unfold ob
  split <;> omega
/-- the objects lie within the first c bytes, and all values are such -/
def laid (B : Nat → Nat) (c n : Nat) : Prop := 208 ≤ c ∧ c ≤ 65536 ∧ 1 ≤ n ∧ n ≤ 8191 ∧ (∀ k, k < 50 → vl n (sp B k)) ∧
  ∀ k, 1 ≤ k → k ≤ n → vl n (cl B k) ∧ kd B k ≤ 1 ∧ 208 ≤ oa B k ∧ oa B k + 7 + bl B (oa B k) ≤ c ∧ (kd B k = 0 → ∀ i, i < sz B k → vl n (fd B k i))
def HF (B : Nat → Nat) (u m : Nat) : Prop := ob u ≠ 0 ∧ kd B (ob u) ≠ 1 ∧ m ≤ sz B (ob u)
def CX (B : Nat → Nat) (u : Nat) : Prop := ob u ≠ 0 ∧ (cl B (ob u) = sp B 7 ∨ cl B (ob u) = sp B 8)
def NI (u lo hi : Nat) : Prop := u % 2 = 1 ∧ u < 2147483648 ∧ lo ≤ u / 2 ∧ u / 2 ≤ hi
def shp (w : Nat) : Prop := w % 2 = 1 ∧ w < 2147483648 ∧ w / 2 < 4096 ∧ w / 2 / 256 % 4 = 0 ∧ (w / 2 < 2048 ∨ (w / 2 % 256 = 0 ∧ w / 2 / 1024 % 2 = 1))
def CL (B : Nat → Nat) (u : Nat) : Prop := HF B u 3 ∧ shp (fd B (ob u) 2)
def mh (w : Nat) : Prop := w % 2 = 1 ∧ w < 2147483648 ∧ w / 2 < 8388608 ∧ w / 2 % 16 ≤ w / 2 / 16 % 32
def ME (B : Nat → Nat) (u : Nat) : Prop := HF B u 2 ∧ mh (fd B (ob u) 0) ∧ ob (fd B (ob u) 1) ≠ 0 ∧ kd B (ob (fd B (ob u) 1)) = 1
def tm (B : Nat → Nat) (u : Nat) : Nat := fd B (ob u) 0 / 2 / 16 % 32
def dp (B : Nat → Nat) (u : Nat) : Nat := fd B (ob u) 0 / 2 / 512 % 64
def CO (B : Nat → Nat) (k f : Nat) : Prop := (fd B k 0 = 0 ∨ CX B (fd B k 0)) ∧ (fd B k 1 = 0 ∨ NI (fd B k 1) 0 1073741823) ∧ ∀ i, f ≤ i → i < sz B k → fd B k i = 0
def MC (B : Nat → Nat) (k : Nat) : Prop := kd B k ≠ 1 ∧ 5 ≤ sz B k ∧ ME B (fd B k 3) ∧ sz B k = 5 + tm B (fd B k 3) + dp B (fd B k 3) ∧ NI (fd B k 2) (tm B (fd B k 3)) (tm B (fd B k 3) + dp B (fd B k 3)) ∧ CO B k (5 + fd B k 2 / 2)
def BC (B : Nat → Nat) (k : Nat) : Prop := kd B k ≠ 1 ∧ 6 ≤ sz B k ∧ HF B (fd B k 5) 5 ∧ cl B (ob (fd B k 5)) = sp B 7 ∧ ME B (fd B (ob (fd B k 5)) 3) ∧ sz B k = 6 + dp B (fd B (ob (fd B k 5)) 3) ∧ NI (fd B k 2) 0 (dp B (fd B (ob (fd B k 5)) 3)) ∧ NI (fd B k 3) 0 15 ∧ (fd B k 4 = 0 ∨ NI (fd B k 4) 0 1073741823) ∧ CO B k (6 + fd B k 2 / 2)
def shF (B : Nat → Nat) (k : Nat) : Nat := fd B (ob (cl B k)) 2 / 2
def RO (B : Nat → Nat) (k : Nat) : Prop := CL B (cl B k) ∧ (kd B k = 1 ↔ 2048 ≤ shF B k) ∧ (2048 ≤ shF B k ∨ (shF B k / 1024 % 2 = 1 ∧ shF B k % 256 ≤ sz B k) ∨ (shF B k / 1024 % 2 = 0 ∧ sz B k = shF B k % 256)) ∧ (cl B k = sp B 7 → MC B k) ∧ (cl B k = sp B 8 → BC B k)
def SS (B : Nat → Nat) (k : Nat) : Prop := (k < 2 → ob (sp B k) ≠ 0 ∧ ∀ j, j < k → sp B j ≠ sp B k) ∧ (2 ≤ k → k < 13 → CL B (sp B k) ∧ ∀ j, 2 ≤ j → j < k → sp B j ≠ sp B k) ∧ (k = 13 → HF B (sp B 13) 256 ∧ sz B (ob (sp B 13)) = 256) ∧ (k = 14 → HF B (sp B 14) 2 ∧ ¬ CX B (sp B 14))
def PL (B : Nat → Nat) (u m : Nat) : Prop := HF B u m ∧ ¬ CX B u
def PR (B : Nat → Nat) : Prop := PL B (fd B (ob (sp B 14)) 0) 8 ∧ (∀ i, i < 8 → PL B (fd B (ob (fd B (ob (sp B 14)) 0)) i) 2) ∧ PL B (fd B (ob (sp B 14)) 1) 4 ∧
  CX B (fd B (ob (fd B (ob (sp B 14)) 1)) 1) ∧ HF B (fd B (ob (fd B (ob (sp B 14)) 1)) 1) 2 ∧ fd B (ob (fd B (ob (fd B (ob (sp B 14)) 1)) 1)) 1 ≠ 0 ∧ NI (fd B (ob (fd B (ob (sp B 14)) 1)) 2) 1 8
/-- words: of object k, of the first k objects -/
def wd (B : Nat → Nat) (k : Nat) : Nat := 4 + (if kd B k = 1 then (sz B k + 3) / 4 else sz B k)
def wds (B : Nat → Nat) : Nat → Nat
  | 0 => 0
  | k + 1 => wds B k + wd B (k + 1)
/-- the first j from k on, within f steps, that isn't such: its place -/
noncomputable def ffst (P : Nat → Prop) (g : Nat → Nat) : Nat → Nat → Option Nat
  | 0, _ => none
  | f + 1, k => @ite (Option Nat) (P k) (Classical.propDecidable (P k)) (ffst P g f (k + 1)) (some (g k))
theorem ffst_s {P : Nat → Prop} {g : Nat → Nat} {f k : Nat} (h : P k) : ffst P g (f + 1) k = ffst P g f (k + 1) := by rw [ffst, if_pos h]
theorem ffst_n {P : Nat → Prop} {g : Nat → Nat} {f k : Nat} (h : ¬ P k) : ffst P g (f + 1) k = some (g k) := by rw [ffst, if_neg h]
theorem ffst_none {P : Nat → Prop} {g : Nat → Nat} : ∀ {f k : Nat}, ffst P g f k = none → ∀ j, k ≤ j → j < k + f → P j
  | 0, k, _, j, h1, h2 => by omega
  | f + 1, k, h, j, h1, h2 => by
    by_cases hk : P k
    · rw [ffst_s hk] at h
      by_cases hj : j = k
      · rw [hj]; exact hk
      · exact ffst_none h j (by omega) (by omega)
    · rw [ffst_n hk] at h; cases h
theorem ffst_some {P : Nat → Prop} {g : Nat → Nat} : ∀ {f k p : Nat}, ffst P g f k = some p → ∃ j, k ≤ j ∧ j < k + f ∧ p = g j
  | 0, k, p, h => by cases h
  | f + 1, k, p, h => by
    by_cases hk : P k
    · rw [ffst_s hk] at h
      obtain ⟨j, h1, h2, h3⟩ := ffst_some h
      exact ⟨j, by omega, by omega, h3⟩
    · rw [ffst_n hk] at h
      exact ⟨k, by omega, by omega, (Option.some.inj h).symm⟩
/-- (1) -/
def hdr (i b : Nat) : Prop := (i < 2 → b = 77) ∧ (i = 2 → b = 1) ∧ (i = 3 → b = 0) ∧ (i = 4 → 12 ≤ b ∧ b ≤ 18) ∧ (i = 5 → 10 ≤ b ∧ b ≤ 14)
noncomputable def plH (B : Nat → Nat) (c : Nat) : Option Nat := match ffst (fun i => i < c ∧ hdr i (B i)) (fun i => i) 8 0 with
  | some p => some p
  | none => if nn B < 1 ∨ 8191 < nn B then some 6 else none
/-- a value is there whole and such -/
def vok (B : Nat → Nat) (c a : Nat) : Prop := a + 4 ≤ c ∧ vl (nn B) (bw B a)
/-- (2), (3) -/
noncomputable def plS (B : Nat → Nat) (c : Nat) : Option Nat := ffst (fun k => vok B c (8 + 4 * k)) (fun k => 8 + 4 * k) 50 0
noncomputable def plF (B : Nat → Nat) (c a : Nat) (f i : Nat) : Option Nat := ffst (fun i => vok B c (a + 4 * i)) (fun i => a + 4 * i) f i
/-- the place within an object at a, its head and body -/
noncomputable def plO1 (B : Nat → Nat) (c a : Nat) : Option Nat :=
  @ite (Option Nat) (¬ vok B c a) (Classical.propDecidable _) (some a)
  (if ¬ (a + 5 ≤ c ∧ B (a + 4) ≤ 1) then some (a + 4) else if ¬ (a + 7 ≤ c) then some (a + 5) else if B (a + 4) = 1 then (if a + 7 + bh B (a + 5) ≤ c then none else some (a + 7)) else plF B c (a + 7) (bh B (a + 5)) 0)
noncomputable def plO (B : Nat → Nat) (c : Nat) : Nat → Nat → Option Nat
  | 0, a => if a < c then some a else none
  | f + 1, a => match plO1 B c a with
    | some p => some p
    | none => plO B c f (a + 7 + bl B a)
/-- (4) -/
def plR (B : Nat → Nat) : Option Nat := if 2 ^ B 4 < wds B (nn B) then some 4 else if 2 ^ B 5 < nn B then some 5 else none
/-- (5), (6), (7) -/
noncomputable def plP (B : Nat → Nat) : Option Nat := ffst (SS B) (fun k => 8 + 4 * k) 15 0
noncomputable def plB (B : Nat → Nat) : Option Nat := ffst (RO B) (oa B) (nn B) 1
noncomputable def plQ (B : Nat → Nat) : Option Nat := @ite (Option Nat) (PR B) (Classical.propDecidable _) none (some 64)
def orE (a b : Option Nat) : Option Nat := match a with
  | some p => some p
  | none => b
/-- the place at which the first c bytes are refused; none: well formed -/
noncomputable def plc (B : Nat → Nat) (c : Nat) : Option Nat := orE (plH B c) (orE (plS B c) (orE (plO B c (nn B) 208) (orE (plR B) (orE (plP B) (orE (plB B) (plQ B))))))
theorem fd_lt {B : Nat → Nat} (hB : ∀ i, B i < 256) (k i : Nat) : fd B k i < 4294967296 := bw_lt hB _
theorem cl_lt {B : Nat → Nat} (hB : ∀ i, B i < 256) (k : Nat) : cl B k < 4294967296 := bw_lt hB _
theorem sp_lt {B : Nat → Nat} (hB : ∀ i, B i < 256) (k : Nat) : sp B k < 4294967296 := bw_lt hB _
theorem sz_lt {B : Nat → Nat} (hB : ∀ i, B i < 256) (k : Nat) : sz B k < 65536 := bh_lt hB _
