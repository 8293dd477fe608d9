/-! ===== the law ===== -/
theorem i32n (k : Int32) : ∃ u, u < 4294967296 ∧ k = nI u := ⟨k.toBitVec.toNat, k.toBitVec.isLt, by
  apply Int32.toBitVec_inj.1
  show k.toBitVec = BitVec.ofNat 32 k.toBitVec.toNat
  simp⟩
theorem ap_step {B w : Nat → Nat} {c n u : Nat} {o : OS} (h1 : o.1 = c + n) (h : ∀ i, i < c + n → o.2 i = apB B c n w i) (w0 : w n = u / 65536 / 256 % 256) (w1 : w (n + 1) = u / 65536 % 256) (w2 : w (n + 2) = u / 256 % 256) (w3 : w (n + 3) = u % 256) : (o4 o u).1 = c + (n + 4) ∧ ∀ i, i < c + (n + 4) → (o4 o u).2 i = apB B c (n + 4) w i := by
  refine ⟨by rw [o4_1, h1]; omega, fun i hi => ?_⟩
  show uB (uB (uB (uB o.2 o.1 (u / 65536 / 256 % 256)) (o.1 + 1) (u / 65536 % 256)) (o.1 + 1 + 1) (u / 256 % 256)) (o.1 + 1 + 1 + 1) (u % 256) i = apB B c (n + 4) w i
  unfold uB
  rw [h1]
  by_cases z3 : i = c + n + 3
  · rw [if_pos (by omega)]
    unfold apB
    rw [if_pos (by omega), show i - c = n + 3 by omega, w3]
  · rw [if_neg (by omega)]
    by_cases z2 : i = c + n + 2
    · rw [if_pos (by omega)]
      unfold apB
      rw [if_pos (by omega), show i - c = n + 2 by omega, w2]
    · rw [if_neg (by omega)]
      by_cases z1 : i = c + n + 1
      · rw [if_pos z1]
        unfold apB
        rw [if_pos (by omega), show i - c = n + 1 by omega, w1]
      · rw [if_neg z1]
        by_cases z0 : i = c + n
        · rw [if_pos z0]
          unfold apB
          rw [if_pos (by omega), show i - c = n by omega, w0]
        · rw [if_neg z0, h i (by omega)]
          unfold apB
          by_cases y : c ≤ i
          · rw [if_pos (by omega), if_pos (by omega)]
          · rw [if_neg (by omega), if_neg (by omega)]
theorem wB_at (a b c d e k j t : Nat) (hk : k = 4 * j + t) (ht : t < 4) : wB a b c d e k = (if j = 0 then a else if j = 1 then b else if j = 2 then c else if j = 3 then d else e) / 2 ^ (24 - 8 * t) % 256 := by
  unfold wB
  rw [show k % 4 = t by omega]
  have q : (if k < 4 then a else if k < 8 then b else if k < 12 then c else if k < 16 then d else e) = (if j = 0 then a else if j = 1 then b else if j = 2 then c else if j = 3 then d else e) := by
    by_cases z0 : j = 0
    · rw [if_pos (by omega), if_pos z0]
    · rw [if_neg (by omega), if_neg z0]
      by_cases z1 : j = 1
      · rw [if_pos (by omega), if_pos z1]
      · rw [if_neg (by omega), if_neg z1]
        by_cases z2 : j = 2
        · rw [if_pos (by omega), if_pos z2]
        · rw [if_neg (by omega), if_neg z2]
          by_cases z3 : j = 3
          · rw [if_pos (by omega), if_pos z3]
          · rw [if_neg (by omega), if_neg z3]
  rw [q]
theorem feed_eq {B : Nat → Nat} {c u1 u2 u3 u4 u5 : Nat} : ∀ i, i < c + 20 → (o4 (o4 (o4 (o4 (o4 ((c, B) : OS) u1) u2) u3) u4) u5).2 i = apB B c 20 (wB u1 u2 u3 u4 u5) i := by
  have w : ∀ j t, t < 4 → wB u1 u2 u3 u4 u5 (4 * j + t) = (if j = 0 then u1 else if j = 1 then u2 else if j = 2 then u3 else if j = 3 then u4 else u5) / 2 ^ (24 - 8 * t) % 256 := fun j t ht => wB_at _ _ _ _ _ _ j t rfl ht
  have d : ∀ u : Nat, u / 65536 / 256 = u / 2 ^ 24 := fun u => by rw [Nat.div_div_eq_div_mul]
  have s0 : ∀ i, i < c + 0 → ((c, B) : OS).2 i = apB B c 0 (wB u1 u2 u3 u4 u5) i := fun i hi => by rw [apB_0]
  obtain ⟨e1, s1⟩ := ap_step (o := ((c, B) : OS)) (n := 0) (u := u1) rfl s0 (by rw [d]; exact w 0 0 (by decide)) (w 0 1 (by decide)) (w 0 2 (by decide)) ((w 0 3 (by decide)).trans (by rw [show 2 ^ (24 - 8 * 3) = 1 from rfl, Nat.div_one]; rfl))
  obtain ⟨e2, s2⟩ := ap_step (n := 4) (u := u2) e1 s1 (by rw [d]; exact w 1 0 (by decide)) (w 1 1 (by decide)) (w 1 2 (by decide)) ((w 1 3 (by decide)).trans (by rw [show 2 ^ (24 - 8 * 3) = 1 from rfl, Nat.div_one]; rfl))
  obtain ⟨e3, s3⟩ := ap_step (n := 8) (u := u3) e2 s2 (by rw [d]; exact w 2 0 (by decide)) (w 2 1 (by decide)) (w 2 2 (by decide)) ((w 2 3 (by decide)).trans (by rw [show 2 ^ (24 - 8 * 3) = 1 from rfl, Nat.div_one]; rfl))
  obtain ⟨e4, s4⟩ := ap_step (n := 12) (u := u4) e3 s3 (by rw [d]; exact w 3 0 (by decide)) (w 3 1 (by decide)) (w 3 2 (by decide)) ((w 3 3 (by decide)).trans (by rw [show 2 ^ (24 - 8 * 3) = 1 from rfl, Nat.div_one]; rfl))
  obtain ⟨e5, s5⟩ := ap_step (n := 16) (u := u5) e4 s4 (by rw [d]; exact w 4 0 (by decide)) (w 4 1 (by decide)) (w 4 2 (by decide)) ((w 4 3 (by decide)).trans (by rw [show 2 ^ (24 - 8 * 3) = 1 from rfl, Nat.div_one]; rfl))
  exact s5
/-- what is left of the room after j calls -/
def BUD (K cap wl pl c j mc ms : Nat) : Prop := (K - cap) + (K - wl) + (K - pl) + 330 * (512 - j) ≤ mc ∧ 2 * (K - cap) + 4 * (K - wl) + 6 * (K - pl) + 5276672 + 2 * c ≤ ms + (20 * (j * j) + 66 * j)
theorem sq1 (j : Nat) : (j + 1) * (j + 1) = j * j + 2 * j + 1 := by rw [Nat.add_mul, Nat.mul_add]; omega
theorem BUD.next {K cap wl pl c j mc ms cap' wl' pl' c' mc' ms' : Nat} (h : BUD K cap wl pl c j mc ms) (hj : j < 512) (a1 : cap ≤ cap') (a2 : cap' ≤ K) (b1 : wl ≤ wl') (b2 : wl' ≤ K) (d1 : pl ≤ pl') (d2 : pl' ≤ K) (hm : mc ≤ mc' + (cap' - cap) + (wl' - wl) + (pl' - pl) + 330) (hs : ms + 2 * c' ≤ ms' + 2 * (cap' - cap) + 4 * (wl' - wl) + 6 * (pl' - pl) + 2 * c + (40 * j + 86)) : BUD K cap' wl' pl' c' (j + 1) mc' ms' := by
  obtain ⟨h1, h2⟩ := h
  refine ⟨by omega, ?_⟩
  rw [sq1]
  omega
theorem BUD.sl {K cap wl pl c j mc ms : Nat} (h : BUD K cap wl pl c j mc ms) (hj : j < 512) (hc : c ≤ 20 * j) : 2 * (K - cap) + 4 * (K - wl) + 6 * (K - pl) + 4 * c + 86 ≤ ms ∧ (K - cap) + (K - wl) + (K - pl) + 330 ≤ mc ∧ c / 32 ≤ 320 := by
  obtain ⟨h1, h2⟩ := h
  have q : (j + 1) * (j + 1) ≤ 512 * 512 := Nat.mul_le_mul (by omega) (by omega)
  rw [sq1] at q
  omega
theorem REL.hc {ln kl : Nat} {HB KB HC KC : Nat → Nat} (R : REL ln kl HB KB HC KC) (h : ∀ i, HB i < 256) : ∀ i, HC i < 256 := by
  rcases R.cs with ⟨_, e⟩ | ⟨_, e⟩
  · rw [e]; exact fun _ => Nat.zero_lt_succ _
  · rw [e]; exact h
theorem REL.kc {ln kl : Nat} {HB KB HC KC : Nat → Nat} (R : REL ln kl HB KB HC KC) (h : ∀ i, KB i < 256) : ∀ i, KC i < 256 := by
  by_cases z : kl = 0
  · rw [R.k0 z]; exact fun _ => Nat.zero_lt_succ _
  · rw [R.k1 (by omega)]; exact h
def HDR (ln : Nat) (HB : Nat → Nat) : Prop := 0 < ln → oa HB (nn HB + 1) ≤ ln ∧ HB 0 = 77 ∧ HB 1 = 77 ∧ HB 2 = 1 ∧ HB 3 = 0
def INV (h : AH) (r m ou K j mc ms : Nat) : Prop := ∃ (cap wl pl c : Nat) (B HC KC : Nat → Nat) (ln kl : Nat) (cd : Int32) (HB KB : Nat → Nat) (x0 : Int64), WLD h r m ou K cap wl pl c B HC KC c ln kl cd B HB KB x0 ∧ REL ln kl HB KB HC KC ∧ cap ≤ K ∧ wl ≤ K ∧ pl ≤ K ∧ c ≤ 20 * j ∧ ln ≤ 20 * j ∧ HDR ln HB ∧ BUD K cap wl pl c j mc ms
def AMWX (tb : Nat → Nat) (y : MethodName) (cc : ByteArray) (nL : Nat) (ret : Option FieldType) (hh : List (Nat × Nat × Nat × Nat)) (fr lo : Nat) (av : List Value) (h : AH) (mc ms : Nat) (Q : Option Value → AH → Prop) : Prop :=
  ∃ (fr' lo' mc' ms' : Nat) (P : Option Value → AH → Prop), fr' ≤ fr ∧ lo' ≤ lo ∧ mc' ≤ mc ∧ ms' ≤ ms ∧ AMW tb y cc nL ret hh fr' lo' av h mc' ms' P ∧ ∀ v h', P v h' → Q v h'
theorem wout_le {HB : Nat → Nat} {ln : Nat} (H : HDR ln HB) (h : 0 < ln) : (wout HB).1 ≤ ln := Nat.le_trans (wO_le HB (vfin HB).1 (nn HB)) (H h).1
theorem plc_ok {B : Nat → Nat} {c : Nat} (hc : c ≤ 65536) (h : plc B c = none) : laid B c (nn B) ∧ oa B (nn B + 1) = c ∧ B 0 = 77 ∧ B 1 = 77 ∧ B 2 = 1 ∧ B 3 = 0 := by
  obtain ⟨h1, h2, h3⟩ := plc_none h
  have q := laid_of hc h1 h2 h3
  have z := (plH_none h1).1
  exact ⟨q.1, q.2, (z 0 (by decide)).2.1 (by decide), (z 1 (by decide)).2.1 (by decide), (z 2 (by decide)).2.2.1 rfl, (z 3 (by decide)).2.2.2.1 rfl⟩
theorem HDR_read {HB B : Nat → Nat} {c : Nat} (hc : c ≤ 65536) (h : plc B c = none) : HDR c (cpB HB B c) := by
  intro _
  obtain ⟨q1, q2, q3, q4, q5, q6⟩ := plc_ok hc h
  have a := cpB_agr HB B c
  have h208 := q1.1
  have en : nn (cpB HB B c) = nn B := nn_agr a (by omega)
  refine ⟨by rw [en, oa_agr a q1 (nn B + 1) (by omega) (Nat.le_refl _), q2]; exact Nat.le_refl _, ?_, ?_, ?_, ?_⟩
  · rw [← a 0 (by omega)]; exact q3
  · rw [← a 1 (by omega)]; exact q4
  · rw [← a 2 (by omega)]; exact q5
  · rw [← a 3 (by omega)]; exact q6
theorem law_le {Ls j : Nat} (hL : Ls ≤ 3072) (h0 : 6 * j ≤ Ls) (h : ¬ nI Ls - nI 6 < nI (6 * j)) : 6 * j + 6 ≤ Ls := by
  by_cases z : 6 ≤ Ls
  · rw [pk_sub z, nI_ltI (by omega) (by omega)] at h
    omega
  · exfalso
    have j0 : j = 0 := by omega
    subst j0
    exact h ((by decide : ∀ n, n < 6 → nI n - nI 6 < nI (6 * 0)) Ls (by omega))
