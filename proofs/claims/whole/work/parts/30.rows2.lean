/-! ===== more rows: the static tables, arraycopy ===== -/
theorem tw_250 : (Jvm.Cond.methodLink "java/util/Arrays" (150 : Nat) ({ cls := "java/lang/System", name := "arraycopy", desc := "(Ljava/lang/Object;ILjava/lang/Object;II)V" } : Jvm.MethodName)) ∈ av_tb := List.mem_filter.mpr ⟨List.mem_append_right _ (List.mem_of_getElem? (i := 250) (by decide +kernel)), by decide +kernel⟩
theorem tw_455 : (Jvm.Cond.fieldLink "ImageReader" (174 : Nat) "ImageReader" "HEAD_LOWEST" "[I") ∈ av_tb := List.mem_filter.mpr ⟨List.mem_append_right _ (List.mem_of_getElem? (i := 455) (by decide +kernel)), by decide +kernel⟩
theorem nw_196 : (Jvm.Cond.fieldLinkNest "ImageReader$Layout" (9 : Nat) "ImageReader" "HEAD_LOWEST" "[I" "ImageReader") ∈ av_nw := List.mem_filter.mpr ⟨List.mem_append_right _ (List.mem_of_getElem? (i := 196) (by decide +kernel)), by decide +kernel⟩
theorem nw_199 : (Jvm.Cond.fieldLinkNest "ImageReader$Layout" (19 : Nat) "ImageReader" "HEAD_HIGHEST" "[I" "ImageReader") ∈ av_nw := List.mem_filter.mpr ⟨List.mem_append_right _ (List.mem_of_getElem? (i := 199) (by decide +kernel)), by decide +kernel⟩
section AWrows2
variable {tb : Nat → Nat} {own : String} {cc : ByteArray} {nL : Nat} {ret : Option FieldType} {ini : Bool} {sc : Option (Nat × Nat × (Nat → Int32))} {fr lo : Nat} {Post : Option Value → AH → Prop} {pc : Nat} {L : List (Option Value)} {st : List Value} {h : AH} {mc ms : Nat}
theorem aw_tab0 {idx : Nat} (hw : Cond.fieldLink own idx "ImageReader" "HEAD_LOWEST" "[I" ∈ av_tb ∨ ∃ host : String, Cond.fieldLinkNest own idx "ImageReader" "HEAD_LOWEST" "[I" host ∈ av_nw) (hd : decode cc pc = .ok (.getstatic idx, 3)) (k : AW tb own cc nL ret ini sc fr lo Post (pc + 3) L (.ref (tb 0) :: st) h mc ms) : AW tb own cc nL ret ini sc fr lo Post pc L st h mc ms := by
  intro p l e R s m args below meth c D dA A H locs cells slots Q ls ws F hr hP hD hS hl hc hs
  have hZ := F.2.2.2.2.2.1.2.2.1.1.1
  rcases hw with hw | ⟨host, hw⟩
  · exact va_gets F.1 F.2.1 hZ hS F.2.2.2.1 (F.2.2.2.2.1 _ hw) (fun _ q => q) hd (k p l e R s m args below meth c D dA A H locs cells slots Q ls ws F hr hP hD hS hl hc hs)
  · exact va_getsN F.1 F.2.1 hZ hS F.2.2.2.1 (va_Nw.use rfl (F.2.2.2.2.2.1.2.1 _ hw)) (fun _ q => q) hd (k p l e R s m args below meth c D dA A H locs cells slots Q ls ws F hr hP hD hS hl hc hs)
theorem aw_tld0 {i : Int32} {x : Int32} (hd : decode cc pc = .ok (.iaload, 1)) (hin : vp_in i 6) (hx : hd_lo i.toNatClampNeg = x) (k : AW tb own cc nL ret ini sc fr lo Post (pc + 1) L (.int x :: st) h mc ms) : AW tb own cc nL ret ini sc fr lo Post pc L (.int i :: .ref (tb 0) :: st) h mc ms := by
  intro p l e R s m args below meth c D dA A H locs cells slots Q ls ws F hr hP hD hS hl hc hs
  exact va_ti F.1 F.2.1 F.2.2.2.2.2.1.2.2.1.1.2 hS hin (by rw [hx]) hd (k p l e R s m args below meth c D dA A H locs cells slots Q ls ws F hr hP hD hS hl hc hs)
theorem aw_tln0 (hd : decode cc pc = .ok (.arraylength, 1)) (k : AW tb own cc nL ret ini sc fr lo Post (pc + 1) L (.int (nI 6) :: st) h mc ms) : AW tb own cc nL ret ini sc fr lo Post pc L (.ref (tb 0) :: st) h mc ms := by
  intro p l e R s m args below meth c D dA A H locs cells slots Q ls ws F hr hP hD hS hl hc hs
  exact va_tlen F.1 F.2.1 F.2.2.2.2.2.1.2.2.1.1.2 hS rfl hd (k p l e R s m args below meth c D dA A H locs cells slots Q ls ws F hr hP hD hS hl hc hs)
theorem aw_tab1 {idx : Nat} (hw : Cond.fieldLink own idx "ImageReader" "HEAD_HIGHEST" "[I" ∈ av_tb ∨ ∃ host : String, Cond.fieldLinkNest own idx "ImageReader" "HEAD_HIGHEST" "[I" host ∈ av_nw) (hd : decode cc pc = .ok (.getstatic idx, 3)) (k : AW tb own cc nL ret ini sc fr lo Post (pc + 3) L (.ref (tb 1) :: st) h mc ms) : AW tb own cc nL ret ini sc fr lo Post pc L st h mc ms := by
  intro p l e R s m args below meth c D dA A H locs cells slots Q ls ws F hr hP hD hS hl hc hs
  have hZ := F.2.2.2.2.2.1.2.2.1.2.1
  rcases hw with hw | ⟨host, hw⟩
  · exact va_gets F.1 F.2.1 hZ hS F.2.2.2.1 (F.2.2.2.2.1 _ hw) (fun _ q => q) hd (k p l e R s m args below meth c D dA A H locs cells slots Q ls ws F hr hP hD hS hl hc hs)
  · exact va_getsN F.1 F.2.1 hZ hS F.2.2.2.1 (va_Nw.use rfl (F.2.2.2.2.2.1.2.1 _ hw)) (fun _ q => q) hd (k p l e R s m args below meth c D dA A H locs cells slots Q ls ws F hr hP hD hS hl hc hs)
theorem aw_tld1 {i : Int32} {x : Int32} (hd : decode cc pc = .ok (.iaload, 1)) (hin : vp_in i 6) (hx : hd_hi i.toNatClampNeg = x) (k : AW tb own cc nL ret ini sc fr lo Post (pc + 1) L (.int x :: st) h mc ms) : AW tb own cc nL ret ini sc fr lo Post pc L (.int i :: .ref (tb 1) :: st) h mc ms := by
  intro p l e R s m args below meth c D dA A H locs cells slots Q ls ws F hr hP hD hS hl hc hs
  exact va_ti F.1 F.2.1 F.2.2.2.2.2.1.2.2.1.2.2 hS hin (by rw [hx]) hd (k p l e R s m args below meth c D dA A H locs cells slots Q ls ws F hr hP hD hS hl hc hs)
theorem aw_tln1 (hd : decode cc pc = .ok (.arraylength, 1)) (k : AW tb own cc nL ret ini sc fr lo Post (pc + 1) L (.int (nI 6) :: st) h mc ms) : AW tb own cc nL ret ini sc fr lo Post pc L (.ref (tb 1) :: st) h mc ms := by
  intro p l e R s m args below meth c D dA A H locs cells slots Q ls ws F hr hP hD hS hl hc hs
  exact va_tlen F.1 F.2.1 F.2.2.2.2.2.1.2.2.1.2.2 hS rfl hd (k p l e R s m args below meth c D dA A H locs cells slots Q ls ws F hr hP hD hS hl hc hs)
theorem aw_copy {idx t a0 a1 n0 n1 : Nat} {f g f' : Nat → Int32} {sp dp n : Int32} (hd : decode cc pc = .ok (.invokestatic idx, 3)) (hw : Cond.methodLink own idx arraycopyName ∈ av_tb) (ha0 : h a0 = some (.inl (t, n0, .inl f))) (ha1 : h a1 = some (.inl (t, n1, .inl g))) (ht : ∀ dA : Nat → ClassId, (av_tys dA)[t]? = some (dA t, av_t t)) (hp : refKind (av_t t) = false) (h1 : ¬ sp < 0) (h2 : ¬ dp < 0) (h3 : ¬ n < 0) (h4 : sp.toNatClampNeg + n.toNatClampNeg ≤ n0) (h5 : dp.toNatClampNeg + n.toNatClampNeg ≤ n1) (hfit : ∀ i, i < n.toNatClampNeg → fits (av_t t) (.int (f (sp.toNatClampNeg + i))) = true) (hf' : va_cpy f g sp.toNatClampNeg dp.toNatClampNeg n.toNatClampNeg = f') (hfr : 1 ≤ fr) (hlo : 26 ≤ lo) (hW : (st.map fun v => v.category).sum ≤ 8)
    (k : AW tb own cc nL ret ini sc fr lo Post (pc + 3) L st (av_up h a1 (.inl (t, n1, .inl f'))) mc ms) : AW tb own cc nL ret ini sc fr lo Post pc L (.int n :: .int dp :: .ref a1 :: .int sp :: .ref a0 :: st) h mc ms := by
  intro p l e R s m args below meth c D dA A H locs cells slots Q ls ws F hr hP hD hS hl hc hs
  obtain ⟨hx, hb, hml, hown, hts, hK, hA, hini, hfr0, hlo0, hsc, hret⟩ := id F
  obtain ⟨j0, hj0⟩ := hr.1 a0 _ ha0
  obtain ⟨j1, hj1⟩ := hr.1 a1 _ ha1
  subst hf'
  refine va_copyi hx hb (by rw [hml]; exact hl.1.symm) hown (hts _ hw) (hts _ tw_252) (hts _ tw_251) (hts _ tw_13) hK.1 hP hD hS j0 j1 t t hj0 hj1 (ht dA) (ht dA) hp h1 h2 h3 h4 h5 hfit (Nat.le_trans hfr hfr0) ?_ hd (fun H1 locs1 hP1 hD1 hS1 => ?_)
  · have e : nativeFrameWords "java/lang/System" "arraycopy" 5 = 7 := by decide
    omega
  · exact k p l e R s m args below meth c D dA A H1 locs1 cells slots Q ls _ F (hr.set (e := .inl (t, n1, .inl (va_cpy f g sp.toNatClampNeg dp.toNatClampNeg n.toNatClampNeg))) hj1) hP1 hD1 hS1 hl hc hs
theorem mmin_code : prog_14_method_69_code = Lib.Math.min.code := by decide +kernel
theorem mmax_code : prog_14_method_65_code = Lib.Math.max.code := by decide +kernel
theorem aw_mmin {idx : Nat} {x y r : Int32} (hd : decode cc pc = .ok (.invokestatic idx, 3)) (hw : Cond.methodLink own idx Lib.Math.min.name ∈ av_tb) (hx0 : (if y < x then y else x) = r) (hfr : 1 ≤ fr) (hlo : 21 ≤ lo) (hW : (st.map fun v => v.category).sum ≤ 8) (k : AW tb own cc nL ret ini sc fr lo Post (pc + 3) L (.int r :: st) h mc ms) : AW tb own cc nL ret ini sc fr lo Post pc L (.int y :: .int x :: st) h mc ms := by
  intro p l e R s m args below meth c D dA A H locs cells slots Q ls ws F hr hP hD hS hl hc hs
  obtain ⟨hx, hb, hml, hown, hts, hK, hA, hini, hfr0, hlo0, hsc, hret⟩ := id F
  subst hx0
  exact va_mmin hx hb (by rw [hml]; exact hl.1.symm) hown (hts _ hw) (hts _ tw_248) (hts _ tw_12) (by rw [← mmin_code]; exact hts _ tw_249) (Nat.le_trans hfr hfr0) (by omega) (by omega) (by omega) hd (k p l e R s m args below meth c D dA A H locs cells slots Q ls ws F hr hP hD hS hl hc hs)
theorem aw_mmax {idx : Nat} {x y r : Int32} (hd : decode cc pc = .ok (.invokestatic idx, 3)) (hw : Cond.methodLink own idx Lib.Math.max.name ∈ av_tb) (hx0 : (if x < y then y else x) = r) (hfr : 1 ≤ fr) (hlo : 21 ≤ lo) (hW : (st.map fun v => v.category).sum ≤ 8) (k : AW tb own cc nL ret ini sc fr lo Post (pc + 3) L (.int r :: st) h mc ms) : AW tb own cc nL ret ini sc fr lo Post pc L (.int y :: .int x :: st) h mc ms := by
  intro p l e R s m args below meth c D dA A H locs cells slots Q ls ws F hr hP hD hS hl hc hs
  obtain ⟨hx, hb, hml, hown, hts, hK, hA, hini, hfr0, hlo0, hsc, hret⟩ := id F
  subst hx0
  exact va_mmax hx hb (by rw [hml]; exact hl.1.symm) hown (hts _ hw) (hts _ tw_507) (hts _ tw_12) (by rw [← mmax_code]; exact hts _ tw_508) (Nat.le_trans hfr hfr0) (by omega) (by omega) (by omega) hd (k p l e R s m args below meth c D dA A H locs cells slots Q ls ws F hr hP hD hS hl hc hs)
end AWrows2
theorem nI_min {a b : Nat} (ha : a < 2147483648) (hb : b < 2147483648) : (if nI b < nI a then nI b else nI a) = nI (min a b) := by
  by_cases z : b < a
  · rw [if_pos ((nI_ltI hb ha).mpr z)]; congr 1; omega
  · rw [if_neg (fun q => z ((nI_ltI hb ha).mp q))]; congr 1; omega
theorem nI_max {a b : Nat} (ha : a < 2147483648) (hb : b < 2147483648) : (if nI a < nI b then nI b else nI a) = nI (max a b) := by
  by_cases z : a < b
  · rw [if_pos ((nI_ltI ha hb).mpr z)]; congr 1; omega
  · rw [if_neg (fun q => z ((nI_ltI ha hb).mp q))]; congr 1; omega
theorem fits_bs : ∀ b, b < 256 → fits .byte (.int (bs b)) = true := by decide +kernel
/-! ===== how a row of bytes grows ===== -/
def gF : Nat → Nat → Nat → Nat
  | 0, cap, _ => cap
  | f + 1, cap, n => if n ≤ cap then cap else gF f (2 * cap) n
theorem gF_f {n : Nat} : ∀ (f g cap : Nat), n ≤ cap + f → n ≤ cap + g → 0 < cap → gF f cap n = gF g cap n
  | 0, 0, _, _, _, _ => rfl
  | 0, g + 1, cap, h, _, _ => by rw [gF, gF, if_pos (by omega)]
  | f + 1, 0, cap, _, h, _ => by rw [gF, gF, if_pos (by omega)]
  | f + 1, g + 1, cap, h1, h2, h3 => by
    rw [gF, gF]
    by_cases z : n ≤ cap
    · rw [if_pos z, if_pos z]
    · rw [if_neg z, if_neg z]; exact gF_f f g (2 * cap) (by omega) (by omega) (by omega)
/-- the room of a row of cap that comes to hold n -/
def gN (cap n : Nat) : Nat := gF n cap n
theorem gN_le {cap n : Nat} (h : n ≤ cap) : gN cap n = cap := by
  unfold gN
  cases n with
  | zero => rfl
  | succ n => rw [gF, if_pos h]
theorem gN_gt {cap n : Nat} (h : cap < n) (h0 : 0 < cap) : gN cap n = gN (2 * cap) n := by
  unfold gN
  rw [gF_f n (n + 1) cap (by omega) (by omega) h0, gF, if_neg (by omega)]
theorem gN_bd : ∀ (f cap n : Nat), n ≤ cap + f → 0 < cap → cap ≤ gN cap n ∧ n ≤ gN cap n ∧ gN cap n ≤ cap + 2 * n ∧ (cap < n → 2 * cap ≤ gN cap n ∧ gN cap n < 2 * n)
  | 0, cap, n, h, h0 => by rw [gN_le (by omega)]; omega
  | f + 1, cap, n, h, h0 => by
    by_cases z : n ≤ cap
    · rw [gN_le z]; omega
    · rw [gN_gt (by omega) h0]
      have a := gN_bd f (2 * cap) n (by omega) (by omega)
      by_cases y : n ≤ 2 * cap
      · rw [gN_le y] at a ⊢; omega
      · have b := a.2.2.2 (by omega); omega
theorem gN_b {cap n : Nat} (h0 : 0 < cap) : n ≤ gN cap n ∧ ((n ≤ cap ∧ gN cap n = cap) ∨ (cap < n ∧ 2 * cap ≤ gN cap n ∧ gN cap n < 2 * n)) := by
  have a := gN_bd n cap n (by omega) h0
  refine ⟨a.2.1, ?_⟩
  by_cases z : n ≤ cap
  · exact Or.inl ⟨z, gN_le z⟩
  · exact Or.inr ⟨by omega, a.2.2.2 (by omega)⟩
theorem gN_gNf : ∀ (f cap a b : Nat), a ≤ cap + f → 0 < cap → a ≤ b → gN (gN cap a) b = gN cap b
  | 0, cap, a, b, h, h0, hb => by rw [gN_le (cap := cap) (n := a) (by omega)]
  | f + 1, cap, a, b, h, h0, hb => by
    by_cases z : a ≤ cap
    · rw [gN_le z]
    · rw [gN_gt (cap := cap) (n := a) (by omega) h0, gN_gt (cap := cap) (n := b) (by omega) h0]
      exact gN_gNf f (2 * cap) a b (by omega) (by omega) hb
theorem gN_gN {cap a b : Nat} (h0 : 0 < cap) (hb : a ≤ b) : gN (gN cap a) b = gN cap b := gN_gNf a cap a b (by omega) h0 hb
def cutB (G : Nat → Nat) (cap : Nat) : Nat → Nat := fun i => if i < cap then G i else 0
theorem cutB_lt {G : Nat → Nat} (hG : ∀ i, G i < 256) (cap : Nat) : ∀ i, cutB G cap i < 256 := fun i => by
  unfold cutB
  split
  · exact hG i
  · decide
theorem cpy_bsf {B : Nat → Nat} {cap : Nat} : va_cpy (bsf B) (fun _ => 0) 0 0 cap = bsf (cutB B cap) := by
  funext k
  unfold va_cpy
  show _ = bs (cutB B cap k)
  unfold cutB
  by_cases z : k < cap
  · rw [if_pos ⟨Nat.zero_le _, by omega⟩, if_pos z]; simp [bsf]
  · rw [if_neg (fun q => z (by omega)), if_neg z]
    show (0 : Int32) = bs 0
    decide
theorem cpy_lt {f : Nat → Int32} {cap k : Nat} (h : k < cap) : va_cpy f (fun _ => 0) 0 0 cap k = f k := by
  unfold va_cpy
  rw [if_pos ⟨Nat.zero_le _, by omega⟩]
  simp

