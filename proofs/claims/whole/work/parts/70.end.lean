/-! THE CLAIM OUT OF ONE WALK OF THE LAW'S BODY. Your part is whole_start (and what it stands on); all else here is the same for every law, but numbers. -/
def R_law : String := "ImageReaderLaw"
def lw_P (b : Addr) (xs : List Int32) (args : Array Value) (s : State) : Prop := args = #[.ref b] ∧ s.IntsAt b xs ∧ xs.length ≤ 3072 ∧ (Jvm.Cond.and given_1 narrow_1).before args s = true
def lw_Q (_ : Array Value) (s : State) (o : Outcome) (t : State) : Prop := o = .returned (some (.int 1)) ∧ Framed s o t [] 601024 7293034
def lw_Z (below : List Frame) (a : Array Value) (s : State) : State → Prop := fun t => ∃ o, t.status = .running ∧ Ended t below o ∧ lw_Q a s o t
/-- the law's own end, with 1 on the stack, nothing written that was there before, its room as the claim has it -/
theorem lw_ret {p : Program} {l : Launch} {e : Env} {s : State} {m : MethodId} {below : List Frame} {meth : Method} {c : Code} {b : Nat} (hx : p.tables.exec = Jvm.exec) (hb : c.code = code) (hr : meth.sig.returnType = ret) (hlocks : meth.locks = false) {pc : Nat} {H : Heap} {ls : Array Slot} (hdg : decode code pc = .ok (.ireturn, 1)) : W p l e room_1 s m #[Value.ref b] below meth c H [] 601024 7293034 (lw_Z below #[Value.ref b] s) (F0 m pc ls [.int 1]) := by
  intro T hT X
  obtain ⟨fs, hret, hrun, hended, hW, hframe⟩ := X.leave (v := some (.int 1)) (hlocks := hlocks) (fun h => by rw [hr] at h; cases h)
  have hmeth' : T.vm.method? m = some meth := X.method'
  refine ⟨T.setFrames fs, ?_, .returned (some (.int 1)), hrun, hended, rfl, ⟨_, rfl⟩, hW, hframe⟩
  jvm_step X.here [X.here.top, hx, hb, hdg, hmeth', hr, ret, narrow_b1]
  (try refine ⟨rfl, ?_⟩); (try refine ⟨rfl, ?_⟩)
  first | (intro acts; rw [hret _ acts rfl rfl rfl]) | rw [hret _ _ rfl rfl rfl]
  exact Steps.refl _
/-- what holds at the law's entry: the machine, the code, the tables' words (any of lw_tbl by 'hts w (by decide +kernel)'), the script of L ints xs at the cell b, what the Statement gives of the start (any of its parts by flat_of_before) -/
def lw_At (p : Program) (s : State) (m : MethodId) (meth : Method) (c : Code) (b L : Nat) (xs : Nat → Int32) : Prop :=
  p.tables.exec = Jvm.exec ∧ c.code = code ∧ meth.sig.returnType = ret ∧ c.maxLocals = 7 ∧ s.vm.findClass R_law = some m.cls ∧ (∀ w ∈ lw_tbl, w.before #[Value.ref b] s = true) ∧ va_X b L xs s s.heap ∧ b < s.heap.size ∧ meth.locks = false ∧ (Jvm.Cond.and given_1 narrow_1).before #[Value.ref b] s = true
theorem end_arr {s : State} {args : Array Value} {ty : FieldType} (h : (Cond.arrayClass ty).before args s = true) (hn : ∀ C, ty ≠ .object C) : ∃ cA : ClassId, ArrOfT s cA ty ∧ va_RA s cA ty := by
  obtain ⟨c, k, comp, h1, h2, h3⟩ := Cond.arrayClass_spec h
  refine ⟨c, fun n z => ⟨fun k h => (by cases h), k, h2, comp, h3⟩, ?_⟩
  cases ty with
  | object C => exact absurd rfl (hn C)
  | _ => exact h1
theorem end_L {n d : String} {A : Nat → Prop} {s : State} {args : Array Value} (h : (Cond.laysStatic "java/lang/Throwable" n d).before args s = true) (hA : ∀ a : Nat, a < s.heap.size → ¬ A a) : av_L n d A s s.heap := by
  obtain ⟨c, k, i, f, a, cell, h1, h2, h3, h4, h5, h6, h7, h8, h9⟩ := Cond.laysStatic_spec h
  exact ⟨c, k, i, f, a, cell, h1, h2, h3, h4, h5, h6, h7, h8, h9, hA a (Array.getElem?_eq_some_iff.mp h5).1⟩
theorem end_Th {s : State} {args : Array Value} {A : Nat → Prop} (hts : ∀ w ∈ lw_tbl, w.before args s = true) (hg : ∀ w ∈ flatC (Jvm.Cond.and given_1 narrow_1), w.before args s = true) (hA : ∀ a : Nat, a < s.heap.size → ¬ A a) : av_Th A s s.heap := by
  have l1 := hts (.laysStatic "java/lang/Throwable" "UNASSIGNED_STACK" "[Ljava/lang/StackTraceElement;") (by decide +kernel)
  have l2 := hts (.laysStatic "java/lang/Throwable" "SUPPRESSED_SENTINEL" "Ljava/util/List;") (by decide +kernel)
  have i0 := hts (.initialized "java/lang/Throwable") (by decide +kernel)
  have r1 := hg (.isRef (.static "java/lang/Throwable" "UNASSIGNED_STACK" "[Ljava/lang/StackTraceElement;")) (by decide +kernel)
  have r2 := hg (.isRef (.static "java/lang/Throwable" "SUPPRESSED_SENTINEL" "Ljava/util/List;")) (by decide +kernel)
  obtain ⟨sa, c9, cell9, k9, hsa, -⟩ := Cond.exactly_spec (hg (.exactly (.string "ImageReader" 67) "java/lang/String") (by decide +kernel))
  exact ⟨⟨va_Zqof l1 i0 r1 hA, va_Zqof l2 i0 r2 hA⟩, ⟨end_L l1 hA, end_L l2 hA⟩, ⟨va_Nw.of rfl (hts (.declares ⟨"java/lang/RuntimeException", "<init>", "(Ljava/lang/String;)V"⟩) (by decide +kernel)), va_Nw.of rfl (hts (.declares ⟨"java/lang/Exception", "<init>", "(Ljava/lang/String;)V"⟩) (by decide +kernel)), va_Nw.of rfl (hts (.declares ⟨"java/lang/Throwable", "<init>", "(Ljava/lang/String;)V"⟩) (by decide +kernel)), va_Nw.of rfl (hts (.castable "java/lang/IllegalArgumentException" "java/lang/IllegalArgumentException") (by decide +kernel))⟩, sa, vk_R.of (hts (.stringRef "ImageReader" 67 "there are not so many bytes") (by decide +kernel)) hsa⟩
theorem end_hd_lo {s : State} {args : Array Value} {A : Nat → Prop} (hts : ∀ w ∈ lw_tbl, w.before args s = true) (hg : ∀ w ∈ flatC (Jvm.Cond.and given_1 narrow_1), w.before args s = true) (hA : ∀ a : Nat, a < s.heap.size → ¬ A a) : ∃ t : Nat, va_Z "ImageReader" "HEAD_LOWEST" "[I" (.ref t) A s s.heap ∧ va_T .int t 6 (fun j => .int (hd_lo j)) A s s.heap := by
  obtain ⟨t, h1, h2⟩ := va_Tof (args := args) (s := s) (tm := .static "ImageReader" "HEAD_LOWEST" "[I") (ty := .int) (N := 6) (f := fun j => .int (hd_lo j)) (A := A) (by decide) (hg (.arrayOf (.static "ImageReader" "HEAD_LOWEST" "[I") .int) (by decide +kernel)) (va_eqt (hg (.eq (.length (.static "ImageReader" "HEAD_LOWEST" "[I")) (.int 6)) (by decide +kernel))) (by
    intro j hj
    have c : j = 0 ∨ j = 1 ∨ j = 2 ∨ j = 3 ∨ j = 4 ∨ j = 5 := by omega
    rcases c with rfl | rfl | rfl | rfl | rfl | rfl
    · exact va_eqt (hg (.eq (.elem (.static "ImageReader" "HEAD_LOWEST" "[I") (.int 0)) (.int 77)) (by decide +kernel))
    · exact va_eqt (hg (.eq (.elem (.static "ImageReader" "HEAD_LOWEST" "[I") (.int 1)) (.int 77)) (by decide +kernel))
    · exact va_eqt (hg (.eq (.elem (.static "ImageReader" "HEAD_LOWEST" "[I") (.int 2)) (.int 1)) (by decide +kernel))
    · exact va_eqt (hg (.eq (.elem (.static "ImageReader" "HEAD_LOWEST" "[I") (.int 3)) (.int 0)) (by decide +kernel))
    · exact va_eqt (hg (.eq (.elem (.static "ImageReader" "HEAD_LOWEST" "[I") (.int 4)) (.int 12)) (by decide +kernel))
    · exact va_eqt (hg (.eq (.elem (.static "ImageReader" "HEAD_LOWEST" "[I") (.int 5)) (.int 10)) (by decide +kernel))) hA
  exact ⟨t, va_Zref (hts (.laysStatic "ImageReader" "HEAD_LOWEST" "[I") (by decide +kernel)) (hts (.initialized "ImageReader") (by decide +kernel)) h1 hA, h2⟩
theorem end_hd_hi {s : State} {args : Array Value} {A : Nat → Prop} (hts : ∀ w ∈ lw_tbl, w.before args s = true) (hg : ∀ w ∈ flatC (Jvm.Cond.and given_1 narrow_1), w.before args s = true) (hA : ∀ a : Nat, a < s.heap.size → ¬ A a) : ∃ t : Nat, va_Z "ImageReader" "HEAD_HIGHEST" "[I" (.ref t) A s s.heap ∧ va_T .int t 6 (fun j => .int (hd_hi j)) A s s.heap := by
  obtain ⟨t, h1, h2⟩ := va_Tof (args := args) (s := s) (tm := .static "ImageReader" "HEAD_HIGHEST" "[I") (ty := .int) (N := 6) (f := fun j => .int (hd_hi j)) (A := A) (by decide) (hg (.arrayOf (.static "ImageReader" "HEAD_HIGHEST" "[I") .int) (by decide +kernel)) (va_eqt (hg (.eq (.length (.static "ImageReader" "HEAD_HIGHEST" "[I")) (.int 6)) (by decide +kernel))) (by
    intro j hj
    have c : j = 0 ∨ j = 1 ∨ j = 2 ∨ j = 3 ∨ j = 4 ∨ j = 5 := by omega
    rcases c with rfl | rfl | rfl | rfl | rfl | rfl
    · exact va_eqt (hg (.eq (.elem (.static "ImageReader" "HEAD_HIGHEST" "[I") (.int 0)) (.int 77)) (by decide +kernel))
    · exact va_eqt (hg (.eq (.elem (.static "ImageReader" "HEAD_HIGHEST" "[I") (.int 1)) (.int 77)) (by decide +kernel))
    · exact va_eqt (hg (.eq (.elem (.static "ImageReader" "HEAD_HIGHEST" "[I") (.int 2)) (.int 1)) (by decide +kernel))
    · exact va_eqt (hg (.eq (.elem (.static "ImageReader" "HEAD_HIGHEST" "[I") (.int 3)) (.int 0)) (by decide +kernel))
    · exact va_eqt (hg (.eq (.elem (.static "ImageReader" "HEAD_HIGHEST" "[I") (.int 4)) (.int 18)) (by decide +kernel))
    · exact va_eqt (hg (.eq (.elem (.static "ImageReader" "HEAD_HIGHEST" "[I") (.int 5)) (.int 14)) (by decide +kernel))) hA
  exact ⟨t, va_Zref (hts (.laysStatic "ImageReader" "HEAD_HIGHEST" "[I") (by decide +kernel)) (hts (.initialized "ImageReader") (by decide +kernel)) h1 hA, h2⟩
set_option maxHeartbeats 4000000 in
set_option maxRecDepth 100000 in
/-- THE LAW, from its entry -/
theorem whole_start {p : Program} {e : Env} {s : State} {m : MethodId} {below : List Frame} {meth : Method} {c : Code} (l : Launch) (hl0 : l.stackTraces = false) {b L : Nat} {xs : Nat → Int32} (hL : L ≤ 3072) (C0 : lw_At p s m meth c b L xs) : W p l e room_1 s m #[Value.ref b] below meth c s.heap [] 0 0 (lw_Z below #[Value.ref b] s) (entryFrame m ([Value.ref b] : List Value).toArray 7) := by
  obtain ⟨hx, hb, hr, hml, hown, hts, hX, hbl, hlocks, hgv⟩ := C0
  have hg := flat_of_before _ hgv
  have htb : ∀ w ∈ av_tb, w.before #[Value.ref b] s = true := fun w hw => hts w (List.mem_filter.mp hw).1
  have hA : ∀ q : Nat, s.heap.size ≤ q → (fun q : Nat => s.heap.size ≤ q) q := fun _ h => h
  have hnA : ∀ a : Nat, a < s.heap.size → ¬ (fun q : Nat => s.heap.size ≤ q) a := fun a h z => absurd (show s.heap.size ≤ a from z) (Nat.not_le.mpr h)
  obtain ⟨c0, i0, k0⟩ := u_known (C := "ImageReader") (T := F_R) (N := 8) (n := 8) htb i_R (htb (.instantiable "ImageReader" 8) (by decide +kernel))
  obtain ⟨c1, i1, k1⟩ := u_known (C := "ImageReader$Bytes") (T := F_B) (N := 2) (n := 2) htb i_B (htb (.instantiable "ImageReader$Bytes" 2) (by decide +kernel))
  obtain ⟨c2, i2, k2⟩ := u_known (C := "ImageReader$Image") (T := F_I) (N := 11) (n := 11) htb i_I (htb (.instantiable "ImageReader$Image" 11) (by decide +kernel))
  obtain ⟨c3, i3, k3⟩ := u_known (C := "ImageReader$Walk") (T := F_W) (N := 3) (n := 3) htb i_W (htb (.instantiable "ImageReader$Walk" 3) (by decide +kernel))
  obtain ⟨c4, i4, k4⟩ := u_known (C := "ImageReader$Pairing") (T := F_P) (N := 4) (n := 4) htb i_P (htb (.instantiable "ImageReader$Pairing" 4) (by decide +kernel))
  obtain ⟨c5, i5, k5⟩ := u_known (C := "ImageReaderModel") (T := F_M) (N := 13) (n := 13) htb i_M (htb (.instantiable "ImageReaderModel" 13) (by decide +kernel))
  obtain ⟨dC, dI, hKc⟩ : ∃ (dC : Nat → ClassId) (dI : Nat → Nat → Nat), ∀ (k : Nat) (q : vw_C), classes[k]? = some q → u_Kn s q.1 q.2.1 q.2.2 (dC k) (dI k) := by
    refine ⟨fun k => if k = 0 then c0 else if k = 1 then c1 else if k = 2 then c2 else if k = 3 then c3 else if k = 4 then c4 else c5, fun k => if k = 0 then i0 else if k = 1 then i1 else if k = 2 then i2 else if k = 3 then i3 else if k = 4 then i4 else i5, ?_⟩
    intro k q hq
    match k, hq with
    | 0, hq => cases hq; exact k0
    | 1, hq => cases hq; exact k1
    | 2, hq => cases hq; exact k2
    | 3, hq => cases hq; exact k3
    | 4, hq => cases hq; exact k4
    | 5, hq => cases hq; exact k5
    | k + 6, hq => simp [classes] at hq
  obtain ⟨d0, a0⟩ := end_arr (htb (.arrayClass .int) (by decide +kernel)) (fun C => by intro z; cases z)
  obtain ⟨d1, a1⟩ := end_arr (htb (.arrayClass .byte) (by decide +kernel)) (fun C => by intro z; cases z)
  obtain ⟨d2, a2⟩ := end_arr (htb (.arrayClass .long) (by decide +kernel)) (fun C => by intro z; cases z)
  obtain ⟨t0, z0⟩ := end_hd_lo (A := fun q : Nat => s.heap.size ≤ q) hts hg hnA
  obtain ⟨t1, z1⟩ := end_hd_hi (A := fun q : Nat => s.heap.size ≤ q) hts hg hnA
  obtain ⟨dA, hdA⟩ : ∃ dA : Nat → ClassId, dA 0 = d0 ∧ dA 1 = d1 ∧ dA 2 = d2 := ⟨fun k => if k = 0 then d0 else if k = 1 then d1 else d2, rfl, rfl, rfl⟩
  obtain ⟨tb, htb0⟩ : ∃ tb : Nat → Nat, tb 0 = t0 ∧ tb 1 = t1 := ⟨fun k => if k = 0 then t0 else t1, rfl, rfl⟩
  have hKa : va_K (dC, dI) classes (av_tys dA) s := by
    refine ⟨hKc, fun k q hq => ?_⟩
    unfold av_tys at hq
    rw [hdA.1, hdA.2.1, hdA.2.2] at hq
    match k, hq with
    | 0, hq => cases hq; exact a0
    | 1, hq => cases hq; exact a1
    | 2, hq => cases hq; exact a2
    | k + 3, hq => simp at hq
  have hK : av_K tb (dC, dI) dA (fun q : Nat => s.heap.size ≤ q) s := by
    refine ⟨hKa, fun w hw => va_Nw.of (av_nw_on hw) (hts w (List.mem_filter.mp hw).1), ?_, end_Th hts hg hnA⟩
    unfold av_St
    rw [htb0.1, htb0.2]
    exact ⟨z0, z1⟩
  have hP : va_P (dC, dI) classes [] s.heap := fun k q h => by simp at h
  have hD : va_D (fun q : Nat => s.heap.size ≤ q) [] := ⟨fun i j p q h => by simp at h, fun k q h => by simp at h⟩
  have hrep : av_rep dA (fun _ => none) [] := ⟨fun a e h => (by cases h), fun k q h => (by simp at h)⟩
  have hl := lv_entry ([.ref b]) (n := 7) (Nat.le_of_ble_eq_true rfl)
  rw [lg_entry_eq]
  refine law_entry (tb := tb) (b := b) (xs := xs) hL p l e room_1 s m #[Value.ref b] below meth c (dC, dI) dA (fun q : Nat => s.heap.size ≤ q) s.heap [] 0 0 (lw_Z below #[Value.ref b] s) _ [] ⟨hx, hb, hml, hown, htb, hK, hA, (fun z => by cases z), Nat.le_refl _, Nat.le_refl _, (fun x9 hx9 => by cases hx9; exact ⟨hX, hbl, Nat.not_le.mpr hbl⟩), hl0, ?_⟩ hrep hP hD va_S.rf hl (Nat.le_of_eq (Nat.zero_add _)) (Nat.le_of_eq (Nat.zero_add _))
  intro H locs ls ws pc v h i hpost hr1 hP1 hD1 hS1 hdec hi
  subst hpost
  rcases hi with ⟨rfl, x9, rt, e9, -, -⟩ | ⟨rfl, a9, rt, e9, -, -⟩ | ⟨rfl, e9, -⟩
  · cases e9
    refine va_forget (fun q hq => hS1.2.2 q hq) ?_
    exact lw_ret hx hb hr hlocks hdec
  · cases e9
  · cases e9
set_option maxHeartbeats 4000000 in
theorem lw_walk (l : Launch) (hl0 : l.stackTraces = false) (b : Addr) (xs : List Int32) : MetFree l x (headSpec (Jvm.Cond.code x code maxLocals ret :: tables_1) room_1) (lw_P b xs) (fun _ _ _ _ _ => True) lw_Q := by
  refine MetFree.of_bodyS (code := code) (maxLocals := maxLocals) (ret := ret) (by decide) ?_ ?_
  · intro args s m h hn
    obtain ⟨meth, c, h1, h2, h3, h4, h5, h6, -, -⟩ := Cond.code_spec hn (atoms_spec (ws := Jvm.Cond.code x code maxLocals ret :: tables_1) h _ List.mem_cons_self)
    exact ⟨meth, c, h1, h2, h3, h4, h5, h6⟩
  · intro p e s m args below meth c s₁ B hml0 hP _
    obtain ⟨rfl, hx, hbd, hgv⟩ := hP
    obtain ⟨scr, harrAt, hlist, hof, hsmall⟩ := hx
    obtain ⟨hcb, hkn, -, -⟩ := State.arrayAt?_spec harrAt
    have hown : s.vm.findClass R_law = some m.cls := findClass_of_methodNamed B.named
    have hts0 : ∀ c ∈ (Jvm.Cond.code x code maxLocals ret :: tables_1), c.before #[Value.ref b] s = true := atoms_spec (ws := Jvm.Cond.code x code maxLocals ret :: tables_1) B.pre
    have hts : ∀ w ∈ lw_tbl, w.before #[Value.ref b] s = true := k2_hts_sels lw_privs (fun w hw => hts0 w (List.mem_cons_of_mem _ hw)) lw_privs_ok
    have hml : c.maxLocals = 7 := B.maxLocals_eq (hts0 _ List.mem_cons_self)
    have X₀ : Stand p l e room_1 s m #[Value.ref b] below meth c s₁ [] 0 0 := Stand.of_body B
    have hh0 : s₁.heap = s.heap := by rw [B.state]; rfl
    have hsz : scr.slots.size = xs.length := by rw [← Array.length_toList, hlist, List.length_map]
    have hval : ∀ j : Nat, j < xs.length → scr.slots[j]? = some (.int (xs.getD j 0)) := fun j hj => by
      rw [← Array.getElem?_toList, hlist]
      simp [hj]
    have hbl : b < s.heap.size := (Array.getElem?_eq_some_iff.mp hcb).1
    have hX : va_X b xs.length (fun j => xs.getD j 0) s s.heap := ⟨scr, hcb, hof, hkn, hsz, hval⟩
    have K : W p l e room_1 s m #[Value.ref b] below meth c s₁.heap [] 0 0 (lw_Z below #[Value.ref b] s) (entryFrame m ([Value.ref b] : List Value).toArray 7) := by
      rw [hh0]
      exact whole_start l hl0 hbd ⟨B.exec, B.bytes, B.returns, hml, hown, hts, hX, hbl, B.notSynchronized, hgv⟩
    obtain ⟨t, a1, o, b1, b2, b3⟩ := K s₁ rfl X₀
    exact ⟨t, o, a1, b1, b2, b3⟩
theorem lw_pre_spec {args : Array Value} {s : State} (h : (Jvm.Cond.and given_1 narrow_1).before args s = true) (hr : rest_1_c.before args s = true) : ∃ (b : Addr) (xs : List Int32), lw_P b xs args s := by
  have hs := flat_of_before _ h
  have hq := flat_of_before _ hr
  have hc : (Cond.count 1).before args s = true := hs _ (by decide +kernel)
  have harr : (Cond.arrayOf (.arg 0) .int).before args s = true := hs _ (by decide +kernel)
  have hle : (Cond.le (.length (.arg 0)) (.int 3072)).before args s = true := hs _ (by decide +kernel)
  have hlen : (Cond.isInt (.length (.arg 0))).before args s = true := hq _ (by decide +kernel)
  have hall : (Cond.all (.arg 0) (.isInt (.elem (.arg 0) (.index 0)))).before args s = true := hq _ (by decide +kernel)
  obtain ⟨b, xs, hb, hx⟩ := State.ints_of_pre rfl harr hlen hall
  have hsm : xs.length < 2 ^ 31 := hx.choose_spec.2.2.2
  have hev : (Term.length (.arg 0)).eval args s none [] s = some (.int xs.length.toInt32) := hx.length_eval hb
  have hv := Cond.le_ints hev (show (Term.int 3072).eval args s none [] s = some (.int 3072) from rfl)
  have hd : xs.length.toInt32 ≤ 3072 := by
    simpa [Cond.before, Cond.holds, hv] using hle
  have hN : xs.length ≤ 3072 := (Int32.ofNat_le_ofNat hsm (by decide)).mp (show Int32.ofNat xs.length ≤ Int32.ofNat 3072 from hd)
  exact ⟨b, xs, Cond.one_arg hc (show args[0]? = some (.ref b) from hb), hx, hN, h⟩
theorem lw_comes (l : Launch) (hl0 : l.stackTraces = false) : Comes l x (Jvm.Cond.code x code maxLocals ret :: tables_1) room_1 (fun tb e args s => Calls_1 tb e args s ∧ rest_1 tb e args s ∧ Pre_1 tb e args s)
    (fun _ _ args s o t => lw_Q args s o t) := by
  intro p e ha hc hk s m args below hf hfit hheap happ hpre
  obtain ⟨b, xs, hP⟩ := lw_pre_spec hpre.2.2 hpre.2.1
  obtain ⟨k, o, h1, h2, h3, hQ⟩ := lw_walk l hl0 b xs p e ha hc hk s m args below hf ((Spec.applies_iff_loose hf).mp happ).1 hP trivial
  exact ⟨k, o, h1, h2, h3, hQ⟩
theorem lw_frame {s t : State} {o : Outcome} {args : Array Value} (h : Framed s o t [] 601024 7293034) :
    Framed s o t (fieldLocs frame_1_writes args s ++ arrayLocs frame_1_arrays args s ++ staticLocs frame_1_statics s) 601024 7293034 := h
theorem lw_limb (L : Cond) (hL : ∀ (args : Array Value) (s t : State), L.after args s (.returned (some (.int 1))) t = true) :
    ArmFor flags0 classFile x code maxLocals ret World_1 tables_1 room_1 Calls_1 rest_1 Pre_1
      (fun tb e a s o t => postC L tb e a s o t ∧ Framed s o t (fieldLocs frame_1_writes a s ++ arrayLocs frame_1_arrays a s ++ staticLocs frame_1_statics s) 601024 7293034) := by
  intro l hfl _ _ p e ha hc hk s m args below hf hfit hheap happ hpre
  have hl0 : l.stackTraces = false := by unfold Launch.stackTraces; rw [hfl]; decide +kernel
  obtain ⟨k, o, h1, h2, h3, rfl, hF⟩ := lw_comes l hl0 p e ha hc hk s m args below hf hfit hheap happ hpre
  exact ⟨k, _, h1, h2, h3, hL args s _, lw_frame hF⟩
theorem i_vc : Claimed_1_1 ∧ Claimed_1_2 := ⟨lw_limb limb_1_1 (fun args s t => by simp [limb_1_1, Cond.after, Cond.holds, Cond.value]), lw_limb limb_1_2 (fun args s t => Cond.after_iff.mpr (by
  first | (rw [show limb_1_2 = Cond.eq .result (.int 1) from rfl, Cond.eq_ints (x := 1) (y := 1) rfl rfl]; simp; done) | (simp [limb_1_2, Cond.value, Term.eval]; done)))⟩
