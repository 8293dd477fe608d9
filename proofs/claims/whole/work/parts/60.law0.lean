/-! ===== the law: rows that it needs more ===== -/
section LW0
variable {tb : Nat → Nat} {own : String} {cc : ByteArray} {nL : Nat} {ret : Option FieldType} {ini : Bool} {sc : Option (Nat × Nat × (Nat → Int32))} {fr lo : Nat} {Post : Option Value → AH → Prop} {pc : Nat} {L : List (Option Value)} {st : List Value} {h : AH} {mc ms : Nat}
theorem aw_tabOut {df l0 hi : Int} {offs : Array Int} {len : Nat} {x : Int32} {tgt : Nat} (hd : decode cc pc = .ok (.tableswitch df l0 hi offs, len)) (hx : x.toInt < l0 ∨ hi < x.toInt) (ht : (pc : Int) + df = (tgt : Int)) (k : AW tb own cc nL ret ini sc fr lo Post tgt L st h mc ms) : AW tb own cc nL ret ini sc fr lo Post pc L (.int x :: st) h mc ms := by
  intro p l e R s m args below meth c D dA A H locs cells slots Q ls ws F hr hP hD hS hl hc hs
  exact lv_tableOut F.1 F.2.1 hd hx ht (k p l e R s m args below meth c D dA A H locs cells slots Q ls ws F hr hP hD hS hl hc hs)
theorem aw_tabIn {df l0 hi : Int} {offs : Array Int} {len : Nat} {x : Int32} {off : Int} {tgt : Nat} (hd : decode cc pc = .ok (.tableswitch df l0 hi offs, len)) (h1 : ¬ x.toInt < l0) (h2 : ¬ hi < x.toInt) (ho : offs[(x.toInt - l0).toNat]? = some off) (ht : (pc : Int) + off = (tgt : Int)) (k : AW tb own cc nL ret ini sc fr lo Post tgt L st h mc ms) : AW tb own cc nL ret ini sc fr lo Post pc L (.int x :: st) h mc ms := by
  intro p l e R s m args below meth c D dA A H locs cells slots Q ls ws F hr hP hD hS hl hc hs
  exact lv_tableIn F.1 F.2.1 hd h1 h2 ho ht (k p l e R s m args below meth c D dA A H locs cells slots Q ls ws F hr hP hD hS hl hc hs)
theorem aw_lald {a n : Nat} {f : Nat → Int64} {i : Int32} {x : Int64} (hd : decode cc pc = .ok (.laload, 1)) (ha : h a = some (.inl (2, n, .inr (.inl f)))) (hin : vp_in i n) (hx : f i.toNatClampNeg = x) (k : AW tb own cc nL ret ini sc fr lo Post (pc + 1) L (.long x :: st) h mc ms) : AW tb own cc nL ret ini sc fr lo Post pc L (.int i :: .ref a :: st) h mc ms := by
  intro p l e R s m args below meth c D dA A H locs cells slots Q ls ws F hr hP hD hS hl hc hs
  obtain ⟨j, hj⟩ := hr.1 a _ ha
  subst hx
  exact va_lald F.1 F.2.1 F.2.2.2.2.2.1.1 hP j 2 hj rfl hin hd (k p l e R s m args below meth c D dA A H locs cells slots Q ls ws F hr hP hD hS hl hc hs)
theorem aw_last {a n : Nat} {f f' : Nat → Int64} {i : Int32} {x : Int64} (hd : decode cc pc = .ok (.lastore, 1)) (ha : h a = some (.inl (2, n, .inr (.inl f)))) (hin : vp_in i n) (hx : vp_updL f i.toNatClampNeg x = f') (k : AW tb own cc nL ret ini sc fr lo Post (pc + 1) L st (av_up h a (.inl (2, n, .inr (.inl f')))) mc ms) : AW tb own cc nL ret ini sc fr lo Post pc L (.long x :: .int i :: .ref a :: st) h mc ms := by
  intro p l e R s m args below meth c D dA A H locs cells slots Q ls ws F hr hP hD hS hl hc hs
  obtain ⟨j, hj⟩ := hr.1 a _ ha
  subst hx
  exact va_last F.1 F.2.1 F.2.2.2.2.2.1.1 hP hD hS j 2 hj rfl hin hd (fun H1 locs1 hP1 hD1 hS1 => k p l e R s m args below meth c D dA A H1 locs1 cells slots Q ls _ F (hr.set (e := .inl (2, n, .inr (.inl (vp_updL f i.toNatClampNeg x)))) hj) hP1 hD1 hS1 hl hc hs)
theorem aw_lcmp0 {x : Int64} (hd : decode cc pc = .ok (.lcmp, 1)) (k : AW tb own cc nL ret ini sc fr lo Post (pc + 1) L (.int 0 :: st) h mc ms) : AW tb own cc nL ret ini sc fr lo Post pc L (.long x :: .long x :: st) h mc ms := by
  intro p l e R s m args below meth c D dA A H locs cells slots Q ls ws F hr hP hD hS hl hc hs
  have e0 : lg_cmp x x = 0 := by simp [lg_cmp]
  exact W.lcmp F.1 F.2.1 hd (by rw [e0]; exact k p l e R s m args below meth c D dA A H locs cells slots Q ls ws F hr hP hD hS hl hc hs)
/-- the code of a method with a handler -/
abbrev av_wsW (y : MethodName) (cc : ByteArray) (nL : Nat) (ret : Option FieldType) (hh : List (Nat × Nat × Nat × Nat)) : List Cond := Cond.codeWith y cc nL ret hh :: av_tb
def AMW (tb : Nat → Nat) (y : MethodName) (cc : ByteArray) (nL : Nat) (ret : Option FieldType) (hh : List (Nat × Nat × Nat × Nat)) (fr lo : Nat) (av : List Value) (h : AH) (mc ms : Nat) (Post : Option Value → AH → Prop) : Prop :=
  ∀ (l : Launch), l.stackTraces = false → ∀ (D : va_G) (dA : Nat → ClassId) (sz : Nat), Met l y (av_wsW y cc nL ret hh) { frames := fr, cells := mc, slots := ms, locals := lo } (av_Pre tb D dA av h sz) (av_QQ D dA (av_AA h sz) Post) mc ms (av_AA h sz)
end LW0
theorem amw_of {tb : Nat → Nat} {y : MethodName} {cc : ByteArray} {nL : Nat} {ret : Option FieldType} {hh : List (Nat × Nat × Nat × Nat)} {fr lo : Nat} {av : List Value} {h : AH} {mc ms : Nat} {Post : Option Value → AH → Prop} (L : List (Option Value)) (hy : plainName y.cls = true) (hlen : (lg_sl av).length ≤ nL) (hL : av_prs 0 L = lv_args 0 av)
    (body : AW tb y.cls cc nL ret false none fr lo Post 0 L [] h mc ms) : AMW tb y cc nL ret hh fr lo av h mc ms Post := by
  intro l hl0 D dA sz
  refine va_MetW (hh := hh) (cc := cc) (maxL := nL) (ret := ret) hy rfl ?_
  intro p e s m args below meth c s₁ B hml hv
  obtain ⟨rfl, hsz, ⟨ws, hr, hP, hD⟩, hK⟩ := hv
  subst hsz
  have hl := lv_entry av (n := nL) hlen
  rw [lg_entry_eq]
  rw [← hL] at hl
  have hts := atoms_spec (ws := av_wsW y cc nL ret hh) B.pre
  refine body p l e _ s m _ below meth c D dA (av_AA h s.heap.size) s.heap [] 0 0 _ _ ws ⟨B.exec, B.bytes, hml, findClass_of_methodNamed B.named, fun w hw => hts w (List.mem_cons_of_mem _ hw), hK, fun q hq => Or.inr hq, (fun z => by cases z), Nat.le_refl _, Nat.le_refl _, (fun x hx => by cases hx), ?_⟩ hr hP hD va_S.rf hl (Nat.le_of_eq (Nat.zero_add mc)) (Nat.le_of_eq (Nat.zero_add ms))
  refine ⟨hl0, ?_⟩
  intro H locs ls ws pc v h' i hpost hrep hP hD hS hdec hi
  rcases hi with ⟨rfl, x, rt, rfl, hret, hnw⟩ | ⟨rfl, a, rt, rfl, hret, hrt⟩ | ⟨rfl, rfl, hret⟩
  · exact W.zret B.exec B.bytes (B.returns.trans hret) hnw (fun t ht hW => ⟨⟨_, h', ws, rfl, hpost, hrep, by rw [ht]; exact hP, hD⟩, hS.F ht⟩) hS.2.2 hdec (hlocks := B.notSynchronized)
  · exact W.aret B.exec B.bytes (B.returns.trans hret) hrt (Or.inr ⟨a, rfl⟩) (fun t ht hW => ⟨⟨_, h', ws, rfl, hpost, hrep, by rw [ht]; exact hP, hD⟩, hS.F ht⟩) hS.2.2 hdec (hlocks := B.notSynchronized)
  · exact W.vret B.exec B.bytes (B.returns.trans hret) (fun t ht hW => ⟨⟨_, h', ws, rfl, hpost, hrep, by rw [ht]; exact hP, hD⟩, hS.F ht⟩) hS.2.2 hdec (hlocks := B.notSynchronized)
/-- a static method with a handler is called, and comes back -/
theorem av_runSW {p : Program} {l : Launch} {e : Env} {R : Room} {s : State} {m : MethodId} {args : Array Value} {below : List Frame} {meth : Method} {c : Code} {H : Heap} {locs : List Loc} {cells slots : Nat} {own : String} {y : MethodName} {bytes cc : ByteArray} {maxL nL mc ms n index : Nat} {ret : Option FieldType} {hh : List (Nat × Nat × Nat × Nat)} {ws : List Cond} {rm : Room} {Pc : Array Value → State → Prop} {Qc : Array Value → State → Outcome → State → Prop} {free : Addr → Prop} {As rest : List Value} {g : JFrame}
    (hx : p.tables.exec = Jvm.exec) (hb : c.code = cc) (hml : c.maxLocals = nL) (ho : s.vm.findClass own = some m.cls) (hM : Met l y ws rm Pc Qc mc ms free) (hrc : rm.cells = mc) (hrs : rm.slots = ms) (hfr : rm.frames + 1 ≤ R.frames) (hlo : 8 + (maxL + 11) + rm.locals ≤ R.locals)
    (hws : ∀ w ∈ ws, ∀ a' U, s.WarmedH U.vm → w.before a' U = true) (hcw : Cond.codeWith y bytes maxL ret hh ∈ ws) (hcode : (Cond.codeWith y bytes maxL ret hh).before args s = true) (hini : (Cond.initialized y.cls).before args s = true) (hlk : (Cond.methodLink own index y).before args s = true) (hstt : (Cond.static y).before args s = true)
    (hy : y.cls ≠ "java/lang/invoke/MethodHandle" ∧ y.cls ≠ "java/lang/invoke/VarHandle") (hlen : ∀ sig, parseMethodDescriptor y.desc = some sig → n = sig.parameters.length) (hp : PreS s H Pc As)
    (hg : g.method = m) (hn : As.length = n) (hsize : g.locals.size = nL) (hstack : g.stack = As.reverse ++ rest) (hW : 2 * g.monitorRoom + (rest.map fun v => v.category).sum ≤ 8) (hdg : decode cc g.pc = .ok (.invokestatic index, 3)) (hf : cells + mc ≤ R.cells ∧ slots + ms ≤ R.slots) :
    va_Run p l e R s m args below meth c H locs cells slots mc ms g rest (Qc As.toArray) (free) := by
  have hK : Back l R p e below s args y 3 8 (PreOf R mc ms Pc) (PostOf Qc mc ms free) := va_backW (hh := hh) (bytes := bytes) (maxL := maxL) (ret := ret) hM hp.1 hrc hrs hfr hlo hws hcw (fun a' U hW => word_at hW (Or.inl (by first | rfl | simp [Cond.onTables, Cond.keeps, Cond.steady])) hini)
  intro T hT X
  obtain ⟨mk, methM, cM, hnamed, hmethM, -, -, -, -, -, -, hsigM⟩ := Cond.codeWith_spec hcode
  have hstatic : methM.isStatic = true := Cond.static_spec hnamed hmethM hstt
  obtain ⟨kP, hkP, -⟩ := className_of_methodNamed hnamed
  have hinitP : kP.init = .initialized := Cond.initialized_spec (findClass_of_methodNamed hnamed) hkP hini
  have hdg' : decode c.code g.pc = .ok (.invokestatic index, 3) := by rw [hb]; exact hdg
  obtain ⟨vm₁, X₁, hstep₁⟩ := X.invokestatic hx ho hlk hnamed hmethM hstatic hkP hinitP hy (g := g) hg (argsL := As) (rest := rest) (hn.trans (hlen _ hsigM)) hstack hdg'
  obtain ⟨v, B, X', hpost, hsteps⟩ := hK m meth c ⟨T.setVm vm₁, locs, cells, slots⟩ { g with stack := rest } (.invokestatic index) mk As.toArray X₁ hg (hsize.trans hml.symm) hdg' hW (X₁.named hnamed) ⟨hf.1, hf.2, hp.2 (T.setVm vm₁) hT X₁.warmed⟩
  obtain ⟨U', l2, c2, s2⟩ := B
  obtain ⟨g', mk', t, L, e1, e2, hq, h1, hL, h2, h3⟩ := hpost
  dsimp only [Pt.U, Pt.locs, Pt.cells, Pt.slots] at X' e1 e2 h1 h2 h3 hsteps
  subst h1; subst h2; subst h3
  exact ⟨v, (T.setVm vm₁).calling g' mk' As.toArray, t, U', L, hT, X', hL, e1, e2, hq, fun target hz => hstep₁ _ fun acts => by rw [doInvoke_state]; exact hsteps.trans hz⟩
theorem aw_callSW {tb : Nat → Nat} {own : String} {cc : ByteArray} {nL : Nat} {ret : Option FieldType} {ini : Bool} {sc : Option (Nat × Nat × (Nat → Int32))} {fr lo : Nat} {Post : Option Value → AH → Prop} {pc : Nat} {L : List (Option Value)} {st : List Value} {h : AH} {mc ms : Nat} {y : MethodName} {cc' : ByteArray} {nL' : Nat} {ret' : Option FieldType} {hh : List (Nat × Nat × Nat × Nat)} {fr' lo' mc' ms' mc2 ms2 : Nat} {Post' : Option Value → AH → Prop} {idx n : Nat} {As rest : List Value} (hM : AMW tb y cc' nL' ret' hh fr' lo' As h mc' ms' Post')
    (g1 : Cond.static y ∈ av_tb) (g3 : Cond.initialized y.cls ∈ av_tb) (g4 : Cond.codeWith y cc' nL' ret' hh ∈ av_tb) (gn : av_nm y n) (g5 : Cond.methodLink own idx y ∈ av_tb) (hd : decode cc pc = .ok (.invokestatic idx, 3)) (hn : As.length = n) (hst : st = As.reverse ++ rest) (hW : (rest.map fun v => v.category).sum ≤ 8) (h1 : fr' + 1 ≤ fr) (h2 : 8 + (nL' + 11) + lo' ≤ lo) (h3 : mc' + mc2 ≤ mc) (h4 : ms' + ms2 ≤ ms)
    (kk : ∀ (v : Option Value) (h' : AH), Post' v h' → AW tb own cc nL ret ini sc fr lo Post (pc + 3) L (v.toList ++ rest) h' mc2 ms2) : AW tb own cc nL ret ini sc fr lo Post pc L st h mc ms := by
  intro p l e R s m args below meth c D dA A H locs cells slots Q ls ws F hr hP hD hS hl hc hs
  obtain ⟨hx, hb, hml, hown, hts, hK, hA, hini, hfr, hlo, hsc, hret⟩ := id F
  subst hst
  have hpre : PreS s H (av_Pre tb D dA As h H.size) As := ⟨av_blind, av_pre (av := As) hK hr hP hD hS hA⟩
  have hin : ∀ w ∈ av_wsW y cc' nL' ret' hh, w ∈ av_tb := fun w hw => by
    rcases List.mem_cons.mp hw with rfl | hw
    · exact g4
    · exact hw
  have hgood : GoodIn av_tb (av_wsW y cc' nL' ret' hh) := av_good hin
  refine av_after (av_runSW (As := As) (rest := rest) hx hb hml hown (hM l hret.1 D dA H.size) rfl rfl (Nat.le_trans h1 hfr) (Nat.le_trans h2 hlo) (pay_in hts hgood) List.mem_cons_self (hts _ g4) (hts _ g3) (hts _ g5) (hts _ g1) ⟨gn.1, gn.2.1⟩ (fun sig hz => by have h2 := gn.2.2; rw [hz] at h2; exact (Option.some.inj h2).symm) hpre rfl hn hl.1 rfl (lv_room hW) hd ⟨by omega, by omega⟩) hr hD hS hA ?_
  intro v h' ws' H1 locs1 hp hr1 hP1 hD1 hS1
  exact kk v h' hp p l e R s m args below meth c D dA A H1 locs1 _ _ Q ls ws' F hr1 hP1 hD1 hS1 hl (by omega) (by omega)
/-! ===== the one throw: the reader's 'end' ===== -/
def thN : List String := ["java/lang/RuntimeException", "java/lang/Exception"]
def thA : List Cond := Bundle.ownAtoms "ImageReader" 69 "java/lang/IllegalArgumentException" thN
def th8 : List Cond := [.laysStatic "java/lang/Throwable" "UNASSIGNED_STACK" "[Ljava/lang/StackTraceElement;", .laysStatic "java/lang/Throwable" "SUPPRESSED_SENTINEL" "Ljava/util/List;", .isRef (.static "java/lang/Throwable" "UNASSIGNED_STACK" "[Ljava/lang/StackTraceElement;"), .isRef (.static "java/lang/Throwable" "SUPPRESSED_SENTINEL" "Ljava/util/List;"), .declares ⟨"java/lang/RuntimeException", "<init>", "(Ljava/lang/String;)V"⟩, .declares ⟨"java/lang/Exception", "<init>", "(Ljava/lang/String;)V"⟩, .declares ⟨"java/lang/Throwable", "<init>", "(Ljava/lang/String;)V"⟩, .castable "java/lang/IllegalArgumentException" "java/lang/IllegalArgumentException"]
theorem thA_ok : thA.all (fun w => decide (w ∈ th8) || decide (w ∈ av_tb)) = true := by decide +kernel
theorem av_isRef {C n d : String} {A : Nat → Prop} {s : State} {args : Array Value} (h : va_Zq C n d A s s.heap) : (Cond.isRef (.static C n d)).before args s = true := by
  have key : ∀ v : Value, v.isRef = true → va_Z C n d v A s s.heap → (Cond.isRef (.static C n d)).before args s = true := by
    intro v hv hz
    obtain ⟨cf, kf, fi, f, a, cell, h1, h2, h3, h4, h5, h6, h7, -⟩ := hz
    have he : (Term.static C n d).eval args s none [] s = some v := by
      simp [Term.eval, State.fieldNamed?, h1, h2, h4, h5, h6, h7]
    simp only [Cond.before, Cond.holds, Cond.value, he]
    cases v <;> simp_all [Value.isRef]
  rcases h with h | ⟨t, h⟩
  · exact key .null rfl h
  · exact key (.ref t) rfl h
theorem th_words {A : Nat → Prop} {s : State} {args : Array Value} (hts : ∀ w ∈ av_tb, w.before args s = true) (hT : av_Th A s s.heap) : ∀ w ∈ thA, w.before args s = true := by
  obtain ⟨⟨z1, z2⟩, ⟨l1, l2⟩, ⟨d1, d2, d3, d4⟩, -⟩ := hT
  have h8 : ∀ w ∈ th8, w.before args s = true := by
    intro w hw
    simp only [th8, List.mem_cons, List.not_mem_nil, or_false] at hw
    rcases hw with rfl | rfl | rfl | rfl | rfl | rfl | rfl | rfl
    · exact l1.word
    · exact l2.word
    · exact av_isRef z1
    · exact av_isRef z2
    · exact va_Nw.use rfl d1
    · exact va_Nw.use rfl d2
    · exact va_Nw.use rfl d3
    · exact va_Nw.use rfl d4
  intro w hw
  have q := List.all_eq_true.mp thA_ok w hw
  rw [Bool.or_eq_true, decide_eq_true_eq, decide_eq_true_eq] at q
  exact q.elim (h8 w) (hts w)
def avT : Array Value → State → Outcome → State → Prop := fun _ st o t => ∃ (q : Addr) (ce : Cell), o = .threw q ∧ t.heap[q]? = some ce ∧ ce.vm = .none ∧ st.vm.findClass "java/lang/IllegalArgumentException" = some ce.cls ∧ st.WarmedH t.vm ∧ st.sameButNew ({ t with vm := st.vm } : State) [] 1 6
def ATM (tb : Nat → Nat) (y : MethodName) (cc : ByteArray) (nL : Nat) (ret : Option FieldType) (fr lo : Nat) (av : List Value) (h : AH) : Prop :=
  ∀ (l : Launch), l.stackTraces = false → ∀ (D : va_G) (dA : Nat → ClassId) (sz : Nat), MetFree l y (headSpec (av_ws y cc nL ret) { frames := fr, cells := 1, slots := 6, locals := lo }) (av_Pre tb D dA av h sz) (fun _ _ _ _ _ => True) avT
theorem th_k : Cond.classLink "ImageReader" 65 "java/lang/IllegalArgumentException" ∈ av_tb := List.mem_filter.mpr ⟨List.mem_append_right _ (List.mem_of_getElem? (i := 602) (by decide +kernel)), by decide +kernel⟩
theorem th_i : Cond.initialized "java/lang/IllegalArgumentException" ∈ av_tb := by decide +kernel
theorem th_n : Cond.instantiable "java/lang/IllegalArgumentException" 6 ∈ thA := by decide +kernel
theorem th_f : Bundle.fit "java/lang/IllegalArgumentException" = true := by decide +kernel
theorem th_fn : ∀ n ∈ thN, Bundle.fit n = true := by decide +kernel
/-- from 'new' to the end: the object is thrown -/
theorem w_throw {p : Program} {l : Launch} {e : Env} {R : Room} {s : State} {m : MethodId} {args : Array Value} {below : List Frame} {meth : Method} {c : Code} {ls : Array Slot} {A : Nat → Prop} (hx : p.tables.exec = Jvm.exec) (hl : l.stackTraces = false) (hb : c.code = b_R_end) (hown : s.vm.findClass "ImageReader" = some m.cls) (hts : ∀ w ∈ av_tb, w.before args s = true) (hTh : av_Th A s s.heap) (hsz : ls.size = c.maxLocals) (hno : ∀ x ∈ c.exceptionTable.toList, covers x 24 = false) (hfr : 5 < R.frames) (hlo : 90 ≤ R.locals) (hc : 1 ≤ R.cells) (hs : 6 ≤ R.slots) (hlk : meth.locks = false) :
    W p l e R s m args below meth c s.heap [] 0 0 (fun t => ∃ o, t.status = .running ∧ Ended t below o ∧ avT args s o t) (F0 m 15 ls []) := by
  intro T hT X
  have htr : e.platform.stackTraces = false := (show e.platform.stackTraces = l.stackTraces by rw [X.admits.platform]).trans hl
  have h := th_words hts hTh
  obtain ⟨-, -, -, sa, hstr⟩ := hTh
  obtain ⟨vm₁, cX, kX, hfX, hkX, -, -, X₁, st1⟩ := X.newCold hx (own := "ImageReader") (C := "java/lang/IllegalArgumentException") (index := 65) (n := 6) hown (hts _ th_k) (h _ th_n) (hts _ th_i) (g := F0 m 15 ls []) rfl (by rw [hb]; exact d_R_end_15) (by omega) (by omega)
  generalize hT1 : (T.setVm vm₁).pushCell { cls := cX, slots := kX.instanceTypes.map defaultValue, vm := .none } = T1 at X₁ st1
  have hcellA : T1.heap[T.heap.size]? = some (freshCell cX kX) := by rw [← hT1]; exact State.heap_pushCell_size _ _
  have d3' : decode c.code 18 = .ok (.dup, 1) := by rw [hb]; exact d_R_end_18
  have d4' : decode c.code 19 = .ok (.ldc 67, 2) := by rw [hb]; exact d_R_end_19
  obtain ⟨U, hsteps, hrun, hend, hW, hsame, ce, hce, hO⟩ := X₁.ctorThrowS hx htr (own := "ImageReader") (cls := "java/lang/IllegalArgumentException") (names := thN) (ic := 69) hown th_f th_fn h (fun x hx => nomatch hx) hfX hkX hcellA (by rw [hT]; exact Nat.le_refl _) (msg := .ref sa) rfl
    (g := { method := m, pc := 21, locals := ls, stack := .ref sa :: .ref T.heap.size :: .ref T.heap.size :: [], locked := none }) rfl hsz rfl rfl (rest := []) rfl
    (by rw [hb]; exact d_R_end_21) (by rw [hb]; exact d_R_end_24) hno (by show 2 + 3 < R.frames; omega) (by show 2 * 0 + (1 + 0) + (13 * (2 + 1) + 42) ≤ R.locals; omega) hlk
  refine ⟨U, ?_, .threw T.heap.size, hrun, hend, T.heap.size, ce, rfl, hce, hO.vm, hO.cls, hW, hsame⟩
  refine st1 _ ?_
  show Steps p.tables e below (T1.setTop { method := m, pc := 18, locals := ls, stack := .ref T.heap.size :: [], locked := none }) _
  jvm_step X₁.here [X₁.here.top, hx, d3', Value.category]
  exact X₁.ldcString hx (own := "ImageReader") (text := "there are not so many bytes") (index := 67) (a := sa) hown hstr.1 hstr.2
    (g := { method := m, pc := 19, locals := ls, stack := .ref T.heap.size :: .ref T.heap.size :: [], locked := none }) rfl d4' _ hsteps
set_option maxHeartbeats 4000000 in
theorem t_R_end {tb : Nat → Nat} {h : AH} {r b ro c0 : Nat} {fs : List Value} (hr0 : h r = some (.inr (0, .ref b :: fs))) (hb0 : h b = some (.inr (1, [.ref ro, .int (nI c0)]))) (k : Int32) (hk : k < 0 ∨ nI c0 < k) : ATM tb y_R_end b_R_end 3 (some .int) 6 110 [.ref r, .int k] h := by
  intro l hl D dA sz
  refine MetFree.of_bodyS (code := b_R_end) (maxLocals := 3) (ret := some .int) (by decide) ?_ ?_
  · intro args s m h0 hn
    obtain ⟨meth, c, h1, h2, h3, h4, h5, h6, -, -⟩ := Cond.code_spec hn (atoms_spec (ws := av_ws y_R_end b_R_end 3 (some .int)) h0 _ List.mem_cons_self)
    exact ⟨meth, c, h1, h2, h3, h4, h5, h6⟩
  · intro p e s m args below meth c s₁ B hml hv _
    obtain ⟨rfl, hsz, ⟨ws, hr, hP, hD⟩, hK⟩ := hv
    have hts0 := atoms_spec (ws := av_ws y_R_end b_R_end 3 (some .int)) B.pre
    have hts : ∀ w ∈ av_tb, w.before [Value.ref r, .int k].toArray s = true := fun w hw => hts0 w (List.mem_cons_of_mem _ hw)
    have hh0 : s₁.heap = s.heap := by rw [B.state]; rfl
    have hown : s.vm.findClass "ImageReader" = some m.cls := findClass_of_methodNamed B.named
    have hno := covers_of_empty (B.noHandlers (hts0 _ List.mem_cons_self)) 24
    have key : W p l e (headSpec (av_ws y_R_end b_R_end 3 (some .int)) { frames := 6, cells := 1, slots := 6, locals := 110 }).room s m [Value.ref r, .int k].toArray below meth c s.heap [] 0 0 (fun t => ∃ o, t.status = .running ∧ Ended t below o ∧ avT [Value.ref r, .int k].toArray s o t) (entryFrame m [Value.ref r, .int k].toArray 3) := by
      have hl3 := lv_entry ([.ref r, .int k]) (n := 3) (Nat.le_of_ble_eq_true rfl)
      rw [lg_entry_eq]
      generalize (lg_sl ([Value.ref r, .int k]) ++ List.replicate (3 - (lg_sl ([Value.ref r, .int k])).length) Slot.unset).toArray = ls at hl3 ⊢
      have hl3 : lv_has ls 3 [(0, .ref r), (1, .int k)] := hl3
      have thr := w_throw (e := e) (R := (headSpec (av_ws y_R_end b_R_end 3 (some .int)) { frames := 6, cells := 1, slots := 6, locals := 110 }).room) (below := below) (ls := ls) B.exec hl B.bytes hown hts hK.2.2.2 (hl3.1.trans hml.symm) hno (show 5 < 6 by decide) (show 90 ≤ 110 by decide) (Nat.le_refl _) (Nat.le_refl _) B.notSynchronized
      refine lv_iload_n B.exec B.bytes d_R_end_0 rfl (lv_at hl3 1 rfl) ?_
      refine lv_if_lt (tgt := 15) B.exec B.bytes d_R_end_1 (by decide) (fun _ => thr) (fun z => ?_)
      have hk2 : nI c0 < k := hk.resolve_left z
      refine lv_iload_n B.exec B.bytes d_R_end_4 rfl (lv_at hl3 1 rfl) ?_
      refine lv_aload_n B.exec B.bytes d_R_end_5 rfl (lv_at hl3 0 rfl) ?_
      obtain ⟨j0, hj0⟩ := hr.1 r _ hr0
      obtain ⟨j1, hj1⟩ := hr.1 b _ hb0
      obtain ⟨C, Tt, N, q1, q2, q3, q4⟩ := fl_R_10
      obtain ⟨C', Tt', N', r1, r2, r3, r4⟩ := fl_R_49
      have fin : W p l e (headSpec (av_ws y_R_end b_R_end 3 (some .int)) { frames := 6, cells := 1, slots := 6, locals := 110 }).room s m [Value.ref r, .int k].toArray below meth c s.heap [] 0 0 (fun t => ∃ o, t.status = .running ∧ Ended t below o ∧ avT [Value.ref r, .int k].toArray s o t) (F0 m 12 ls [.int (nI c0), .int k]) := by
        refine lv_icmp_le (tgt := 25) B.exec B.bytes d_R_end_12 (by decide) (fun y => absurd y (Int32.not_le.mpr hk2)) (fun _ => thr)
      have mid : W p l e (headSpec (av_ws y_R_end b_R_end 3 (some .int)) { frames := 6, cells := 1, slots := 6, locals := 110 }).room s m [Value.ref r, .int k].toArray below meth c s.heap [] 0 0 (fun t => ∃ o, t.status = .running ∧ Ended t below o ∧ avT [Value.ref r, .int k].toArray s o t) (F0 m 9 ls [.ref b, .int k]) := by
        rcases r4 with r4 | ⟨host, r4⟩
        · exact va_get B.exec B.bytes hts r2 hown hK.1 hP j1 hj1 r1 1 r3 (hts _ r4) (fun _ q => q) rfl d_R_end_9 fin
        · exact va_getN B.exec B.bytes hts r2 hown hK.1 hP j1 hj1 r1 1 r3 (va_Nw.use rfl (hK.2.1 _ r4)) (fun _ q => q) rfl d_R_end_9 fin
      rcases q4 with q4 | ⟨host, q4⟩
      · exact va_get B.exec B.bytes hts q2 hown hK.1 hP j0 hj0 q1 0 q3 (hts _ q4) (fun _ q => q) rfl d_R_end_6 mid
      · exact va_getN B.exec B.bytes hts q2 hown hK.1 hP j0 hj0 q1 0 q3 (va_Nw.use rfl (hK.2.1 _ q4)) (fun _ q => q) rfl d_R_end_6 mid
    obtain ⟨t, a1, o, b1, b2, b3⟩ := key s₁ hh0 (Stand.of_body B)
    exact ⟨t, o, a1, b1, b2, b3⟩
