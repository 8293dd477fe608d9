/-! ===== the light layer: AW, AM ===== -/
abbrev AE : Type := (Nat × vp_A) ⊕ (Nat × List Value)
abbrev AH : Type := Nat → Option AE
def av_e (dA : Nat → ClassId) (e : AE) : va_E := match e with
  | .inl a => .inl (dA a.1, a.2)
  | .inr o => .inr o
def av_up (h : AH) (a : Nat) (e : AE) : AH := fun q => if q = a then some e else h q
theorem av_up_self (h : AH) (a : Nat) (e : AE) : av_up h a e a = some e := by simp [av_up]
theorem av_up_ne {h : AH} {a q : Nat} {e : AE} (hq : q ≠ a) : av_up h a e q = h q := by simp [av_up, hq]
/-- the list of cells is the abstract heap -/
def av_rep (dA : Nat → ClassId) (h : AH) (ws : va_W) : Prop :=
  (∀ (a : Nat) (e : AE), h a = some e → ∃ k : Nat, ws[k]? = some (a, av_e dA e)) ∧ ∀ (k : Nat) (q : Nat × va_E), ws[k]? = some q → ∃ e : AE, h q.1 = some e
theorem av_rep.set {dA : Nat → ClassId} {h : AH} {ws : va_W} (hr : av_rep dA h ws) {k a : Nat} {e0 : va_E} {e : AE} (hk : ws[k]? = some (a, e0)) : av_rep dA (av_up h a e) (ws.set k (a, av_e dA e)) := by
  have hl := (List.getElem?_eq_some_iff.mp hk).1
  refine ⟨fun b e' hb => ?_, fun j q hj => ?_⟩
  · by_cases hba : b = a
    · subst hba
      rw [av_up_self] at hb
      cases hb
      exact ⟨k, List.getElem?_set_self hl⟩
    · rw [av_up_ne hba] at hb
      obtain ⟨j, hj⟩ := hr.1 b e' hb
      have hjk : k ≠ j := fun z => by
        subst z
        rw [hk] at hj
        cases hj
        exact hba rfl
      exact ⟨j, by rw [List.getElem?_set_ne hjk]; exact hj⟩
  · by_cases hq : q.1 = a
    · exact ⟨e, by rw [hq]; exact av_up_self h a e⟩
    · by_cases hjk : k = j
      · subst hjk
        rw [List.getElem?_set_self hl] at hj
        cases hj
        exact absurd rfl hq
      · rw [List.getElem?_set_ne hjk] at hj
        obtain ⟨e', he'⟩ := hr.2 j q hj
        exact ⟨e', by rw [av_up_ne hq]; exact he'⟩
theorem av_rep.push {dA : Nat → ClassId} {h : AH} {ws : va_W} (hr : av_rep dA h ws) {q : Nat} {e : AE} (hf : h q = none) : av_rep dA (av_up h q e) (ws ++ [(q, av_e dA e)]) := by
  refine ⟨fun b e' hb => ?_, fun j x hj => ?_⟩
  · by_cases hba : b = q
    · subst hba
      rw [av_up_self] at hb
      cases hb
      exact ⟨ws.length, by simp⟩
    · rw [av_up_ne hba] at hb
      obtain ⟨j, hj⟩ := hr.1 b e' hb
      exact ⟨j, by rw [List.getElem?_append_left (List.getElem?_eq_some_iff.mp hj).1]; exact hj⟩
  · by_cases hq : x.1 = q
    · exact ⟨e, by rw [hq]; exact av_up_self h q e⟩
    · by_cases hl : j < ws.length
      · rw [List.getElem?_append_left hl] at hj
        obtain ⟨e', he'⟩ := hr.2 j x hj
        exact ⟨e', by rw [av_up_ne hq]; exact he'⟩
      · rw [List.getElem?_append_right (by omega)] at hj
        have hz : j - ws.length < 1 := (List.getElem?_eq_some_iff.mp hj).1
        rw [show j - ws.length = 0 by omega] at hj
        cases hj
        exact absurd rfl hq
theorem av_fresh {dA : Nat → ClassId} {h : AH} {ws : va_W} {A : Nat → Prop} {q : Nat} {e : va_E} (hr : av_rep dA h ws) (hD : va_D A (ws ++ [(q, e)])) : h q = none := by
  cases hq : h q with
  | none => rfl
  | some e' =>
    obtain ⟨k, hk⟩ := hr.1 q e' hq
    have hl := (List.getElem?_eq_some_iff.mp hk).1
    have h1 : (ws ++ [(q, e)])[k]? = some (q, av_e dA e') := by rw [List.getElem?_append_left hl]; exact hk
    have h2 : (ws ++ [(q, e)])[ws.length]? = some (q, e) := by simp
    have h3 := hD.1 _ _ _ _ h1 h2 rfl
    omega
/-- locals: what is known of each -/
def av_prs : Nat → List (Option Value) → List (Nat × Value)
  | _, [] => []
  | k, none :: r => av_prs (k + 1) r
  | k, some v :: r => (k, v) :: av_prs (k + 1) r
theorem av_prs_mem : ∀ (L : List (Option Value)) (k : Nat) (q : Nat × Value), q ∈ av_prs k L ↔ ∃ j : Nat, q.1 = k + j ∧ L[j]? = some (some q.2)
  | [], k, q => by simp [av_prs]
  | none :: r, k, q => by
    rw [av_prs, av_prs_mem r (k + 1) q]
    constructor
    · rintro ⟨j, h1, h2⟩
      exact ⟨j + 1, by omega, by simpa using h2⟩
    · rintro ⟨j, h1, h2⟩
      cases j with
      | zero => simp at h2
      | succ j => exact ⟨j, by omega, by simpa using h2⟩
  | some v :: r, k, q => by
    rw [av_prs, List.mem_cons, av_prs_mem r (k + 1) q]
    constructor
    · rintro (rfl | ⟨j, h1, h2⟩)
      · exact ⟨0, by simp, by simp⟩
      · exact ⟨j + 1, by omega, by simpa using h2⟩
    · rintro ⟨j, h1, h2⟩
      cases j with
      | zero =>
        left
        have h3 : v = q.2 := by simpa using h2
        have h4 : q.1 = k := by simpa using h1
        exact Prod.ext h4 h3.symm
      | succ j => exact Or.inr ⟨j, by omega, by simpa using h2⟩
def av_has (ls : Array Slot) (nL : Nat) (L : List (Option Value)) : Prop := lv_has ls nL (av_prs 0 L)
theorem av_at {ls : Array Slot} {nL i : Nat} {L : List (Option Value)} {v : Value} (hl : av_has ls nL L) (hi : L[i]? = some (some v)) : ls[i]? = some (.val v) := hl.2.2 (i, v) ((av_prs_mem L 0 (i, v)).mpr ⟨i, (Nat.zero_add i).symm, hi⟩)
def av_c1 (L : List (Option Value)) : Bool := L.all (fun o => match o with | none => true | some v => v.category == 1)
theorem av_stored {ls' : Array Slot} {nL i : Nat} {L L' : List (Option Value)} {v : Value} (h : lv_has ls' nL ((i, v) :: (av_prs 0 L).filter (fun q => !(q.1 == i) && !(q.1 + 1 == i && q.2.category == 2)))) (hc : av_c1 L = true) (hL : L.set i (some v) = L') : av_has ls' nL L' := by
  subst hL
  refine ⟨h.1, h.2.1, fun q hq => ?_⟩
  obtain ⟨j, h1, h2⟩ := (av_prs_mem _ _ _).mp hq
  have h1 : q.1 = j := by omega
  by_cases hji : j = i
  · subst hji
    have hlt : j < L.length := by
      have := (List.getElem?_eq_some_iff.mp h2).1
      simpa using this
    rw [List.getElem?_set_self hlt] at h2
    have h3 : v = q.2 := by simpa using h2
    have h4 : q = (j, v) := Prod.ext h1 h3.symm
    rw [h4]
    exact h.2.2 _ List.mem_cons_self
  · rw [List.getElem?_set_ne (fun z => hji z.symm)] at h2
    refine h.2.2 q (List.mem_cons_of_mem _ (List.mem_filter.mpr ⟨(av_prs_mem L 0 q).mpr ⟨j, by omega, h2⟩, ?_⟩))
    have h5 : (some q.2) ∈ L := List.mem_of_getElem? h2
    have h6 := List.all_eq_true.mp hc _ h5
    have h7 : q.2.category = 1 := by simpa using h6
    simp [h1, hji, h7]
/-- a static field of Throwable lies in its cell -/
def av_L (n d : String) (A : Nat → Prop) (U : State) (H : Heap) : Prop := ∃ (c : ClassId) (k : Class) (i : Nat) (f : Field) (a : Nat) (cell : Cell), U.vm.findClass "java/lang/Throwable" = some c ∧ U.fieldFound? "java/lang/Throwable" n d = some (c, k, i, f) ∧ f.isStatic = true ∧ k.statics = some a ∧ H[a]? = some cell ∧ cell.vm.isStatics = true ∧ cell.cls = c ∧ f.slot < cell.slots.size ∧ k.staticTypes[f.slot]? = some f.type ∧ ¬ A a
theorem av_L.moved {n d : String} {A : Nat → Prop} {u U : State} {H : Heap} (hvm : u.vm.Alike U.vm) (h : av_L n d A u H) : av_L n d A U H := by
  obtain ⟨c, k, i, f, a, cell, h1, h2, h3, h4, h5, h6, h7, h8, h9, h10⟩ := h
  obtain ⟨k', q1, q2⟩ := State.fieldFound?_setVm hvm h2
  exact ⟨c, k', i, f, a, cell, by rw [hvm.findClass]; exact h1, q1, h3, by rw [q2]; exact h4, h5, h6, h7, h8, by rw [q2]; exact h9, h10⟩
theorem av_L.kept {n d : String} {A : Nat → Prop} {U : State} {H H1 : Heap} (h : av_L n d A U H) (hq : ∀ a : Nat, a < H.size → ¬ A a → H1[a]? = H[a]?) : av_L n d A U H1 := by
  obtain ⟨c, k, i, f, a, cell, h1, h2, h3, h4, h5, h6, h7, h8, h9, h10⟩ := h
  exact ⟨c, k, i, f, a, cell, h1, h2, h3, h4, by rw [hq a (Array.getElem?_eq_some_iff.mp h5).1 h10]; exact h5, h6, h7, h8, h9, h10⟩
theorem av_L.narrow {n d : String} {A B : Nat → Prop} {U : State} {H : Heap} (h : av_L n d A U H) (hAB : ∀ q, B q → A q) : av_L n d B U H := by
  obtain ⟨c, k, i, f, a, cell, h1, h2, h3, h4, h5, h6, h7, h8, h9, h10⟩ := h
  exact ⟨c, k, i, f, a, cell, h1, h2, h3, h4, h5, h6, h7, h8, h9, fun z => h10 (hAB _ z)⟩
theorem av_L.word {n d : String} {A : Nat → Prop} {s : State} {args : Array Value} (h : av_L n d A s s.heap) : (Cond.laysStatic "java/lang/Throwable" n d).before args s = true := by
  obtain ⟨c, k, i, f, a, cell, h1, h2, h3, h4, h5, h6, h7, h8, h9, -⟩ := h
  exact Cond.laysStatic_of h1 h2 h3 h4 h5 h6 h7 h8 h9
/-- what a throw leans on: Throwable's two static fields, the message -/
def av_Th (A : Nat → Prop) (U : State) (H : Heap) : Prop := (va_Zq "java/lang/Throwable" "UNASSIGNED_STACK" "[Ljava/lang/StackTraceElement;" A U H ∧ va_Zq "java/lang/Throwable" "SUPPRESSED_SENTINEL" "Ljava/util/List;" A U H) ∧ (av_L "UNASSIGNED_STACK" "[Ljava/lang/StackTraceElement;" A U H ∧ av_L "SUPPRESSED_SENTINEL" "Ljava/util/List;" A U H) ∧ (va_Nw (.declares ⟨"java/lang/RuntimeException", "<init>", "(Ljava/lang/String;)V"⟩) U ∧ va_Nw (.declares ⟨"java/lang/Exception", "<init>", "(Ljava/lang/String;)V"⟩) U ∧ va_Nw (.declares ⟨"java/lang/Throwable", "<init>", "(Ljava/lang/String;)V"⟩) U ∧ va_Nw (.castable "java/lang/IllegalArgumentException" "java/lang/IllegalArgumentException") U) ∧ ∃ sa : Nat, vk_R "ImageReader" 67 "there are not so many bytes" sa U
theorem av_Th.same {A : Nat → Prop} {u U : State} {H : Heap} (hv : U.vm = u.vm) (hvm : u.vm.Alike U.vm) (h : av_Th A u H) : av_Th A U H := by
  obtain ⟨⟨h1, h2⟩, ⟨h3, h4⟩, ⟨d1, d2, d3, d4⟩, sa, h5⟩ := h
  exact ⟨⟨h1.moved hvm, h2.moved hvm⟩, ⟨h3.moved hvm, h4.moved hvm⟩, ⟨va_Nw.same rfl hv.symm d1, va_Nw.same rfl hv.symm d2, va_Nw.same rfl hv.symm d3, va_Nw.same rfl hv.symm d4⟩, sa, vk_R.same hv h5⟩
theorem av_Th.call {A B : Nat → Prop} {s U : State} {H : Heap} (h : av_Th A s s.heap) (hq : ∀ a : Nat, a < s.heap.size → ¬ A a → H[a]? = s.heap[a]?) (hAB : ∀ q, B q → A q) (hW : s.WarmedH U.vm) : av_Th B U H := by
  obtain ⟨⟨h1, h2⟩, ⟨h3, h4⟩, ⟨d1, d2, d3, d4⟩, sa, h5⟩ := h
  exact ⟨⟨((h1.moved hW.alike).kept hq).narrow hAB, ((h2.moved hW.alike).kept hq).narrow hAB⟩, ⟨((h3.moved hW.alike).kept hq).narrow hAB, ((h4.moved hW.alike).kept hq).narrow hAB⟩, ⟨va_Nw.warmD hW d1, va_Nw.warmD hW d2, va_Nw.warmD hW d3, va_Nw.warmC hW d4⟩, sa, vk_R.warm hW h5⟩
/-- what every method may lean on: the classes, the array classes, the nest's links, the static tables (at tb) -/
def av_K (tb : Nat → Nat) (D : va_G) (dA : Nat → ClassId) (A : Nat → Prop) (U : State) : Prop := va_K D classes (av_tys dA) U ∧ (∀ w ∈ av_nw, va_Nw w U) ∧ av_St tb A U U.heap ∧ av_Th A U U.heap
theorem av_nw_on {w : Cond} (h : w ∈ av_nw) : w.onTables = true := by
  rcases av_nw_ok w h with ⟨a, i, b, n, d, x, rfl⟩ | ⟨a, i, y, x, rfl⟩ <;> rfl
theorem av_nw_warm {w : Cond} (h : w ∈ av_nw) {s U : State} (hW : s.WarmedH U.vm) (hz : va_Nw w s) : va_Nw w U := by
  rcases av_nw_ok w h with ⟨a, i, b, n, d, x, rfl⟩ | ⟨a, i, y, x, rfl⟩
  · exact va_Nw.warmF hW hz
  · exact va_Nw.warmM hW hz
theorem av_K.calling {tb : Nat → Nat} {D : va_G} {dA : Nat → ClassId} {A : Nat → Prop} {U : State} {g : JFrame} {mk : MethodId} {a : Array Value} (h : av_K tb D dA A U) : av_K tb D dA A (U.calling g mk a) :=
  ⟨va_K.moved (u := U) (U := U.calling g mk a) (Vm.Alike.refl U.vm) h.1, fun w hw => va_Nw.same (u := U) (U := U.calling g mk a) (av_nw_on hw) rfl (h.2.1 w hw), av_St.moved (Vm.Alike.refl U.vm) h.2.2.1, av_Th.same (u := U) (U := U.calling g mk a) rfl (Vm.Alike.refl U.vm) h.2.2.2⟩
theorem av_K.call {tb : Nat → Nat} {D : va_G} {dA : Nat → ClassId} {A B : Nat → Prop} {s U : State} {H : Heap} {locs : List Loc} (h : av_K tb D dA A s) (hS : va_S A s.heap H locs) (hAB : ∀ q, B q → A q) (hU : U.heap = H) (hW : s.WarmedH U.vm) : av_K tb D dA B U := by
  refine ⟨va_K.moved hW.alike h.1, fun w hw => av_nw_warm hw hW (h.2.1 w hw), ?_, ?_⟩
  · rw [hU]
    exact av_St.narrow (av_St.kept (av_St.moved hW.alike h.2.2.1) (fun a h1 h2 => hS.2.1 a h1 h2)) hAB
  · rw [hU]
    exact av_Th.call h.2.2.2 (fun a h1 h2 => hS.2.1 a h1 h2) hAB hW
def av_Ret (cc : ByteArray) (ret : Option FieldType) (Post : Option Value → AH → Prop) (p : Program) (l : Launch) (e : Env) (R : Room) (s : State) (m : MethodId) (args : Array Value) (below : List Frame) (meth : Method) (c : Code) (D : va_G) (dA : Nat → ClassId) (A : Nat → Prop) (Q : State → Prop) : Prop :=
  l.stackTraces = false ∧ ∀ (H : Heap) (locs : List Loc) (ls : Array Slot) (ws : va_W) (pc : Nat) (v : Option Value) (h : AH) (i : ClassFile.Instr), Post v h → av_rep dA h ws → va_P D classes ws H → va_D A ws → va_S A s.heap H locs → decode cc pc = .ok (i, 1) →
    ((i = .ireturn ∧ ∃ (x : Int32) (rt : FieldType), v = some (.int x) ∧ ret = some rt ∧ narrow rt (.int x) = .int x) ∨ (i = .areturn ∧ ∃ (a : Nat) (rt : FieldType), v = some (.ref a) ∧ ret = some rt ∧ ((∃ n, rt = .object n) ∨ ∃ t, rt = .array t)) ∨ (i = .return_ ∧ v = none ∧ ret = none)) →
    W p l e R s m args below meth c H locs R.cells R.slots Q (F0 m pc ls v.toList)
def av_Fix (tb : Nat → Nat) (own : String) (cc : ByteArray) (nL : Nat) (ret : Option FieldType) (ini : Bool) (sc : Option (Nat × Nat × (Nat → Int32))) (fr lo : Nat) (Post : Option Value → AH → Prop) (p : Program) (l : Launch) (e : Env) (R : Room) (s : State) (m : MethodId) (args : Array Value) (below : List Frame) (meth : Method) (c : Code) (D : va_G) (dA : Nat → ClassId) (A : Nat → Prop) (Q : State → Prop) : Prop :=
  p.tables.exec = Jvm.exec ∧ c.code = cc ∧ c.maxLocals = nL ∧ s.vm.findClass own = some m.cls ∧ (∀ w ∈ av_tb, w.before args s = true) ∧ av_K tb D dA A s ∧ (∀ q, s.heap.size ≤ q → A q) ∧ (ini = true → meth.name = "<init>") ∧ fr ≤ R.frames ∧ lo ≤ R.locals ∧
  (∀ x, sc = some x → va_X x.1 x.2.1 x.2.2 s s.heap ∧ x.1 < s.heap.size ∧ ¬ A x.1) ∧ av_Ret cc ret Post p l e R s m args below meth c D dA A Q
/-- FROM HERE THE METHOD RETURNS, with an answer and a heap that Post allows -/
def AW (tb : Nat → Nat) (own : String) (cc : ByteArray) (nL : Nat) (ret : Option FieldType) (ini : Bool) (sc : Option (Nat × Nat × (Nat → Int32))) (fr lo : Nat) (Post : Option Value → AH → Prop) (pc : Nat) (L : List (Option Value)) (st : List Value) (h : AH) (mc ms : Nat) : Prop :=
  ∀ (p : Program) (l : Launch) (e : Env) (R : Room) (s : State) (m : MethodId) (args : Array Value) (below : List Frame) (meth : Method) (c : Code) (D : va_G) (dA : Nat → ClassId) (A : Nat → Prop) (H : Heap) (locs : List Loc) (cells slots : Nat) (Q : State → Prop) (ls : Array Slot) (ws : va_W),
    av_Fix tb own cc nL ret ini sc fr lo Post p l e R s m args below meth c D dA A Q → av_rep dA h ws → va_P D classes ws H → va_D A ws → va_S A s.heap H locs → av_has ls nL L → cells + mc ≤ R.cells → slots + ms ≤ R.slots →
    W p l e R s m args below meth c H locs cells slots Q (F0 m pc ls st)
def av_AA (h : AH) (sz : Nat) : Nat → Prop := fun q => (∃ e : AE, h q = some e) ∨ sz ≤ q
def av_Pre (tb : Nat → Nat) (D : va_G) (dA : Nat → ClassId) (av : List Value) (h : AH) (sz : Nat) : Array Value → State → Prop := fun v U =>
  v = av.toArray ∧ U.heap.size = sz ∧ (∃ ws : va_W, av_rep dA h ws ∧ va_P D classes ws U.heap ∧ va_D (av_AA h sz) ws) ∧ av_K tb D dA (av_AA h sz) U
def av_QQ (D : va_G) (dA : Nat → ClassId) (A : Nat → Prop) (Post : Option Value → AH → Prop) : Array Value → State → Outcome → State → Prop := fun _ s oc t =>
  (∃ (v : Option Value) (h' : AH) (ws' : va_W), oc = .returned v ∧ Post v h' ∧ av_rep dA h' ws' ∧ va_P D classes ws' t.heap ∧ va_D A ws') ∧ va_F A s t
abbrev av_ws (y : MethodName) (cc : ByteArray) (nL : Nat) (ret : Option FieldType) : List Cond := Cond.code y cc nL ret :: av_tb
/-- A METHOD'S CONTRACT: called with av on the heap h it returns, with an answer and a heap that Post allows; at most mc cells of ms slots are new -/
def AM (tb : Nat → Nat) (y : MethodName) (cc : ByteArray) (nL : Nat) (ret : Option FieldType) (fr lo : Nat) (av : List Value) (h : AH) (mc ms : Nat) (Post : Option Value → AH → Prop) : Prop :=
  ∀ (l : Launch), l.stackTraces = false → ∀ (D : va_G) (dA : Nat → ClassId) (sz : Nat), Met l y (av_ws y cc nL ret) { frames := fr, cells := mc, slots := ms, locals := lo } (av_Pre tb D dA av h sz) (av_QQ D dA (av_AA h sz) Post) mc ms (av_AA h sz)
theorem am_of {tb : Nat → Nat} {y : MethodName} {cc : ByteArray} {nL : Nat} {ret : Option FieldType} {ini : Bool} {fr lo : Nat} {av : List Value} {h : AH} {mc ms : Nat} {Post : Option Value → AH → Prop} (L : List (Option Value)) (hy : plainName y.cls = true) (hn : ini = true → y.name = "<init>") (hlen : (lg_sl av).length ≤ nL) (hL : av_prs 0 L = lv_args 0 av)
    (body : AW tb y.cls cc nL ret ini none fr lo Post 0 L [] h mc ms) : AM tb y cc nL ret fr lo av h mc ms Post := by
  intro l hl0 D dA sz
  refine Met.ofW (cc := cc) (maxL := nL) (ret := ret) hy rfl ?_
  intro p e s m args below meth c s₁ B hml hv
  obtain ⟨rfl, hsz, ⟨ws, hr, hP, hD⟩, hK⟩ := hv
  subst hsz
  have hl := lv_entry av (n := nL) hlen
  rw [lg_entry_eq]
  rw [← hL] at hl
  have hts := atoms_spec (ws := av_ws y cc nL ret) B.pre
  refine body p l e _ s m _ below meth c D dA (av_AA h s.heap.size) s.heap [] 0 0 _ _ ws ⟨B.exec, B.bytes, hml, findClass_of_methodNamed B.named, fun w hw => hts w (List.mem_cons_of_mem _ hw), hK, fun q hq => Or.inr hq, fun hi => (name_of_methodNamed B.named B.method).1.trans (hn hi), Nat.le_refl _, Nat.le_refl _, (fun x hx => by cases hx), ?_⟩ hr hP hD va_S.rf hl (Nat.le_of_eq (Nat.zero_add mc)) (Nat.le_of_eq (Nat.zero_add ms))
  refine ⟨hl0, ?_⟩
  intro H locs ls ws pc v h' i hpost hrep hP hD hS hdec hi
  rcases hi with ⟨rfl, x, rt, rfl, hret, hnw⟩ | ⟨rfl, a, rt, rfl, hret, hrt⟩ | ⟨rfl, rfl, hret⟩
  · exact W.zret B.exec B.bytes (B.returns.trans hret) hnw (fun t ht hW => ⟨⟨_, h', ws, rfl, hpost, hrep, by rw [ht]; exact hP, hD⟩, hS.F ht⟩) hS.2.2 hdec (hlocks := B.notSynchronized)
  · exact W.aret B.exec B.bytes (B.returns.trans hret) hrt (Or.inr ⟨a, rfl⟩) (fun t ht hW => ⟨⟨_, h', ws, rfl, hpost, hrep, by rw [ht]; exact hP, hD⟩, hS.F ht⟩) hS.2.2 hdec (hlocks := B.notSynchronized)
  · exact W.vret B.exec B.bytes (B.returns.trans hret) (fun t ht hW => ⟨⟨_, h', ws, rfl, hpost, hrep, by rw [ht]; exact hP, hD⟩, hS.F ht⟩) hS.2.2 hdec (hlocks := B.notSynchronized)
theorem av_sub {dA : Nat → ClassId} {h : AH} {ws : va_W} {A : Nat → Prop} {H0 H : Heap} {locs : List Loc} (hr : av_rep dA h ws) (hD : va_D A ws) (hS : va_S A H0 H locs) (hA : ∀ q, H0.size ≤ q → A q) : ∀ q, av_AA h H.size q → A q := by
  intro q hq
  rcases hq with ⟨e, he⟩ | hq
  · obtain ⟨k, hk⟩ := hr.1 q e he
    exact hD.2 k _ hk
  · exact hA q (Nat.le_trans hS.1 hq)
theorem av_blind {tb : Nat → Nat} {D : va_G} {dA : Nat → ClassId} {av : List Value} {h : AH} {sz : Nat} : FrameBlind (av_Pre tb D dA av h sz) := fun _ _ _ _ q => ⟨q.1, q.2.1, q.2.2.1, q.2.2.2.calling⟩
theorem av_pre {tb : Nat → Nat} {D : va_G} {dA : Nat → ClassId} {av : List Value} {h : AH} {ws : va_W} {A : Nat → Prop} {s : State} {H : Heap} {locs : List Loc} (hK : av_K tb D dA A s) (hr : av_rep dA h ws) (hP : va_P D classes ws H) (hD : va_D A ws) (hS : va_S A s.heap H locs) (hA : ∀ q, s.heap.size ≤ q → A q) : ∀ U : State, U.heap = H → s.WarmedH U.vm → av_Pre tb D dA av h H.size av.toArray U := by
  intro U hU hW
  refine ⟨rfl, by rw [hU], ⟨ws, hr, by rw [hU]; exact hP, hD.weaken (fun k q hk _ => Or.inl (hr.2 k q hk))⟩, hK.call hS (av_sub hr hD hS hA) hU hW⟩
theorem av_after {p : Program} {l : Launch} {e : Env} {R : Room} {s : State} {m : MethodId} {args : Array Value} {below : List Frame} {meth : Method} {c : Code} {H : Heap} {locs : List Loc} {cells slots : Nat} {Q : State → Prop} {D : va_G} {dA : Nat → ClassId} {A : Nat → Prop} {ws : va_W} {h : AH} {pc : Nat} {ls : Array Slot} {st0 rest : List Value} {a : Array Value} {mc ms : Nat} {Post : Option Value → AH → Prop}
    (hrn : va_Run p l e R s m args below meth c H locs cells slots mc ms (F0 m pc ls st0) rest (av_QQ D dA (av_AA h H.size) Post a) (av_AA h H.size)) (hr : av_rep dA h ws) (hD : va_D A ws) (hS : va_S A s.heap H locs) (hA : ∀ q, s.heap.size ≤ q → A q)
    (kk : ∀ (v : Option Value) (h' : AH) (ws' : va_W) (H1 : Heap) (locs1 : List Loc), Post v h' → av_rep dA h' ws' → va_P D classes ws' H1 → va_D A ws' → va_S A s.heap H1 locs1 → W p l e R s m args below meth c H1 locs1 (cells + mc) (slots + ms) Q (F0 m (pc + 3) ls (v.toList ++ rest))) : W p l e R s m args below meth c H locs cells slots Q (F0 m pc ls st0) := by
  intro T hT X
  obtain ⟨v, st₀, t, T', L, h0, X', hL, e1, e2, ⟨⟨v', h', ws', hv, hp, hrep', hP', hD'⟩, hz, hk⟩, stp⟩ := hrn T hT X
  cases hv
  rw [h0] at hz hk
  have hsub := av_sub hr hD hS hA
  obtain ⟨t2, a1, b1⟩ := kk v h' ws' T'.heap (locs ++ L) hp hrep' (by rw [e1]; exact hP') (hD'.weaken (fun _ q _ hq => hsub _ hq))
    ⟨Nat.le_trans hS.1 (by rw [e1]; exact hz), fun q h1 h2 => by rw [e1, hk q (Nat.lt_of_lt_of_le h1 hS.1) (fun z => h2 (hsub q z))]; exact hS.2.1 q h1 h2, fun q hq => by
      rcases List.mem_append.mp hq with h | h
      · exact hS.2.2 q h
      · exact hsub _ (hL q h)⟩ T' rfl X'
  exact ⟨t2, stp t2 a1, b1⟩
theorem av_good {X : List Cond} (h : ∀ w ∈ X, w ∈ av_tb) : GoodIn av_tb X := fun w hw => ⟨h w hw, av_tb_ok w (h w hw)⟩

section AWrows
variable {tb : Nat → Nat} {own : String} {cc : ByteArray} {nL : Nat} {ret : Option FieldType} {ini : Bool} {sc : Option (Nat × Nat × (Nat → Int32))} {fr lo : Nat} {Post : Option Value → AH → Prop} {pc : Nat} {L : List (Option Value)} {st : List Value} {h : AH} {mc ms : Nat}
theorem aw_iconst {n : Int} {v : Int32} (hd : decode cc pc = .ok (.iconst n, 1)) (hv : Int32.ofInt n = v) (k : AW tb own cc nL ret ini sc fr lo Post (pc + 1) L (.int v :: st) h mc ms) : AW tb own cc nL ret ini sc fr lo Post pc L (st) h mc ms := by
  intro p l e R s m args below meth c D dA A H locs cells slots Q ls ws F hr hP hD hS hl hc hs
  exact lv_iconst F.1 F.2.1 hd hv (k p l e R s m args below meth c D dA A H locs cells slots Q ls ws F hr hP hD hS hl hc hs)
theorem aw_bipush {n : Int} {v : Int32} (hd : decode cc pc = .ok (.bipush n, 2)) (hv : (Int8.ofInt n).toInt32 = v) (k : AW tb own cc nL ret ini sc fr lo Post (pc + 2) L (.int v :: st) h mc ms) : AW tb own cc nL ret ini sc fr lo Post pc L (st) h mc ms := by
  intro p l e R s m args below meth c D dA A H locs cells slots Q ls ws F hr hP hD hS hl hc hs
  exact lv_bipush F.1 F.2.1 hd hv (k p l e R s m args below meth c D dA A H locs cells slots Q ls ws F hr hP hD hS hl hc hs)
theorem aw_sipush {n : Int} {v : Int32} (hd : decode cc pc = .ok (.sipush n, 3)) (hv : (Int16.ofInt n).toInt32 = v) (k : AW tb own cc nL ret ini sc fr lo Post (pc + 3) L (.int v :: st) h mc ms) : AW tb own cc nL ret ini sc fr lo Post pc L (st) h mc ms := by
  intro p l e R s m args below meth c D dA A H locs cells slots Q ls ws F hr hP hD hS hl hc hs
  exact lv_sipush F.1 F.2.1 hd hv (k p l e R s m args below meth c D dA A H locs cells slots Q ls ws F hr hP hD hS hl hc hs)
theorem aw_ldc {n : Nat} {v : Int32} (hd : decode cc pc = .ok (.ldc n, 2)) (hw : Cond.constant own n v ∈ av_tb) (k : AW tb own cc nL ret ini sc fr lo Post (pc + 2) L (.int v :: st) h mc ms) : AW tb own cc nL ret ini sc fr lo Post pc L (st) h mc ms := by
  intro p l e R s m args below meth c D dA A H locs cells slots Q ls ws F hr hP hD hS hl hc hs
  exact lv_ldc F.1 F.2.1 F.2.2.2.1 (F.2.2.2.2.1 _ hw) hd (k p l e R s m args below meth c D dA A H locs cells slots Q ls ws F hr hP hD hS hl hc hs)
theorem aw_null  (hd : decode cc pc = .ok (.aconst_null, 1))  (k : AW tb own cc nL ret ini sc fr lo Post (pc + 1) L (.null :: st) h mc ms) : AW tb own cc nL ret ini sc fr lo Post pc L (st) h mc ms := by
  intro p l e R s m args below meth c D dA A H locs cells slots Q ls ws F hr hP hD hS hl hc hs
  exact lv_null F.1 F.2.1 hd (k p l e R s m args below meth c D dA A H locs cells slots Q ls ws F hr hP hD hS hl hc hs)
theorem aw_iload_n {i : Fin 4} {x : Int32} (hd : decode cc pc = .ok (.iload_n i, 1)) (hv : L[(i : Nat)]? = some (some (.int x))) (k : AW tb own cc nL ret ini sc fr lo Post (pc + 1) L (.int x :: st) h mc ms) : AW tb own cc nL ret ini sc fr lo Post pc L (st) h mc ms := by
  intro p l e R s m args below meth c D dA A H locs cells slots Q ls ws F hr hP hD hS hl hc hs
  exact lv_iload_n F.1 F.2.1 hd rfl (av_at hl hv) (k p l e R s m args below meth c D dA A H locs cells slots Q ls ws F hr hP hD hS hl hc hs)
theorem aw_iload {i : Nat} {x : Int32} (hd : decode cc pc = .ok (.iload i, 2)) (hv : L[i]? = some (some (.int x))) (k : AW tb own cc nL ret ini sc fr lo Post (pc + 2) L (.int x :: st) h mc ms) : AW tb own cc nL ret ini sc fr lo Post pc L (st) h mc ms := by
  intro p l e R s m args below meth c D dA A H locs cells slots Q ls ws F hr hP hD hS hl hc hs
  exact lv_iload F.1 F.2.1 hd (av_at hl hv) (k p l e R s m args below meth c D dA A H locs cells slots Q ls ws F hr hP hD hS hl hc hs)
theorem aw_aload_n {i : Fin 4} {x : Nat} (hd : decode cc pc = .ok (.aload_n i, 1)) (hv : L[(i : Nat)]? = some (some (.ref x))) (k : AW tb own cc nL ret ini sc fr lo Post (pc + 1) L (.ref x :: st) h mc ms) : AW tb own cc nL ret ini sc fr lo Post pc L (st) h mc ms := by
  intro p l e R s m args below meth c D dA A H locs cells slots Q ls ws F hr hP hD hS hl hc hs
  exact lv_aload_n F.1 F.2.1 hd rfl (av_at hl hv) (k p l e R s m args below meth c D dA A H locs cells slots Q ls ws F hr hP hD hS hl hc hs)
theorem aw_aload {i : Nat} {x : Nat} (hd : decode cc pc = .ok (.aload i, 2)) (hv : L[i]? = some (some (.ref x))) (k : AW tb own cc nL ret ini sc fr lo Post (pc + 2) L (.ref x :: st) h mc ms) : AW tb own cc nL ret ini sc fr lo Post pc L (st) h mc ms := by
  intro p l e R s m args below meth c D dA A H locs cells slots Q ls ws F hr hP hD hS hl hc hs
  exact lv_aload F.1 F.2.1 hd (av_at hl hv) (k p l e R s m args below meth c D dA A H locs cells slots Q ls ws F hr hP hD hS hl hc hs)
theorem aw_iadd {x y v : Int32} (hd : decode cc pc = .ok (.iadd, 1)) (hv : x + y = v) (k : AW tb own cc nL ret ini sc fr lo Post (pc + 1) L (.int v :: st) h mc ms) : AW tb own cc nL ret ini sc fr lo Post pc L (.int y :: .int x :: st) h mc ms := by
  intro p l e R s m args below meth c D dA A H locs cells slots Q ls ws F hr hP hD hS hl hc hs
  exact lv_iadd F.1 F.2.1 hd <| by subst hv; exact (k p l e R s m args below meth c D dA A H locs cells slots Q ls ws F hr hP hD hS hl hc hs)
theorem aw_isub {x y v : Int32} (hd : decode cc pc = .ok (.isub, 1)) (hv : x - y = v) (k : AW tb own cc nL ret ini sc fr lo Post (pc + 1) L (.int v :: st) h mc ms) : AW tb own cc nL ret ini sc fr lo Post pc L (.int y :: .int x :: st) h mc ms := by
  intro p l e R s m args below meth c D dA A H locs cells slots Q ls ws F hr hP hD hS hl hc hs
  exact lv_isub F.1 F.2.1 hd <| by subst hv; exact (k p l e R s m args below meth c D dA A H locs cells slots Q ls ws F hr hP hD hS hl hc hs)
theorem aw_imul {x y v : Int32} (hd : decode cc pc = .ok (.imul, 1)) (hv : x * y = v) (k : AW tb own cc nL ret ini sc fr lo Post (pc + 1) L (.int v :: st) h mc ms) : AW tb own cc nL ret ini sc fr lo Post pc L (.int y :: .int x :: st) h mc ms := by
  intro p l e R s m args below meth c D dA A H locs cells slots Q ls ws F hr hP hD hS hl hc hs
  exact lv_imul F.1 F.2.1 hd <| by subst hv; exact (k p l e R s m args below meth c D dA A H locs cells slots Q ls ws F hr hP hD hS hl hc hs)
theorem aw_iand {x y v : Int32} (hd : decode cc pc = .ok (.iand, 1)) (hv : x &&& y = v) (k : AW tb own cc nL ret ini sc fr lo Post (pc + 1) L (.int v :: st) h mc ms) : AW tb own cc nL ret ini sc fr lo Post pc L (.int y :: .int x :: st) h mc ms := by
  intro p l e R s m args below meth c D dA A H locs cells slots Q ls ws F hr hP hD hS hl hc hs
  exact lv_iand F.1 F.2.1 hd <| by subst hv; exact (k p l e R s m args below meth c D dA A H locs cells slots Q ls ws F hr hP hD hS hl hc hs)
theorem aw_ior {x y v : Int32} (hd : decode cc pc = .ok (.ior, 1)) (hv : x ||| y = v) (k : AW tb own cc nL ret ini sc fr lo Post (pc + 1) L (.int v :: st) h mc ms) : AW tb own cc nL ret ini sc fr lo Post pc L (.int y :: .int x :: st) h mc ms := by
  intro p l e R s m args below meth c D dA A H locs cells slots Q ls ws F hr hP hD hS hl hc hs
  exact lv_ior F.1 F.2.1 hd <| by subst hv; exact (k p l e R s m args below meth c D dA A H locs cells slots Q ls ws F hr hP hD hS hl hc hs)
theorem aw_ixor {x y v : Int32} (hd : decode cc pc = .ok (.ixor, 1)) (hv : x ^^^ y = v) (k : AW tb own cc nL ret ini sc fr lo Post (pc + 1) L (.int v :: st) h mc ms) : AW tb own cc nL ret ini sc fr lo Post pc L (.int y :: .int x :: st) h mc ms := by
  intro p l e R s m args below meth c D dA A H locs cells slots Q ls ws F hr hP hD hS hl hc hs
  exact lv_ixor F.1 F.2.1 hd <| by subst hv; exact (k p l e R s m args below meth c D dA A H locs cells slots Q ls ws F hr hP hD hS hl hc hs)
theorem aw_ishl {x y v : Int32} (hd : decode cc pc = .ok (.ishl, 1)) (hv : x <<< (y &&& 31) = v) (k : AW tb own cc nL ret ini sc fr lo Post (pc + 1) L (.int v :: st) h mc ms) : AW tb own cc nL ret ini sc fr lo Post pc L (.int y :: .int x :: st) h mc ms := by
  intro p l e R s m args below meth c D dA A H locs cells slots Q ls ws F hr hP hD hS hl hc hs
  exact lv_ishl F.1 F.2.1 hd <| by subst hv; exact (k p l e R s m args below meth c D dA A H locs cells slots Q ls ws F hr hP hD hS hl hc hs)
theorem aw_ishr {x y v : Int32} (hd : decode cc pc = .ok (.ishr, 1)) (hv : x >>> (y &&& 31) = v) (k : AW tb own cc nL ret ini sc fr lo Post (pc + 1) L (.int v :: st) h mc ms) : AW tb own cc nL ret ini sc fr lo Post pc L (.int y :: .int x :: st) h mc ms := by
  intro p l e R s m args below meth c D dA A H locs cells slots Q ls ws F hr hP hD hS hl hc hs
  exact lv_ishr F.1 F.2.1 hd <| by subst hv; exact (k p l e R s m args below meth c D dA A H locs cells slots Q ls ws F hr hP hD hS hl hc hs)
theorem aw_iushr {x y v : Int32} (hd : decode cc pc = .ok (.iushr, 1)) (hv : (x.toUInt32 >>> (y.toUInt32 &&& Int32.toUInt32 31)).toInt32 = v) (k : AW tb own cc nL ret ini sc fr lo Post (pc + 1) L (.int v :: st) h mc ms) : AW tb own cc nL ret ini sc fr lo Post pc L (.int y :: .int x :: st) h mc ms := by
  intro p l e R s m args below meth c D dA A H locs cells slots Q ls ws F hr hP hD hS hl hc hs
  exact lv_iushr F.1 F.2.1 hd hv (k p l e R s m args below meth c D dA A H locs cells slots Q ls ws F hr hP hD hS hl hc hs)
theorem aw_idiv {x y v : Int32} (hd : decode cc pc = .ok (.idiv, 1)) (hne : ¬ y = 0) (hv : x / y = v) (k : AW tb own cc nL ret ini sc fr lo Post (pc + 1) L (.int v :: st) h mc ms) : AW tb own cc nL ret ini sc fr lo Post pc L (.int y :: .int x :: st) h mc ms := by
  intro p l e R s m args below meth c D dA A H locs cells slots Q ls ws F hr hP hD hS hl hc hs
  exact lv_idiv F.1 F.2.1 hd hne <| by subst hv; exact (k p l e R s m args below meth c D dA A H locs cells slots Q ls ws F hr hP hD hS hl hc hs)
theorem aw_irem {x y v : Int32} (hd : decode cc pc = .ok (.irem, 1)) (hne : ¬ y = 0) (hv : x - x / y * y = v) (k : AW tb own cc nL ret ini sc fr lo Post (pc + 1) L (.int v :: st) h mc ms) : AW tb own cc nL ret ini sc fr lo Post pc L (.int y :: .int x :: st) h mc ms := by
  intro p l e R s m args below meth c D dA A H locs cells slots Q ls ws F hr hP hD hS hl hc hs
  exact lv_irem F.1 F.2.1 hd hne <| by subst hv; exact (k p l e R s m args below meth c D dA A H locs cells slots Q ls ws F hr hP hD hS hl hc hs)
theorem aw_ineg {x v : Int32} (hd : decode cc pc = .ok (.ineg, 1)) (hv : -x = v) (k : AW tb own cc nL ret ini sc fr lo Post (pc + 1) L (.int v :: st) h mc ms) : AW tb own cc nL ret ini sc fr lo Post pc L (.int x :: st) h mc ms := by
  intro p l e R s m args below meth c D dA A H locs cells slots Q ls ws F hr hP hD hS hl hc hs
  exact lv_ineg F.1 F.2.1 hd <| by subst hv; exact (k p l e R s m args below meth c D dA A H locs cells slots Q ls ws F hr hP hD hS hl hc hs)
theorem aw_i2b {x v : Int32} (hd : decode cc pc = .ok (.i2b, 1)) (hv : x.toInt8.toInt32 = v) (k : AW tb own cc nL ret ini sc fr lo Post (pc + 1) L (.int v :: st) h mc ms) : AW tb own cc nL ret ini sc fr lo Post pc L (.int x :: st) h mc ms := by
  intro p l e R s m args below meth c D dA A H locs cells slots Q ls ws F hr hP hD hS hl hc hs
  exact lv_i2b F.1 F.2.1 hd hv (k p l e R s m args below meth c D dA A H locs cells slots Q ls ws F hr hP hD hS hl hc hs)
theorem aw_i2l {x : Int32} {v : Int64} (hd : decode cc pc = .ok (.i2l, 1)) (hv : x.toInt64 = v) (k : AW tb own cc nL ret ini sc fr lo Post (pc + 1) L (.long v :: st) h mc ms) : AW tb own cc nL ret ini sc fr lo Post pc L (.int x :: st) h mc ms := by
  intro p l e R s m args below meth c D dA A H locs cells slots Q ls ws F hr hP hD hS hl hc hs
  exact lv_i2l F.1 F.2.1 hd hv (k p l e R s m args below meth c D dA A H locs cells slots Q ls ws F hr hP hD hS hl hc hs)
theorem aw_l2i {x : Int64} {v : Int32} (hd : decode cc pc = .ok (.l2i, 1)) (hv : x.toInt32 = v) (k : AW tb own cc nL ret ini sc fr lo Post (pc + 1) L (.int v :: st) h mc ms) : AW tb own cc nL ret ini sc fr lo Post pc L (.long x :: st) h mc ms := by
  intro p l e R s m args below meth c D dA A H locs cells slots Q ls ws F hr hP hD hS hl hc hs
  exact lv_l2i F.1 F.2.1 hd hv (k p l e R s m args below meth c D dA A H locs cells slots Q ls ws F hr hP hD hS hl hc hs)
theorem aw_dup {va : Value} (hd : decode cc pc = .ok (.dup, 1)) (h1 : va.category = 1) (k : AW tb own cc nL ret ini sc fr lo Post (pc + 1) L (va :: va :: st) h mc ms) : AW tb own cc nL ret ini sc fr lo Post pc L (va :: st) h mc ms := by
  intro p l e R s m args below meth c D dA A H locs cells slots Q ls ws F hr hP hD hS hl hc hs
  exact lv_dup F.1 F.2.1 hd h1 (k p l e R s m args below meth c D dA A H locs cells slots Q ls ws F hr hP hD hS hl hc hs)
theorem aw_pop {va : Value} (hd : decode cc pc = .ok (.pop, 1)) (h1 : va.category = 1) (k : AW tb own cc nL ret ini sc fr lo Post (pc + 1) L (st) h mc ms) : AW tb own cc nL ret ini sc fr lo Post pc L (va :: st) h mc ms := by
  intro p l e R s m args below meth c D dA A H locs cells slots Q ls ws F hr hP hD hS hl hc hs
  exact lv_pop F.1 F.2.1 hd h1 (k p l e R s m args below meth c D dA A H locs cells slots Q ls ws F hr hP hD hS hl hc hs)
theorem aw_dup_x1 {va vb : Value} (hd : decode cc pc = .ok (.dup_x1, 1)) (h1 : va.category = 1) (h2 : vb.category = 1) (k : AW tb own cc nL ret ini sc fr lo Post (pc + 1) L (va :: vb :: va :: st) h mc ms) : AW tb own cc nL ret ini sc fr lo Post pc L (va :: vb :: st) h mc ms := by
  intro p l e R s m args below meth c D dA A H locs cells slots Q ls ws F hr hP hD hS hl hc hs
  exact lv_dup_x1 F.1 F.2.1 hd h1 h2 (k p l e R s m args below meth c D dA A H locs cells slots Q ls ws F hr hP hD hS hl hc hs)
theorem aw_dup_x2 {va vb vd : Value} (hd : decode cc pc = .ok (.dup_x2, 1)) (h1 : va.category = 1) (h2 : vb.category = 1) (h3 : vd.category = 1) (k : AW tb own cc nL ret ini sc fr lo Post (pc + 1) L (va :: vb :: vd :: va :: st) h mc ms) : AW tb own cc nL ret ini sc fr lo Post pc L (va :: vb :: vd :: st) h mc ms := by
  intro p l e R s m args below meth c D dA A H locs cells slots Q ls ws F hr hP hD hS hl hc hs
  exact lv_dup_x2 F.1 F.2.1 hd h1 h2 h3 (k p l e R s m args below meth c D dA A H locs cells slots Q ls ws F hr hP hD hS hl hc hs)
theorem aw_dup2 {va vb : Value} (hd : decode cc pc = .ok (.dup2, 1)) (h1 : va.category = 1) (h2 : vb.category = 1) (k : AW tb own cc nL ret ini sc fr lo Post (pc + 1) L (va :: vb :: va :: vb :: st) h mc ms) : AW tb own cc nL ret ini sc fr lo Post pc L (va :: vb :: st) h mc ms := by
  intro p l e R s m args below meth c D dA A H locs cells slots Q ls ws F hr hP hD hS hl hc hs
  exact lv_dup2_11 F.1 F.2.1 hd h1 h2 (k p l e R s m args below meth c D dA A H locs cells slots Q ls ws F hr hP hD hS hl hc hs)
theorem aw_istore_n {i : Fin 4} {x : Int32} {L' : List (Option Value)} (hd : decode cc pc = .ok (.istore_n i, 1)) (hn : (i : Nat) < nL) (h1 : av_c1 L = true) (hL : L.set (i : Nat) (some (Value.int x)) = L') (k : AW tb own cc nL ret ini sc fr lo Post (pc + 1) L' st h mc ms) : AW tb own cc nL ret ini sc fr lo Post pc L (Value.int x :: st) h mc ms := by
  intro p l e R s m args below meth c D dA A H locs cells slots Q ls ws F hr hP hD hS hl hc hs
  exact lv_istore_n F.1 F.2.1 hd rfl hl hn rfl (fun ls' hl' => k p l e R s m args below meth c D dA A H locs cells slots Q ls' ws F hr hP hD hS (av_stored hl' h1 hL) hc hs)
theorem aw_istore {i : Nat} {x : Int32} {L' : List (Option Value)} (hd : decode cc pc = .ok (.istore i, 2)) (hn : i < nL) (h1 : av_c1 L = true) (hL : L.set i (some (Value.int x)) = L') (k : AW tb own cc nL ret ini sc fr lo Post (pc + 2) L' st h mc ms) : AW tb own cc nL ret ini sc fr lo Post pc L (Value.int x :: st) h mc ms := by
  intro p l e R s m args below meth c D dA A H locs cells slots Q ls ws F hr hP hD hS hl hc hs
  exact lv_istore F.1 F.2.1 hd hl hn rfl (fun ls' hl' => k p l e R s m args below meth c D dA A H locs cells slots Q ls' ws F hr hP hD hS (av_stored hl' h1 hL) hc hs)
theorem aw_astore_n {i : Fin 4} {x : Nat} {L' : List (Option Value)} (hd : decode cc pc = .ok (.astore_n i, 1)) (hn : (i : Nat) < nL) (h1 : av_c1 L = true) (hL : L.set (i : Nat) (some (Value.ref x)) = L') (k : AW tb own cc nL ret ini sc fr lo Post (pc + 1) L' st h mc ms) : AW tb own cc nL ret ini sc fr lo Post pc L (Value.ref x :: st) h mc ms := by
  intro p l e R s m args below meth c D dA A H locs cells slots Q ls ws F hr hP hD hS hl hc hs
  exact lv_astore_n F.1 F.2.1 hd rfl hl hn rfl (fun ls' hl' => k p l e R s m args below meth c D dA A H locs cells slots Q ls' ws F hr hP hD hS (av_stored hl' h1 hL) hc hs)
theorem aw_astore {i : Nat} {x : Nat} {L' : List (Option Value)} (hd : decode cc pc = .ok (.astore i, 2)) (hn : i < nL) (h1 : av_c1 L = true) (hL : L.set i (some (Value.ref x)) = L') (k : AW tb own cc nL ret ini sc fr lo Post (pc + 2) L' st h mc ms) : AW tb own cc nL ret ini sc fr lo Post pc L (Value.ref x :: st) h mc ms := by
  intro p l e R s m args below meth c D dA A H locs cells slots Q ls ws F hr hP hD hS hl hc hs
  exact lv_astore F.1 F.2.1 hd hl hn rfl (fun ls' hl' => k p l e R s m args below meth c D dA A H locs cells slots Q ls' ws F hr hP hD hS (av_stored hl' h1 hL) hc hs)
theorem aw_iinc {i : Nat} {n : Int} {x v : Int32} {L' : List (Option Value)} (hd : decode cc pc = .ok (.iinc i n, 3)) (hv : L[i]? = some (some (.int x))) (he : x + Int32.ofInt n = v) (hn : i < nL) (h1 : av_c1 L = true) (hL : L.set i (some (.int v)) = L') (k : AW tb own cc nL ret ini sc fr lo Post (pc + 3) L' st h mc ms) : AW tb own cc nL ret ini sc fr lo Post pc L st h mc ms := by
  intro p l e R s m args below meth c D dA A H locs cells slots Q ls ws F hr hP hD hS hl hc hs
  have hm : (i, Value.int x) ∈ av_prs 0 L := (av_prs_mem L 0 (i, .int x)).mpr ⟨i, (Nat.zero_add i).symm, hv⟩
  obtain ⟨j, hj⟩ := List.getElem?_of_mem hm
  exact lv_iinc F.1 F.2.1 hd hl hj he hn rfl (fun ls' hl' => k p l e R s m args below meth c D dA A H locs cells slots Q ls' ws F hr hP hD hS (av_stored hl' h1 hL) hc hs)
theorem aw_if_eq {x : Int32} {off : Int} {tgt : Nat} (hd : decode cc pc = .ok (.ifCond .eq off, 3)) (ht : (pc : Int) + off = (tgt : Int)) (kt : x = 0 → AW tb own cc nL ret ini sc fr lo Post tgt L st h mc ms) (kf : ¬ x = 0 → AW tb own cc nL ret ini sc fr lo Post (pc + 3) L st h mc ms) : AW tb own cc nL ret ini sc fr lo Post pc L (.int x :: st) h mc ms := by
  intro p l e R s m args below meth c D dA A H locs cells slots Q ls ws F hr hP hD hS hl hc hs
  exact lv_if_eq F.1 F.2.1 hd ht (fun q => kt q p l e R s m args below meth c D dA A H locs cells slots Q ls ws F hr hP hD hS hl hc hs) (fun q => kf q p l e R s m args below meth c D dA A H locs cells slots Q ls ws F hr hP hD hS hl hc hs)
theorem aw_if_ne {x : Int32} {off : Int} {tgt : Nat} (hd : decode cc pc = .ok (.ifCond .ne off, 3)) (ht : (pc : Int) + off = (tgt : Int)) (kt : ¬ x = 0 → AW tb own cc nL ret ini sc fr lo Post tgt L st h mc ms) (kf : x = 0 → AW tb own cc nL ret ini sc fr lo Post (pc + 3) L st h mc ms) : AW tb own cc nL ret ini sc fr lo Post pc L (.int x :: st) h mc ms := by
  intro p l e R s m args below meth c D dA A H locs cells slots Q ls ws F hr hP hD hS hl hc hs
  exact lv_if_ne F.1 F.2.1 hd ht (fun q => kt q p l e R s m args below meth c D dA A H locs cells slots Q ls ws F hr hP hD hS hl hc hs) (fun q => kf q p l e R s m args below meth c D dA A H locs cells slots Q ls ws F hr hP hD hS hl hc hs)
theorem aw_if_lt {x : Int32} {off : Int} {tgt : Nat} (hd : decode cc pc = .ok (.ifCond .lt off, 3)) (ht : (pc : Int) + off = (tgt : Int)) (kt : x < 0 → AW tb own cc nL ret ini sc fr lo Post tgt L st h mc ms) (kf : ¬ x < 0 → AW tb own cc nL ret ini sc fr lo Post (pc + 3) L st h mc ms) : AW tb own cc nL ret ini sc fr lo Post pc L (.int x :: st) h mc ms := by
  intro p l e R s m args below meth c D dA A H locs cells slots Q ls ws F hr hP hD hS hl hc hs
  exact lv_if_lt F.1 F.2.1 hd ht (fun q => kt q p l e R s m args below meth c D dA A H locs cells slots Q ls ws F hr hP hD hS hl hc hs) (fun q => kf q p l e R s m args below meth c D dA A H locs cells slots Q ls ws F hr hP hD hS hl hc hs)
theorem aw_if_ge {x : Int32} {off : Int} {tgt : Nat} (hd : decode cc pc = .ok (.ifCond .ge off, 3)) (ht : (pc : Int) + off = (tgt : Int)) (kt : 0 ≤ x → AW tb own cc nL ret ini sc fr lo Post tgt L st h mc ms) (kf : ¬ 0 ≤ x → AW tb own cc nL ret ini sc fr lo Post (pc + 3) L st h mc ms) : AW tb own cc nL ret ini sc fr lo Post pc L (.int x :: st) h mc ms := by
  intro p l e R s m args below meth c D dA A H locs cells slots Q ls ws F hr hP hD hS hl hc hs
  exact lv_if_ge F.1 F.2.1 hd ht (fun q => kt q p l e R s m args below meth c D dA A H locs cells slots Q ls ws F hr hP hD hS hl hc hs) (fun q => kf q p l e R s m args below meth c D dA A H locs cells slots Q ls ws F hr hP hD hS hl hc hs)
theorem aw_if_gt {x : Int32} {off : Int} {tgt : Nat} (hd : decode cc pc = .ok (.ifCond .gt off, 3)) (ht : (pc : Int) + off = (tgt : Int)) (kt : 0 < x → AW tb own cc nL ret ini sc fr lo Post tgt L st h mc ms) (kf : ¬ 0 < x → AW tb own cc nL ret ini sc fr lo Post (pc + 3) L st h mc ms) : AW tb own cc nL ret ini sc fr lo Post pc L (.int x :: st) h mc ms := by
  intro p l e R s m args below meth c D dA A H locs cells slots Q ls ws F hr hP hD hS hl hc hs
  exact lv_if_gt F.1 F.2.1 hd ht (fun q => kt q p l e R s m args below meth c D dA A H locs cells slots Q ls ws F hr hP hD hS hl hc hs) (fun q => kf q p l e R s m args below meth c D dA A H locs cells slots Q ls ws F hr hP hD hS hl hc hs)
theorem aw_if_le {x : Int32} {off : Int} {tgt : Nat} (hd : decode cc pc = .ok (.ifCond .le off, 3)) (ht : (pc : Int) + off = (tgt : Int)) (kt : x ≤ 0 → AW tb own cc nL ret ini sc fr lo Post tgt L st h mc ms) (kf : ¬ x ≤ 0 → AW tb own cc nL ret ini sc fr lo Post (pc + 3) L st h mc ms) : AW tb own cc nL ret ini sc fr lo Post pc L (.int x :: st) h mc ms := by
  intro p l e R s m args below meth c D dA A H locs cells slots Q ls ws F hr hP hD hS hl hc hs
  exact lv_if_le F.1 F.2.1 hd ht (fun q => kt q p l e R s m args below meth c D dA A H locs cells slots Q ls ws F hr hP hD hS hl hc hs) (fun q => kf q p l e R s m args below meth c D dA A H locs cells slots Q ls ws F hr hP hD hS hl hc hs)
theorem aw_icmp_eq {x y : Int32} {off : Int} {tgt : Nat} (hd : decode cc pc = .ok (.if_icmp .eq off, 3)) (ht : (pc : Int) + off = (tgt : Int)) (kt : x = y → AW tb own cc nL ret ini sc fr lo Post tgt L st h mc ms) (kf : ¬ x = y → AW tb own cc nL ret ini sc fr lo Post (pc + 3) L st h mc ms) : AW tb own cc nL ret ini sc fr lo Post pc L (.int y :: .int x :: st) h mc ms := by
  intro p l e R s m args below meth c D dA A H locs cells slots Q ls ws F hr hP hD hS hl hc hs
  exact lv_icmp_eq F.1 F.2.1 hd ht (fun q => kt q p l e R s m args below meth c D dA A H locs cells slots Q ls ws F hr hP hD hS hl hc hs) (fun q => kf q p l e R s m args below meth c D dA A H locs cells slots Q ls ws F hr hP hD hS hl hc hs)
theorem aw_icmp_ne {x y : Int32} {off : Int} {tgt : Nat} (hd : decode cc pc = .ok (.if_icmp .ne off, 3)) (ht : (pc : Int) + off = (tgt : Int)) (kt : ¬ x = y → AW tb own cc nL ret ini sc fr lo Post tgt L st h mc ms) (kf : x = y → AW tb own cc nL ret ini sc fr lo Post (pc + 3) L st h mc ms) : AW tb own cc nL ret ini sc fr lo Post pc L (.int y :: .int x :: st) h mc ms := by
  intro p l e R s m args below meth c D dA A H locs cells slots Q ls ws F hr hP hD hS hl hc hs
  exact lv_icmp_ne F.1 F.2.1 hd ht (fun q => kt q p l e R s m args below meth c D dA A H locs cells slots Q ls ws F hr hP hD hS hl hc hs) (fun q => kf q p l e R s m args below meth c D dA A H locs cells slots Q ls ws F hr hP hD hS hl hc hs)
theorem aw_icmp_lt {x y : Int32} {off : Int} {tgt : Nat} (hd : decode cc pc = .ok (.if_icmp .lt off, 3)) (ht : (pc : Int) + off = (tgt : Int)) (kt : x < y → AW tb own cc nL ret ini sc fr lo Post tgt L st h mc ms) (kf : ¬ x < y → AW tb own cc nL ret ini sc fr lo Post (pc + 3) L st h mc ms) : AW tb own cc nL ret ini sc fr lo Post pc L (.int y :: .int x :: st) h mc ms := by
  intro p l e R s m args below meth c D dA A H locs cells slots Q ls ws F hr hP hD hS hl hc hs
  exact lv_icmp_lt F.1 F.2.1 hd ht (fun q => kt q p l e R s m args below meth c D dA A H locs cells slots Q ls ws F hr hP hD hS hl hc hs) (fun q => kf q p l e R s m args below meth c D dA A H locs cells slots Q ls ws F hr hP hD hS hl hc hs)
theorem aw_icmp_ge {x y : Int32} {off : Int} {tgt : Nat} (hd : decode cc pc = .ok (.if_icmp .ge off, 3)) (ht : (pc : Int) + off = (tgt : Int)) (kt : y ≤ x → AW tb own cc nL ret ini sc fr lo Post tgt L st h mc ms) (kf : ¬ y ≤ x → AW tb own cc nL ret ini sc fr lo Post (pc + 3) L st h mc ms) : AW tb own cc nL ret ini sc fr lo Post pc L (.int y :: .int x :: st) h mc ms := by
  intro p l e R s m args below meth c D dA A H locs cells slots Q ls ws F hr hP hD hS hl hc hs
  exact lv_icmp_ge F.1 F.2.1 hd ht (fun q => kt q p l e R s m args below meth c D dA A H locs cells slots Q ls ws F hr hP hD hS hl hc hs) (fun q => kf q p l e R s m args below meth c D dA A H locs cells slots Q ls ws F hr hP hD hS hl hc hs)
theorem aw_icmp_gt {x y : Int32} {off : Int} {tgt : Nat} (hd : decode cc pc = .ok (.if_icmp .gt off, 3)) (ht : (pc : Int) + off = (tgt : Int)) (kt : y < x → AW tb own cc nL ret ini sc fr lo Post tgt L st h mc ms) (kf : ¬ y < x → AW tb own cc nL ret ini sc fr lo Post (pc + 3) L st h mc ms) : AW tb own cc nL ret ini sc fr lo Post pc L (.int y :: .int x :: st) h mc ms := by
  intro p l e R s m args below meth c D dA A H locs cells slots Q ls ws F hr hP hD hS hl hc hs
  exact lv_icmp_gt F.1 F.2.1 hd ht (fun q => kt q p l e R s m args below meth c D dA A H locs cells slots Q ls ws F hr hP hD hS hl hc hs) (fun q => kf q p l e R s m args below meth c D dA A H locs cells slots Q ls ws F hr hP hD hS hl hc hs)
theorem aw_icmp_le {x y : Int32} {off : Int} {tgt : Nat} (hd : decode cc pc = .ok (.if_icmp .le off, 3)) (ht : (pc : Int) + off = (tgt : Int)) (kt : x ≤ y → AW tb own cc nL ret ini sc fr lo Post tgt L st h mc ms) (kf : ¬ x ≤ y → AW tb own cc nL ret ini sc fr lo Post (pc + 3) L st h mc ms) : AW tb own cc nL ret ini sc fr lo Post pc L (.int y :: .int x :: st) h mc ms := by
  intro p l e R s m args below meth c D dA A H locs cells slots Q ls ws F hr hP hD hS hl hc hs
  exact lv_icmp_le F.1 F.2.1 hd ht (fun q => kt q p l e R s m args below meth c D dA A H locs cells slots Q ls ws F hr hP hD hS hl hc hs) (fun q => kf q p l e R s m args below meth c D dA A H locs cells slots Q ls ws F hr hP hD hS hl hc hs)
theorem aw_acmp_eq {x y : Nat} {off : Int} {tgt : Nat} (hd : decode cc pc = .ok (.if_acmp .eq off, 3)) (ht : (pc : Int) + off = (tgt : Int)) (kt : x = y → AW tb own cc nL ret ini sc fr lo Post tgt L st h mc ms) (kf : ¬ x = y → AW tb own cc nL ret ini sc fr lo Post (pc + 3) L st h mc ms) : AW tb own cc nL ret ini sc fr lo Post pc L (.ref y :: .ref x :: st) h mc ms := by
  intro p l e R s m args below meth c D dA A H locs cells slots Q ls ws F hr hP hD hS hl hc hs
  exact lv_acmp_eq (rx := some x) (ry := some y) F.1 F.2.1 hd ht (fun q => kt (by simpa using q) p l e R s m args below meth c D dA A H locs cells slots Q ls ws F hr hP hD hS hl hc hs) (fun q => kf (by simpa using q) p l e R s m args below meth c D dA A H locs cells slots Q ls ws F hr hP hD hS hl hc hs)
theorem aw_acmp_ne {x y : Nat} {off : Int} {tgt : Nat} (hd : decode cc pc = .ok (.if_acmp .ne off, 3)) (ht : (pc : Int) + off = (tgt : Int)) (kt : ¬ x = y → AW tb own cc nL ret ini sc fr lo Post tgt L st h mc ms) (kf : x = y → AW tb own cc nL ret ini sc fr lo Post (pc + 3) L st h mc ms) : AW tb own cc nL ret ini sc fr lo Post pc L (.ref y :: .ref x :: st) h mc ms := by
  intro p l e R s m args below meth c D dA A H locs cells slots Q ls ws F hr hP hD hS hl hc hs
  exact lv_acmp_ne (rx := some x) (ry := some y) F.1 F.2.1 hd ht (fun q => kt (by simpa using q) p l e R s m args below meth c D dA A H locs cells slots Q ls ws F hr hP hD hS hl hc hs) (fun q => kf (by simpa using q) p l e R s m args below meth c D dA A H locs cells slots Q ls ws F hr hP hD hS hl hc hs)
theorem aw_goto {off : Int} {tgt : Nat} (hd : decode cc pc = .ok (.goto off, 3)) (ht : (pc : Int) + off = (tgt : Int)) (k : AW tb own cc nL ret ini sc fr lo Post tgt L st h mc ms) : AW tb own cc nL ret ini sc fr lo Post pc L st h mc ms := by
  intro p l e R s m args below meth c D dA A H locs cells slots Q ls ws F hr hP hD hS hl hc hs
  exact lv_goto F.1 F.2.1 hd ht (k p l e R s m args below meth c D dA A H locs cells slots Q ls ws F hr hP hD hS hl hc hs)
theorem aw_ifnonnull {x : Nat} {off : Int} {tgt : Nat} (hd : decode cc pc = .ok (.ifnonnull off, 3)) (ht : (pc : Int) + off = (tgt : Int)) (k : AW tb own cc nL ret ini sc fr lo Post tgt L st h mc ms) : AW tb own cc nL ret ini sc fr lo Post pc L (.ref x :: st) h mc ms := by
  intro p l e R s m args below meth c D dA A H locs cells slots Q ls ws F hr hP hD hS hl hc hs
  exact lv_ifnonnull F.1 F.2.1 hd ht (k p l e R s m args below meth c D dA A H locs cells slots Q ls ws F hr hP hD hS hl hc hs)
theorem aw_ifnull {x : Nat} {off : Int} (hd : decode cc pc = .ok (.ifnull off, 3)) (k : AW tb own cc nL ret ini sc fr lo Post (pc + 3) L st h mc ms) : AW tb own cc nL ret ini sc fr lo Post pc L (.ref x :: st) h mc ms := by
  intro p l e R s m args below meth c D dA A H locs cells slots Q ls ws F hr hP hD hS hl hc hs
  exact lv_ifnull F.1 F.2.1 hd (k p l e R s m args below meth c D dA A H locs cells slots Q ls ws F hr hP hD hS hl hc hs)
theorem aw_iret {x : Int32} {rt : FieldType} (hd : decode cc pc = .ok (.ireturn, 1)) (hr0 : ret = some rt) (hn : narrow rt (.int x) = .int x) (hp : Post (some (.int x)) h) : AW tb own cc nL ret ini sc fr lo Post pc L [.int x] h mc ms := by
  intro p l e R s m args below meth c D dA A H locs cells slots Q ls ws F hr hP hD hS hl hc hs
  refine W.widen (k := R.cells) (n := R.slots) (by omega) (by omega) ?_
  exact F.2.2.2.2.2.2.2.2.2.2.2.2 H locs ls ws pc (some (.int x)) h _ hp hr hP hD hS hd (Or.inl ⟨rfl, x, rt, rfl, hr0, hn⟩)
theorem aw_aret {x : Nat} {rt : FieldType} (hd : decode cc pc = .ok (.areturn, 1)) (hr0 : ret = some rt) (hn : (∃ n, rt = .object n) ∨ ∃ t, rt = .array t) (hp : Post (some (.ref x)) h) : AW tb own cc nL ret ini sc fr lo Post pc L [.ref x] h mc ms := by
  intro p l e R s m args below meth c D dA A H locs cells slots Q ls ws F hr hP hD hS hl hc hs
  refine W.widen (k := R.cells) (n := R.slots) (by omega) (by omega) ?_
  exact F.2.2.2.2.2.2.2.2.2.2.2.2 H locs ls ws pc (some (.ref x)) h _ hp hr hP hD hS hd (Or.inr (Or.inl ⟨rfl, x, rt, rfl, hr0, hn⟩))
theorem aw_vret (hd : decode cc pc = .ok (.return_, 1)) (hr0 : ret = none) (hp : Post none h) : AW tb own cc nL ret ini sc fr lo Post pc L [] h mc ms := by
  intro p l e R s m args below meth c D dA A H locs cells slots Q ls ws F hr hP hD hS hl hc hs
  refine W.widen (k := R.cells) (n := R.slots) (by omega) (by omega) ?_
  exact F.2.2.2.2.2.2.2.2.2.2.2.2 H locs ls ws pc none h _ hp hr hP hD hS hd (Or.inr (Or.inr ⟨rfl, rfl, hr0⟩))
theorem aw_less {mc' ms' : Nat} (h1 : mc' ≤ mc) (h2 : ms' ≤ ms) (k : AW tb own cc nL ret ini sc fr lo Post pc L st h mc' ms') : AW tb own cc nL ret ini sc fr lo Post pc L st h mc ms := by
  intro p l e R s m args below meth c D dA A H locs cells slots Q ls ws F hr hP hD hS hl hc hs
  exact k p l e R s m args below meth c D dA A H locs cells slots Q ls ws F hr hP hD hS hl (by omega) (by omega)
theorem aw_post {Post' : Option Value → AH → Prop} (hp : ∀ v h, Post' v h → Post v h) (k : AW tb own cc nL ret ini sc fr lo Post' pc L st h mc ms) : AW tb own cc nL ret ini sc fr lo Post pc L st h mc ms := by
  intro p l e R s m args below meth c D dA A H locs cells slots Q ls ws F hr hP hD hS hl hc hs
  obtain ⟨f1, f2, f3, f4, f5, f6, f7, f8, f9, f10, f11, f12⟩ := F
  exact k p l e R s m args below meth c D dA A H locs cells slots Q ls ws ⟨f1, f2, f3, f4, f5, f6, f7, f8, f9, f10, f11, f12.1, fun H locs ls ws pc v h i a b c d e f g => f12.2 H locs ls ws pc v h i (hp v h a) b c d e f g⟩ hr hP hD hS hl hc hs
/-- fewer known locals -/
theorem aw_loc {L' : List (Option Value)} (hsub : ∀ (i : Nat) (v : Value), L'[i]? = some (some v) → L[i]? = some (some v)) (k : AW tb own cc nL ret ini sc fr lo Post pc L' st h mc ms) : AW tb own cc nL ret ini sc fr lo Post pc L st h mc ms := by
  intro p l e R s m args below meth c D dA A H locs cells slots Q ls ws F hr hP hD hS hl hc hs
  refine k p l e R s m args below meth c D dA A H locs cells slots Q ls ws F hr hP hD hS ⟨hl.1, hl.2.1, fun q hq => ?_⟩ hc hs
  obtain ⟨j, h1, h2⟩ := (av_prs_mem L' 0 q).mp hq
  exact hl.2.2 q ((av_prs_mem L 0 q).mpr ⟨j, h1, hsub j _ h2⟩)
/-- a field by its place in the constant pool: class ci of 'classes', slot k -/
def av_fld (own : String) (idx ci k : Nat) : Prop := ∃ (C : String) (T : u_T) (N : Nat), classes[ci]? = some (C, T, N) ∧ (∀ w ∈ u_ws C T N, w ∈ av_tb) ∧ k < N ∧
  (Cond.fieldLink own idx (T k).1 (T k).2.1 (T k).2.2.1 ∈ av_tb ∨ ∃ host : String, Cond.fieldLinkNest own idx (T k).1 (T k).2.1 (T k).2.2.1 host ∈ av_nw)
def av_put (own : String) (idx ci k : Nat) (ini : Bool) (ty : FieldType) : Prop := ∃ (C : String) (T : u_T) (N : Nat) (ty0 : Nat → FieldType), classes[ci]? = some (C, T, N) ∧ (∀ w ∈ u_ws C T N, w ∈ av_tb) ∧ k < N ∧ (∀ j, j < N → parseFieldDescriptor (T j).2.2.1 = some (ty0 j)) ∧ (∀ a, a < N → ∀ b, b < N → a ≠ b → (T a).2.1 ≠ (T b).2.1) ∧ ty0 k = ty ∧
  ((T k).2.2.2 = false ∨ (ini = true ∧ (T k).1 = own)) ∧ (Cond.fieldLink own idx (T k).1 (T k).2.1 (T k).2.2.1 ∈ av_tb ∨ ((T k).2.2.2 = false ∧ ∃ host : String, Cond.fieldLinkNest own idx (T k).1 (T k).2.1 (T k).2.2.1 host ∈ av_nw))
theorem aw_get {idx ci k a : Nat} {fs : List Value} {v : Value} (hf : av_fld own idx ci k) (hd : decode cc pc = .ok (.getfield idx, 3)) (ha : h a = some (.inr (ci, fs))) (hv : fs[k]? = some v) (kk : AW tb own cc nL ret ini sc fr lo Post (pc + 3) L (v :: st) h mc ms) : AW tb own cc nL ret ini sc fr lo Post pc L (.ref a :: st) h mc ms := by
  intro p l e R s m args below meth c D dA A H locs cells slots Q ls ws F hr hP hD hS hl hc hs
  obtain ⟨C, T, N, h1, h2, h3, h4⟩ := hf
  obtain ⟨j, hj⟩ := hr.1 a _ ha
  rcases h4 with h4 | ⟨host, h4⟩
  · exact va_get F.1 F.2.1 F.2.2.2.2.1 h2 F.2.2.2.1 F.2.2.2.2.2.1.1 hP j hj h1 k h3 (F.2.2.2.2.1 _ h4) (fun _ q => q) hv hd (kk p l e R s m args below meth c D dA A H locs cells slots Q ls ws F hr hP hD hS hl hc hs)
  · exact va_getN F.1 F.2.1 F.2.2.2.2.1 h2 F.2.2.2.1 F.2.2.2.2.2.1.1 hP j hj h1 k h3 (va_Nw.use rfl (F.2.2.2.2.2.1.2.1 _ h4)) (fun _ q => q) hv hd (kk p l e R s m args below meth c D dA A H locs cells slots Q ls ws F hr hP hD hS hl hc hs)
theorem aw_put {idx ci k a : Nat} {fs fs' : List Value} {v : Value} {ty : FieldType} (hf : av_put own idx ci k ini ty) (hd : decode cc pc = .ok (.putfield idx, 3)) (ha : h a = some (.inr (ci, fs))) (hn : narrow ty v = v) (hfit : fits ty v = true) (hk : k < fs.length) (hfs : fs.set k v = fs') (kk : AW tb own cc nL ret ini sc fr lo Post (pc + 3) L st (av_up h a (.inr (ci, fs'))) mc ms) : AW tb own cc nL ret ini sc fr lo Post pc L (v :: .ref a :: st) h mc ms := by
  intro p l e R s m args below meth c D dA A H locs cells slots Q ls ws F hr hP hD hS hl hc hs
  obtain ⟨C, T, N, ty0, h1, h2, h3, h4, h5, h6, h7, h8⟩ := hf
  obtain ⟨j, hj⟩ := hr.1 a _ ha
  subst hfs
  have hty : parseFieldDescriptor (T k).2.2.1 = some ty := by rw [h4 k h3, h6]
  rcases h8 with h8 | ⟨h9, host, h8⟩
  · rcases h7 with h7 | ⟨h7, h10⟩
    · exact va_put F.1 F.2.1 F.2.2.2.2.1 h2 ty0 h4 h5 F.2.2.2.1 F.2.2.2.2.2.1.1 hP hD hS j hj h1 k h3 (F.2.2.2.2.1 _ h8) (fun _ q => q) h7 hty hn hfit hk hd (fun H1 locs1 hP1 hD1 hS1 => kk p l e R s m args below meth c D dA A H1 locs1 cells slots Q ls _ F (hr.set (e := .inr (ci, fs.set k v)) hj) hP1 hD1 hS1 hl hc hs)
    · cases hq : (T k).2.2.2 with
      | false => exact va_put F.1 F.2.1 F.2.2.2.2.1 h2 ty0 h4 h5 F.2.2.2.1 F.2.2.2.2.2.1.1 hP hD hS j hj h1 k h3 (F.2.2.2.2.1 _ h8) (fun _ q => q) hq hty hn hfit hk hd (fun H1 locs1 hP1 hD1 hS1 => kk p l e R s m args below meth c D dA A H1 locs1 cells slots Q ls _ F (hr.set (e := .inr (ci, fs.set k v)) hj) hP1 hD1 hS1 hl hc hs)
      | true => exact va_putF F.1 F.2.1 F.2.2.2.2.1 h2 ty0 h4 h5 F.2.2.2.1 F.2.2.2.2.2.1.1 hP hD hS j hj h1 k h3 (F.2.2.2.2.1 _ h8) (fun _ q => q) hq (F.2.2.2.2.2.2.2.1 h7) h10 hty hn hfit hk hd (fun H1 locs1 hP1 hD1 hS1 => kk p l e R s m args below meth c D dA A H1 locs1 cells slots Q ls _ F (hr.set (e := .inr (ci, fs.set k v)) hj) hP1 hD1 hS1 hl hc hs)
  · exact va_putN F.1 F.2.1 F.2.2.2.2.1 h2 ty0 h4 h5 F.2.2.2.1 F.2.2.2.2.2.1.1 hP hD hS j hj h1 k h3 (va_Nw.use rfl (F.2.2.2.2.2.1.2.1 _ h8)) (fun _ q => q) h9 hty hn hfit hk hd (fun H1 locs1 hP1 hD1 hS1 => kk p l e R s m args below meth c D dA A H1 locs1 cells slots Q ls _ F (hr.set (e := .inr (ci, fs.set k v)) hj) hP1 hD1 hS1 hl hc hs)
theorem aw_iald {a n : Nat} {f : Nat → Int32} {i x : Int32} (hd : decode cc pc = .ok (.iaload, 1)) (ha : h a = some (.inl (0, n, .inl f))) (hin : vp_in i n) (hx : f i.toNatClampNeg = x) (k : AW tb own cc nL ret ini sc fr lo Post (pc + 1) L (.int x :: st) h mc ms) : AW tb own cc nL ret ini sc fr lo Post pc L (.int i :: .ref a :: st) h mc ms := by
  intro p l e R s m args below meth c D dA A H locs cells slots Q ls ws F hr hP hD hS hl hc hs
  obtain ⟨j, hj⟩ := hr.1 a _ ha
  subst hx
  exact va_iald F.1 F.2.1 F.2.2.2.2.2.1.1 hP j 0 hj rfl hin hd (k p l e R s m args below meth c D dA A H locs cells slots Q ls ws F hr hP hD hS hl hc hs)
theorem aw_bald {a n : Nat} {f : Nat → Int32} {i x : Int32} (hd : decode cc pc = .ok (.baload, 1)) (ha : h a = some (.inl (1, n, .inl f))) (hin : vp_in i n) (hx : f i.toNatClampNeg = x) (k : AW tb own cc nL ret ini sc fr lo Post (pc + 1) L (.int x :: st) h mc ms) : AW tb own cc nL ret ini sc fr lo Post pc L (.int i :: .ref a :: st) h mc ms := by
  intro p l e R s m args below meth c D dA A H locs cells slots Q ls ws F hr hP hD hS hl hc hs
  obtain ⟨j, hj⟩ := hr.1 a _ ha
  subst hx
  exact va_bald F.1 F.2.1 F.2.2.2.2.2.1.1 hP j 1 hj rfl hin hd (k p l e R s m args below meth c D dA A H locs cells slots Q ls ws F hr hP hD hS hl hc hs)
theorem aw_iast {a n : Nat} {f f' : Nat → Int32} {i x : Int32} (hd : decode cc pc = .ok (.iastore, 1)) (ha : h a = some (.inl (0, n, .inl f))) (hin : vp_in i n) (hx : upd f i.toNatClampNeg x = f') (k : AW tb own cc nL ret ini sc fr lo Post (pc + 1) L st (av_up h a (.inl (0, n, .inl f'))) mc ms) : AW tb own cc nL ret ini sc fr lo Post pc L (.int x :: .int i :: .ref a :: st) h mc ms := by
  intro p l e R s m args below meth c D dA A H locs cells slots Q ls ws F hr hP hD hS hl hc hs
  obtain ⟨j, hj⟩ := hr.1 a _ ha
  subst hx
  exact va_iast F.1 F.2.1 F.2.2.2.2.2.1.1 hP hD hS j 0 hj rfl hin hd (fun H1 locs1 hP1 hD1 hS1 => k p l e R s m args below meth c D dA A H1 locs1 cells slots Q ls _ F (hr.set (e := .inl (0, n, .inl (upd f i.toNatClampNeg x))) hj) hP1 hD1 hS1 hl hc hs)
theorem aw_bast {a n : Nat} {f f' : Nat → Int32} {i x : Int32} (hd : decode cc pc = .ok (.bastore, 1)) (ha : h a = some (.inl (1, n, .inl f))) (hin : vp_in i n) (hx : upd f i.toNatClampNeg (vp_nar .byte x) = f') (k : AW tb own cc nL ret ini sc fr lo Post (pc + 1) L st (av_up h a (.inl (1, n, .inl f'))) mc ms) : AW tb own cc nL ret ini sc fr lo Post pc L (.int x :: .int i :: .ref a :: st) h mc ms := by
  intro p l e R s m args below meth c D dA A H locs cells slots Q ls ws F hr hP hD hS hl hc hs
  obtain ⟨j, hj⟩ := hr.1 a _ ha
  subst hx
  exact va_bast F.1 F.2.1 F.2.2.2.2.2.1.1 hP hD hS j 1 hj rfl hin hd (fun H1 locs1 hP1 hD1 hS1 => k p l e R s m args below meth c D dA A H1 locs1 cells slots Q ls _ F (hr.set (e := .inl (1, n, .inl (upd f i.toNatClampNeg (vp_nar .byte x)))) hj) hP1 hD1 hS1 hl hc hs)
theorem aw_alen {a t : Nat} {x : vp_A} {v : Int32} (hd : decode cc pc = .ok (.arraylength, 1)) (ha : h a = some (.inl (t, x))) (ht : ∀ dA : Nat → ClassId, (av_tys dA)[t]? = some (dA t, av_t t)) (hv : nI x.1 = v) (k : AW tb own cc nL ret ini sc fr lo Post (pc + 1) L (.int v :: st) h mc ms) : AW tb own cc nL ret ini sc fr lo Post pc L (.ref a :: st) h mc ms := by
  intro p l e R s m args below meth c D dA A H locs cells slots Q ls ws F hr hP hD hS hl hc hs
  obtain ⟨j, hj⟩ := hr.1 a _ ha
  exact va_alen F.1 F.2.1 F.2.2.2.2.2.1.1 hP j t hj (ht dA) hv hd (k p l e R s m args below meth c D dA A H locs cells slots Q ls ws F hr hP hD hS hl hc hs)
theorem aw_newa {t N mc2 ms2 : Nat} {n : Int32} {at0 : ClassFile.ArrayType} {z : vp_A} (hd : decode cc pc = .ok (.newarray at0, 2)) (hw : Cond.arrayClass (newarray.typeOf at0) ∈ av_tb) (ht : ∀ dA : Nat → ClassId, (av_tys dA)[t]? = some (dA t, newarray.typeOf at0)) (hp : ∀ (U : State) (cA : ClassId), va_RA U cA (newarray.typeOf at0) → U.vm.findClass ("[" ++ (newarray.typeOf at0).toString) = some cA) (hz : ∀ cA : ClassId, vp_cell cA z = arrV cA N (fun _ => defaultValue (newarray.typeOf at0))) (hn : ¬ n < 0) (hN : n.toNatClampNeg = N) (hby : N * componentBytes (newarray.typeOf at0) ≤ 536870912) (h1 : mc2 + 1 ≤ mc) (h2 : ms2 + N ≤ ms)
    (k : ∀ q : Nat, h q = none → AW tb own cc nL ret ini sc fr lo Post (pc + 2) L (.ref q :: st) (av_up h q (.inl (t, z))) mc2 ms2) : AW tb own cc nL ret ini sc fr lo Post pc L (.int n :: st) h mc ms := by
  intro p l e R s m args below meth c D dA A H locs cells slots Q ls ws F hr hP hD hS hl hc hs
  refine va_newa F.1 F.2.1 (F.2.2.2.2.1 _ hw) rfl F.2.2.2.2.2.1.1 hP hD hS F.2.2.2.2.2.2.1 hz hn hN hby (by omega) (by omega) hd (fun q cA H1 hK1 hP1 hD1 hS1 => ?_)
  have hc1 : cA = dA t := by
    have e1 := (hK1.2 (av_tys dA).length (cA, newarray.typeOf at0) (by simp)).2
    have e2 := (F.2.2.2.2.2.1.1.2 t _ (ht dA)).2
    exact Option.some.inj ((hp s cA e1).symm.trans (hp s (dA t) e2))
  subst hc1
  have hf := av_fresh hr hD1
  exact k q hf p l e R s m args below meth c D dA A H1 locs (cells + 1) (slots + N) Q ls _ F (hr.push (e := .inl (t, z)) hf) hP1 hD1 hS1 hl (by omega) (by omega)
/-- a class by its place in the constant pool: new objects of it, with all fields at their first values fs -/
def av_cls (own : String) (idx ci : Nat) (fs : List Value) (N : Nat) : Prop := ∃ (C : String) (T : u_T) (ty : Nat → FieldType), classes[ci]? = some (C, T, N) ∧ (∀ w ∈ u_ws C T N, w ∈ av_tb) ∧ (∀ j, j < N → parseFieldDescriptor (T j).2.2.1 = some (ty j)) ∧ Cond.classLink own idx C ∈ av_tb ∧ Cond.instantiable C N ∈ av_tb ∧ Cond.initialized C ∈ av_tb ∧ (∀ j, j < N → defaultValue (ty j) = vp_V fs j)
theorem aw_new {idx ci N mc2 ms2 : Nat} {fs : List Value} (hf : av_cls own idx ci fs N) (hd : decode cc pc = .ok (.new idx, 3)) (h1 : mc2 + 1 ≤ mc) (h2 : ms2 + N ≤ ms) (k : ∀ q : Nat, h q = none → AW tb own cc nL ret ini sc fr lo Post (pc + 3) L (.ref q :: st) (av_up h q (.inr (ci, fs))) mc2 ms2) : AW tb own cc nL ret ini sc fr lo Post pc L st h mc ms := by
  intro p l e R s m args below meth c D dA A H locs cells slots Q ls ws F hr hP hD hS hl hc hs
  obtain ⟨C, T, ty, g1, g2, g3, g4, g5, g6, g7⟩ := hf
  refine va_new F.1 F.2.1 F.2.2.2.2.1 g2 ty g3 F.2.2.2.1 (F.2.2.2.2.1 _ g4) (F.2.2.2.2.1 _ g5) (F.2.2.2.2.1 _ g6) F.2.2.2.2.2.1.1 hP hD hS F.2.2.2.2.2.2.1 g1 g7 (by omega) (by omega) hd (fun q H1 hP1 hD1 hS1 => ?_)
  have hf := av_fresh hr hD1
  exact k q hf p l e R s m args below meth c D dA A H1 locs (cells + 1) (slots + N) Q ls _ F (hr.push (e := .inr (ci, fs)) hf) hP1 hD1 hS1 hl (by omega) (by omega)
theorem aw_objInit {idx a : Nat} (hd : decode cc pc = .ok (.invokespecial idx, 3)) (h1 : Cond.methodLink own idx Lib.objectInit ∈ av_tb) (h2 : Cond.instanceMethod Lib.objectInit ∈ av_tb) (h3 : Cond.code Lib.objectInit ⟨#[0xb1]⟩ 1 none ∈ av_tb) (h4 : 1 ≤ fr) (h5 : 20 ≤ lo) (hW : (st.map fun v => v.category).sum ≤ 8) (k : AW tb own cc nL ret ini sc fr lo Post (pc + 3) L st h mc ms) : AW tb own cc nL ret ini sc fr lo Post pc L (.ref a :: st) h mc ms := by
  intro p l e R s m args below meth c D dA A H locs cells slots Q ls ws F hr hP hD hS hl hc hs
  obtain ⟨hx, hb, hml, hown, hts, hK, hA, hini, hfr, hlo, hsc, hret⟩ := id F
  refine W.objInit hx hb hown (hts _ h1) (hts _ h2) (hts _ h3) rfl (by rw [hml]; exact hl.1) rfl hd (Nat.le_trans h4 hfr) ?_ ?_
  · have := lv_room (m := m) (pc := pc) (ls := ls) (rest := .ref a :: st) hW
    omega
  · exact k p l e R s m args below meth c D dA A H locs cells slots Q ls ws F hr hP hD hS hl hc hs
theorem aw_sld {b N : Nat} {xs : Nat → Int32} {i x : Int32} (hsc : sc = some (b, N, xs)) (hd : decode cc pc = .ok (.iaload, 1)) (hin : vp_in i N) (hx : xs i.toNatClampNeg = x) (k : AW tb own cc nL ret ini sc fr lo Post (pc + 1) L (.int x :: st) h mc ms) : AW tb own cc nL ret ini sc fr lo Post pc L (.int i :: .ref b :: st) h mc ms := by
  intro p l e R s m args below meth c D dA A H locs cells slots Q ls ws F hr hP hD hS hl hc hs
  obtain ⟨q1, q2, q3⟩ := F.2.2.2.2.2.2.2.2.2.2.1 _ hsc
  subst hx
  exact va_sld F.1 F.2.1 q1 q2 q3 hS hin hd (k p l e R s m args below meth c D dA A H locs cells slots Q ls ws F hr hP hD hS hl hc hs)
theorem aw_slen {b N : Nat} {xs : Nat → Int32} (hsc : sc = some (b, N, xs)) (hd : decode cc pc = .ok (.arraylength, 1)) (k : AW tb own cc nL ret ini sc fr lo Post (pc + 1) L (.int (nI N) :: st) h mc ms) : AW tb own cc nL ret ini sc fr lo Post pc L (.ref b :: st) h mc ms := by
  intro p l e R s m args below meth c D dA A H locs cells slots Q ls ws F hr hP hD hS hl hc hs
  obtain ⟨q1, q2, q3⟩ := F.2.2.2.2.2.2.2.2.2.2.1 _ hsc
  exact va_slen F.1 F.2.1 q1 q2 q3 hS hd (k p l e R s m args below meth c D dA A H locs cells slots Q ls ws F hr hP hD hS hl hc hs)
def av_nm (y : MethodName) (n : Nat) : Prop := y.cls ≠ "java/lang/invoke/MethodHandle" ∧ y.cls ≠ "java/lang/invoke/VarHandle" ∧ (parseMethodDescriptor y.desc).map (fun d => d.parameters.length) = some n
def av_cV (own : String) (idx : Nat) (y : MethodName) (cc : ByteArray) (nL : Nat) (ret : Option FieldType) (n : Nat) : Prop := (Cond.instanceMethod y ∈ av_tb ∧ Cond.selects y.cls y y ∈ av_tb ∧ Cond.initialized y.cls ∈ av_tb ∧ Cond.code y cc nL ret ∈ av_tb) ∧ av_nm y n ∧ (Cond.methodLink own idx y ∈ av_tb ∨ ∃ host : String, Cond.methodLinkNest own idx y host ∈ av_nw)
def av_cS (own : String) (idx : Nat) (y : MethodName) (cc : ByteArray) (nL : Nat) (ret : Option FieldType) (n : Nat) : Prop := (Cond.static y ∈ av_tb ∧ Cond.initialized y.cls ∈ av_tb ∧ Cond.code y cc nL ret ∈ av_tb) ∧ av_nm y n ∧ (Cond.methodLink own idx y ∈ av_tb ∨ ∃ host : String, Cond.methodLinkNest own idx y host ∈ av_nw)
def av_cI (own : String) (idx : Nat) (y : MethodName) (cc : ByteArray) (nL : Nat) (n : Nat) : Prop := (Cond.instanceMethod y ∈ av_tb ∧ Cond.initialized y.cls ∈ av_tb ∧ Cond.code y cc nL none ∈ av_tb ∧ y.name = "<init>") ∧ av_nm y n ∧ (Cond.methodLink own idx y ∈ av_tb ∨ ∃ host : String, Cond.methodLinkNest own idx y host ∈ av_nw)
theorem av_ws_in {y : MethodName} {cc : ByteArray} {nL : Nat} {ret : Option FieldType} (h : Cond.code y cc nL ret ∈ av_tb) : ∀ w ∈ av_ws y cc nL ret, w ∈ av_tb := fun w hw => by
  rcases List.mem_cons.mp hw with rfl | hw
  · exact h
  · exact hw
theorem aw_callV {y : MethodName} {cc' : ByteArray} {nL' : Nat} {ret' : Option FieldType} {fr' lo' mc' ms' mc2 ms2 : Nat} {Post' : Option Value → AH → Prop} {idx n b ci : Nat} {fs As rest : List Value} (hM : AM tb y cc' nL' ret' fr' lo' (.ref b :: As) h mc' ms' Post') (hcs : av_cV own idx y cc' nL' ret' n) (hd : decode cc pc = .ok (.invokevirtual idx, 3)) (hb0 : h b = some (.inr (ci, fs))) (hci : (classes[ci]?).map (fun x => x.1) = some y.cls) (hn : As.length = n) (hst : st = As.reverse ++ .ref b :: rest) (hW : (rest.map fun v => v.category).sum ≤ 8) (h1 : fr' + 1 ≤ fr) (h2 : 8 + (nL' + 11) + lo' ≤ lo) (h3 : mc' + mc2 ≤ mc) (h4 : ms' + ms2 ≤ ms)
    (kk : ∀ (v : Option Value) (h' : AH), Post' v h' → AW tb own cc nL ret ini sc fr lo Post (pc + 3) L (v.toList ++ rest) h' mc2 ms2) : AW tb own cc nL ret ini sc fr lo Post pc L st h mc ms := by
  intro p l e R s m args below meth c D dA A H locs cells slots Q ls ws F hr hP hD hS hl hc hs
  obtain ⟨hx, hb, hml, hown, hts, hK, hA, hini, hfr, hlo, hsc, hret⟩ := id F
  obtain ⟨⟨g1, g2, g3, g4⟩, gn, g5⟩ := hcs
  subst hst
  obtain ⟨j, hj⟩ := hr.1 b _ hb0
  obtain ⟨q, hq, hqc⟩ : ∃ q, classes[ci]? = some q ∧ q.1 = y.cls := by
    cases hz : classes[ci]? with
    | none => rw [hz] at hci; cases hci
    | some q => rw [hz] at hci; exact ⟨q, rfl, Option.some.inj hci⟩
  have hrec := va_recv hK.1 hP hq hj
  rw [hqc] at hrec
  have hpre : PreV s H y.cls b (av_Pre tb D dA (.ref b :: As) h H.size) As := ⟨av_blind, hrec, av_pre (av := .ref b :: As) hK hr hP hD hS hA⟩
  have hgood : GoodIn av_tb (av_ws y cc' nL' ret') := av_good (av_ws_in g4)
  have hrm : ({ frames := fr', cells := mc', slots := ms', locals := lo' } : Room).frames + 1 ≤ R.frames ∧ 8 + (nL' + 11) + ({ frames := fr', cells := mc', slots := ms', locals := lo' } : Room).locals ≤ R.locals := ⟨Nat.le_trans h1 hfr, Nat.le_trans h2 hlo⟩
  have hfit : cells + mc' ≤ R.cells ∧ slots + ms' ≤ R.slots := ⟨by omega, by omega⟩
  rcases g5 with g5 | ⟨host, g5⟩
  · refine av_after (va_runV (As := As) (rest := rest) ⟨hx, hb, hml, hown, hts⟩ (hM l hret.1 D dA H.size) ⟨callB_of n hts hgood rfl rfl rfl (hts _ g3) (hts _ g5) gn hrm, hts _ g1, hts _ g2⟩ hpre rfl hn hl.1 rfl (lv_room hW) hd hfit) hr hD hS hA ?_
    intro v h' ws' H1 locs1 hp hr1 hP1 hD1 hS1
    exact kk v h' hp p l e R s m args below meth c D dA A H1 locs1 _ _ Q ls ws' F hr1 hP1 hD1 hS1 hl (by omega) (by omega)
  · refine av_after (va_runVN (As := As) (rest := rest) ⟨hx, hb, hml, hown, hts⟩ (hM l hret.1 D dA H.size) ⟨va_cnB n hts hgood rfl rfl rfl (hK.2.1 _ g5) (hts _ g3) gn hrm, hts _ g1, hts _ g2⟩ hpre rfl hn hl.1 rfl (lv_room hW) hd hfit) hr hD hS hA ?_
    intro v h' ws' H1 locs1 hp hr1 hP1 hD1 hS1
    exact kk v h' hp p l e R s m args below meth c D dA A H1 locs1 _ _ Q ls ws' F hr1 hP1 hD1 hS1 hl (by omega) (by omega)
theorem aw_callS {y : MethodName} {cc' : ByteArray} {nL' : Nat} {ret' : Option FieldType} {fr' lo' mc' ms' mc2 ms2 : Nat} {Post' : Option Value → AH → Prop} {idx n : Nat} {As rest : List Value} (hM : AM tb y cc' nL' ret' fr' lo' As h mc' ms' Post') (hcs : av_cS own idx y cc' nL' ret' n) (hd : decode cc pc = .ok (.invokestatic idx, 3)) (hn : As.length = n) (hst : st = As.reverse ++ rest) (hW : (rest.map fun v => v.category).sum ≤ 8) (h1 : fr' + 1 ≤ fr) (h2 : 8 + (nL' + 11) + lo' ≤ lo) (h3 : mc' + mc2 ≤ mc) (h4 : ms' + ms2 ≤ ms)
    (kk : ∀ (v : Option Value) (h' : AH), Post' v h' → AW tb own cc nL ret ini sc fr lo Post (pc + 3) L (v.toList ++ rest) h' mc2 ms2) : AW tb own cc nL ret ini sc fr lo Post pc L st h mc ms := by
  intro p l e R s m args below meth c D dA A H locs cells slots Q ls ws F hr hP hD hS hl hc hs
  obtain ⟨hx, hb, hml, hown, hts, hK, hA, hini, hfr, hlo, hsc, hret⟩ := id F
  obtain ⟨⟨g1, g3, g4⟩, gn, g5⟩ := hcs
  subst hst
  have hpre : PreS s H (av_Pre tb D dA As h H.size) As := ⟨av_blind, av_pre (av := As) hK hr hP hD hS hA⟩
  have hgood : GoodIn av_tb (av_ws y cc' nL' ret') := av_good (av_ws_in g4)
  have hrm : ({ frames := fr', cells := mc', slots := ms', locals := lo' } : Room).frames + 1 ≤ R.frames ∧ 8 + (nL' + 11) + ({ frames := fr', cells := mc', slots := ms', locals := lo' } : Room).locals ≤ R.locals := ⟨Nat.le_trans h1 hfr, Nat.le_trans h2 hlo⟩
  have hfit : cells + mc' ≤ R.cells ∧ slots + ms' ≤ R.slots := ⟨by omega, by omega⟩
  rcases g5 with g5 | ⟨host, g5⟩
  · refine av_after (va_runS (As := As) (rest := rest) ⟨hx, hb, hml, hown, hts⟩ (hM l hret.1 D dA H.size) ⟨callB_of n hts hgood rfl rfl rfl (hts _ g3) (hts _ g5) gn hrm, hts _ g1⟩ hpre rfl hn hl.1 rfl (lv_room hW) hd hfit) hr hD hS hA ?_
    intro v h' ws' H1 locs1 hp hr1 hP1 hD1 hS1
    exact kk v h' hp p l e R s m args below meth c D dA A H1 locs1 _ _ Q ls ws' F hr1 hP1 hD1 hS1 hl (by omega) (by omega)
  · refine av_after (va_runSN (As := As) (rest := rest) ⟨hx, hb, hml, hown, hts⟩ (hM l hret.1 D dA H.size) ⟨va_cnB n hts hgood rfl rfl rfl (hK.2.1 _ g5) (hts _ g3) gn hrm, hts _ g1, trivial⟩ hpre rfl hn hl.1 rfl (lv_room hW) hd hfit) hr hD hS hA ?_
    intro v h' ws' H1 locs1 hp hr1 hP1 hD1 hS1
    exact kk v h' hp p l e R s m args below meth c D dA A H1 locs1 _ _ Q ls ws' F hr1 hP1 hD1 hS1 hl (by omega) (by omega)
theorem aw_callI {y : MethodName} {cc' : ByteArray} {nL' : Nat} {fr' lo' mc' ms' mc2 ms2 : Nat} {Post' : Option Value → AH → Prop} {idx n b : Nat} {As rest : List Value} (hM : AM tb y cc' nL' none fr' lo' (.ref b :: As) h mc' ms' Post') (hcs : av_cI own idx y cc' nL' n) (hd : decode cc pc = .ok (.invokespecial idx, 3)) (hn : As.length = n) (hst : st = As.reverse ++ .ref b :: rest) (hW : (rest.map fun v => v.category).sum ≤ 8) (h1 : fr' + 1 ≤ fr) (h2 : 8 + (nL' + 11) + lo' ≤ lo) (h3 : mc' + mc2 ≤ mc) (h4 : ms' + ms2 ≤ ms)
    (kk : ∀ (v : Option Value) (h' : AH), Post' v h' → AW tb own cc nL ret ini sc fr lo Post (pc + 3) L (v.toList ++ rest) h' mc2 ms2) : AW tb own cc nL ret ini sc fr lo Post pc L st h mc ms := by
  intro p l e R s m args below meth c D dA A H locs cells slots Q ls ws F hr hP hD hS hl hc hs
  obtain ⟨hx, hb, hml, hown, hts, hK, hA, hini, hfr, hlo, hsc, hret⟩ := id F
  obtain ⟨⟨g1, g3, g4, g6⟩, gn, g5⟩ := hcs
  subst hst
  have hpre : PreS s H (av_Pre tb D dA (.ref b :: As) h H.size) (.ref b :: As) := ⟨av_blind, av_pre (av := .ref b :: As) hK hr hP hD hS hA⟩
  have hgood : GoodIn av_tb (av_ws y cc' nL' none) := av_good (av_ws_in g4)
  have hrm : ({ frames := fr', cells := mc', slots := ms', locals := lo' } : Room).frames + 1 ≤ R.frames ∧ 8 + (nL' + 11) + ({ frames := fr', cells := mc', slots := ms', locals := lo' } : Room).locals ≤ R.locals := ⟨Nat.le_trans h1 hfr, Nat.le_trans h2 hlo⟩
  have hfit : cells + mc' ≤ R.cells ∧ slots + ms' ≤ R.slots := ⟨by omega, by omega⟩
  rcases g5 with g5 | ⟨host, g5⟩
  · refine av_after (va_runI (As := As) (rest := rest) ⟨hx, hb, hml, hown, hts⟩ (hM l hret.1 D dA H.size) ⟨callB_of n hts hgood rfl rfl rfl (hts _ g3) (hts _ g5) gn hrm, g6, hts _ g1⟩ hpre rfl hn hl.1 rfl (lv_room hW) hd hfit) hr hD hS hA ?_
    intro v h' ws' H1 locs1 hp hr1 hP1 hD1 hS1
    exact kk v h' hp p l e R s m args below meth c D dA A H1 locs1 _ _ Q ls ws' F hr1 hP1 hD1 hS1 hl (by omega) (by omega)
  · refine av_after (va_runIN (As := As) (rest := rest) ⟨hx, hb, hml, hown, hts⟩ (hM l hret.1 D dA H.size) ⟨va_cnB n hts hgood rfl rfl rfl (hK.2.1 _ g5) (hts _ g3) gn hrm, g6, hts _ g1⟩ hpre rfl hn hl.1 rfl (lv_room hW) hd hfit) hr hD hS hA ?_
    intro v h' ws' H1 locs1 hp hr1 hP1 hD1 hS1
    exact kk v h' hp p l e R s m args below meth c D dA A H1 locs1 _ _ Q ls ws' F hr1 hP1 hD1 hS1 hl (by omega) (by omega)
/-- the answer is r, the heap is as it was -/
def av_Pi (r : Int32) (h : AH) : Option Value → AH → Prop := fun v h' => v = some (.int r) ∧ h' = h
def av_Pr (r : Nat) (h : AH) : Option Value → AH → Prop := fun v h' => v = some (.ref r) ∧ h' = h
theorem aw_callVi {y : MethodName} {cc' : ByteArray} {nL' : Nat} {ret' : Option FieldType} {fr' lo' mc' ms' mc2 ms2 : Nat} {r : Int32} {idx n b ci : Nat} {fs As rest : List Value} (hM : AM tb y cc' nL' ret' fr' lo' (.ref b :: As) h mc' ms' (av_Pi r h)) (hcs : av_cV own idx y cc' nL' ret' n) (hd : decode cc pc = .ok (.invokevirtual idx, 3)) (hb0 : h b = some (.inr (ci, fs))) (hci : (classes[ci]?).map (fun x => x.1) = some y.cls) (hn : As.length = n) (hst : st = As.reverse ++ .ref b :: rest) (hW : (rest.map fun v => v.category).sum ≤ 8) (h1 : fr' + 1 ≤ fr) (h2 : 8 + (nL' + 11) + lo' ≤ lo) (h3 : mc' + mc2 ≤ mc) (h4 : ms' + ms2 ≤ ms)
    (kk : AW tb own cc nL ret ini sc fr lo Post (pc + 3) L (Value.int r :: rest) h mc2 ms2) : AW tb own cc nL ret ini sc fr lo Post pc L st h mc ms :=
  aw_callV hM hcs hd hb0 hci hn hst hW h1 h2 h3 h4 (fun v h' q => by
    obtain ⟨q1, q2⟩ := q
    rw [q1, q2]
    exact kk)
theorem aw_callSi {y : MethodName} {cc' : ByteArray} {nL' : Nat} {ret' : Option FieldType} {fr' lo' mc' ms' mc2 ms2 : Nat} {r : Int32} {idx n : Nat} {As rest : List Value} (hM : AM tb y cc' nL' ret' fr' lo' As h mc' ms' (av_Pi r h)) (hcs : av_cS own idx y cc' nL' ret' n) (hd : decode cc pc = .ok (.invokestatic idx, 3)) (hn : As.length = n) (hst : st = As.reverse ++ rest) (hW : (rest.map fun v => v.category).sum ≤ 8) (h1 : fr' + 1 ≤ fr) (h2 : 8 + (nL' + 11) + lo' ≤ lo) (h3 : mc' + mc2 ≤ mc) (h4 : ms' + ms2 ≤ ms)
    (kk : AW tb own cc nL ret ini sc fr lo Post (pc + 3) L (Value.int r :: rest) h mc2 ms2) : AW tb own cc nL ret ini sc fr lo Post pc L st h mc ms :=
  aw_callS hM hcs hd hn hst hW h1 h2 h3 h4 (fun v h' q => by
    obtain ⟨q1, q2⟩ := q
    rw [q1, q2]
    exact kk)
theorem aw_callVr {y : MethodName} {cc' : ByteArray} {nL' : Nat} {ret' : Option FieldType} {fr' lo' mc' ms' mc2 ms2 : Nat} {r : Nat} {idx n b ci : Nat} {fs As rest : List Value} (hM : AM tb y cc' nL' ret' fr' lo' (.ref b :: As) h mc' ms' (av_Pr r h)) (hcs : av_cV own idx y cc' nL' ret' n) (hd : decode cc pc = .ok (.invokevirtual idx, 3)) (hb0 : h b = some (.inr (ci, fs))) (hci : (classes[ci]?).map (fun x => x.1) = some y.cls) (hn : As.length = n) (hst : st = As.reverse ++ .ref b :: rest) (hW : (rest.map fun v => v.category).sum ≤ 8) (h1 : fr' + 1 ≤ fr) (h2 : 8 + (nL' + 11) + lo' ≤ lo) (h3 : mc' + mc2 ≤ mc) (h4 : ms' + ms2 ≤ ms)
    (kk : AW tb own cc nL ret ini sc fr lo Post (pc + 3) L (Value.ref r :: rest) h mc2 ms2) : AW tb own cc nL ret ini sc fr lo Post pc L st h mc ms :=
  aw_callV hM hcs hd hb0 hci hn hst hW h1 h2 h3 h4 (fun v h' q => by
    obtain ⟨q1, q2⟩ := q
    rw [q1, q2]
    exact kk)
theorem aw_callSr {y : MethodName} {cc' : ByteArray} {nL' : Nat} {ret' : Option FieldType} {fr' lo' mc' ms' mc2 ms2 : Nat} {r : Nat} {idx n : Nat} {As rest : List Value} (hM : AM tb y cc' nL' ret' fr' lo' As h mc' ms' (av_Pr r h)) (hcs : av_cS own idx y cc' nL' ret' n) (hd : decode cc pc = .ok (.invokestatic idx, 3)) (hn : As.length = n) (hst : st = As.reverse ++ rest) (hW : (rest.map fun v => v.category).sum ≤ 8) (h1 : fr' + 1 ≤ fr) (h2 : 8 + (nL' + 11) + lo' ≤ lo) (h3 : mc' + mc2 ≤ mc) (h4 : ms' + ms2 ≤ ms)
    (kk : AW tb own cc nL ret ini sc fr lo Post (pc + 3) L (Value.ref r :: rest) h mc2 ms2) : AW tb own cc nL ret ini sc fr lo Post pc L st h mc ms :=
  aw_callS hM hcs hd hn hst hW h1 h2 h3 h4 (fun v h' q => by
    obtain ⟨q1, q2⟩ := q
    rw [q1, q2]
    exact kk)
end AWrows
