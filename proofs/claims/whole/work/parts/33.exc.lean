/-! exceptions: a method that throws (always, for the state and the arguments at hand) -/
theorem sd_rebase {p : Program} {l : Launch} {e : Env} {R : Room} {s : State} {m : MethodId} {args : Array Value} {below : List Frame} {meth : Method} {c : Code} {T : State} {locs : List Loc} {cells slots : Nat} (X : Stand p l e R s m args below meth c T locs cells slots) (hc : cells ≤ R.cells) (hs : slots ≤ R.slots) : Stand p l e { frames := R.frames, cells := R.cells - cells, slots := R.slots - slots, locals := R.locals } (T.setFrames (.invoking m args :: below)) m args below meth c T [] 0 0 := by
  obtain ⟨g0, hg0⟩ := Option.isSome_iff_exists.mp X.here.top
  obtain ⟨r, hr⟩ := State.topJava?_eq_some.mp hg0
  obtain ⟨t, ht, -⟩ := State.frames_cons hr
  have hcur : T.cur < T.threads.size := State.cur_lt_of_frames hr
  have hfr : (T.setFrames (.invoking m args :: below)).frames = .invoking m args :: below := State.frames_setFrames _ hcur
  have hal : s.vm.Alike T.vm := X.warmed.alike
  have hcode : ∀ m', (T.setFrames (.invoking m args :: below)).code? m' = s.code? m' := fun m' => by
    rw [State.code?_eq, State.code?_eq]
    show _ = _
    rw [← hal.method?]
    rfl
  refine ⟨X.admits, X.cas, X.clock, hfr, ?_, ?_, X.method', X.code, X.here, X.tail, State.WarmedH.refl (T.setFrames (.invoking m args :: below)), (State.stackLimits_setFrames _ _ _).symm, (State.stackBytes_setFrames _ _).symm, ?_⟩
  · have h := X.room
    have h1 := X.heapSize
    have h2 := X.used
    have h3 : (T.setFrames (.invoking m args :: below)).slotsTrue = true := X.book
    have hli : (T.setFrames (.invoking m args :: below)).localsInUse = s.localsInUse := by
      unfold State.localsInUse
      rw [hfr, X.frames]
      show stackWeight _ + ((((T.vm.method? m).bind (·.code)).map (·.maxLocals)).getD 0 + 11) = _
      rw [hal.method?]
    unfold State.hasRoom at h ⊢
    rw [hli, hfr, State.stackLimits_setFrames, State.stackBytes_setFrames, X.limits, X.bytes, h3]
    rw [X.frames] at h
    simp only [Bool.and_eq_true, decide_eq_true_eq] at h ⊢
    obtain ⟨⟨⟨⟨a1, a2⟩, a3⟩, a4⟩, -⟩ := h
    refine ⟨⟨⟨⟨a1, a2⟩, ?_⟩, ?_⟩, trivial⟩
    · show T.heap.size + (R.cells - cells) ≤ _
      omega
    · show T.slotsUsed + (R.slots - slots) ≤ _
      omega
  · have h := X.hears
    cases below with
    | nil =>
      unfold State.hears at h ⊢
      show ((T.vm.method? m).any _) = true
      rw [hal.method?]; exact h
    | cons f r =>
      cases f with
      | java gf =>
        have h' : ((s.code? gf.method).bind fun c => (decode c.code gf.pc).toOption).isSome = true := h
        show (((T.setFrames _).code? gf.method).bind fun c => (decode c.code gf.pc).toOption).isSome = true
        rw [hcode]
        exact h'
      | native _ => rfl
      | proc _ => rfl
      | _ =>
        have h' : ((s.vm.method? m).any (·.sig.returnType.isNone)) = true := h
        show ((T.vm.method? m).any (·.sig.returnType.isNone)) = true
        rw [hal.method?]
        exact h'
  · refine ⟨?_, Nat.le_refl _, Nat.le_refl _, ?_, ?_, fun a c h => ⟨c, h, rfl, rfl, fun _ _ => rfl⟩⟩
    · show T = { (T.setFrames (.invoking m args :: below)).setFrames T.frames with heap := T.heap, slotsUsed := T.slotsUsed }
      rw [State.setFrames_setFrames, State.setFrames_self ht]
    · show T.slotsUsed = T.slotsUsed + ((T.heap.toList.drop T.heap.size).map (·.slots.size)).sum
      rw [List.drop_of_length_le (by simp)]
      simp
    · show ((T.heap.toList.drop T.heap.size).map (·.slots.size)).sum ≤ 0
      rw [List.drop_of_length_le (by simp)]
      simp
/-- a static of Throwable's that holds a reference or null, in a cell that nobody of A is -/
def SL (n d : String) (A : Nat → Prop) (U : State) (H : Heap) : Prop := ∃ (c : ClassId) (k : Class) (i : Nat) (f : Field) (a : Nat) (cell : Cell) (v : Value), U.vm.findClass Bundle.tN = some c ∧ U.fieldFound? Bundle.tN n d = some (c, k, i, f) ∧ f.isStatic = true ∧ k.statics = some a ∧ H[a]? = some cell ∧ cell.vm.isStatics = true ∧ cell.cls = c ∧ f.slot < cell.slots.size ∧ k.staticTypes[f.slot]? = some f.type ∧ cell.slots[f.slot]? = some v ∧ (v = .null ∨ ∃ t, v = .ref t) ∧ ¬ A a
theorem SL.moved {n d : String} {A : Nat → Prop} {u U : State} {H : Heap} (h : SL n d A u H) (hvm : u.vm.Alike U.vm) : SL n d A U H := by
  obtain ⟨c, k, i, f, a, cell, v, h1, h2, h3, h4, h5, h6, h7, h8, h9, h10⟩ := h
  obtain ⟨k', hi', he⟩ := State.fieldFound?_setVm hvm h2
  exact ⟨c, k', i, f, a, cell, v, by rw [hvm.findClass]; exact h1, hi', h3, by rw [he]; exact h4, h5, h6, h7, h8, by rw [he]; exact h9, h10⟩
theorem SL.kept {n d : String} {A : Nat → Prop} {U : State} {H H1 : Heap} (h : SL n d A U H) (hq : ∀ a : Nat, a < H.size → ¬ A a → H1[a]? = H[a]?) : SL n d A U H1 := by
  obtain ⟨c, k, i, f, a, cell, v, h1, h2, h3, h4, h5, h6, h7, h8, h9, h10, h11, h12⟩ := h
  exact ⟨c, k, i, f, a, cell, v, h1, h2, h3, h4, by rw [hq a (Array.getElem?_eq_some_iff.mp h5).1 h12]; exact h5, h6, h7, h8, h9, h10, h11, h12⟩
theorem SL.lays {n d : String} {A : Nat → Prop} {U : State} {args : Array Value} (h : SL n d A U U.heap) : (Cond.laysStatic Bundle.tN n d).before args U = true := by
  obtain ⟨c, k, i, f, a, cell, v, h1, h2, h3, h4, h5, h6, h7, h8, h9, h10, h11, h12⟩ := h
  simp [Cond.before, Cond.holds, Cond.value, h1, h2, h3, h4, h5, h6, h7, h8, h9]
theorem SL.isRef {n d : String} {A : Nat → Prop} {U : State} {args : Array Value} (h : SL n d A U U.heap) : (Cond.isRef (.static Bundle.tN n d)).before args U = true := by
  obtain ⟨c, k, i, f, a, cell, v, h1, h2, h3, h4, h5, h6, h7, h8, h9, h10, h11, h12⟩ := h
  have he : (Term.static Bundle.tN n d).eval args U none [] U = some v := by
    simp [Term.eval, State.fieldNamed?, h2, h3, h4, h5, h6, h10]
  rcases h11 with rfl | ⟨t, rfl⟩ <;> simp [Cond.before, Cond.holds, Cond.value, he]
theorem SL.of {n d : String} {A : Nat → Prop} {s : State} {args : Array Value} (hl : (Cond.laysStatic Bundle.tN n d).before args s = true) (h : (Cond.isRef (.static Bundle.tN n d)).before args s = true) (hA : ∀ a : Nat, a < s.heap.size → ¬ A a) : SL n d A s s.heap := by
  obtain ⟨c, k, i, f, a, cell, hc, hi, hst, ha, hcell, hs, hcls, hlt, hty⟩ := Cond.laysStatic_spec hl
  have he : ∀ v, (Term.static Bundle.tN n d).eval args s none [] s = some v → cell.slots[f.slot]? = some v := by
    intro v hv
    obtain ⟨-, a', cell', ha', hcell', -, hslot⟩ := Term.static_spec hi hv
    cases ha.symm.trans ha'
    cases hcell.symm.trans hcell'
    exact hslot
  cases hv : (Term.static Bundle.tN n d).eval args s none [] s with
  | none => simp [Cond.before, Cond.holds, Cond.value, hv] at h
  | some w =>
    simp only [Cond.before, Cond.holds, Cond.value, hv] at h
    cases w with
    | null => exact ⟨c, k, i, f, a, cell, .null, hc, hi, hst, ha, hcell, hs, hcls, hlt, hty, he _ hv, Or.inl rfl, hA a (Array.getElem?_eq_some_iff.mp hcell).1⟩
    | ref t => exact ⟨c, k, i, f, a, cell, .ref t, hc, hi, hst, ha, hcell, hs, hcls, hlt, hty, he _ hv, Or.inr ⟨t, rfl⟩, hA a (Array.getElem?_eq_some_iff.mp hcell).1⟩
    | _ => simp at h
/-- words on the tables that aren't good ones: declares, castable; they stay where the tables are alike -/
def XW : List Cond := [.declares ⟨"java/lang/RuntimeException", "<init>", "()V"⟩, .declares ⟨"java/lang/Exception", "<init>", "()V"⟩, .declares ⟨"java/lang/Throwable", "<init>", "()V"⟩, .castable "java/lang/IllegalArgumentException" "java/lang/IllegalArgumentException", .castable "java/lang/IllegalStateException" "java/lang/IllegalStateException", .castable "java/util/NoSuchElementException" "java/util/NoSuchElementException"]
def XZ (U : State) : Prop := ∀ w ∈ XW, va_Nw w U
theorem XZ.moved {u U : State} (h : XZ u) (hvm : u.vm.Alike U.vm) : XZ U := fun w hw => by
  have h1 := h w hw
  have e : ∀ c : Cond, c.onTables = true → c.before #[] (u.setVm U.vm) = c.before #[] u → va_Nw c u → va_Nw c U := fun c hc he hz => va_tabs hc (rfl : (u.setVm U.vm).vm = U.vm) (he.trans hz)
  unfold XW at hw
  simp only [List.mem_cons, List.not_mem_nil, or_false] at hw
  rcases hw with rfl | rfl | rfl | rfl | rfl | rfl
  · exact e _ rfl (Cond.declares_setVm hvm _) h1
  · exact e _ rfl (Cond.declares_setVm hvm _) h1
  · exact e _ rfl (Cond.declares_setVm hvm _) h1
  · exact e _ rfl (Cond.castable_setVm hvm _ _) h1
  · exact e _ rfl (Cond.castable_setVm hvm _ _) h1
  · exact e _ rfl (Cond.castable_setVm hvm _ _) h1
theorem XZ.words {U : State} {args : Array Value} (h : XZ U) : ∀ w ∈ XW, w.before args U = true := fun w hw => by
  have hc : w.onTables = true := by
    unfold XW at hw
    simp only [List.mem_cons, List.not_mem_nil, or_false] at hw
    rcases hw with rfl | rfl | rfl | rfl | rfl | rfl <;> rfl
  exact va_Nw.use hc (h w hw)
def SZ (A : Nat → Prop) (U : State) (H : Heap) : Prop := XZ U ∧ SL "UNASSIGNED_STACK" Bundle.steD A U H ∧ SL "SUPPRESSED_SENTINEL" Bundle.listD A U H
theorem SZ.moved {A : Nat → Prop} {u U : State} {H : Heap} (h : SZ A u H) (hvm : u.vm.Alike U.vm) : SZ A U H := ⟨h.1.moved hvm, h.2.1.moved hvm, h.2.2.moved hvm⟩
theorem SZ.kept {A : Nat → Prop} {U : State} {H H1 : Heap} (h : SZ A U H) (hq : ∀ a : Nat, a < H.size → ¬ A a → H1[a]? = H[a]?) : SZ A U H1 := ⟨h.1, h.2.1.kept hq, h.2.2.kept hq⟩
def ThQ (E : String) (Qx : State → Prop) (mc ms : Nat) (free : Addr → Prop) : Array Value → State → Outcome → State → Prop := fun _ st o t =>
  ∃ (q : Addr) (ce : Cell) (L : List Loc), o = .threw q ∧ t.heap[q]? = some ce ∧ ce.vm = .none ∧ st.vm.findClass E = some ce.cls ∧ st.WarmedH t.vm ∧ st.sameButNew ({ t with vm := st.vm } : State) L mc ms ∧ (∀ z ∈ L, free z.base) ∧ Qx t
def MetT (l : Launch) (y : MethodName) (ws : List Cond) (rm : Room) (Pc : Array Value → State → Prop) (E : String) (Qx : State → Prop) (mc ms : Nat) (free : Addr → Prop) : Prop :=
  MetFree l y (headSpec ws rm) Pc (fun _ _ _ _ _ => True) (ThQ E Qx mc ms free)
def MQT (below : List Frame) (E : String) (Qx : State → Prop) (a : Array Value) (s : State) (mc ms : Nat) (free : Addr → Prop) : State → Prop := fun t =>
  ∃ o, t.status = .running ∧ Ended t below o ∧ ThQ E Qx mc ms free a s o t
theorem MetT.ofW {l : Launch} {y : MethodName} {ws ws' : List Cond} {rm : Room} {Pc : Array Value → State → Prop} {E : String} {Qx : State → Prop} {mc ms : Nat} {free : Addr → Prop} {cc : ByteArray} {maxL : Nat} {ret : Option FieldType}
    (hy : plainName y.cls = true) (hw : ws = Cond.code y cc maxL ret :: ws')
    (body : ∀ p e s m args below meth c s₁, BodyLoose p l y (headSpec ws rm) cc maxL ret e s m args below meth c s₁ → c.maxLocals = maxL → Pc args s →
      W p l e (headSpec ws rm).room s m args below meth c s.heap [] 0 0 (MQT below E Qx args s mc ms free) (entryFrame m args maxL)) : MetT l y ws rm Pc E Qx mc ms free := by
  refine MetFree.of_bodyS (code := cc) (maxLocals := maxL) (ret := ret) hy ?_ ?_
  · intro args s m h hn
    obtain ⟨meth, c, h1, h2, h3, h4, h5, h6, -, -⟩ := Cond.code_spec hn (atoms_spec (ws := ws) h _ (by rw [hw]; exact List.mem_cons_self))
    exact ⟨meth, c, h1, h2, h3, h4, h5, h6⟩
  · intro p e s m args below meth c s₁ B hml hP _
    have hh0 : s₁.heap = s.heap := by rw [B.state]; rfl
    obtain ⟨t, a1, o, b1, b2, b3⟩ := body p e s m args below meth c s₁ B hml hP s₁ hh0 (Stand.of_body B)
    exact ⟨t, o, a1, b1, b2, b3⟩
theorem sbn_trans {s T U : State} {fs : List Frame} {locs : List Loc} {c n c2 n2 : Nat} (h1 : s.sameButNew (T.setVm s.vm) locs c n) (h2 : (T.setFrames fs).sameButNew ({ U with vm := T.vm } : State) [] c2 n2) : s.sameButNew ({ U with vm := s.vm } : State) locs (c + c2) (n + n2) := by
  obtain ⟨a1, a2, a3, a4, a5, a6⟩ := h2
  rw [State.setFrames_setFrames] at a1
  have h3 : T.sameButNew (U.setVm T.vm) [] c2 n2 := ⟨a1, a2, a3, a4, a5, a6⟩
  have h4 := h1.trans (h3.setVm s.vm)
  rw [List.append_nil] at h4
  exact h4
theorem sbn_old {s U : State} {k n : Nat} (h : s.sameButNew ({ U with vm := s.vm } : State) [] k n) : s.heap.size ≤ U.heap.size ∧ ∀ q : Nat, q < s.heap.size → U.heap[q]? = s.heap[q]? := by
  obtain ⟨-, h2, -, -, -, h6⟩ := h
  refine ⟨h2, fun q hq => ?_⟩
  obtain ⟨c9, e1, e2, e3, e4⟩ := h6 q _ (Array.getElem?_eq_getElem hq)
  have hs : c9.slots = (s.heap[q]).slots := Array.ext_getElem? fun i => e4 i (by simp)
  have h9 : c9 = s.heap[q] := by
    rw [hs] at e2
    exact e2
  have e5 : U.heap[q]? = some c9 := e1
  rw [e5, h9, Array.getElem?_eq_getElem hq]
/-- the words of a throw: TB's, and the four that speak of Throwable's statics -/
def thW : List Cond := XW ++ [.laysStatic Bundle.tN "UNASSIGNED_STACK" Bundle.steD, .laysStatic Bundle.tN "SUPPRESSED_SENTINEL" Bundle.listD, .isRef (.static Bundle.tN "UNASSIGNED_STACK" Bundle.steD), .isRef (.static Bundle.tN "SUPPRESSED_SENTINEL" Bundle.listD)]
theorem SZ.words {A : Nat → Prop} {U : State} {args : Array Value} (h : SZ A U U.heap) : ∀ w ∈ thW, w.before args U = true := fun w hw => by
  unfold thW at hw
  rcases List.mem_append.mp hw with hw | hw
  · exact h.1.words w hw
  simp only [List.mem_cons, List.not_mem_nil, or_false] at hw
  rcases hw with rfl | rfl | rfl | rfl
  · exact h.2.1.lays
  · exact h.2.2.lays
  · exact h.2.1.isRef
  · exact h.2.2.isRef
set_option maxHeartbeats 2000000 in
/-- throw new E(): the object is made, the method ends with it; nothing else has changed -/
theorem th_new {p : Program} {l : Launch} {e : Env} {R : Room} {s : State} {m : MethodId} {args : Array Value} {below : List Frame} {meth : Method} {c : Code} {H : Heap} {locs : List Loc} {cells slots pc : Nat} {ls : Array Slot} {rest : List Value} {D : va_G} {A : Nat → Prop} {g : Nat → ClassId} {cc : ByteArray} {ws : va_W} {own cls : String} {names : List String} {ik ic : Nat}
    (hx : p.tables.exec = Jvm.exec) (hb : c.code = cc) (hfl : l.flags = flags0) (hml : c.maxLocals = ls.size) (hown : s.vm.findClass own = some m.cls) (ht : ∀ w ∈ TB, w.before args s = true) (hlocks : meth.locks = false) (hKK : KK D g s) (hSZ : SZ A s s.heap) (hI : Iw D A ws H) (hS : va_S A s.heap H locs)
    (hcls : Bundle.fit cls = true) (hnames : ∀ n ∈ names, Bundle.fit n = true) (hk : Cond.classLink own ik cls ∈ TB) (hini : Cond.initialized cls ∈ TB) (hat : ∀ a ∈ Bundle.ownAtoms0 own ic cls names, a ∈ TB ∨ a ∈ thW)
    (d0 : decode cc pc = .ok (.new ik, 3)) (d3 : decode cc (pc + 3) = .ok (.dup, 1)) (d4 : decode cc (pc + 4) = .ok (.invokespecial ic, 3)) (d7 : decode cc (pc + 7) = .ok (.athrow, 1)) (hout : ∀ x ∈ c.exceptionTable.toList, covers x (pc + 7) = false)
    (hRf : names.length + 3 < R.frames) (hRl : (rest.map fun v => v.category).sum + (13 * (names.length + 1) + 42) ≤ R.locals) (hcells : cells + 1 ≤ R.cells) (hslots : slots + 6 ≤ R.slots) :
    W p l e R s m args below meth c H locs cells slots (MQT below cls (fun t => Iw D A ws t.heap ∧ KK D g t) args s (cells + 1) (slots + 6) A) (F0 m pc ls rest) := by
  intro T hT X
  subst hb
  have htr : e.platform.stackTraces = false := Launch.traces_off hfl X.admits
  have Y := sd_rebase X (by omega) (by omega)
  generalize hs' : T.setFrames (.invoking m args :: below) = s' at Y
  have hvm' : s'.vm = T.vm := by rw [← hs']; rfl
  have hhp' : s'.heap = T.heap := by rw [← hs']; rfl
  have hW' : s.WarmedH s'.vm := by rw [hvm']; exact X.warmed
  have ht' : ∀ w ∈ TB, w.before args s' = true := fun w h => word_at hW' (TB_good h) (ht w h)
  have hSZ' : SZ A s' s'.heap := by
    have h1 := hSZ.kept (H1 := H) (fun a ha hn => hS.2.1 a ha hn)
    rw [hhp', hT]
    exact h1.moved hW'.alike
  have hown' : s'.vm.findClass own = some m.cls := by rw [hW'.alike.findClass]; exact hown
  have hat' : ∀ a ∈ Bundle.ownAtoms0 own ic cls names, a.before args s' = true := fun a ha => (hat a ha).elim (ht' a) (hSZ'.words a)
  have hins : (Cond.instantiable cls 6).before args s' = true := hat' _ (by simp [Bundle.ownAtoms0])
  obtain ⟨vm₁, cX, kX, hfX, hkX, -, -, X₁, st1⟩ := Y.newCold hx (own := own) (C := cls) (index := ik) (n := 6) hown' (ht' _ hk) hins (ht' _ hini) (g := F0 m pc ls rest) rfl d0 (by show 0 + 1 ≤ R.cells - cells; omega) (by show 0 + 6 ≤ R.slots - slots; omega)
  generalize hT1 : (T.setVm vm₁).pushCell { cls := cX, slots := kX.instanceTypes.map defaultValue, vm := .none } = T1 at X₁ st1
  have hcellA : T1.heap[T.heap.size]? = some (freshCell cX kX) := by rw [← hT1]; exact State.heap_pushCell_size _ _
  have hcat : (Value.ref T.heap.size).category = 1 := rfl
  obtain ⟨U, hsteps, hrun, hend, hWU, hsame, ce, hce, hoc⟩ := X₁.ctorThrow0 hx htr (own := own) (cls := cls) (names := names) (ic := ic) hown' hcls hnames hat' (fun x h => by cases h) hfX hkX hcellA (by rw [hhp']; exact Nat.le_refl _)
    (g := { method := m, pc := pc + 4, locals := ls, stack := .ref T.heap.size :: .ref T.heap.size :: rest, locked := none }) rfl hml.symm rfl rfl (rest := rest) rfl d4 d7 hout hRf (by simp only [List.map_cons, List.sum_cons, hcat]; omega)
  have hsame2 : (T.setFrames (.invoking m args :: below)).sameButNew ({ U with vm := T.vm } : State) [] 1 6 := by
    rw [hs', ← hvm']; exact hsame
  have hold := sbn_old hsame
  refine ⟨U, ?_, .threw T.heap.size, hrun, hend, T.heap.size, ce, locs, rfl, hce, ?_, ?_, State.WarmedH.trans hW' hWU, sbn_trans X.same hsame2, hS.2.2, ?_, hKK.moved (State.WarmedH.trans hW' hWU)⟩
  · refine st1 _ ?_
    show Steps p.tables e below (T1.setTop { method := m, pc := pc + 3, locals := ls, stack := .ref T.heap.size :: rest, locked := none }) _
    jvm_step X₁.here [X₁.here.top, hx, d3, Value.category]
    exact hsteps
  · exact hoc.vm
  · rw [← hW'.alike.findClass]; exact hoc.cls
  · refine ⟨fun k q hk => ?_, hI.2⟩
    have h1 := hI.1 k q hk
    refine h1.kept ?_
    rw [hold.2 q.1 (by rw [hhp', hT]; exact h1.lt), hhp', hT]
