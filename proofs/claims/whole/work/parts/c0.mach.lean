/-! MACHINE: calls of methods with an exception table; a callee's exception, caught -/
section MCL
variable {p : Program} {l : Launch} {e : Env} {R : Room} {s : State} {m : MethodId} {args : Array Value} {below : List Frame} {meth : Method} {c : Code} {H H0 : Heap} {locs : List Loc} {cells slots : Nat} {Q : State → Prop}
variable {pc : Nat} {ls : Array Slot} {rest : List Value} {D : va_G} {A : Nat → Prop} {g : Nat → ClassId} {cc bytes : ByteArray} {nL maxL n index mc ms : Nat} {ret : Option FieldType} {Ts ws ws' : List Cond} {own C : String} {y : MethodName} {rm : Room} {b : Nat} {As : List Value} {S : Type} {V' W1 : S → va_W} {r : Int32} {hh : List (Nat × Nat × Nat × Nat)} {Pc : Array Value → State → Prop} {Qc : Array Value → State → Outcome → State → Prop} {free : Addr → Prop}
theorem cl_im {a : Array Value} {st0 : List Value} (hr : va_Run p l e R s m args below meth c H locs cells slots mc ms (F0 m pc ls st0) rest (QcI D A g r V' a) A) (hS : va_S A H0 H locs) (hp' : ∀ u, (V' u).Perm (W1 u))
    (kk : ∀ (u : S) (H1 : Heap) (locs1 : List Loc), Iw D A (W1 u) H1 → va_S A H0 H1 locs1 → W p l e R s m args below meth c H1 locs1 (cells + mc) (slots + ms) Q (F0 m (pc + 3) ls (.int r :: rest))) : W p l e R s m args below meth c H locs cells slots Q (F0 m pc ls st0) := by
  refine va_calli hr hS (fun q _ h => h) (fun q h => h) (fun x u t H1 locs1 ht hvm h5 hB hz1 hk1 hS => ?_)
  obtain ⟨hI, hK1⟩ := hB
  subst h5
  rw [ht] at hI
  exact kk u H1 locs1 (hI.pm (hp' u)) hS
theorem callSW {T : State} (X : Stand p l e R s m args below meth c T locs cells slots) (hexec : p.tables.exec = Jvm.exec)
    (hown : s.vm.findClass own = some m.cls) (hlink : (Cond.methodLink own index y).before args s = true) (hstat : (Cond.static y).before args s = true) (hinit : (Cond.initialized y.cls).before args s = true)
    (hcode : (Cond.codeWith y bytes maxL ret hh).before args s = true) (hy : y.cls ≠ "java/lang/invoke/MethodHandle" ∧ y.cls ≠ "java/lang/invoke/VarHandle")
    {W : Nat} {Pre : Pt → Array Value → Prop} {Post : Pt → Array Value → Option Value → Pt → Prop} (hK : Back l R p e below s args y 3 W Pre Post)
    {g : JFrame} (hg : g.method = m) (hsize : g.locals.size = c.maxLocals) {argsL rest : List Value} (hlen : ∀ sig, parseMethodDescriptor y.desc = some sig → argsL.length = sig.parameters.length)
    (hstack : g.stack = argsL.reverse ++ rest) (hW : 2 * g.monitorRoom + (rest.map fun v => v.category).sum ≤ W) (hdg : decode c.code g.pc = .ok (.invokestatic index, 3))
    (hpre : ∀ vm₁, s.WarmedH vm₁ → Pre ⟨T.setVm vm₁, locs, cells, slots⟩ argsL.toArray) :
    ∃ (v : Option Value) (vm₁ : Vm) (B : Pt), s.WarmedH vm₁ ∧ Stand p l e R s m args below meth c B.U B.locs B.cells B.slots ∧ Post ⟨T.setVm vm₁, locs, cells, slots⟩ argsL.toArray v B ∧
      ∀ target, Steps p.tables e below (B.U.setTop { g with pc := g.pc + 3, stack := v.toList ++ rest }) target → Steps p.tables e below (T.setTop g) target := by
  obtain ⟨mk, methM, cM, hnamed, hmethM, -, -, -, -, -, -, hsigM⟩ := Cond.codeWith_spec hcode
  have hstatic : methM.isStatic = true := Cond.static_spec hnamed hmethM hstat
  obtain ⟨kP, hkP, -⟩ := className_of_methodNamed hnamed
  have hinitP : kP.init = .initialized := Cond.initialized_spec (findClass_of_methodNamed hnamed) hkP hinit
  obtain ⟨vm₁, X₁, hstep₁⟩ := X.invokestatic hexec hown hlink hnamed hmethM hstatic hkP hinitP hy (g := g) hg (argsL := argsL) (rest := rest) (hlen _ hsigM) hstack hdg
  obtain ⟨v, B, X', hpost, hsteps⟩ := hK m meth c ⟨T.setVm vm₁, locs, cells, slots⟩ { g with stack := rest } (.invokestatic index) mk argsL.toArray X₁ hg hsize hdg hW (X₁.named hnamed) (hpre vm₁ X₁.warmed)
  exact ⟨v, vm₁, B, X₁.warmed, X', hpost, fun target h => hstep₁ _ fun acts => by rw [doInvoke_state]; exact hsteps.trans h⟩
theorem va_runSW (S : CallFix p m c cc nL s args Ts own) (hM : Met l y ws rm Pc Qc mc ms free) (hT : GoodIn Ts (va_wsS own index y ws)) (hw : ws = Cond.codeWith y bytes maxL ret hh :: ws') (hrc : rm.cells = mc) (hrs : rm.slots = ms)
    (hd : y.cls ≠ "java/lang/invoke/MethodHandle" ∧ y.cls ≠ "java/lang/invoke/VarHandle" ∧ (parseMethodDescriptor y.desc).map (fun d => d.parameters.length) = some n) (hR : rm.frames + 1 ≤ R.frames ∧ 8 + (maxL + 11) + rm.locals ≤ R.locals) (hp : PreS s H Pc As)
    {g : JFrame} (hg : g.method = m) (hn : As.length = n) (hsize : g.locals.size = nL) (hstack : g.stack = As.reverse ++ rest) (hW : 2 * g.monitorRoom + (rest.map fun v => v.category).sum ≤ 8) (hdg : decode cc g.pc = .ok (.invokestatic index, 3)) (hf : cells + mc ≤ R.cells ∧ slots + ms ≤ R.slots) :
    va_Run p l e R s m args below meth c H locs cells slots mc ms g rest (Qc As.toArray) (free) := by
  obtain ⟨hx, hb, hml, ho, ht⟩ := S
  have ok : ∀ w ∈ va_wsS own index y ws, w.before args s = true := fun w h => ht w (hT w h).1
  have hG : GoodIn Ts ws := fun w h => hT w (by unfold va_wsS; exact List.mem_append_right _ h)
  have hc : Cond.codeWith y bytes maxL ret hh ∈ ws := by rw [hw]; exact List.mem_cons_self
  have hpay := pay_in ht hG
  have hini : (Cond.initialized y.cls).before args s = true := ok _ (by simp [va_wsS])
  have hini2 : ∀ a' U, s.WarmedH U.vm → (Cond.initialized y.cls).before a' U = true := fun a' U hW => pay_in (ws := va_wsS own index y ws) ht hT _ (by simp [va_wsS]) a' U hW
  have hK : Back l R p e below s args y 3 8 (PreOf R mc ms Pc) (PostOf Qc mc ms free) := va_backW hM hp.1 hrc hrs hR.1 hR.2 hpay hc hini2
  intro T hT2 X
  obtain ⟨v, vm₁, ⟨U', l2, c2, s2⟩, hW₁, X', ⟨g', mk, t, L, e1, e2, hq, h1, hL, h2, h3⟩, st⟩ := callSW X hx (bytes := bytes) (maxL := maxL) (ret := ret) (hh := hh) ho (ok (.methodLink own index y) (by simp [va_wsS])) (ok (.static y) (by simp [va_wsS])) hini (ht _ (hG _ hc).1) ⟨hd.1, hd.2.1⟩ hK hg (hsize.trans hml.symm) (argsL := As) (rest := rest) (fun sig h => by
      have h2 := hd.2.2
      rw [h] at h2
      exact hn.trans (Option.some.inj h2).symm) hstack hW (by rw [hb]; exact hdg)
    (fun vm₁ hW₁ => ⟨hf.1, hf.2, hp.2 (T.setVm vm₁) hT2 hW₁⟩)
  dsimp only [Pt.U, Pt.locs, Pt.cells, Pt.slots] at X' e1 e2 h1 h2 h3 st
  subst h1; subst h2; subst h3
  exact ⟨v, (T.setVm vm₁).calling g' mk As.toArray, t, U', L, hT2, X', hL, e1, e2, hq, st⟩
/-- a virtual call whose callee throws: caught here -/
theorem cl_t {E : String} {Qx : State → Prop} {hpc : Nat} (hx : p.tables.exec = Jvm.exec) (hb : c.code = cc) (hml : c.maxLocals = ls.size) (ho : s.vm.findClass own = some m.cls) (hM : MetT l y ws rm Pc E Qx mc ms A) (cw : CallW R s args own C index y bytes maxL ret ws rm mc ms n) (hp : PreV s H C b Pc As) (hn : As.length = n) (hW : (rest.map fun v => v.category).sum ≤ 8) (hdg : decode cc pc = .ok (.invokevirtual index, 3)) (hf : cells + mc ≤ R.cells ∧ slots + ms ≤ R.slots) (hS : va_S A H0 H locs)
    (hfind : ∀ (T' : State) (locs' : List Loc) (q : Addr) (ce : Cell), Stand p l e R s m args below meth c T' locs' (cells + mc) (slots + ms) → T'.heap[q]? = some ce → ce.vm = .none → s.vm.findClass E = some ce.cls → ∃ vm', s.WarmedH vm' ∧ FT e ((T'.setTop (F0 m pc ls rest)).pushFrame (.throwing q)) (F0 m pc ls rest) q hpc vm')
    (kk : ∀ (q : Addr) (t : State) (H1 : Heap) (locs1 : List Loc), t.heap = H1 → s.vm.Alike t.vm → Qx t → va_S A H0 H1 locs1 → W p l e R s m args below meth c H1 locs1 (cells + mc) (slots + ms) Q (F0 m hpc ls [.ref q])) : W p l e R s m args below meth c H locs cells slots Q (F0 m pc ls (As.reverse ++ .ref b :: rest)) := by
  obtain ⟨⟨hrc, hrs, hRf, hRl, hws, hcm, hcode, hini, hy, hlen, hl⟩, hin, hse⟩ := cw
  obtain ⟨hblind, ⟨cellB, hcB, hoB, hclB⟩, hPc⟩ := hp
  intro T hT X
  obtain ⟨mk, methM, hnamed, hmethM, hstM, habM⟩ := Cond.instanceMethod_spec hin
  obtain ⟨methM', cM, hmethM', hcM, -, hlM, -, -, -, hsigM⟩ := Cond.code_spec hnamed hcode
  cases hmethM.symm.trans hmethM'
  obtain ⟨c2, r2, m2, q1, q2, q3, q4, kP, hkP, hkPi⟩ := Cond.selects_spec hse
  cases hclB.symm.trans q1
  cases (State.methodFound?_of_named hnamed hy).symm.trans q2
  cases hnamed.symm.trans q3
  have hselP : selectMethod e.platform s.vm cellB.cls mk = .method mk := by rw [Launch.admits_selectMethod X.admits]; exact q4
  obtain ⟨vm₁, X₁, hstep₁⟩ := X.invokevirtual hx ho hl hnamed hmethM hstM hkP hkPi hy (a := b) (cell := cellB) (by rw [hT]; exact hcB)
    (fun z h => by rw [h] at hoB; cases hoB) hselP hmethM habM hkP hkPi (g := F0 m pc ls (As.reverse ++ .ref b :: rest)) rfl (argsL := As) (rest := rest) (hn.trans (hlen _ hsigM)) rfl (by rw [hb]; exact hdg)
  obtain ⟨U, hU⟩ : ∃ U, U = T.setVm vm₁ := ⟨_, rfl⟩
  have hUh : U.heap = H := by rw [hU]; exact hT
  rw [← hU] at X₁ hstep₁
  obtain ⟨gg, hgg⟩ : ∃ gg, gg = F0 m pc ls rest := ⟨_, rfl⟩
  have hgm : gg.method = m := by rw [hgg]
  have hdg' : decode c.code gg.pc = .ok (.invokevirtual index, 3) := by rw [hb, hgg]; exact hdg
  have hnU := X₁.named hnamed
  have hW₁ := X₁.warmed
  have hcodeU : (Cond.code y bytes maxL ret).before (Value.ref b :: As).toArray U = true := hws _ hcm _ U hW₁
  obtain ⟨methY, cY, hmY, hcY, -, hlY, -⟩ := Cond.code_spec hnU hcodeU
  obtain ⟨kY, hkY, -⟩ := className_of_methodNamed hnU
  have hinitY : kY.init = .initialized := Cond.initialized_spec (args := (Value.ref b :: As).toArray) (findClass_of_methodNamed hnU) hkY (word_at hW₁ (.inl rfl) hini)
  have h : At U gg.method c below := by rw [hgm]; exact X₁.here
  have happ : (headSpec ws rm).appliesLoose y e.platform (U.calling gg mk (Value.ref b :: As).toArray) = true :=
    Spec.appliesLoose_calling (g := gg) h hdg' hnU hkY hinitY
      (X₁.room_calling (g := gg) (R' := (headSpec ws rm).room) (by rw [hgg, hml]) hmY hcY hRf (by
        rw [hlY]
        have : 2 * gg.monitorRoom + (gg.stack.map fun v => v.category).sum ≤ 8 := by rw [hgg]; show 2 * 0 + (rest.map fun v => v.category).sum ≤ 8; omega
        show _ ≤ R.locals
        have h9 : (headSpec ws rm).room.locals = rm.locals := rfl
        omega) (by rw [show (headSpec ws rm).room.cells = mc from hrc]; exact hf.1) (by rw [show (headSpec ws rm).room.slots = ms from hrs]; exact hf.2)) (atoms_intro fun w hw => hws w hw _ _ hW₁)
  obtain ⟨mid, hmid⟩ := h.above
  have hfr : (U.setTop gg).frames = (.java gg :: mid) ++ below := by rw [State.frames_setTop' gg h.top, hmid]; rfl
  obtain ⟨o, s₂, hsteps, -, hend, hq⟩ := Steps.callFree hM p X₁.admits X₁.cas X₁.clock (acts := []) hfr happ (hblind _ _ _ _ (hPc U hUh hW₁)) trivial
  have hq' : ThQ E Qx mc ms A (Value.ref b :: As).toArray (U.calling gg mk (Value.ref b :: As).toArray) o s₂ := hq
  obtain ⟨q, ce, L, rfl, hce, hcv, hcE, hW₂, ⟨e2, z2, z3, z4, z5, z6⟩, hL, hQx⟩ := hq'
  rw [State.frames_setTop' gg h.top] at hend
  have hf₂ : s₂.frames = .throwing q :: .java gg :: U.frames.tail := hend
  have e3 : s₂ = ({ (U.calling gg mk (Value.ref b :: As).toArray).setFrames s₂.frames with heap := s₂.heap, slotsUsed := s₂.slotsUsed } : State).setVm s₂.vm := by
    have : s₂ = ({ s₂ with vm := (U.calling gg mk (Value.ref b :: As).toArray).vm } : State).setVm s₂.vm := rfl
    rw [e2] at this
    exact this
  have hW' : U.WarmedH s₂.vm := hW₂
  obtain ⟨g₀, hg0⟩ := Option.isSome_iff_exists.mp h.top
  obtain ⟨rr, hr⟩ := State.topJava?_eq_some.mp hg0
  obtain ⟨U2, hU2⟩ : ∃ U2 : State, U2 = ({ U with heap := s₂.heap, slotsUsed := s₂.slotsUsed } : State).setVm s₂.vm := ⟨_, rfl⟩
  have hr' : U2.frames = .java g₀ :: rr := by rw [hU2]; exact hr
  have hs₂ : s₂ = (U2.setTop gg).pushFrame (.throwing q) := by
    refine e3.trans ?_
    rw [hf₂, State.calling_eq h.top, State.setFrames_setFrames, State.pushFrame, State.setTop_of_frames _ hr', State.setFrames_setFrames, State.frames_setFrames _ (State.cur_lt_of_frames hr'), hr, hU2]
    rfl
  have hsame : U.sameButNew ({ U with heap := s₂.heap, slotsUsed := s₂.slotsUsed } : State) L mc ms := by
    refine ⟨?_, z2, z3, z4, z5, z6⟩
    obtain ⟨t, ht, -⟩ := State.frames_cons hr
    show ({ U with heap := s₂.heap, slotsUsed := s₂.slotsUsed } : State) = { U.setFrames U.frames with heap := s₂.heap, slotsUsed := s₂.slotsUsed }
    rw [State.setFrames_self ht]
  have hmm : At U m c below := X₁.here
  have X2 : Stand p l e R s m args below meth c U2 (locs ++ L) (cells + mc) (slots + ms) := by
    rw [hU2]
    exact ⟨X₁.admits, X₁.cas, X₁.clock, X₁.frames, X₁.room, X₁.hears, X₁.method, X₁.code, (X₁.here.setHeapUsed s₂.heap s₂.slotsUsed).setVm hW'.alike, X₁.tail, State.WarmedH.trans X₁.warmed hW', X₁.limits, X₁.bytes, X₁.same.trans (hsame.setVm s.vm)⟩
  have hU2h : U2.heap = s₂.heap := by rw [hU2]; rfl
  obtain ⟨vm', hWv, hFT⟩ := hfind U2 (locs ++ L) q ce X2 (by rw [hU2h]; exact hce) hcv (by
    have : U.vm.findClass E = some ce.cls := hcE
    rwa [hW₁.alike.findClass] at this)
  rw [← hgg] at hFT
  have X3 := X2.noted hWv
  have hsz : U.heap.size ≤ s₂.heap.size := z2
  obtain ⟨t, a1, b1⟩ := kk q s₂ s₂.heap (locs ++ L) rfl (by
      have := (State.WarmedH.trans X₁.warmed hW').alike
      exact this) hQx ⟨Nat.le_trans hS.1 (by rw [← hUh]; exact hsz), fun a h1 h2 => by
      have h3 := hS.2.1 a h1 h2
      rw [← h3, ← hUh]
      have h4 : a < U.heap.size := by rw [hUh]; exact Nat.lt_of_lt_of_le h1 hS.1
      obtain ⟨c9, y1, y2, y3, y4⟩ := z6 a _ (Array.getElem?_eq_getElem h4)
      have hs : c9.slots = (U.heap[a]).slots := Array.ext_getElem? fun i => y4 i (fun hm => h2 (hL _ hm))
      have h9 : c9 = U.heap[a] := by
        rw [hs] at y2
        exact y2
      have y5 : s₂.heap[a]? = some c9 := y1
      rw [y5, h9, Array.getElem?_eq_getElem h4], fun z hz => by
      rcases List.mem_append.mp hz with h | h
      · exact hS.2.2 z h
      · exact hL z h⟩ (U2.setVm vm') (by show U2.heap = _; exact hU2h) X3
  refine ⟨t, ?_, b1⟩
  refine hstep₁ t fun acts => ?_
  rw [doInvoke_state]
  show Steps p.tables e below (doInvoke e (U.setTop (F0 m pc ls rest)) [] mk (Value.ref b :: As).toArray).1 t
  rw [← hgg]
  refine hsteps.trans ?_
  rw [hs₂]
  refine ct_caught (g := gg) (by rw [hgm]; exact X2.here) hFT ?_
  rw [hgg]
  exact a1
end MCL
/-- an object of a class that the first row doesn't catch goes on to the second -/
theorem nc_spec {E name : String} {args : Array Value} {s : State} (h : (Cond.not (.castable E name)).before args s = true) : ∃ c t, s.vm.findClass E = some c ∧ s.vm.findClass name = some t ∧ s.vm.assignable c t = false := by
  simp only [Cond.before, Cond.holds, Cond.value] at h
  cases hc : s.vm.findClass E with
  | none => simp [hc] at h
  | some c =>
    cases ht : s.vm.findClass name with
    | none => simp [hc, ht] at h
    | some t => exact ⟨c, t, rfl, rfl, by simpa [hc, ht] using h⟩
theorem ct_two {p : Program} {l : Launch} {e : Env} {R : Room} {s : State} {m : MethodId} {args : Array Value} {below : List Frame} {meth : Method} {c : Code} {T : State} {locs : List Loc} {cells slots : Nat} (X : Stand p l e R s m args below meth c T locs cells slots) {own name name2 E : String} {g : JFrame} (hg : g.method = m) (hown : s.vm.findClass own = some m.cls) {x x2 : ExceptionTableEntry} {t : List ExceptionTableEntry} (htab : c.exceptionTable.toList = x :: x2 :: t)
    (hx : covers x g.pc = true) (h0 : x.catchType ≠ 0) (hlink : (Cond.classLink own x.catchType name).before args s = true) (hncast : (Cond.not (.castable E name)).before args s = true)
    (hx2 : covers x2 g.pc = true) (h02 : x2.catchType ≠ 0) (hlink2 : (Cond.classLink own x2.catchType name2).before args s = true) (hcast2 : (Cond.castable E name2).before args s = true) {q : Addr} {ce : Cell} (hcell : T.heap[q]? = some ce) (hv : ce.vm = .none) (hcl : s.vm.findClass E = some ce.cls) :
    ∃ vm', s.WarmedH vm' ∧ FT e ((T.setTop g).pushFrame (.throwing q)) g q x2.handlerPc vm' := by
  subst hg
  have hpl : e.platform.magicAccessors = ({} : Platform).magicAccessors := by rw [X.admits.platform]
  obtain ⟨c3, c4, hc3, hc4, hasg⟩ := nc_spec hncast
  cases Option.some.inj (hc3.symm.trans hcl)
  obtain ⟨c5, hc5, hl⟩ := Cond.classLink_spec hown hlink e.platform hpl
  cases Option.some.inj (hc4.symm.trans hc5)
  obtain ⟨d3, d4, hd3, hd4, hasg2⟩ := Cond.castable_spec hcast2
  cases Option.some.inj (hd3.symm.trans hcl)
  obtain ⟨d5, hd5, hl2⟩ := Cond.classLink_spec hown hlink2 e.platform hpl
  cases Option.some.inj (hd4.symm.trans hd5)
  have hW := X.warmed
  obtain ⟨dk, _, _, kt, hd, _, _, _, _, hkt, _, hopen⟩ := hl.here
  obtain ⟨dk2, _, _, kt2, hd2, _, _, _, _, hkt2, _, hopen2⟩ := hl2.here
  have hW1 := hW.noted hd hopen (State.rightAt_cls hl)
  have hW2 := hW1.noted hd2 hopen2 (State.rightAt_cls hl2)
  obtain ⟨kt', hkt', -⟩ := hW.alike.2.2 _ _ hkt
  obtain ⟨k0, hk0, -⟩ := Vm.findClass_spec hcl
  obtain ⟨k0', hk0', -⟩ := hW.alike.2.2 _ _ hk0
  obtain ⟨kt2', hkt2', -⟩ := hW1.alike.2.2 _ _ hkt2
  obtain ⟨k02', hk02', -⟩ := hW1.alike.2.2 _ _ hk0
  refine ⟨_, hW2, fun Q E d acts => ?_⟩
  have hvm : ((T.setTop g).pushFrame (.throwing q)).vm = T.vm := Stand.throwing_vm T g q
  have hhp : ((T.setTop g).pushFrame (.throwing q)).heap = T.heap := Stand.throwing_heap T g q
  generalize (T.setTop g).pushFrame (.throwing q) = S at hvm hhp ⊢
  rw [W.findHandler_eq (s := S) (meth := meth) (code := c) (by rw [hvm]; exact X.method') X.code, htab]
  have h9 := go_no (Q := Q) (E := E) (e := e) (d := d) (acts := acts) (s := S) (f := g) (a := q) (x := x) (t := x2 :: t) (c := c4) (cell := ce) hx h0 (by rw [hvm]; exact hW.classLinks hl) (by rw [hhp]; exact hcell) (fun k => by rw [hv]; exact fun z => by cases z) ⟨k0', by rw [hvm]; exact hk0'⟩ ⟨kt', by rw [hvm]; exact hkt'⟩ (by rw [hvm, hW.alike.assignable]; exact hasg)
  rw [h9]
  have h8 := go_yes (Q := Q) (E := E) (e := e) (d := d) (acts := acts) (s := S.setVm (S.vm.noted g.method.cls x.catchType (.cls c4))) (f := g) (a := q) (x := x2) (t := t) (c := d4) (cell := ce) hx2 h02 (by rw [hvm]; exact hW1.classLinks hl2) (by show S.heap[q]? = _; rw [hhp]; exact hcell) (fun k => by rw [hv]; exact fun z => by cases z) ⟨k02', by rw [hvm]; exact hk02'⟩ ⟨kt2', by rw [hvm]; exact hkt2'⟩ (by
    show (S.vm.noted g.method.cls x.catchType (.cls c4)).assignable _ _ = true
    rw [hvm, hW1.alike.assignable]; exact hasg2)
  rw [h8, hvm]
  exact Iff.rfl
