/-! the law's helpers: a call in a try, its answer put into a row of one long -/
/-- a row of one long -/
def arL (gL : ClassId) (ao : Nat) (f : Nat → Int64) : va_W := [(ao, .inl (gL, 1, .inr (.inl f)))]
def NC (U : State) : Prop := (Cond.not (.castable "java/lang/IllegalStateException" "java/lang/IllegalArgumentException")).before #[] U = true
theorem NC.moved {u U : State} (h : NC u) (hvm : u.vm.Alike U.vm) : NC U := by
  obtain ⟨c, t, h1, h2, h3⟩ := nc_spec h
  unfold NC
  have e1 : U.vm.findClass "java/lang/IllegalStateException" = some c := by rw [hvm.findClass]; exact h1
  have e2 : U.vm.findClass "java/lang/IllegalArgumentException" = some t := by rw [hvm.findClass]; exact h2
  have e3 : U.vm.assignable c t = false := by rw [hvm.assignable]; exact h3
  simp [Cond.before, Cond.holds, Cond.value, e1, e2, e3]
theorem NC.at {U : State} {args : Array Value} (h : NC U) : (Cond.not (.castable "java/lang/IllegalStateException" "java/lang/IllegalArgumentException")).before args U = true := by
  obtain ⟨c, t, h1, h2, h3⟩ := nc_spec h
  simp [Cond.before, Cond.holds, Cond.value, h1, h2, h3]
abbrev PcL (D : va_G) (A : Nat → Prop) (g : Nat → ClassId) (gL : ClassId) (av : List Value) (ws : va_W) : Array Value → State → Prop := va_Pc av (fun U => Iw D A ws U.heap ∧ KK D g U ∧ va_K D vwCl [(gL, .long)] U)
abbrev PcX (D : va_G) (A : Nat → Prop) (g : Nat → ClassId) (av : List Value) (ws : va_W) : Array Value → State → Prop := va_Pc av (fun U => Iw D A ws U.heap ∧ KK D g U ∧ SZ A U U.heap ∧ NC U)
theorem PcL.blind {D : va_G} {A : Nat → Prop} {g : Nat → ClassId} {gL : ClassId} {av : List Value} {ws : va_W} : FrameBlind (PcL D A g gL av ws) := fun a U gg mk q => by
  obtain ⟨q0, q1, qK, qL⟩ := q
  exact ⟨q0, q1, qK.same rfl, va_K.moved (Vm.Alike.refl U.vm) qL⟩
theorem PcX.blind {D : va_G} {A : Nat → Prop} {g : Nat → ClassId} {av : List Value} {ws : va_W} : FrameBlind (PcX D A g av ws) := fun a U gg mk q => by
  obtain ⟨q0, q1, qK, qZ, qN⟩ := q
  exact ⟨q0, q1, qK.same rfl, SZ.moved (U := U.calling gg mk a) qZ (Vm.Alike.refl U.vm), NC.moved (U := U.calling gg mk a) qN (Vm.Alike.refl U.vm)⟩
theorem PcZ.blind {D : va_G} {A : Nat → Prop} {g : Nat → ClassId} {av : List Value} {ws : va_W} : FrameBlind (PcZ D A g av ws) := fun a U gg mk q => by
  obtain ⟨q0, q1, qK, qZ⟩ := q
  exact ⟨q0, q1, qK.same rfl, SZ.moved (U := U.calling gg mk a) qZ (Vm.Alike.refl U.vm)⟩
section PRX
variable {s : State} {H : Heap} {locs : List Loc} {D : va_G} {A : Nat → Prop} {g : Nat → ClassId} {gL : ClassId} {W0 V : va_W} {As : List Value} {C : String} {b ci q0 : Nat} {q : vw_C} {fs : List Value}
theorem prL (hK : KK D g s) (hL : va_K D vwCl [(gL, .long)] s) (hI : Iw D A W0 H) (hp : W0.Perm V) : PreS s H (PcL D A g gL As V) As :=
  ⟨PcL.blind, fun U hU hW => ⟨rfl, by rw [hU]; exact hI.pm hp, hK.moved hW, va_K.moved hW.alike hL⟩⟩
theorem prX (hK : KK D g s) (hZ : SZ A s s.heap) (hN : NC s) (hS : va_S A s.heap H locs) (hI : Iw D A W0 H) (hp : W0.Perm V) : PreS s H (PcX D A g As V) As :=
  ⟨PcX.blind, fun U hU hW => ⟨rfl, by rw [hU]; exact hI.pm hp, hK.moved hW, by rw [hU]; exact (hZ.moved hW.alike).kept (fun a h1 h2 => hS.2.1 a h1 h2), hN.moved hW.alike⟩⟩
theorem prZV (hK : KK D g s) (hZ : SZ A s s.heap) (hS : va_S A s.heap H locs) (hI : Iw D A W0 H) (hp : W0.Perm V) (hc : vwCl[ci]? = some q) (he : V[q0]? = some (b, .inr (ci, fs))) (hC : q.1 = C) : PreV s H C b (PcZ D A g (.ref b :: As) V) As := by
  subst hC
  exact ⟨PcZ.blind, va_recv hK.1 (hI.pm hp).1 hc he, fun U hU hW => ⟨rfl, by rw [hU]; exact hI.pm hp, hK.moved hW, by rw [hU]; exact (hZ.moved hW.alike).kept (fun a h1 h2 => hS.2.1 a h1 h2)⟩⟩
end PRX
theorem rows_of {p : Program} {l : Launch} {y : MethodName} {S : Spec} {cc : ByteArray} {maxL : Nat} {ret : Option FieldType} {hh : List (Nat × Nat × Nat × Nat)} {e : Env} {s : State} {m : MethodId} {args : Array Value} {below : List Frame} {meth : Method} {c : Code} {s₁ : State} (B : BodyLoose p l y S cc maxL ret e s m args below meth c s₁) (h : (Cond.codeWith y cc maxL ret hh).before args s = true) : c.exceptionTable.toList.map (fun h => (h.startPc, h.endPc, h.handlerPc, h.catchType)) = hh := by
  obtain ⟨m', meth', c', h0, h1, h2, -, -, h7, -⟩ := Cond.codeWith_spec h
  cases B.named.symm.trans h0
  have hm : meth' = meth := Option.some.inj (h1.symm.trans B.method)
  subst hm
  have hc : c' = c := Option.some.inj (h2.symm.trans (Stand.of_body B).code)
  subst hc
  exact h7
theorem row_1 {l : List ExceptionTableEntry} {a b c d : Nat} (h : l.map (fun h => (h.startPc, h.endPc, h.handlerPc, h.catchType)) = [(a, b, c, d)]) : ∃ x, l = [x] ∧ x.startPc = a ∧ x.endPc = b ∧ x.handlerPc = c ∧ x.catchType = d := by
  match l, h with
  | [x], h =>
    simp at h
    exact ⟨x, rfl, h.1, h.2.1, h.2.2.1, h.2.2.2⟩
theorem row_2 {l : List ExceptionTableEntry} {a b c d a2 b2 c2 d2 : Nat} (h : l.map (fun h => (h.startPc, h.endPc, h.handlerPc, h.catchType)) = [(a, b, c, d), (a2, b2, c2, d2)]) : ∃ x y, l = [x, y] ∧ (x.startPc = a ∧ x.endPc = b ∧ x.handlerPc = c ∧ x.catchType = d) ∧ y.startPc = a2 ∧ y.endPc = b2 ∧ y.handlerPc = c2 ∧ y.catchType = d2 := by
  match l, h with
  | [x, y], h =>
    simp at h
    exact ⟨x, y, rfl, h.1, h.2.1, h.2.2.1, h.2.2.2.1, h.2.2.2.2⟩
theorem cov {x : ExceptionTableEntry} {a b pc : Nat} (h1 : x.startPc = a) (h2 : x.endPc = b) (h : a ≤ pc ∧ pc < b) : covers x pc = true := by
  simp [covers, h1, h2, h.1, h.2]
set_option maxRecDepth 100000 in
set_option maxHeartbeats 8000000 in
theorem c_La_check {l : Launch} {D : va_G} {A : Nat → Prop} {g : Nat → ClassId} {gL : ClassId} {rest : va_W} {K : Nat → Nat → Nat} {g1 g2 : Nat} {ao : Nat} {f : Nat → Int64} {s0 : S_Rn} {sd : S_Bs} {r1 : S_Rd} {t1 : S_Tr} {x1 : Int32} {out : Int32 × S_Rd × S_Tr} (h : F_Rn_check s0 sd r1 t1 x1 = some out) : Met l y_La_check ws_La_check { frames := 5, cells := 0, slots := 0, locals := 117 } (PcL D A g gL [.ref (K 0 0), .int x1, .ref ao] (w_Rn g (K 0) (fun j => K (j + 1) 0) s0 ++ (w_Bs g (K 1) sd ++ (w_Rd g (K 11) (tw (K 14 0) g1) r1 ++ (w_Tr g (K 14) t1 ++ (arL gL ao f ++ (rest))))))) (QcI D A g 0 (fun (u : Nat) => w_Rn g (K 0) (fun j => K (j + 1) 0) s0 ++ (w_Bs g (K 1) sd ++ (w_Rd g (K 11) (tw (K 14 0) u) out.2.1 ++ (w_Tr g (K 14) out.2.2 ++ (arL gL ao (vp_updL f (0 : Int32).toNatClampNeg (out.1.toInt64)) ++ (rest))))))) 0 0 A := by
  refine va_MetW (cc := method_3_code) (maxL := 4) (ret := some .int) (hh := [(0, 9, 12, 13)]) (by decide) rfl ?_
  intro p e s m args below meth c s₁ B hml hv
  obtain ⟨rfl, hI, hKK, hKL⟩ := hv
  have hx := B.exec
  have hb := B.bytes
  have hr := B.returns
  have hts := atoms_spec (ws := ws_La_check) B.pre
  have ht := fun w (h : w ∈ TB) => hts w (List.mem_cons_of_mem _ h)
  have hown : s.vm.findClass R_La = some m.cls := findClass_of_methodNamed B.named
  have hS : va_S A s.heap s.heap [] := va_S.rf
  have hl := lv_entry [.ref (K 0 0), .int x1, .ref ao] (n := 4) (Nat.le_of_ble_eq_true rfl)
  rw [lg_entry_eq]
  generalize (lg_sl [.ref (K 0 0), .int x1, .ref ao] ++ List.replicate (4 - (lg_sl [.ref (K 0 0), .int x1, .ref ao]).length) Slot.unset).toArray = ls at hl ⊢
  have hl : lv_has ls 4 [(0, .ref (K 0 0)), (1, .int x1), (2, .ref ao)] := hl
  refine lv_aload_n hx hb d_La_check_0 rfl (lv_at hl 2 rfl) ?_
  refine lv_iconst (v := 0) hx hb d_La_check_1 (by decide) ?_
  refine lv_aload_n hx hb d_La_check_2 rfl (lv_at hl 0 rfl) ?_
  refine lv_iload_n hx hb d_La_check_3 rfl (lv_at hl 1 rfl) ?_
  refine cl_i (W1 := fun (u : Nat) => arL gL ao f ++ (w_Rn g (K 0) (fun j => K (j + 1) 0) s0 ++ (w_Bs g (K 1) sd ++ (w_Rd g (K 11) (tw (K 14 0) u) out.2.1 ++ (w_Tr g (K 14) out.2.2 ++ (rest)))))) (va_runV (As := [.int x1]) (rest := [.int 0, .ref ao]) ⟨hx, hb, hml, hown, ht⟩ (c_Rn_check (l := l) (D := D) (A := A) (g := g) (rest := arL gL ao f ++ (rest)) (K := K) (g1 := g1) h) (cwV 1 ht (gd_V m_668 m_669 m_670 m_1 m_671) rfl rfl rfl (by decide +kernel) ⟨(Nat.le_of_ble_eq_true rfl), (Nat.le_of_ble_eq_true rfl)⟩) (prV (ci := 8) (q0 := 0) hKK hI (pmn (rest := rest) [w_Rn g (K 0) (fun j => K (j + 1) 0) s0, w_Bs g (K 1) sd, w_Rd g (K 11) (tw (K 14 0) g1) r1, w_Tr g (K 14) t1, arL gL ao f] [w_Rn g (K 0) (fun j => K (j + 1) 0) s0, w_Bs g (K 1) sd, w_Rd g (K 11) (tw (K 14 0) g1) r1, w_Tr g (K 14) t1, arL gL ao f] [0, 1, 2, 3, 4] 5 rfl rfl (by decide)) rfl rfl rfl) rfl rfl hl.1 rfl (lv_room (Nat.le_of_ble_eq_true rfl)) d_La_check_4 ⟨(Nat.le_of_ble_eq_true rfl), (Nat.le_of_ble_eq_true rfl)⟩) hS (fun u => (pmn (rest := rest) [w_Rn g (K 0) (fun j => K (j + 1) 0) s0, w_Bs g (K 1) sd, w_Rd g (K 11) (tw (K 14 0) u) out.2.1, w_Tr g (K 14) out.2.2, arL gL ao f] [arL gL ao f, w_Rn g (K 0) (fun j => K (j + 1) 0) s0, w_Bs g (K 1) sd, w_Rd g (K 11) (tw (K 14 0) u) out.2.1, w_Tr g (K 14) out.2.2] [4, 0, 1, 2, 3] 5 rfl rfl (by decide))) (fun u H locs hI hS => ?_)
  have hI : Iw D A (arL gL ao f ++ (w_Rn g (K 0) (fun j => K (j + 1) 0) s0 ++ (w_Bs g (K 1) sd ++ (w_Rd g (K 11) (tw (K 14 0) u) out.2.1 ++ (w_Tr g (K 14) out.2.2 ++ (rest)))))) H := hI
  refine lv_i2l hx hb d_La_check_7 rfl ?_
  refine va_last hx hb hKL hI.1 hI.2 hS 0 0 rfl rfl (by unfold vp_in; decide) d_La_check_8 (fun H locs hP hD hS => ?_)
  have hI : Iw D A (arL gL ao (vp_updL f (0 : Int32).toNatClampNeg (out.1.toInt64)) ++ (w_Rn g (K 0) (fun j => K (j + 1) 0) s0 ++ (w_Bs g (K 1) sd ++ (w_Rd g (K 11) (tw (K 14 0) u) out.2.1 ++ (w_Tr g (K 14) out.2.2 ++ (rest)))))) H := ⟨hP, hD⟩
  refine lv_goto (tgt := 15) hx hb d_La_check_9 (by decide) ?_
  refine lv_iconst (v := 0) hx hb d_La_check_15 (by decide) ?_
  exact W.iret (v := 0) hx hb hr (fun t ht hW => ⟨⟨_, u, rfl, rfl, ⟨by rw [ht]; exact hI.pm (pmn (rest := rest) [arL gL ao (vp_updL f (0 : Int32).toNatClampNeg (out.1.toInt64)), w_Rn g (K 0) (fun j => K (j + 1) 0) s0, w_Bs g (K 1) sd, w_Rd g (K 11) (tw (K 14 0) u) out.2.1, w_Tr g (K 14) out.2.2] [w_Rn g (K 0) (fun j => K (j + 1) 0) s0, w_Bs g (K 1) sd, w_Rd g (K 11) (tw (K 14 0) u) out.2.1, w_Tr g (K 14) out.2.2, arL gL ao (vp_updL f (0 : Int32).toNatClampNeg (out.1.toInt64))] [1, 2, 3, 4, 0] 5 rfl rfl (by decide)), hKK.moved hW⟩⟩, hS.F ht⟩) hS.2.2 d_La_check_16
set_option maxRecDepth 100000 in
set_option maxHeartbeats 8000000 in
theorem c_La_check_e1 {l : Launch} (hfl : l.flags = flags0) {D : va_G} {A : Nat → Prop} {g : Nat → ClassId} {gL : ClassId} {rest : va_W} {K : Nat → Nat → Nat} {g1 g2 : Nat} {ao : Nat} {f : Nat → Int64} {s0 : S_Rn} {x1 : Int32} {out : Unit} (h : F_Rn_check_e1 s0 x1 = some out) : Met l y_La_check ws_La_check { frames := 7, cells := 1, slots := 6, locals := 120 } (PcX D A g [.ref (K 0 0), .int x1, .ref ao] (w_Rn g (K 0) (fun j => K (j + 1) 0) s0 ++ (rest))) (QcI D A g 1 (fun (u : Unit) => w_Rn g (K 0) (fun j => K (j + 1) 0) s0 ++ (rest))) 1 6 A := by
  refine va_MetW (cc := method_3_code) (maxL := 4) (ret := some .int) (hh := [(0, 9, 12, 13)]) (by decide) rfl ?_
  intro p e s m args below meth c s₁ B hml hv
  obtain ⟨rfl, hI, hKK, hZ, hN⟩ := hv
  have hx := B.exec
  have hb := B.bytes
  have hr := B.returns
  have hts := atoms_spec (ws := ws_La_check) B.pre
  have ht := fun w (h : w ∈ TB) => hts w (List.mem_cons_of_mem _ h)
  have hown : s.vm.findClass R_La = some m.cls := findClass_of_methodNamed B.named
  have hS : va_S A s.heap s.heap [] := va_S.rf
  have hl := lv_entry [.ref (K 0 0), .int x1, .ref ao] (n := 4) (Nat.le_of_ble_eq_true rfl)
  rw [lg_entry_eq]
  generalize (lg_sl [.ref (K 0 0), .int x1, .ref ao] ++ List.replicate (4 - (lg_sl [.ref (K 0 0), .int x1, .ref ao]).length) Slot.unset).toArray = ls at hl ⊢
  have hl : lv_has ls 4 [(0, .ref (K 0 0)), (1, .int x1), (2, .ref ao)] := hl
  refine lv_aload_n hx hb d_La_check_0 rfl (lv_at hl 2 rfl) ?_
  refine lv_iconst (v := 0) hx hb d_La_check_1 (by decide) ?_
  refine lv_aload_n hx hb d_La_check_2 rfl (lv_at hl 0 rfl) ?_
  refine lv_iload_n hx hb d_La_check_3 rfl (lv_at hl 1 rfl) ?_
  obtain ⟨y1, htab, p1, p2, p3, p4⟩ := row_1 (rows_of B (hts _ List.mem_cons_self))
  refine cl_t (As := [.int x1]) (b := K 0 0) (rest := [.int 0, .ref ao]) (E := "java/lang/IllegalArgumentException") (hpc := 12) hx hb (by rw [hml]; exact hl.1.symm) hown (c_Rn_check_e1 (l := l) hfl (D := D) (A := A) (g := g) (rest := rest) (K := K) h) (cwV 1 ht (gd_V m_668 m_669 m_670 m_1 m_671) rfl rfl rfl (by decide +kernel) ⟨(Nat.le_of_ble_eq_true rfl), (Nat.le_of_ble_eq_true rfl)⟩) (prZV (ci := 8) (q0 := 0) hKK hZ hS hI (List.Perm.refl _) rfl rfl rfl) rfl (Nat.le_of_ble_eq_true rfl) d_La_check_4 ⟨(Nat.le_of_ble_eq_true rfl), (Nat.le_of_ble_eq_true rfl)⟩ hS (fun T9 locs9 q9 ce X9 h1 h2 h3 => ?_) (fun q9 t H locs ht9 hvm hQ hS => ?_)
  · rw [← p3]
    exact ct_one X9 (g := F0 m 4 ls [.int 0, .ref ao]) rfl hown htab (cov (pc := 4) p1 p2 (by decide)) (by rw [p4]; decide) (by rw [p4]; exact ht _ m_667) (hZ.1.words _ (by simp [XW])) h1 h2 h3
  · obtain ⟨u, hI, hK9⟩ := hQ
    rw [ht9] at hI
    refine lv_astore_n hx hb d_La_check_12 rfl hl (Nat.le_of_ble_eq_true rfl) rfl (fun ls hl => ?_)
    refine lv_iconst (v := 1) hx hb d_La_check_13 (by decide) ?_
    exact W.iret (v := 1) hx hb hr (fun t ht hW => ⟨⟨_, u, rfl, rfl, ⟨by rw [ht]; exact hI, hKK.moved hW⟩⟩, hS.F ht⟩) hS.2.2 d_La_check_14
set_option maxRecDepth 100000 in
set_option maxHeartbeats 8000000 in
theorem c_La_convert {l : Launch} {D : va_G} {A : Nat → Prop} {g : Nat → ClassId} {gL : ClassId} {rest : va_W} {K : Nat → Nat → Nat} {g1 g2 : Nat} {ao : Nat} {f : Nat → Int64} {s0 : S_Rn} {sc : S_Bs} {sd : S_Bs} {r1 : S_Rd} {t1 : S_Tr} {x1 : Int32} {x2 : Int32} {out : Int32 × S_Bs × S_Bs × S_Rd × S_Tr} (h : F_Rn_convert s0 sc sd r1 t1 x1 x2 = some out) : Met l y_La_convert ws_La_convert { frames := 5, cells := 0, slots := 0, locals := 121 } (PcL D A g gL [.ref (K 0 0), .int x1, .int x2, .ref ao] (w_Rn g (K 0) (fun j => K (j + 1) 0) s0 ++ (w_Bs g (K 2) sc ++ (w_Bs g (K 1) sd ++ (w_Rd g (K 11) (tw (K 14 0) g1) r1 ++ (w_Tr g (K 14) t1 ++ (arL gL ao f ++ (rest)))))))) (QcI D A g 0 (fun (u : Nat) => w_Rn g (K 0) (fun j => K (j + 1) 0) s0 ++ (w_Bs g (K 2) out.2.1 ++ (w_Bs g (K 1) out.2.2.1 ++ (w_Rd g (K 11) (tw (K 14 0) u) out.2.2.2.1 ++ (w_Tr g (K 14) out.2.2.2.2 ++ (arL gL ao (vp_updL f (0 : Int32).toNatClampNeg (out.1.toInt64)) ++ (rest)))))))) 0 0 A := by
  refine va_MetW (cc := method_4_code) (maxL := 5) (ret := some .int) (hh := [(0, 10, 13, 13), (0, 10, 17, 19)]) (by decide) rfl ?_
  intro p e s m args below meth c s₁ B hml hv
  obtain ⟨rfl, hI, hKK, hKL⟩ := hv
  have hx := B.exec
  have hb := B.bytes
  have hr := B.returns
  have hts := atoms_spec (ws := ws_La_convert) B.pre
  have ht := fun w (h : w ∈ TB) => hts w (List.mem_cons_of_mem _ h)
  have hown : s.vm.findClass R_La = some m.cls := findClass_of_methodNamed B.named
  have hS : va_S A s.heap s.heap [] := va_S.rf
  have hl := lv_entry [.ref (K 0 0), .int x1, .int x2, .ref ao] (n := 5) (Nat.le_of_ble_eq_true rfl)
  rw [lg_entry_eq]
  generalize (lg_sl [.ref (K 0 0), .int x1, .int x2, .ref ao] ++ List.replicate (5 - (lg_sl [.ref (K 0 0), .int x1, .int x2, .ref ao]).length) Slot.unset).toArray = ls at hl ⊢
  have hl : lv_has ls 5 [(0, .ref (K 0 0)), (1, .int x1), (2, .int x2), (3, .ref ao)] := hl
  refine lv_aload_n hx hb d_La_convert_0 rfl (lv_at hl 3 rfl) ?_
  refine lv_iconst (v := 0) hx hb d_La_convert_1 (by decide) ?_
  refine lv_aload_n hx hb d_La_convert_2 rfl (lv_at hl 0 rfl) ?_
  refine lv_iload_n hx hb d_La_convert_3 rfl (lv_at hl 1 rfl) ?_
  refine lv_iload_n hx hb d_La_convert_4 rfl (lv_at hl 2 rfl) ?_
  refine cl_i (W1 := fun (u : Nat) => arL gL ao f ++ (w_Rn g (K 0) (fun j => K (j + 1) 0) s0 ++ (w_Bs g (K 2) out.2.1 ++ (w_Bs g (K 1) out.2.2.1 ++ (w_Rd g (K 11) (tw (K 14 0) u) out.2.2.2.1 ++ (w_Tr g (K 14) out.2.2.2.2 ++ (rest))))))) (va_runV (As := [.int x1, .int x2]) (rest := [.int 0, .ref ao]) ⟨hx, hb, hml, hown, ht⟩ (c_Rn_convert (l := l) (D := D) (A := A) (g := g) (rest := arL gL ao f ++ (rest)) (K := K) (g1 := g1) h) (cwV 2 ht (gd_V m_742 m_743 m_744 m_1 m_745) rfl rfl rfl (by decide +kernel) ⟨(Nat.le_of_ble_eq_true rfl), (Nat.le_of_ble_eq_true rfl)⟩) (prV (ci := 8) (q0 := 0) hKK hI (pmn (rest := rest) [w_Rn g (K 0) (fun j => K (j + 1) 0) s0, w_Bs g (K 2) sc, w_Bs g (K 1) sd, w_Rd g (K 11) (tw (K 14 0) g1) r1, w_Tr g (K 14) t1, arL gL ao f] [w_Rn g (K 0) (fun j => K (j + 1) 0) s0, w_Bs g (K 2) sc, w_Bs g (K 1) sd, w_Rd g (K 11) (tw (K 14 0) g1) r1, w_Tr g (K 14) t1, arL gL ao f] [0, 1, 2, 3, 4, 5] 6 rfl rfl (by decide)) rfl rfl rfl) rfl rfl hl.1 rfl (lv_room (Nat.le_of_ble_eq_true rfl)) d_La_convert_5 ⟨(Nat.le_of_ble_eq_true rfl), (Nat.le_of_ble_eq_true rfl)⟩) hS (fun u => (pmn (rest := rest) [w_Rn g (K 0) (fun j => K (j + 1) 0) s0, w_Bs g (K 2) out.2.1, w_Bs g (K 1) out.2.2.1, w_Rd g (K 11) (tw (K 14 0) u) out.2.2.2.1, w_Tr g (K 14) out.2.2.2.2, arL gL ao f] [arL gL ao f, w_Rn g (K 0) (fun j => K (j + 1) 0) s0, w_Bs g (K 2) out.2.1, w_Bs g (K 1) out.2.2.1, w_Rd g (K 11) (tw (K 14 0) u) out.2.2.2.1, w_Tr g (K 14) out.2.2.2.2] [5, 0, 1, 2, 3, 4] 6 rfl rfl (by decide))) (fun u H locs hI hS => ?_)
  have hI : Iw D A (arL gL ao f ++ (w_Rn g (K 0) (fun j => K (j + 1) 0) s0 ++ (w_Bs g (K 2) out.2.1 ++ (w_Bs g (K 1) out.2.2.1 ++ (w_Rd g (K 11) (tw (K 14 0) u) out.2.2.2.1 ++ (w_Tr g (K 14) out.2.2.2.2 ++ (rest))))))) H := hI
  refine lv_i2l hx hb d_La_convert_8 rfl ?_
  refine va_last hx hb hKL hI.1 hI.2 hS 0 0 rfl rfl (by unfold vp_in; decide) d_La_convert_9 (fun H locs hP hD hS => ?_)
  have hI : Iw D A (arL gL ao (vp_updL f (0 : Int32).toNatClampNeg (out.1.toInt64)) ++ (w_Rn g (K 0) (fun j => K (j + 1) 0) s0 ++ (w_Bs g (K 2) out.2.1 ++ (w_Bs g (K 1) out.2.2.1 ++ (w_Rd g (K 11) (tw (K 14 0) u) out.2.2.2.1 ++ (w_Tr g (K 14) out.2.2.2.2 ++ (rest))))))) H := ⟨hP, hD⟩
  refine lv_goto (tgt := 21) hx hb d_La_convert_10 (by decide) ?_
  refine lv_iconst (v := 0) hx hb d_La_convert_21 (by decide) ?_
  exact W.iret (v := 0) hx hb hr (fun t ht hW => ⟨⟨_, u, rfl, rfl, ⟨by rw [ht]; exact hI.pm (pmn (rest := rest) [arL gL ao (vp_updL f (0 : Int32).toNatClampNeg (out.1.toInt64)), w_Rn g (K 0) (fun j => K (j + 1) 0) s0, w_Bs g (K 2) out.2.1, w_Bs g (K 1) out.2.2.1, w_Rd g (K 11) (tw (K 14 0) u) out.2.2.2.1, w_Tr g (K 14) out.2.2.2.2] [w_Rn g (K 0) (fun j => K (j + 1) 0) s0, w_Bs g (K 2) out.2.1, w_Bs g (K 1) out.2.2.1, w_Rd g (K 11) (tw (K 14 0) u) out.2.2.2.1, w_Tr g (K 14) out.2.2.2.2, arL gL ao (vp_updL f (0 : Int32).toNatClampNeg (out.1.toInt64))] [1, 2, 3, 4, 5, 0] 6 rfl rfl (by decide)), hKK.moved hW⟩⟩, hS.F ht⟩) hS.2.2 d_La_convert_22
set_option maxRecDepth 100000 in
set_option maxHeartbeats 8000000 in
theorem c_La_convert_e1 {l : Launch} (hfl : l.flags = flags0) {D : va_G} {A : Nat → Prop} {g : Nat → ClassId} {gL : ClassId} {rest : va_W} {K : Nat → Nat → Nat} {g1 g2 : Nat} {ao : Nat} {f : Nat → Int64} {s0 : S_Rn} {x1 : Int32} {x2 : Int32} {out : Unit} (h : F_Rn_convert_e1 s0 x1 x2 = some out) : Met l y_La_convert ws_La_convert { frames := 7, cells := 1, slots := 6, locals := 122 } (PcX D A g [.ref (K 0 0), .int x1, .int x2, .ref ao] (w_Rn g (K 0) (fun j => K (j + 1) 0) s0 ++ (rest))) (QcI D A g 1 (fun (u : Unit) => w_Rn g (K 0) (fun j => K (j + 1) 0) s0 ++ (rest))) 1 6 A := by
  refine va_MetW (cc := method_4_code) (maxL := 5) (ret := some .int) (hh := [(0, 10, 13, 13), (0, 10, 17, 19)]) (by decide) rfl ?_
  intro p e s m args below meth c s₁ B hml hv
  obtain ⟨rfl, hI, hKK, hZ, hN⟩ := hv
  have hx := B.exec
  have hb := B.bytes
  have hr := B.returns
  have hts := atoms_spec (ws := ws_La_convert) B.pre
  have ht := fun w (h : w ∈ TB) => hts w (List.mem_cons_of_mem _ h)
  have hown : s.vm.findClass R_La = some m.cls := findClass_of_methodNamed B.named
  have hS : va_S A s.heap s.heap [] := va_S.rf
  have hl := lv_entry [.ref (K 0 0), .int x1, .int x2, .ref ao] (n := 5) (Nat.le_of_ble_eq_true rfl)
  rw [lg_entry_eq]
  generalize (lg_sl [.ref (K 0 0), .int x1, .int x2, .ref ao] ++ List.replicate (5 - (lg_sl [.ref (K 0 0), .int x1, .int x2, .ref ao]).length) Slot.unset).toArray = ls at hl ⊢
  have hl : lv_has ls 5 [(0, .ref (K 0 0)), (1, .int x1), (2, .int x2), (3, .ref ao)] := hl
  refine lv_aload_n hx hb d_La_convert_0 rfl (lv_at hl 3 rfl) ?_
  refine lv_iconst (v := 0) hx hb d_La_convert_1 (by decide) ?_
  refine lv_aload_n hx hb d_La_convert_2 rfl (lv_at hl 0 rfl) ?_
  refine lv_iload_n hx hb d_La_convert_3 rfl (lv_at hl 1 rfl) ?_
  refine lv_iload_n hx hb d_La_convert_4 rfl (lv_at hl 2 rfl) ?_
  obtain ⟨y1, y2, htab, ⟨p1, p2, p3, p4⟩, q1, q2, q3, q4⟩ := row_2 (rows_of B (hts _ List.mem_cons_self))
  refine cl_t (As := [.int x1, .int x2]) (b := K 0 0) (rest := [.int 0, .ref ao]) (E := "java/lang/IllegalArgumentException") (hpc := 13) hx hb (by rw [hml]; exact hl.1.symm) hown (c_Rn_convert_e1 (l := l) hfl (D := D) (A := A) (g := g) (rest := rest) (K := K) h) (cwV 2 ht (gd_V m_742 m_743 m_744 m_1 m_745) rfl rfl rfl (by decide +kernel) ⟨(Nat.le_of_ble_eq_true rfl), (Nat.le_of_ble_eq_true rfl)⟩) (prZV (ci := 8) (q0 := 0) hKK hZ hS hI (List.Perm.refl _) rfl rfl rfl) rfl (Nat.le_of_ble_eq_true rfl) d_La_convert_5 ⟨(Nat.le_of_ble_eq_true rfl), (Nat.le_of_ble_eq_true rfl)⟩ hS (fun T9 locs9 q9 ce X9 h1 h2 h3 => ?_) (fun q9 t H locs ht9 hvm hQ hS => ?_)
  · rw [← p3]
    exact ct_one X9 (g := F0 m 5 ls [.int 0, .ref ao]) rfl hown htab (cov (pc := 5) p1 p2 (by decide)) (by rw [p4]; decide) (by rw [p4]; exact ht _ m_667) (hZ.1.words _ (by simp [XW])) h1 h2 h3
  · obtain ⟨u, hI, hK9⟩ := hQ
    rw [ht9] at hI
    refine lv_astore hx hb d_La_convert_13 hl (Nat.le_of_ble_eq_true rfl) rfl (fun ls hl => ?_)
    refine lv_iconst (v := 1) hx hb d_La_convert_15 (by decide) ?_
    exact W.iret (v := 1) hx hb hr (fun t ht hW => ⟨⟨_, u, rfl, rfl, ⟨by rw [ht]; exact hI, hKK.moved hW⟩⟩, hS.F ht⟩) hS.2.2 d_La_convert_16
set_option maxRecDepth 100000 in
set_option maxHeartbeats 8000000 in
theorem c_La_convert_e2 {l : Launch} (hfl : l.flags = flags0) {D : va_G} {A : Nat → Prop} {g : Nat → ClassId} {gL : ClassId} {rest : va_W} {K : Nat → Nat → Nat} {g1 g2 : Nat} {ao : Nat} {f : Nat → Int64} {s0 : S_Rn} {sc : S_Bs} {sd : S_Bs} {r1 : S_Rd} {t1 : S_Tr} {x1 : Int32} {x2 : Int32} {out : S_Bs × S_Rd × S_Tr} (h : F_Rn_convert_e2 s0 sc sd r1 t1 x1 x2 = some out) : Met l y_La_convert ws_La_convert { frames := 7, cells := 1, slots := 6, locals := 122 } (PcX D A g [.ref (K 0 0), .int x1, .int x2, .ref ao] (w_Rn g (K 0) (fun j => K (j + 1) 0) s0 ++ (w_Bs g (K 2) sc ++ (w_Bs g (K 1) sd ++ (w_Rd g (K 11) (tw (K 14 0) g1) r1 ++ (w_Tr g (K 14) t1 ++ (rest))))))) (QcI D A g 2 (fun (u : Nat) => w_Rn g (K 0) (fun j => K (j + 1) 0) s0 ++ (w_Bs g (K 2) out.1 ++ (w_Bs g (K 1) sd ++ (w_Rd g (K 11) (tw (K 14 0) u) out.2.1 ++ (w_Tr g (K 14) out.2.2 ++ (rest))))))) 1 6 A := by
  refine va_MetW (cc := method_4_code) (maxL := 5) (ret := some .int) (hh := [(0, 10, 13, 13), (0, 10, 17, 19)]) (by decide) rfl ?_
  intro p e s m args below meth c s₁ B hml hv
  obtain ⟨rfl, hI, hKK, hZ, hN⟩ := hv
  have hx := B.exec
  have hb := B.bytes
  have hr := B.returns
  have hts := atoms_spec (ws := ws_La_convert) B.pre
  have ht := fun w (h : w ∈ TB) => hts w (List.mem_cons_of_mem _ h)
  have hown : s.vm.findClass R_La = some m.cls := findClass_of_methodNamed B.named
  have hS : va_S A s.heap s.heap [] := va_S.rf
  have hl := lv_entry [.ref (K 0 0), .int x1, .int x2, .ref ao] (n := 5) (Nat.le_of_ble_eq_true rfl)
  rw [lg_entry_eq]
  generalize (lg_sl [.ref (K 0 0), .int x1, .int x2, .ref ao] ++ List.replicate (5 - (lg_sl [.ref (K 0 0), .int x1, .int x2, .ref ao]).length) Slot.unset).toArray = ls at hl ⊢
  have hl : lv_has ls 5 [(0, .ref (K 0 0)), (1, .int x1), (2, .int x2), (3, .ref ao)] := hl
  refine lv_aload_n hx hb d_La_convert_0 rfl (lv_at hl 3 rfl) ?_
  refine lv_iconst (v := 0) hx hb d_La_convert_1 (by decide) ?_
  refine lv_aload_n hx hb d_La_convert_2 rfl (lv_at hl 0 rfl) ?_
  refine lv_iload_n hx hb d_La_convert_3 rfl (lv_at hl 1 rfl) ?_
  refine lv_iload_n hx hb d_La_convert_4 rfl (lv_at hl 2 rfl) ?_
  obtain ⟨y1, y2, htab, ⟨p1, p2, p3, p4⟩, q1, q2, q3, q4⟩ := row_2 (rows_of B (hts _ List.mem_cons_self))
  refine cl_t (As := [.int x1, .int x2]) (b := K 0 0) (rest := [.int 0, .ref ao]) (E := "java/lang/IllegalStateException") (hpc := 17) hx hb (by rw [hml]; exact hl.1.symm) hown (c_Rn_convert_e2 (l := l) hfl (D := D) (A := A) (g := g) (rest := rest) (K := K) (g1 := g1) h) (cwV 2 ht (gd_V m_742 m_743 m_744 m_1 m_745) rfl rfl rfl (by decide +kernel) ⟨(Nat.le_of_ble_eq_true rfl), (Nat.le_of_ble_eq_true rfl)⟩) (prZV (ci := 8) (q0 := 0) hKK hZ hS hI (List.Perm.refl _) rfl rfl rfl) rfl (Nat.le_of_ble_eq_true rfl) d_La_convert_5 ⟨(Nat.le_of_ble_eq_true rfl), (Nat.le_of_ble_eq_true rfl)⟩ hS (fun T9 locs9 q9 ce X9 h1 h2 h3 => ?_) (fun q9 t H locs ht9 hvm hQ hS => ?_)
  · rw [← q3]
    exact ct_two X9 (g := F0 m 5 ls [.int 0, .ref ao]) rfl hown htab (cov (pc := 5) p1 p2 (by decide)) (by rw [p4]; decide) (by rw [p4]; exact ht _ m_667) hN.at (cov (pc := 5) q1 q2 (by decide)) (by rw [q4]; decide) (by rw [q4]; exact ht _ m_741) (hZ.1.words _ (by simp [XW])) h1 h2 h3
  · obtain ⟨u, hI, hK9⟩ := hQ
    rw [ht9] at hI
    refine lv_astore hx hb d_La_convert_17 hl (Nat.le_of_ble_eq_true rfl) rfl (fun ls hl => ?_)
    refine lv_iconst (v := 2) hx hb d_La_convert_19 (by decide) ?_
    exact W.iret (v := 2) hx hb hr (fun t ht hW => ⟨⟨_, u, rfl, rfl, ⟨by rw [ht]; exact hI, hKK.moved hW⟩⟩, hS.F ht⟩) hS.2.2 d_La_convert_20
set_option maxRecDepth 100000 in
set_option maxHeartbeats 8000000 in
theorem c_La_at {l : Launch} {D : va_G} {A : Nat → Prop} {g : Nat → ClassId} {gL : ClassId} {rest : va_W} {K : Nat → Nat → Nat} {g1 g2 : Nat} {ao : Nat} {f : Nat → Int64} {s0 : S_Rn} {sd : S_Bs} {x1 : Int32} {out : Int32} (h : F_Rn_at s0 sd x1 = some out) : Met l y_La_at ws_La_at { frames := 2, cells := 0, slots := 0, locals := 42 } (PcL D A g gL [.ref (K 0 0), .int x1, .ref ao] (w_Rn g (K 0) (fun j => K (j + 1) 0) s0 ++ (w_Bs g (K 1) sd ++ (arL gL ao f ++ (rest))))) (QcI D A g 0 (fun (_ : Unit) => w_Rn g (K 0) (fun j => K (j + 1) 0) s0 ++ (w_Bs g (K 1) sd ++ (arL gL ao (vp_updL f (0 : Int32).toNatClampNeg (out.toInt64)) ++ (rest))))) 0 0 A := by
  refine va_MetW (cc := method_5_code) (maxL := 4) (ret := some .int) (hh := [(0, 9, 12, 24)]) (by decide) rfl ?_
  intro p e s m args below meth c s₁ B hml hv
  obtain ⟨rfl, hI, hKK, hKL⟩ := hv
  have hx := B.exec
  have hb := B.bytes
  have hr := B.returns
  have hts := atoms_spec (ws := ws_La_at) B.pre
  have ht := fun w (h : w ∈ TB) => hts w (List.mem_cons_of_mem _ h)
  have hown : s.vm.findClass R_La = some m.cls := findClass_of_methodNamed B.named
  have hS : va_S A s.heap s.heap [] := va_S.rf
  have hl := lv_entry [.ref (K 0 0), .int x1, .ref ao] (n := 4) (Nat.le_of_ble_eq_true rfl)
  rw [lg_entry_eq]
  generalize (lg_sl [.ref (K 0 0), .int x1, .ref ao] ++ List.replicate (4 - (lg_sl [.ref (K 0 0), .int x1, .ref ao]).length) Slot.unset).toArray = ls at hl ⊢
  have hl : lv_has ls 4 [(0, .ref (K 0 0)), (1, .int x1), (2, .ref ao)] := hl
  refine lv_aload_n hx hb d_La_at_0 rfl (lv_at hl 2 rfl) ?_
  refine lv_iconst (v := 0) hx hb d_La_at_1 (by decide) ?_
  refine lv_aload_n hx hb d_La_at_2 rfl (lv_at hl 0 rfl) ?_
  refine lv_iload_n hx hb d_La_at_3 rfl (lv_at hl 1 rfl) ?_
  refine cl_i (W1 := fun (_ : Unit) => arL gL ao f ++ (w_Rn g (K 0) (fun j => K (j + 1) 0) s0 ++ (w_Bs g (K 1) sd ++ (rest)))) (va_runV (As := [.int x1]) (rest := [.int 0, .ref ao]) ⟨hx, hb, hml, hown, ht⟩ (c_Rn_at (l := l) (D := D) (A := A) (g := g) (rest := arL gL ao f ++ (rest)) (K := K) h) (cwV 1 ht (gd_V m_766 m_767 m_768 m_1 m_769) rfl rfl rfl (by decide +kernel) ⟨(Nat.le_of_ble_eq_true rfl), (Nat.le_of_ble_eq_true rfl)⟩) (prV (ci := 8) (q0 := 0) hKK hI (pmn (rest := rest) [w_Rn g (K 0) (fun j => K (j + 1) 0) s0, w_Bs g (K 1) sd, arL gL ao f] [w_Rn g (K 0) (fun j => K (j + 1) 0) s0, w_Bs g (K 1) sd, arL gL ao f] [0, 1, 2] 3 rfl rfl (by decide)) rfl rfl rfl) rfl rfl hl.1 rfl (lv_room (Nat.le_of_ble_eq_true rfl)) d_La_at_4 ⟨(Nat.le_of_ble_eq_true rfl), (Nat.le_of_ble_eq_true rfl)⟩) hS (fun _ => (pmn (rest := rest) [w_Rn g (K 0) (fun j => K (j + 1) 0) s0, w_Bs g (K 1) sd, arL gL ao f] [arL gL ao f, w_Rn g (K 0) (fun j => K (j + 1) 0) s0, w_Bs g (K 1) sd] [2, 0, 1] 3 rfl rfl (by decide))) (fun _ H locs hI hS => ?_)
  have hI : Iw D A (arL gL ao f ++ (w_Rn g (K 0) (fun j => K (j + 1) 0) s0 ++ (w_Bs g (K 1) sd ++ (rest)))) H := hI
  refine lv_i2l hx hb d_La_at_7 rfl ?_
  refine va_last hx hb hKL hI.1 hI.2 hS 0 0 rfl rfl (by unfold vp_in; decide) d_La_at_8 (fun H locs hP hD hS => ?_)
  have hI : Iw D A (arL gL ao (vp_updL f (0 : Int32).toNatClampNeg (out.toInt64)) ++ (w_Rn g (K 0) (fun j => K (j + 1) 0) s0 ++ (w_Bs g (K 1) sd ++ (rest)))) H := ⟨hP, hD⟩
  refine lv_goto (tgt := 15) hx hb d_La_at_9 (by decide) ?_
  refine lv_iconst (v := 0) hx hb d_La_at_15 (by decide) ?_
  exact W.iret (v := 0) hx hb hr (fun t ht hW => ⟨⟨_, (), rfl, rfl, ⟨by rw [ht]; exact hI.pm (pmn (rest := rest) [arL gL ao (vp_updL f (0 : Int32).toNatClampNeg (out.toInt64)), w_Rn g (K 0) (fun j => K (j + 1) 0) s0, w_Bs g (K 1) sd] [w_Rn g (K 0) (fun j => K (j + 1) 0) s0, w_Bs g (K 1) sd, arL gL ao (vp_updL f (0 : Int32).toNatClampNeg (out.toInt64))] [1, 2, 0] 3 rfl rfl (by decide)), hKK.moved hW⟩⟩, hS.F ht⟩) hS.2.2 d_La_at_16
set_option maxRecDepth 100000 in
set_option maxHeartbeats 8000000 in
theorem c_La_at_e1 {l : Launch} (hfl : l.flags = flags0) {D : va_G} {A : Nat → Prop} {g : Nat → ClassId} {gL : ClassId} {rest : va_W} {K : Nat → Nat → Nat} {g1 g2 : Nat} {ao : Nat} {f : Nat → Int64} {s0 : S_Rn} {sd : S_Bs} {x1 : Int32} {out : Unit} (h : F_Rn_at_e1 s0 sd x1 = some out) : Met l y_La_at ws_La_at { frames := 7, cells := 1, slots := 6, locals := 120 } (PcX D A g [.ref (K 0 0), .int x1, .ref ao] (w_Rn g (K 0) (fun j => K (j + 1) 0) s0 ++ (w_Bs g (K 1) sd ++ (rest)))) (QcI D A g 1 (fun (u : Unit) => w_Rn g (K 0) (fun j => K (j + 1) 0) s0 ++ (w_Bs g (K 1) sd ++ (rest)))) 1 6 A := by
  refine va_MetW (cc := method_5_code) (maxL := 4) (ret := some .int) (hh := [(0, 9, 12, 24)]) (by decide) rfl ?_
  intro p e s m args below meth c s₁ B hml hv
  obtain ⟨rfl, hI, hKK, hZ, hN⟩ := hv
  have hx := B.exec
  have hb := B.bytes
  have hr := B.returns
  have hts := atoms_spec (ws := ws_La_at) B.pre
  have ht := fun w (h : w ∈ TB) => hts w (List.mem_cons_of_mem _ h)
  have hown : s.vm.findClass R_La = some m.cls := findClass_of_methodNamed B.named
  have hS : va_S A s.heap s.heap [] := va_S.rf
  have hl := lv_entry [.ref (K 0 0), .int x1, .ref ao] (n := 4) (Nat.le_of_ble_eq_true rfl)
  rw [lg_entry_eq]
  generalize (lg_sl [.ref (K 0 0), .int x1, .ref ao] ++ List.replicate (4 - (lg_sl [.ref (K 0 0), .int x1, .ref ao]).length) Slot.unset).toArray = ls at hl ⊢
  have hl : lv_has ls 4 [(0, .ref (K 0 0)), (1, .int x1), (2, .ref ao)] := hl
  refine lv_aload_n hx hb d_La_at_0 rfl (lv_at hl 2 rfl) ?_
  refine lv_iconst (v := 0) hx hb d_La_at_1 (by decide) ?_
  refine lv_aload_n hx hb d_La_at_2 rfl (lv_at hl 0 rfl) ?_
  refine lv_iload_n hx hb d_La_at_3 rfl (lv_at hl 1 rfl) ?_
  obtain ⟨y1, htab, p1, p2, p3, p4⟩ := row_1 (rows_of B (hts _ List.mem_cons_self))
  refine cl_t (As := [.int x1]) (b := K 0 0) (rest := [.int 0, .ref ao]) (E := "java/util/NoSuchElementException") (hpc := 12) hx hb (by rw [hml]; exact hl.1.symm) hown (c_Rn_at_e1 (l := l) hfl (D := D) (A := A) (g := g) (rest := rest) (K := K) h) (cwV 1 ht (gd_V m_766 m_767 m_768 m_1 m_769) rfl rfl rfl (by decide +kernel) ⟨(Nat.le_of_ble_eq_true rfl), (Nat.le_of_ble_eq_true rfl)⟩) (prZV (ci := 8) (q0 := 0) hKK hZ hS hI (List.Perm.refl _) rfl rfl rfl) rfl (Nat.le_of_ble_eq_true rfl) d_La_at_4 ⟨(Nat.le_of_ble_eq_true rfl), (Nat.le_of_ble_eq_true rfl)⟩ hS (fun T9 locs9 q9 ce X9 h1 h2 h3 => ?_) (fun q9 t H locs ht9 hvm hQ hS => ?_)
  · rw [← p3]
    exact ct_one X9 (g := F0 m 4 ls [.int 0, .ref ao]) rfl hown htab (cov (pc := 4) p1 p2 (by decide)) (by rw [p4]; decide) (by rw [p4]; exact ht _ m_765) (hZ.1.words _ (by simp [XW])) h1 h2 h3
  · obtain ⟨u, hI, hK9⟩ := hQ
    rw [ht9] at hI
    refine lv_astore_n hx hb d_La_at_12 rfl hl (Nat.le_of_ble_eq_true rfl) rfl (fun ls hl => ?_)
    refine lv_iconst (v := 1) hx hb d_La_at_13 (by decide) ?_
    exact W.iret (v := 1) hx hb hr (fun t ht hW => ⟨⟨_, u, rfl, rfl, ⟨by rw [ht]; exact hI, hKK.moved hW⟩⟩, hS.F ht⟩) hS.2.2 d_La_at_14
set_option maxRecDepth 100000 in
set_option maxHeartbeats 8000000 in
theorem c_La_feed {l : Launch} {D : va_G} {A : Nat → Prop} {g : Nat → ClassId} {gL : ClassId} {rest : va_W} {K : Nat → Nat → Nat} {g1 g2 : Nat} {ao : Nat} {f : Nat → Int64} {s0 : S_Rn} {sb : S_Bs} {sc : S_Bs} {sx : S_Cs} {si : S_Bs} {sm : S_Mr} {sg : S_Mg} {sn : S_Bs} {so : S_Ou} {sp : S_Bs} {r1 : S_Rd} {t1 : S_Tr} {r2 : S_Rd} {t2 : S_Tr} {rs : S_Rs} {x1 : Int64} {x3 : Int32} {out : Int32 × S_Rn × S_Bs × S_Bs × S_Cs × S_Bs × S_Mr × S_Mg × S_Bs × S_Ou × S_Bs × S_Rd × S_Tr × S_Rd × S_Tr × S_Rs} (h : F_Rn_feed s0 sb sc sx si sm sg sn so sp r1 t1 r2 t2 rs x1 x3 = some out) : Met l y_La_feed ws_La_feed { frames := 12, cells := 0, slots := 0, locals := 319 } (PcL D A g gL [.ref (K 0 0), .long x1, .int x3, .ref ao] (w_Rn g (K 0) (fun j => K (j + 1) 0) s0 ++ (w_Bs g (K 6) sb ++ (w_Bs g (K 2) sc ++ (w_Cs g (K 8) sx ++ (w_Bs g (K 4) si ++ (w_Mr g (K 13) sm ++ (w_Mg g (K 9) sg ++ (w_Bs g (K 3) sn ++ (w_Ou g (K 7) so ++ (w_Bs g (K 5) sp ++ (w_Rd g (K 11) (tw (K 14 0) g1) r1 ++ (w_Tr g (K 14) t1 ++ (w_Rd g (K 12) (tw (K 15 0) g2) r2 ++ (w_Tr g (K 15) t2 ++ (w_Rs g (K 10) (fun k => K (16 + 2 * k)) (fun k => K (17 + 2 * k)) rs ++ (arL gL ao f ++ (rest)))))))))))))))))) (QcI D A g 0 (fun (u : Nat × Nat) => w_Rn g (K 0) (fun j => K (j + 1) 0) out.2.1 ++ (w_Bs g (K 6) out.2.2.1 ++ (w_Bs g (K 2) out.2.2.2.1 ++ (w_Cs g (K 8) out.2.2.2.2.1 ++ (w_Bs g (K 4) out.2.2.2.2.2.1 ++ (w_Mr g (K 13) out.2.2.2.2.2.2.1 ++ (w_Mg g (K 9) out.2.2.2.2.2.2.2.1 ++ (w_Bs g (K 3) out.2.2.2.2.2.2.2.2.1 ++ (w_Ou g (K 7) out.2.2.2.2.2.2.2.2.2.1 ++ (w_Bs g (K 5) out.2.2.2.2.2.2.2.2.2.2.1 ++ (w_Rd g (K 11) (tw (K 14 0) u.1) out.2.2.2.2.2.2.2.2.2.2.2.1 ++ (w_Tr g (K 14) out.2.2.2.2.2.2.2.2.2.2.2.2.1 ++ (w_Rd g (K 12) (tw (K 15 0) u.2) out.2.2.2.2.2.2.2.2.2.2.2.2.2.1 ++ (w_Tr g (K 15) out.2.2.2.2.2.2.2.2.2.2.2.2.2.2.1 ++ (w_Rs g (K 10) (fun k => K (16 + 2 * k)) (fun k => K (17 + 2 * k)) out.2.2.2.2.2.2.2.2.2.2.2.2.2.2.2 ++ (arL gL ao (vp_updL f (0 : Int32).toNatClampNeg (if out.1 = 0 then (0 : Int64) else 1)) ++ (rest)))))))))))))))))) 0 0 A := by
  refine va_MetW (cc := method_6_code) (maxL := 6) (ret := some .int) (hh := [(0, 18, 21, 13)]) (by decide) rfl ?_
  intro p e s m args below meth c s₁ B hml hv
  obtain ⟨rfl, hI, hKK, hKL⟩ := hv
  have hx := B.exec
  have hb := B.bytes
  have hr := B.returns
  have hts := atoms_spec (ws := ws_La_feed) B.pre
  have ht := fun w (h : w ∈ TB) => hts w (List.mem_cons_of_mem _ h)
  have hown : s.vm.findClass R_La = some m.cls := findClass_of_methodNamed B.named
  have hS : va_S A s.heap s.heap [] := va_S.rf
  have hl := lv_entry [.ref (K 0 0), .long x1, .int x3, .ref ao] (n := 6) (Nat.le_of_ble_eq_true rfl)
  rw [lg_entry_eq]
  generalize (lg_sl [.ref (K 0 0), .long x1, .int x3, .ref ao] ++ List.replicate (6 - (lg_sl [.ref (K 0 0), .long x1, .int x3, .ref ao]).length) Slot.unset).toArray = ls at hl ⊢
  have hl : lv_has ls 6 [(0, .ref (K 0 0)), (1, .long x1), (3, .int x3), (4, .ref ao)] := hl
  refine lv_aload hx hb d_La_feed_0 (lv_at hl 3 rfl) ?_
  refine lv_iconst (v := 0) hx hb d_La_feed_2 (by decide) ?_
  refine lv_aload_n hx hb d_La_feed_3 rfl (lv_at hl 0 rfl) ?_
  refine lv_lload_n hx hb d_La_feed_4 rfl (lv_at hl 1 rfl) ?_
  refine lv_iload_n hx hb d_La_feed_5 rfl (lv_at hl 2 rfl) ?_
  refine cl_i (W1 := fun (u : Nat × Nat) => arL gL ao f ++ (w_Rn g (K 0) (fun j => K (j + 1) 0) out.2.1 ++ (w_Bs g (K 6) out.2.2.1 ++ (w_Bs g (K 2) out.2.2.2.1 ++ (w_Cs g (K 8) out.2.2.2.2.1 ++ (w_Bs g (K 4) out.2.2.2.2.2.1 ++ (w_Mr g (K 13) out.2.2.2.2.2.2.1 ++ (w_Mg g (K 9) out.2.2.2.2.2.2.2.1 ++ (w_Bs g (K 3) out.2.2.2.2.2.2.2.2.1 ++ (w_Ou g (K 7) out.2.2.2.2.2.2.2.2.2.1 ++ (w_Bs g (K 5) out.2.2.2.2.2.2.2.2.2.2.1 ++ (w_Rd g (K 11) (tw (K 14 0) u.1) out.2.2.2.2.2.2.2.2.2.2.2.1 ++ (w_Tr g (K 14) out.2.2.2.2.2.2.2.2.2.2.2.2.1 ++ (w_Rd g (K 12) (tw (K 15 0) u.2) out.2.2.2.2.2.2.2.2.2.2.2.2.2.1 ++ (w_Tr g (K 15) out.2.2.2.2.2.2.2.2.2.2.2.2.2.2.1 ++ (w_Rs g (K 10) (fun k => K (16 + 2 * k)) (fun k => K (17 + 2 * k)) out.2.2.2.2.2.2.2.2.2.2.2.2.2.2.2 ++ (rest))))))))))))))))) (va_runV (As := [.long x1, .int x3]) (rest := [.int 0, .ref ao]) ⟨hx, hb, hml, hown, ht⟩ (c_Rn_feed (l := l) (D := D) (A := A) (g := g) (rest := arL gL ao f ++ (rest)) (K := K) (g1 := g1) (g2 := g2) h) (cwV 2 ht (gd_V m_788 m_789 m_790 m_1 m_791) rfl rfl rfl (by decide +kernel) ⟨(Nat.le_of_ble_eq_true rfl), (Nat.le_of_ble_eq_true rfl)⟩) (prV (ci := 8) (q0 := 0) hKK hI (pmn (rest := rest) [w_Rn g (K 0) (fun j => K (j + 1) 0) s0, w_Bs g (K 6) sb, w_Bs g (K 2) sc, w_Cs g (K 8) sx, w_Bs g (K 4) si, w_Mr g (K 13) sm, w_Mg g (K 9) sg, w_Bs g (K 3) sn, w_Ou g (K 7) so, w_Bs g (K 5) sp, w_Rd g (K 11) (tw (K 14 0) g1) r1, w_Tr g (K 14) t1, w_Rd g (K 12) (tw (K 15 0) g2) r2, w_Tr g (K 15) t2, w_Rs g (K 10) (fun k => K (16 + 2 * k)) (fun k => K (17 + 2 * k)) rs, arL gL ao f] [w_Rn g (K 0) (fun j => K (j + 1) 0) s0, w_Bs g (K 6) sb, w_Bs g (K 2) sc, w_Cs g (K 8) sx, w_Bs g (K 4) si, w_Mr g (K 13) sm, w_Mg g (K 9) sg, w_Bs g (K 3) sn, w_Ou g (K 7) so, w_Bs g (K 5) sp, w_Rd g (K 11) (tw (K 14 0) g1) r1, w_Tr g (K 14) t1, w_Rd g (K 12) (tw (K 15 0) g2) r2, w_Tr g (K 15) t2, w_Rs g (K 10) (fun k => K (16 + 2 * k)) (fun k => K (17 + 2 * k)) rs, arL gL ao f] [0, 1, 2, 3, 4, 5, 6, 7, 8, 9, 10, 11, 12, 13, 14, 15] 16 rfl rfl (by decide)) rfl rfl rfl) rfl rfl hl.1 rfl (lv_room (Nat.le_of_ble_eq_true rfl)) d_La_feed_6 ⟨(Nat.le_of_ble_eq_true rfl), (Nat.le_of_ble_eq_true rfl)⟩) hS (fun u => (pmn (rest := rest) [w_Rn g (K 0) (fun j => K (j + 1) 0) out.2.1, w_Bs g (K 6) out.2.2.1, w_Bs g (K 2) out.2.2.2.1, w_Cs g (K 8) out.2.2.2.2.1, w_Bs g (K 4) out.2.2.2.2.2.1, w_Mr g (K 13) out.2.2.2.2.2.2.1, w_Mg g (K 9) out.2.2.2.2.2.2.2.1, w_Bs g (K 3) out.2.2.2.2.2.2.2.2.1, w_Ou g (K 7) out.2.2.2.2.2.2.2.2.2.1, w_Bs g (K 5) out.2.2.2.2.2.2.2.2.2.2.1, w_Rd g (K 11) (tw (K 14 0) u.1) out.2.2.2.2.2.2.2.2.2.2.2.1, w_Tr g (K 14) out.2.2.2.2.2.2.2.2.2.2.2.2.1, w_Rd g (K 12) (tw (K 15 0) u.2) out.2.2.2.2.2.2.2.2.2.2.2.2.2.1, w_Tr g (K 15) out.2.2.2.2.2.2.2.2.2.2.2.2.2.2.1, w_Rs g (K 10) (fun k => K (16 + 2 * k)) (fun k => K (17 + 2 * k)) out.2.2.2.2.2.2.2.2.2.2.2.2.2.2.2, arL gL ao f] [arL gL ao f, w_Rn g (K 0) (fun j => K (j + 1) 0) out.2.1, w_Bs g (K 6) out.2.2.1, w_Bs g (K 2) out.2.2.2.1, w_Cs g (K 8) out.2.2.2.2.1, w_Bs g (K 4) out.2.2.2.2.2.1, w_Mr g (K 13) out.2.2.2.2.2.2.1, w_Mg g (K 9) out.2.2.2.2.2.2.2.1, w_Bs g (K 3) out.2.2.2.2.2.2.2.2.1, w_Ou g (K 7) out.2.2.2.2.2.2.2.2.2.1, w_Bs g (K 5) out.2.2.2.2.2.2.2.2.2.2.1, w_Rd g (K 11) (tw (K 14 0) u.1) out.2.2.2.2.2.2.2.2.2.2.2.1, w_Tr g (K 14) out.2.2.2.2.2.2.2.2.2.2.2.2.1, w_Rd g (K 12) (tw (K 15 0) u.2) out.2.2.2.2.2.2.2.2.2.2.2.2.2.1, w_Tr g (K 15) out.2.2.2.2.2.2.2.2.2.2.2.2.2.2.1, w_Rs g (K 10) (fun k => K (16 + 2 * k)) (fun k => K (17 + 2 * k)) out.2.2.2.2.2.2.2.2.2.2.2.2.2.2.2] [15, 0, 1, 2, 3, 4, 5, 6, 7, 8, 9, 10, 11, 12, 13, 14] 16 rfl rfl (by decide))) (fun u H locs hI hS => ?_)
  have hI : Iw D A (arL gL ao f ++ (w_Rn g (K 0) (fun j => K (j + 1) 0) out.2.1 ++ (w_Bs g (K 6) out.2.2.1 ++ (w_Bs g (K 2) out.2.2.2.1 ++ (w_Cs g (K 8) out.2.2.2.2.1 ++ (w_Bs g (K 4) out.2.2.2.2.2.1 ++ (w_Mr g (K 13) out.2.2.2.2.2.2.1 ++ (w_Mg g (K 9) out.2.2.2.2.2.2.2.1 ++ (w_Bs g (K 3) out.2.2.2.2.2.2.2.2.1 ++ (w_Ou g (K 7) out.2.2.2.2.2.2.2.2.2.1 ++ (w_Bs g (K 5) out.2.2.2.2.2.2.2.2.2.2.1 ++ (w_Rd g (K 11) (tw (K 14 0) u.1) out.2.2.2.2.2.2.2.2.2.2.2.1 ++ (w_Tr g (K 14) out.2.2.2.2.2.2.2.2.2.2.2.2.1 ++ (w_Rd g (K 12) (tw (K 15 0) u.2) out.2.2.2.2.2.2.2.2.2.2.2.2.2.1 ++ (w_Tr g (K 15) out.2.2.2.2.2.2.2.2.2.2.2.2.2.2.1 ++ (w_Rs g (K 10) (fun k => K (16 + 2 * k)) (fun k => K (17 + 2 * k)) out.2.2.2.2.2.2.2.2.2.2.2.2.2.2.2 ++ (rest))))))))))))))))) H := hI
  refine lv_if_eq (tgt := 16) hx hb d_La_feed_9 (by decide) (fun hc => ?_) (fun hc => ?_)
  · have hv : (if out.1 = 0 then (0 : Int64) else 1) = 0 := if_pos hc
    rw [hv]
    refine lv_lconst (v := 0) hx hb d_La_feed_16 (by decide) ?_
    refine va_last hx hb hKL hI.1 hI.2 hS 0 0 rfl rfl (by unfold vp_in; decide) d_La_feed_17 (fun H locs hP hD hS => ?_)
    have hI : Iw D A (arL gL ao (vp_updL f (0 : Int32).toNatClampNeg (0 : Int64)) ++ (w_Rn g (K 0) (fun j => K (j + 1) 0) out.2.1 ++ (w_Bs g (K 6) out.2.2.1 ++ (w_Bs g (K 2) out.2.2.2.1 ++ (w_Cs g (K 8) out.2.2.2.2.1 ++ (w_Bs g (K 4) out.2.2.2.2.2.1 ++ (w_Mr g (K 13) out.2.2.2.2.2.2.1 ++ (w_Mg g (K 9) out.2.2.2.2.2.2.2.1 ++ (w_Bs g (K 3) out.2.2.2.2.2.2.2.2.1 ++ (w_Ou g (K 7) out.2.2.2.2.2.2.2.2.2.1 ++ (w_Bs g (K 5) out.2.2.2.2.2.2.2.2.2.2.1 ++ (w_Rd g (K 11) (tw (K 14 0) u.1) out.2.2.2.2.2.2.2.2.2.2.2.1 ++ (w_Tr g (K 14) out.2.2.2.2.2.2.2.2.2.2.2.2.1 ++ (w_Rd g (K 12) (tw (K 15 0) u.2) out.2.2.2.2.2.2.2.2.2.2.2.2.2.1 ++ (w_Tr g (K 15) out.2.2.2.2.2.2.2.2.2.2.2.2.2.2.1 ++ (w_Rs g (K 10) (fun k => K (16 + 2 * k)) (fun k => K (17 + 2 * k)) out.2.2.2.2.2.2.2.2.2.2.2.2.2.2.2 ++ (rest))))))))))))))))) H := ⟨hP, hD⟩
    refine lv_goto (tgt := 25) hx hb d_La_feed_18 (by decide) ?_
    refine lv_iconst (v := 0) hx hb d_La_feed_25 (by decide) ?_
    exact W.iret (v := 0) hx hb hr (fun t ht hW => ⟨⟨_, u, rfl, rfl, ⟨by rw [ht]; exact hI.pm (pmn (rest := rest) [arL gL ao (vp_updL f (0 : Int32).toNatClampNeg (0 : Int64)), w_Rn g (K 0) (fun j => K (j + 1) 0) out.2.1, w_Bs g (K 6) out.2.2.1, w_Bs g (K 2) out.2.2.2.1, w_Cs g (K 8) out.2.2.2.2.1, w_Bs g (K 4) out.2.2.2.2.2.1, w_Mr g (K 13) out.2.2.2.2.2.2.1, w_Mg g (K 9) out.2.2.2.2.2.2.2.1, w_Bs g (K 3) out.2.2.2.2.2.2.2.2.1, w_Ou g (K 7) out.2.2.2.2.2.2.2.2.2.1, w_Bs g (K 5) out.2.2.2.2.2.2.2.2.2.2.1, w_Rd g (K 11) (tw (K 14 0) u.1) out.2.2.2.2.2.2.2.2.2.2.2.1, w_Tr g (K 14) out.2.2.2.2.2.2.2.2.2.2.2.2.1, w_Rd g (K 12) (tw (K 15 0) u.2) out.2.2.2.2.2.2.2.2.2.2.2.2.2.1, w_Tr g (K 15) out.2.2.2.2.2.2.2.2.2.2.2.2.2.2.1, w_Rs g (K 10) (fun k => K (16 + 2 * k)) (fun k => K (17 + 2 * k)) out.2.2.2.2.2.2.2.2.2.2.2.2.2.2.2] [w_Rn g (K 0) (fun j => K (j + 1) 0) out.2.1, w_Bs g (K 6) out.2.2.1, w_Bs g (K 2) out.2.2.2.1, w_Cs g (K 8) out.2.2.2.2.1, w_Bs g (K 4) out.2.2.2.2.2.1, w_Mr g (K 13) out.2.2.2.2.2.2.1, w_Mg g (K 9) out.2.2.2.2.2.2.2.1, w_Bs g (K 3) out.2.2.2.2.2.2.2.2.1, w_Ou g (K 7) out.2.2.2.2.2.2.2.2.2.1, w_Bs g (K 5) out.2.2.2.2.2.2.2.2.2.2.1, w_Rd g (K 11) (tw (K 14 0) u.1) out.2.2.2.2.2.2.2.2.2.2.2.1, w_Tr g (K 14) out.2.2.2.2.2.2.2.2.2.2.2.2.1, w_Rd g (K 12) (tw (K 15 0) u.2) out.2.2.2.2.2.2.2.2.2.2.2.2.2.1, w_Tr g (K 15) out.2.2.2.2.2.2.2.2.2.2.2.2.2.2.1, w_Rs g (K 10) (fun k => K (16 + 2 * k)) (fun k => K (17 + 2 * k)) out.2.2.2.2.2.2.2.2.2.2.2.2.2.2.2, arL gL ao (vp_updL f (0 : Int32).toNatClampNeg (0 : Int64))] [1, 2, 3, 4, 5, 6, 7, 8, 9, 10, 11, 12, 13, 14, 15, 0] 16 rfl rfl (by decide)), hKK.moved hW⟩⟩, hS.F ht⟩) hS.2.2 d_La_feed_26
  · have hv : (if out.1 = 0 then (0 : Int64) else 1) = 1 := if_neg hc
    rw [hv]
    refine lv_lconst (v := 1) hx hb d_La_feed_12 (by decide) ?_
    refine lv_goto (tgt := 17) hx hb d_La_feed_13 (by decide) ?_
    refine va_last hx hb hKL hI.1 hI.2 hS 0 0 rfl rfl (by unfold vp_in; decide) d_La_feed_17 (fun H locs hP hD hS => ?_)
    have hI : Iw D A (arL gL ao (vp_updL f (0 : Int32).toNatClampNeg (1 : Int64)) ++ (w_Rn g (K 0) (fun j => K (j + 1) 0) out.2.1 ++ (w_Bs g (K 6) out.2.2.1 ++ (w_Bs g (K 2) out.2.2.2.1 ++ (w_Cs g (K 8) out.2.2.2.2.1 ++ (w_Bs g (K 4) out.2.2.2.2.2.1 ++ (w_Mr g (K 13) out.2.2.2.2.2.2.1 ++ (w_Mg g (K 9) out.2.2.2.2.2.2.2.1 ++ (w_Bs g (K 3) out.2.2.2.2.2.2.2.2.1 ++ (w_Ou g (K 7) out.2.2.2.2.2.2.2.2.2.1 ++ (w_Bs g (K 5) out.2.2.2.2.2.2.2.2.2.2.1 ++ (w_Rd g (K 11) (tw (K 14 0) u.1) out.2.2.2.2.2.2.2.2.2.2.2.1 ++ (w_Tr g (K 14) out.2.2.2.2.2.2.2.2.2.2.2.2.1 ++ (w_Rd g (K 12) (tw (K 15 0) u.2) out.2.2.2.2.2.2.2.2.2.2.2.2.2.1 ++ (w_Tr g (K 15) out.2.2.2.2.2.2.2.2.2.2.2.2.2.2.1 ++ (w_Rs g (K 10) (fun k => K (16 + 2 * k)) (fun k => K (17 + 2 * k)) out.2.2.2.2.2.2.2.2.2.2.2.2.2.2.2 ++ (rest))))))))))))))))) H := ⟨hP, hD⟩
    refine lv_goto (tgt := 25) hx hb d_La_feed_18 (by decide) ?_
    refine lv_iconst (v := 0) hx hb d_La_feed_25 (by decide) ?_
    exact W.iret (v := 0) hx hb hr (fun t ht hW => ⟨⟨_, u, rfl, rfl, ⟨by rw [ht]; exact hI.pm (pmn (rest := rest) [arL gL ao (vp_updL f (0 : Int32).toNatClampNeg (1 : Int64)), w_Rn g (K 0) (fun j => K (j + 1) 0) out.2.1, w_Bs g (K 6) out.2.2.1, w_Bs g (K 2) out.2.2.2.1, w_Cs g (K 8) out.2.2.2.2.1, w_Bs g (K 4) out.2.2.2.2.2.1, w_Mr g (K 13) out.2.2.2.2.2.2.1, w_Mg g (K 9) out.2.2.2.2.2.2.2.1, w_Bs g (K 3) out.2.2.2.2.2.2.2.2.1, w_Ou g (K 7) out.2.2.2.2.2.2.2.2.2.1, w_Bs g (K 5) out.2.2.2.2.2.2.2.2.2.2.1, w_Rd g (K 11) (tw (K 14 0) u.1) out.2.2.2.2.2.2.2.2.2.2.2.1, w_Tr g (K 14) out.2.2.2.2.2.2.2.2.2.2.2.2.1, w_Rd g (K 12) (tw (K 15 0) u.2) out.2.2.2.2.2.2.2.2.2.2.2.2.2.1, w_Tr g (K 15) out.2.2.2.2.2.2.2.2.2.2.2.2.2.2.1, w_Rs g (K 10) (fun k => K (16 + 2 * k)) (fun k => K (17 + 2 * k)) out.2.2.2.2.2.2.2.2.2.2.2.2.2.2.2] [w_Rn g (K 0) (fun j => K (j + 1) 0) out.2.1, w_Bs g (K 6) out.2.2.1, w_Bs g (K 2) out.2.2.2.1, w_Cs g (K 8) out.2.2.2.2.1, w_Bs g (K 4) out.2.2.2.2.2.1, w_Mr g (K 13) out.2.2.2.2.2.2.1, w_Mg g (K 9) out.2.2.2.2.2.2.2.1, w_Bs g (K 3) out.2.2.2.2.2.2.2.2.1, w_Ou g (K 7) out.2.2.2.2.2.2.2.2.2.1, w_Bs g (K 5) out.2.2.2.2.2.2.2.2.2.2.1, w_Rd g (K 11) (tw (K 14 0) u.1) out.2.2.2.2.2.2.2.2.2.2.2.1, w_Tr g (K 14) out.2.2.2.2.2.2.2.2.2.2.2.2.1, w_Rd g (K 12) (tw (K 15 0) u.2) out.2.2.2.2.2.2.2.2.2.2.2.2.2.1, w_Tr g (K 15) out.2.2.2.2.2.2.2.2.2.2.2.2.2.2.1, w_Rs g (K 10) (fun k => K (16 + 2 * k)) (fun k => K (17 + 2 * k)) out.2.2.2.2.2.2.2.2.2.2.2.2.2.2.2, arL gL ao (vp_updL f (0 : Int32).toNatClampNeg (1 : Int64))] [1, 2, 3, 4, 5, 6, 7, 8, 9, 10, 11, 12, 13, 14, 15, 0] 16 rfl rfl (by decide)), hKK.moved hW⟩⟩, hS.F ht⟩) hS.2.2 d_La_feed_26
set_option maxRecDepth 100000 in
set_option maxHeartbeats 8000000 in
theorem c_La_feed_e1 {l : Launch} (hfl : l.flags = flags0) {D : va_G} {A : Nat → Prop} {g : Nat → ClassId} {gL : ClassId} {rest : va_W} {K : Nat → Nat → Nat} {g1 g2 : Nat} {ao : Nat} {f : Nat → Int64} {s0 : S_Rn} {x1 : Int64} {x3 : Int32} {out : Unit} (h : F_Rn_feed_e1 s0 x1 x3 = some out) : Met l y_La_feed ws_La_feed { frames := 7, cells := 1, slots := 6, locals := 123 } (PcX D A g [.ref (K 0 0), .long x1, .int x3, .ref ao] (w_Rn g (K 0) (fun j => K (j + 1) 0) s0 ++ (rest))) (QcI D A g 1 (fun (u : Unit) => w_Rn g (K 0) (fun j => K (j + 1) 0) s0 ++ (rest))) 1 6 A := by
  refine va_MetW (cc := method_6_code) (maxL := 6) (ret := some .int) (hh := [(0, 18, 21, 13)]) (by decide) rfl ?_
  intro p e s m args below meth c s₁ B hml hv
  obtain ⟨rfl, hI, hKK, hZ, hN⟩ := hv
  have hx := B.exec
  have hb := B.bytes
  have hr := B.returns
  have hts := atoms_spec (ws := ws_La_feed) B.pre
  have ht := fun w (h : w ∈ TB) => hts w (List.mem_cons_of_mem _ h)
  have hown : s.vm.findClass R_La = some m.cls := findClass_of_methodNamed B.named
  have hS : va_S A s.heap s.heap [] := va_S.rf
  have hl := lv_entry [.ref (K 0 0), .long x1, .int x3, .ref ao] (n := 6) (Nat.le_of_ble_eq_true rfl)
  rw [lg_entry_eq]
  generalize (lg_sl [.ref (K 0 0), .long x1, .int x3, .ref ao] ++ List.replicate (6 - (lg_sl [.ref (K 0 0), .long x1, .int x3, .ref ao]).length) Slot.unset).toArray = ls at hl ⊢
  have hl : lv_has ls 6 [(0, .ref (K 0 0)), (1, .long x1), (3, .int x3), (4, .ref ao)] := hl
  refine lv_aload hx hb d_La_feed_0 (lv_at hl 3 rfl) ?_
  refine lv_iconst (v := 0) hx hb d_La_feed_2 (by decide) ?_
  refine lv_aload_n hx hb d_La_feed_3 rfl (lv_at hl 0 rfl) ?_
  refine lv_lload_n hx hb d_La_feed_4 rfl (lv_at hl 1 rfl) ?_
  refine lv_iload_n hx hb d_La_feed_5 rfl (lv_at hl 2 rfl) ?_
  obtain ⟨y1, htab, p1, p2, p3, p4⟩ := row_1 (rows_of B (hts _ List.mem_cons_self))
  refine cl_t (As := [.long x1, .int x3]) (b := K 0 0) (rest := [.int 0, .ref ao]) (E := "java/lang/IllegalArgumentException") (hpc := 21) hx hb (by rw [hml]; exact hl.1.symm) hown (c_Rn_feed_e1 (l := l) hfl (D := D) (A := A) (g := g) (rest := rest) (K := K) h) (cwV 2 ht (gd_V m_788 m_789 m_790 m_1 m_791) rfl rfl rfl (by decide +kernel) ⟨(Nat.le_of_ble_eq_true rfl), (Nat.le_of_ble_eq_true rfl)⟩) (prZV (ci := 8) (q0 := 0) hKK hZ hS hI (List.Perm.refl _) rfl rfl rfl) rfl (Nat.le_of_ble_eq_true rfl) d_La_feed_6 ⟨(Nat.le_of_ble_eq_true rfl), (Nat.le_of_ble_eq_true rfl)⟩ hS (fun T9 locs9 q9 ce X9 h1 h2 h3 => ?_) (fun q9 t H locs ht9 hvm hQ hS => ?_)
  · rw [← p3]
    exact ct_one X9 (g := F0 m 6 ls [.int 0, .ref ao]) rfl hown htab (cov (pc := 6) p1 p2 (by decide)) (by rw [p4]; decide) (by rw [p4]; exact ht _ m_667) (hZ.1.words _ (by simp [XW])) h1 h2 h3
  · obtain ⟨u, hI, hK9⟩ := hQ
    rw [ht9] at hI
    refine lv_astore hx hb d_La_feed_21 hl (Nat.le_of_ble_eq_true rfl) rfl (fun ls hl => ?_)
    refine lv_iconst (v := 1) hx hb d_La_feed_23 (by decide) ?_
    exact W.iret (v := 1) hx hb hr (fun t ht hW => ⟨⟨_, u, rfl, rfl, ⟨by rw [ht]; exact hI, hKK.moved hW⟩⟩, hS.F ht⟩) hS.2.2 d_La_feed_24
set_option maxRecDepth 100000 in
set_option maxHeartbeats 8000000 in
theorem c_La_take {l : Launch} {D : va_G} {A : Nat → Prop} {g : Nat → ClassId} {gL : ClassId} {rest : va_W} {K : Nat → Nat → Nat} {g1 g2 : Nat} {ao : Nat} {f : Nat → Int64} {s0 : S_Rn} {so : S_Ou}  {out : Int32 × S_Ou} (h : F_Rn_take s0 so = some out) : Met l y_La_take ws_La_take { frames := 2, cells := 0, slots := 0, locals := 41 } (PcL D A g gL [.ref (K 0 0), .ref ao] (w_Rn g (K 0) (fun j => K (j + 1) 0) s0 ++ (w_Ou g (K 7) so ++ (arL gL ao f ++ (rest))))) (QcI D A g 0 (fun (_ : Unit) => w_Rn g (K 0) (fun j => K (j + 1) 0) s0 ++ (w_Ou g (K 7) out.2 ++ (arL gL ao (vp_updL f (0 : Int32).toNatClampNeg (out.1.toInt64)) ++ (rest))))) 0 0 A := by
  refine va_MetW (cc := method_7_code) (maxL := 3) (ret := some .int) (hh := [(0, 8, 11, 24)]) (by decide) rfl ?_
  intro p e s m args below meth c s₁ B hml hv
  obtain ⟨rfl, hI, hKK, hKL⟩ := hv
  have hx := B.exec
  have hb := B.bytes
  have hr := B.returns
  have hts := atoms_spec (ws := ws_La_take) B.pre
  have ht := fun w (h : w ∈ TB) => hts w (List.mem_cons_of_mem _ h)
  have hown : s.vm.findClass R_La = some m.cls := findClass_of_methodNamed B.named
  have hS : va_S A s.heap s.heap [] := va_S.rf
  have hl := lv_entry [.ref (K 0 0), .ref ao] (n := 3) (Nat.le_of_ble_eq_true rfl)
  rw [lg_entry_eq]
  generalize (lg_sl [.ref (K 0 0), .ref ao] ++ List.replicate (3 - (lg_sl [.ref (K 0 0), .ref ao]).length) Slot.unset).toArray = ls at hl ⊢
  have hl : lv_has ls 3 [(0, .ref (K 0 0)), (1, .ref ao)] := hl
  refine lv_aload_n hx hb d_La_take_0 rfl (lv_at hl 1 rfl) ?_
  refine lv_iconst (v := 0) hx hb d_La_take_1 (by decide) ?_
  refine lv_aload_n hx hb d_La_take_2 rfl (lv_at hl 0 rfl) ?_
  refine cl_i (W1 := fun (_ : Unit) => arL gL ao f ++ (w_Rn g (K 0) (fun j => K (j + 1) 0) s0 ++ (w_Ou g (K 7) out.2 ++ (rest)))) (va_runV (As := []) (rest := [.int 0, .ref ao]) ⟨hx, hb, hml, hown, ht⟩ (c_Rn_take (l := l) (D := D) (A := A) (g := g) (rest := arL gL ao f ++ (rest)) (K := K) h) (cwV 0 ht (gd_V m_795 m_796 m_797 m_1 m_798) rfl rfl rfl (by decide +kernel) ⟨(Nat.le_of_ble_eq_true rfl), (Nat.le_of_ble_eq_true rfl)⟩) (prV (ci := 8) (q0 := 0) hKK hI (pmn (rest := rest) [w_Rn g (K 0) (fun j => K (j + 1) 0) s0, w_Ou g (K 7) so, arL gL ao f] [w_Rn g (K 0) (fun j => K (j + 1) 0) s0, w_Ou g (K 7) so, arL gL ao f] [0, 1, 2] 3 rfl rfl (by decide)) rfl rfl rfl) rfl rfl hl.1 rfl (lv_room (Nat.le_of_ble_eq_true rfl)) d_La_take_3 ⟨(Nat.le_of_ble_eq_true rfl), (Nat.le_of_ble_eq_true rfl)⟩) hS (fun _ => (pmn (rest := rest) [w_Rn g (K 0) (fun j => K (j + 1) 0) s0, w_Ou g (K 7) out.2, arL gL ao f] [arL gL ao f, w_Rn g (K 0) (fun j => K (j + 1) 0) s0, w_Ou g (K 7) out.2] [2, 0, 1] 3 rfl rfl (by decide))) (fun _ H locs hI hS => ?_)
  have hI : Iw D A (arL gL ao f ++ (w_Rn g (K 0) (fun j => K (j + 1) 0) s0 ++ (w_Ou g (K 7) out.2 ++ (rest)))) H := hI
  refine lv_i2l hx hb d_La_take_6 rfl ?_
  refine va_last hx hb hKL hI.1 hI.2 hS 0 0 rfl rfl (by unfold vp_in; decide) d_La_take_7 (fun H locs hP hD hS => ?_)
  have hI : Iw D A (arL gL ao (vp_updL f (0 : Int32).toNatClampNeg (out.1.toInt64)) ++ (w_Rn g (K 0) (fun j => K (j + 1) 0) s0 ++ (w_Ou g (K 7) out.2 ++ (rest)))) H := ⟨hP, hD⟩
  refine lv_goto (tgt := 14) hx hb d_La_take_8 (by decide) ?_
  refine lv_iconst (v := 0) hx hb d_La_take_14 (by decide) ?_
  exact W.iret (v := 0) hx hb hr (fun t ht hW => ⟨⟨_, (), rfl, rfl, ⟨by rw [ht]; exact hI.pm (pmn (rest := rest) [arL gL ao (vp_updL f (0 : Int32).toNatClampNeg (out.1.toInt64)), w_Rn g (K 0) (fun j => K (j + 1) 0) s0, w_Ou g (K 7) out.2] [w_Rn g (K 0) (fun j => K (j + 1) 0) s0, w_Ou g (K 7) out.2, arL gL ao (vp_updL f (0 : Int32).toNatClampNeg (out.1.toInt64))] [1, 2, 0] 3 rfl rfl (by decide)), hKK.moved hW⟩⟩, hS.F ht⟩) hS.2.2 d_La_take_15
set_option maxRecDepth 100000 in
set_option maxHeartbeats 8000000 in
theorem c_La_take_e1 {l : Launch} (hfl : l.flags = flags0) {D : va_G} {A : Nat → Prop} {g : Nat → ClassId} {gL : ClassId} {rest : va_W} {K : Nat → Nat → Nat} {g1 g2 : Nat} {ao : Nat} {f : Nat → Int64} {s0 : S_Rn} {so : S_Ou}  {out : Unit} (h : F_Rn_take_e1 s0 so = some out) : Met l y_La_take ws_La_take { frames := 7, cells := 1, slots := 6, locals := 119 } (PcX D A g [.ref (K 0 0), .ref ao] (w_Rn g (K 0) (fun j => K (j + 1) 0) s0 ++ (w_Ou g (K 7) so ++ (rest)))) (QcI D A g 1 (fun (u : Unit) => w_Rn g (K 0) (fun j => K (j + 1) 0) s0 ++ (w_Ou g (K 7) so ++ (rest)))) 1 6 A := by
  refine va_MetW (cc := method_7_code) (maxL := 3) (ret := some .int) (hh := [(0, 8, 11, 24)]) (by decide) rfl ?_
  intro p e s m args below meth c s₁ B hml hv
  obtain ⟨rfl, hI, hKK, hZ, hN⟩ := hv
  have hx := B.exec
  have hb := B.bytes
  have hr := B.returns
  have hts := atoms_spec (ws := ws_La_take) B.pre
  have ht := fun w (h : w ∈ TB) => hts w (List.mem_cons_of_mem _ h)
  have hown : s.vm.findClass R_La = some m.cls := findClass_of_methodNamed B.named
  have hS : va_S A s.heap s.heap [] := va_S.rf
  have hl := lv_entry [.ref (K 0 0), .ref ao] (n := 3) (Nat.le_of_ble_eq_true rfl)
  rw [lg_entry_eq]
  generalize (lg_sl [.ref (K 0 0), .ref ao] ++ List.replicate (3 - (lg_sl [.ref (K 0 0), .ref ao]).length) Slot.unset).toArray = ls at hl ⊢
  have hl : lv_has ls 3 [(0, .ref (K 0 0)), (1, .ref ao)] := hl
  refine lv_aload_n hx hb d_La_take_0 rfl (lv_at hl 1 rfl) ?_
  refine lv_iconst (v := 0) hx hb d_La_take_1 (by decide) ?_
  refine lv_aload_n hx hb d_La_take_2 rfl (lv_at hl 0 rfl) ?_
  obtain ⟨y1, htab, p1, p2, p3, p4⟩ := row_1 (rows_of B (hts _ List.mem_cons_self))
  refine cl_t (As := []) (b := K 0 0) (rest := [.int 0, .ref ao]) (E := "java/util/NoSuchElementException") (hpc := 11) hx hb (by rw [hml]; exact hl.1.symm) hown (c_Rn_take_e1 (l := l) hfl (D := D) (A := A) (g := g) (rest := rest) (K := K) h) (cwV 0 ht (gd_V m_795 m_796 m_797 m_1 m_798) rfl rfl rfl (by decide +kernel) ⟨(Nat.le_of_ble_eq_true rfl), (Nat.le_of_ble_eq_true rfl)⟩) (prZV (ci := 8) (q0 := 0) hKK hZ hS hI (List.Perm.refl _) rfl rfl rfl) rfl (Nat.le_of_ble_eq_true rfl) d_La_take_3 ⟨(Nat.le_of_ble_eq_true rfl), (Nat.le_of_ble_eq_true rfl)⟩ hS (fun T9 locs9 q9 ce X9 h1 h2 h3 => ?_) (fun q9 t H locs ht9 hvm hQ hS => ?_)
  · rw [← p3]
    exact ct_one X9 (g := F0 m 3 ls [.int 0, .ref ao]) rfl hown htab (cov (pc := 3) p1 p2 (by decide)) (by rw [p4]; decide) (by rw [p4]; exact ht _ m_765) (hZ.1.words _ (by simp [XW])) h1 h2 h3
  · obtain ⟨u, hI, hK9⟩ := hQ
    rw [ht9] at hI
    refine lv_astore_n hx hb d_La_take_11 rfl hl (Nat.le_of_ble_eq_true rfl) rfl (fun ls hl => ?_)
    refine lv_iconst (v := 1) hx hb d_La_take_12 (by decide) ?_
    exact W.iret (v := 1) hx hb hr (fun t ht hW => ⟨⟨_, u, rfl, rfl, ⟨by rw [ht]; exact hI, hKK.moved hW⟩⟩, hS.F ht⟩) hS.2.2 d_La_take_13
set_option maxRecDepth 100000 in
set_option maxHeartbeats 8000000 in
theorem c_La_record {l : Launch} {D : va_G} {A : Nat → Prop} {g : Nat → ClassId} {gL : ClassId} {rest : va_W} {K : Nat → Nat → Nat} {g1 g2 : Nat} {ao : Nat} {f : Nat → Int64} {s0 : S_Rn} {rs : S_Rs} {x1 : Int32} {x2 : Int32} {out : Int32} (h : F_Rn_record s0 rs x1 x2 = some out) : Met l y_La_record ws_La_record { frames := 2, cells := 0, slots := 0, locals := 43 } (PcL D A g gL [.ref (K 0 0), .int x1, .int x2, .ref ao] (w_Rn g (K 0) (fun j => K (j + 1) 0) s0 ++ (w_Rs g (K 10) (fun k => K (16 + 2 * k)) (fun k => K (17 + 2 * k)) rs ++ (arL gL ao f ++ (rest))))) (QcI D A g 0 (fun (_ : Unit) => w_Rn g (K 0) (fun j => K (j + 1) 0) s0 ++ (w_Rs g (K 10) (fun k => K (16 + 2 * k)) (fun k => K (17 + 2 * k)) rs ++ (arL gL ao (vp_updL f (0 : Int32).toNatClampNeg (out.toInt64)) ++ (rest))))) 0 0 A := by
  refine va_MetW (cc := method_8_code) (maxL := 5) (ret := some .int) (hh := [(0, 10, 13, 24)]) (by decide) rfl ?_
  intro p e s m args below meth c s₁ B hml hv
  obtain ⟨rfl, hI, hKK, hKL⟩ := hv
  have hx := B.exec
  have hb := B.bytes
  have hr := B.returns
  have hts := atoms_spec (ws := ws_La_record) B.pre
  have ht := fun w (h : w ∈ TB) => hts w (List.mem_cons_of_mem _ h)
  have hown : s.vm.findClass R_La = some m.cls := findClass_of_methodNamed B.named
  have hS : va_S A s.heap s.heap [] := va_S.rf
  have hl := lv_entry [.ref (K 0 0), .int x1, .int x2, .ref ao] (n := 5) (Nat.le_of_ble_eq_true rfl)
  rw [lg_entry_eq]
  generalize (lg_sl [.ref (K 0 0), .int x1, .int x2, .ref ao] ++ List.replicate (5 - (lg_sl [.ref (K 0 0), .int x1, .int x2, .ref ao]).length) Slot.unset).toArray = ls at hl ⊢
  have hl : lv_has ls 5 [(0, .ref (K 0 0)), (1, .int x1), (2, .int x2), (3, .ref ao)] := hl
  refine lv_aload_n hx hb d_La_record_0 rfl (lv_at hl 3 rfl) ?_
  refine lv_iconst (v := 0) hx hb d_La_record_1 (by decide) ?_
  refine lv_aload_n hx hb d_La_record_2 rfl (lv_at hl 0 rfl) ?_
  refine lv_iload_n hx hb d_La_record_3 rfl (lv_at hl 1 rfl) ?_
  refine lv_iload_n hx hb d_La_record_4 rfl (lv_at hl 2 rfl) ?_
  refine cl_i (W1 := fun (_ : Unit) => arL gL ao f ++ (w_Rn g (K 0) (fun j => K (j + 1) 0) s0 ++ (w_Rs g (K 10) (fun k => K (16 + 2 * k)) (fun k => K (17 + 2 * k)) rs ++ (rest)))) (va_runV (As := [.int x1, .int x2]) (rest := [.int 0, .ref ao]) ⟨hx, hb, hml, hown, ht⟩ (c_Rn_record (l := l) (D := D) (A := A) (g := g) (rest := arL gL ao f ++ (rest)) (K := K) h) (cwV 2 ht (gd_V m_806 m_807 m_808 m_1 m_809) rfl rfl rfl (by decide +kernel) ⟨(Nat.le_of_ble_eq_true rfl), (Nat.le_of_ble_eq_true rfl)⟩) (prV (ci := 8) (q0 := 0) hKK hI (pmn (rest := rest) [w_Rn g (K 0) (fun j => K (j + 1) 0) s0, w_Rs g (K 10) (fun k => K (16 + 2 * k)) (fun k => K (17 + 2 * k)) rs, arL gL ao f] [w_Rn g (K 0) (fun j => K (j + 1) 0) s0, w_Rs g (K 10) (fun k => K (16 + 2 * k)) (fun k => K (17 + 2 * k)) rs, arL gL ao f] [0, 1, 2] 3 rfl rfl (by decide)) rfl rfl rfl) rfl rfl hl.1 rfl (lv_room (Nat.le_of_ble_eq_true rfl)) d_La_record_5 ⟨(Nat.le_of_ble_eq_true rfl), (Nat.le_of_ble_eq_true rfl)⟩) hS (fun _ => (pmn (rest := rest) [w_Rn g (K 0) (fun j => K (j + 1) 0) s0, w_Rs g (K 10) (fun k => K (16 + 2 * k)) (fun k => K (17 + 2 * k)) rs, arL gL ao f] [arL gL ao f, w_Rn g (K 0) (fun j => K (j + 1) 0) s0, w_Rs g (K 10) (fun k => K (16 + 2 * k)) (fun k => K (17 + 2 * k)) rs] [2, 0, 1] 3 rfl rfl (by decide))) (fun _ H locs hI hS => ?_)
  have hI : Iw D A (arL gL ao f ++ (w_Rn g (K 0) (fun j => K (j + 1) 0) s0 ++ (w_Rs g (K 10) (fun k => K (16 + 2 * k)) (fun k => K (17 + 2 * k)) rs ++ (rest)))) H := hI
  refine lv_i2l hx hb d_La_record_8 rfl ?_
  refine va_last hx hb hKL hI.1 hI.2 hS 0 0 rfl rfl (by unfold vp_in; decide) d_La_record_9 (fun H locs hP hD hS => ?_)
  have hI : Iw D A (arL gL ao (vp_updL f (0 : Int32).toNatClampNeg (out.toInt64)) ++ (w_Rn g (K 0) (fun j => K (j + 1) 0) s0 ++ (w_Rs g (K 10) (fun k => K (16 + 2 * k)) (fun k => K (17 + 2 * k)) rs ++ (rest)))) H := ⟨hP, hD⟩
  refine lv_goto (tgt := 17) hx hb d_La_record_10 (by decide) ?_
  refine lv_iconst (v := 0) hx hb d_La_record_17 (by decide) ?_
  exact W.iret (v := 0) hx hb hr (fun t ht hW => ⟨⟨_, (), rfl, rfl, ⟨by rw [ht]; exact hI.pm (pmn (rest := rest) [arL gL ao (vp_updL f (0 : Int32).toNatClampNeg (out.toInt64)), w_Rn g (K 0) (fun j => K (j + 1) 0) s0, w_Rs g (K 10) (fun k => K (16 + 2 * k)) (fun k => K (17 + 2 * k)) rs] [w_Rn g (K 0) (fun j => K (j + 1) 0) s0, w_Rs g (K 10) (fun k => K (16 + 2 * k)) (fun k => K (17 + 2 * k)) rs, arL gL ao (vp_updL f (0 : Int32).toNatClampNeg (out.toInt64))] [1, 2, 0] 3 rfl rfl (by decide)), hKK.moved hW⟩⟩, hS.F ht⟩) hS.2.2 d_La_record_18
set_option maxRecDepth 100000 in
set_option maxHeartbeats 8000000 in
theorem c_La_record_e1 {l : Launch} (hfl : l.flags = flags0) {D : va_G} {A : Nat → Prop} {g : Nat → ClassId} {gL : ClassId} {rest : va_W} {K : Nat → Nat → Nat} {g1 g2 : Nat} {ao : Nat} {f : Nat → Int64} {s0 : S_Rn} {rs : S_Rs} {x1 : Int32} {x2 : Int32} {out : Unit} (h : F_Rn_record_e1 s0 rs x1 x2 = some out) : Met l y_La_record ws_La_record { frames := 7, cells := 1, slots := 6, locals := 121 } (PcX D A g [.ref (K 0 0), .int x1, .int x2, .ref ao] (w_Rn g (K 0) (fun j => K (j + 1) 0) s0 ++ (w_Rs g (K 10) (fun k => K (16 + 2 * k)) (fun k => K (17 + 2 * k)) rs ++ (rest)))) (QcI D A g 1 (fun (u : Unit) => w_Rn g (K 0) (fun j => K (j + 1) 0) s0 ++ (w_Rs g (K 10) (fun k => K (16 + 2 * k)) (fun k => K (17 + 2 * k)) rs ++ (rest)))) 1 6 A := by
  refine va_MetW (cc := method_8_code) (maxL := 5) (ret := some .int) (hh := [(0, 10, 13, 24)]) (by decide) rfl ?_
  intro p e s m args below meth c s₁ B hml hv
  obtain ⟨rfl, hI, hKK, hZ, hN⟩ := hv
  have hx := B.exec
  have hb := B.bytes
  have hr := B.returns
  have hts := atoms_spec (ws := ws_La_record) B.pre
  have ht := fun w (h : w ∈ TB) => hts w (List.mem_cons_of_mem _ h)
  have hown : s.vm.findClass R_La = some m.cls := findClass_of_methodNamed B.named
  have hS : va_S A s.heap s.heap [] := va_S.rf
  have hl := lv_entry [.ref (K 0 0), .int x1, .int x2, .ref ao] (n := 5) (Nat.le_of_ble_eq_true rfl)
  rw [lg_entry_eq]
  generalize (lg_sl [.ref (K 0 0), .int x1, .int x2, .ref ao] ++ List.replicate (5 - (lg_sl [.ref (K 0 0), .int x1, .int x2, .ref ao]).length) Slot.unset).toArray = ls at hl ⊢
  have hl : lv_has ls 5 [(0, .ref (K 0 0)), (1, .int x1), (2, .int x2), (3, .ref ao)] := hl
  refine lv_aload_n hx hb d_La_record_0 rfl (lv_at hl 3 rfl) ?_
  refine lv_iconst (v := 0) hx hb d_La_record_1 (by decide) ?_
  refine lv_aload_n hx hb d_La_record_2 rfl (lv_at hl 0 rfl) ?_
  refine lv_iload_n hx hb d_La_record_3 rfl (lv_at hl 1 rfl) ?_
  refine lv_iload_n hx hb d_La_record_4 rfl (lv_at hl 2 rfl) ?_
  obtain ⟨y1, htab, p1, p2, p3, p4⟩ := row_1 (rows_of B (hts _ List.mem_cons_self))
  refine cl_t (As := [.int x1, .int x2]) (b := K 0 0) (rest := [.int 0, .ref ao]) (E := "java/util/NoSuchElementException") (hpc := 13) hx hb (by rw [hml]; exact hl.1.symm) hown (c_Rn_record_e1 (l := l) hfl (D := D) (A := A) (g := g) (rest := rest) (K := K) h) (cwV 2 ht (gd_V m_806 m_807 m_808 m_1 m_809) rfl rfl rfl (by decide +kernel) ⟨(Nat.le_of_ble_eq_true rfl), (Nat.le_of_ble_eq_true rfl)⟩) (prZV (ci := 8) (q0 := 0) hKK hZ hS hI (List.Perm.refl _) rfl rfl rfl) rfl (Nat.le_of_ble_eq_true rfl) d_La_record_5 ⟨(Nat.le_of_ble_eq_true rfl), (Nat.le_of_ble_eq_true rfl)⟩ hS (fun T9 locs9 q9 ce X9 h1 h2 h3 => ?_) (fun q9 t H locs ht9 hvm hQ hS => ?_)
  · rw [← p3]
    exact ct_one X9 (g := F0 m 5 ls [.int 0, .ref ao]) rfl hown htab (cov (pc := 5) p1 p2 (by decide)) (by rw [p4]; decide) (by rw [p4]; exact ht _ m_765) (hZ.1.words _ (by simp [XW])) h1 h2 h3
  · obtain ⟨u, hI, hK9⟩ := hQ
    rw [ht9] at hI
    refine lv_astore hx hb d_La_record_13 hl (Nat.le_of_ble_eq_true rfl) rfl (fun ls hl => ?_)
    refine lv_iconst (v := 1) hx hb d_La_record_15 (by decide) ?_
    exact W.iret (v := 1) hx hb hr (fun t ht hW => ⟨⟨_, u, rfl, rfl, ⟨by rw [ht]; exact hI, hKK.moved hW⟩⟩, hS.F ht⟩) hS.2.2 d_La_record_16
