theorem m_15 : Cond.initialized "java/lang/IllegalArgumentException" ∈ TB := TB_in 93 (by decide +kernel) rfl
theorem m_16 : Cond.initialized "java/lang/IllegalStateException" ∈ TB := TB_in 94 (by decide +kernel) rfl
theorem m_17 : Cond.initialized "java/util/NoSuchElementException" ∈ TB := TB_in 95 (by decide +kernel) rfl
theorem m_675 : Cond.classLink R_Rn 108 "java/lang/IllegalArgumentException" ∈ TB := TB_in 753 (by decide +kernel) rfl
theorem m_746 : Cond.classLink R_Rn 129 "java/lang/IllegalStateException" ∈ TB := TB_in 824 (by decide +kernel) rfl
theorem m_770 : Cond.classLink R_Rn 136 "java/util/NoSuchElementException" ∈ TB := TB_in 848 (by decide +kernel) rfl
/-! methods that throw: their contracts -/
theorem W_mono {p : Program} {l : Launch} {e : Env} {R : Room} {s : State} {m : MethodId} {args : Array Value} {below : List Frame} {meth : Method} {c : Code} {H : Heap} {locs : List Loc} {cells slots : Nat} {Q Q' : State → Prop} {g : JFrame} (h : ∀ t, Q t → Q' t) (k : W p l e R s m args below meth c H locs cells slots Q g) : W p l e R s m args below meth c H locs cells slots Q' g := by
  intro T hT X
  obtain ⟨t, a, b⟩ := k T hT X
  exact ⟨t, a, h t b⟩
theorem MQT_mono {below : List Frame} {E : String} {Qx Qy : State → Prop} {a : Array Value} {s : State} {mc ms : Nat} {free : Addr → Prop} (h : ∀ t, Qx t → Qy t) : ∀ t, MQT below E Qx a s mc ms free t → MQT below E Qy a s mc ms free t := by
  rintro t ⟨o, h1, h2, q, ce, L, h3, h4, h5, h6, h7, h8, h9, h10⟩
  exact ⟨o, h1, h2, q, ce, L, h3, h4, h5, h6, h7, h8, h9, h t h10⟩
abbrev PcZ (D : va_G) (A : Nat → Prop) (g : Nat → ClassId) (av : List Value) (ws : va_W) : Array Value → State → Prop := va_Pc av (fun U => Iw D A ws U.heap ∧ KK D g U ∧ SZ A U U.heap)
theorem hat_of {L : List Cond} (h : L.all (fun a => (decide (a ∈ lw_tbl) && goodWord a) || decide (a ∈ thW)) = true) : ∀ a ∈ L, a ∈ TB ∨ a ∈ thW := fun a ha => by
  have h1 := List.all_eq_true.mp h a ha
  simp only [Bool.or_eq_true, Bool.and_eq_true, decide_eq_true_eq] at h1
  exact h1.imp (fun z => List.mem_filter.mpr z) id
theorem no_rows {p : Program} {l : Launch} {y : MethodName} {S : Spec} {cc : ByteArray} {maxL : Nat} {ret : Option FieldType} {e : Env} {s : State} {m : MethodId} {args : Array Value} {below : List Frame} {meth : Method} {c : Code} {s₁ : State} (B : BodyLoose p l y S cc maxL ret e s m args below meth c s₁) (h : (Cond.code y cc maxL ret).before args s = true) : ∀ x ∈ c.exceptionTable.toList, ∀ pc, covers x pc = false := by
  obtain ⟨meth', c', h1, h2, -, -, -, -, h7, -⟩ := Cond.code_spec B.named h
  have hm : meth' = meth := Option.some.inj (h1.symm.trans B.method)
  subst hm
  have hc : c' = c := Option.some.inj (h2.symm.trans (Stand.of_body B).code)
  subst hc
  intro x hx
  rw [Array.isEmpty_iff] at h7
  rw [h7] at hx
  cases hx

set_option maxRecDepth 100000 in
theorem hat_Rn_check_e1 : ∀ a ∈ Bundle.ownAtoms0 R_Rn 110 "java/lang/IllegalArgumentException" ["java/lang/RuntimeException", "java/lang/Exception"], a ∈ TB ∨ a ∈ thW := hat_of (by decide +kernel)
def B_Rn_check_e1_7 (s0 : S_Rn) : Option Unit :=
  some ()
def B_Rn_check_e1_0 (s0 : S_Rn) (x1 : Int32) : Option Unit :=
  ((F_Rn_isSyntax x1).bind fun o1 => (if o1 = 0 then (B_Rn_check_e1_7 s0) else none))
def F_Rn_check_e1 (s0 : S_Rn) (x1 : Int32) : Option Unit := B_Rn_check_e1_0 s0 x1
set_option maxRecDepth 100000 in
set_option maxHeartbeats 4000000 in
theorem t_Rn_check_e1_7 {p : Program} {l : Launch} {e : Env} {s : State} {m : MethodId} {args : Array Value} {below : List Frame} {meth : Method} {c : Code} {D : va_G} {A : Nat → Prop} {g : Nat → ClassId} {rest : va_W} {K : Nat → Nat → Nat} {ls : Array Slot} {H : Heap} {locs : List Loc} {s0 : S_Rn} {out : Unit} (X : Cx p s m args meth c prog_1_method_4_code 2 ws_Rn_check R_Rn (some .int) D g) (hZ : SZ A s s.heap) (hfl : l.flags = flags0) (hout : ∀ x ∈ c.exceptionTable.toList, ∀ pc, covers x pc = false) (hl : lv_has ls 2 []) (hI : Iw D A (w_Rn g (K 0) (fun j => K (j + 1) 0) s0 ++ (rest)) H) (hS : va_S A s.heap H locs) (h : B_Rn_check_e1_7 s0 = some out) : W p l e (headSpec ws_Rn_check { frames := 6, cells := 1, slots := 6, locals := 99 }).room s m args below meth c H locs 0 0 (MQT below "java/lang/IllegalArgumentException" (fun t => ∃ (u : Unit), Iw D A (w_Rn g (K 0) (fun j => K (j + 1) 0) s0 ++ (rest)) t.heap ∧ KK D g t) args s 1 6 A) (F0 m 7 ls []) := by
  have X1 := X
  obtain ⟨hx, hb, hml, hown, hts, hr, hlocks, hKK⟩ := X1
  have ht : ∀ w ∈ TB, w.before args s = true := fun w h => hts w (List.mem_cons_of_mem _ h)
  have hK := hKK.1
  unfold B_Rn_check_e1_7 at h
  have h9 := Option.some.inj h
  subst h9
  refine W_mono ?_ (th_new (D := D) (A := A) (g := g) (own := R_Rn) (cls := "java/lang/IllegalArgumentException") (names := ["java/lang/RuntimeException", "java/lang/Exception"]) (ik := 108) (ic := 110) hx hb hfl (by rw [hml]; exact hl.1.symm) hown ht hlocks hKK hZ hI hS (by decide +kernel) (by decide +kernel) m_675 m_15 hat_Rn_check_e1 d_Rn_check_7 d_Rn_check_10 d_Rn_check_11 d_Rn_check_14 (fun x hx => hout x hx _) (Nat.le_of_ble_eq_true rfl) (Nat.le_of_ble_eq_true rfl) (Nat.le_of_ble_eq_true rfl) (Nat.le_of_ble_eq_true rfl))
  exact fun t ht => MQT_mono (fun t h => ⟨(), h⟩) t ht
set_option maxRecDepth 100000 in
set_option maxHeartbeats 4000000 in
theorem t_Rn_check_e1_0 {p : Program} {l : Launch} {e : Env} {s : State} {m : MethodId} {args : Array Value} {below : List Frame} {meth : Method} {c : Code} {D : va_G} {A : Nat → Prop} {g : Nat → ClassId} {rest : va_W} {K : Nat → Nat → Nat} {ls : Array Slot} {H : Heap} {locs : List Loc} {s0 : S_Rn} {x1 : Int32} {out : Unit} (X : Cx p s m args meth c prog_1_method_4_code 2 ws_Rn_check R_Rn (some .int) D g) (hZ : SZ A s s.heap) (hfl : l.flags = flags0) (hout : ∀ x ∈ c.exceptionTable.toList, ∀ pc, covers x pc = false) (hl : lv_has ls 2 [(0, .ref (K 0 0)), (1, .int x1)]) (hI : Iw D A (w_Rn g (K 0) (fun j => K (j + 1) 0) s0 ++ (rest)) H) (hS : va_S A s.heap H locs) (h : B_Rn_check_e1_0 s0 x1 = some out) : W p l e (headSpec ws_Rn_check { frames := 6, cells := 1, slots := 6, locals := 99 }).room s m args below meth c H locs 0 0 (MQT below "java/lang/IllegalArgumentException" (fun t => ∃ (u : Unit), Iw D A (w_Rn g (K 0) (fun j => K (j + 1) 0) s0 ++ (rest)) t.heap ∧ KK D g t) args s 1 6 A) (F0 m 0 ls []) := by
  have X1 := X
  obtain ⟨hx, hb, hml, hown, hts, hr, hlocks, hKK⟩ := X1
  have ht : ∀ w ∈ TB, w.before args s = true := fun w h => hts w (List.mem_cons_of_mem _ h)
  have hK := hKK.1
  unfold B_Rn_check_e1_0 at h
  refine lv_iload_n hx hb d_Rn_check_0 rfl (lv_at hl 1 rfl) ?_
  obtain ⟨o1, ho2, h⟩ := bd_s h
  refine cl_i (W1 := fun (_ : Unit) => w_Rn g (K 0) (fun j => K (j + 1) 0) s0 ++ (rest)) (va_runS (As := [.int x1]) (rest := []) ⟨hx, hb, hml, hown, ht⟩ (c_Rn_isSyntax (l := l) (D := D) (A := A) (g := g) (rest := w_Rn g (K 0) (fun j => K (j + 1) 0) s0 ++ (rest))  ho2) (va_cwS 1 ht (gd_S m_672 m_673 m_1 m_674) rfl rfl rfl (by decide +kernel) ⟨(Nat.le_of_ble_eq_true rfl), (Nat.le_of_ble_eq_true rfl)⟩) (prS hKK hI (List.Perm.refl _)) rfl rfl hl.1 rfl (lv_room (Nat.le_of_ble_eq_true rfl)) d_Rn_check_1 ⟨(Nat.le_of_ble_eq_true rfl), (Nat.le_of_ble_eq_true rfl)⟩) hS (fun _ => ((List.Perm.refl _)).symm) (fun _ H locs hI hS => ?_)
  have hI : Iw D A (w_Rn g (K 0) (fun j => K (j + 1) 0) s0 ++ (rest)) H := hI
  refine lv_if_ne (tgt := 15) hx hb d_Rn_check_4 (by decide) (fun hc => ?_) (fun hc => ?_)
  · have h := it_f h hc
    exact no_s h
  · have h := it_t h hc
    exact t_Rn_check_e1_7 X hZ hfl hout (lv_sub hl [] rfl) hI hS h
set_option maxRecDepth 100000 in
set_option maxHeartbeats 4000000 in
theorem c_Rn_check_e1 {l : Launch} (hfl : l.flags = flags0) {D : va_G} {A : Nat → Prop} {g : Nat → ClassId} {rest : va_W} {K : Nat → Nat → Nat} {s0 : S_Rn} {x1 : Int32} {out : Unit} (h : F_Rn_check_e1 s0 x1 = some out) : MetT l y_Rn_check ws_Rn_check { frames := 6, cells := 1, slots := 6, locals := 99 } (PcZ D A g [.ref (K 0 0), .int x1] (w_Rn g (K 0) (fun j => K (j + 1) 0) s0 ++ (rest))) "java/lang/IllegalArgumentException" (fun t => ∃ (u : Unit), Iw D A (w_Rn g (K 0) (fun j => K (j + 1) 0) s0 ++ (rest)) t.heap ∧ KK D g t) 1 6 A := by
  refine MetT.ofW (cc := prog_1_method_4_code) (maxL := 2) (ret := (some .int)) (by decide) rfl ?_
  intro p e s m args below meth c s₁ B hml hv
  obtain ⟨rfl, hI, hK, hZ⟩ := hv
  have hl := lv_entry [.ref (K 0 0), .int x1] (n := 2) (Nat.le_of_ble_eq_true rfl)
  rw [lg_entry_eq]
  generalize (lg_sl [.ref (K 0 0), .int x1] ++ List.replicate (2 - (lg_sl [.ref (K 0 0), .int x1]).length) Slot.unset).toArray = ls at hl ⊢
  have hl : lv_has ls 2 [(0, .ref (K 0 0)), (1, .int x1)] := hl
  have hts := atoms_spec (ws := ws_Rn_check) B.pre
  exact t_Rn_check_e1_0 ⟨B.exec, B.bytes, hml, findClass_of_methodNamed B.named, hts, B.returns, B.notSynchronized, hK⟩ hZ hfl (no_rows B (hts _ List.mem_cons_self)) (lv_sub hl [0, 1] rfl) hI va_S.rf h
set_option maxRecDepth 100000 in
theorem hat_Rn_convert_e1 : ∀ a ∈ Bundle.ownAtoms0 R_Rn 110 "java/lang/IllegalArgumentException" ["java/lang/RuntimeException", "java/lang/Exception"], a ∈ TB ∨ a ∈ thW := hat_of (by decide +kernel)
def B_Rn_convert_e1_14 (s0 : S_Rn) : Option Unit :=
  some ()
def B_Rn_convert_e1_7 (s0 : S_Rn) (x1 : Int32) (x2 : Int32) : Option Unit :=
  ((F_Rn_isSyntax x2).bind fun o1 => (if o1 = 0 then (B_Rn_convert_e1_14 s0) else none))
def B_Rn_convert_e1_0 (s0 : S_Rn) (x1 : Int32) (x2 : Int32) : Option Unit :=
  ((F_Rn_isSyntax x1).bind fun o1 => (if o1 = 0 then (B_Rn_convert_e1_14 s0) else (B_Rn_convert_e1_7 s0 x1 x2)))
def F_Rn_convert_e1 (s0 : S_Rn) (x1 : Int32) (x2 : Int32) : Option Unit := B_Rn_convert_e1_0 s0 x1 x2
set_option maxRecDepth 100000 in
set_option maxHeartbeats 4000000 in
theorem t_Rn_convert_e1_14 {p : Program} {l : Launch} {e : Env} {s : State} {m : MethodId} {args : Array Value} {below : List Frame} {meth : Method} {c : Code} {D : va_G} {A : Nat → Prop} {g : Nat → ClassId} {rest : va_W} {K : Nat → Nat → Nat} {ls : Array Slot} {H : Heap} {locs : List Loc} {s0 : S_Rn} {out : Unit} (X : Cx p s m args meth c prog_1_method_5_code 4 ws_Rn_convert R_Rn (some .int) D g) (hZ : SZ A s s.heap) (hfl : l.flags = flags0) (hout : ∀ x ∈ c.exceptionTable.toList, ∀ pc, covers x pc = false) (hl : lv_has ls 4 []) (hI : Iw D A (w_Rn g (K 0) (fun j => K (j + 1) 0) s0 ++ (rest)) H) (hS : va_S A s.heap H locs) (h : B_Rn_convert_e1_14 s0 = some out) : W p l e (headSpec ws_Rn_convert { frames := 6, cells := 1, slots := 6, locals := 99 }).room s m args below meth c H locs 0 0 (MQT below "java/lang/IllegalArgumentException" (fun t => ∃ (u : Unit), Iw D A (w_Rn g (K 0) (fun j => K (j + 1) 0) s0 ++ (rest)) t.heap ∧ KK D g t) args s 1 6 A) (F0 m 14 ls []) := by
  have X1 := X
  obtain ⟨hx, hb, hml, hown, hts, hr, hlocks, hKK⟩ := X1
  have ht : ∀ w ∈ TB, w.before args s = true := fun w h => hts w (List.mem_cons_of_mem _ h)
  have hK := hKK.1
  unfold B_Rn_convert_e1_14 at h
  have h9 := Option.some.inj h
  subst h9
  refine W_mono ?_ (th_new (D := D) (A := A) (g := g) (own := R_Rn) (cls := "java/lang/IllegalArgumentException") (names := ["java/lang/RuntimeException", "java/lang/Exception"]) (ik := 108) (ic := 110) hx hb hfl (by rw [hml]; exact hl.1.symm) hown ht hlocks hKK hZ hI hS (by decide +kernel) (by decide +kernel) m_675 m_15 hat_Rn_convert_e1 d_Rn_convert_14 d_Rn_convert_17 d_Rn_convert_18 d_Rn_convert_21 (fun x hx => hout x hx _) (Nat.le_of_ble_eq_true rfl) (Nat.le_of_ble_eq_true rfl) (Nat.le_of_ble_eq_true rfl) (Nat.le_of_ble_eq_true rfl))
  exact fun t ht => MQT_mono (fun t h => ⟨(), h⟩) t ht
set_option maxRecDepth 100000 in
set_option maxHeartbeats 4000000 in
theorem t_Rn_convert_e1_7 {p : Program} {l : Launch} {e : Env} {s : State} {m : MethodId} {args : Array Value} {below : List Frame} {meth : Method} {c : Code} {D : va_G} {A : Nat → Prop} {g : Nat → ClassId} {rest : va_W} {K : Nat → Nat → Nat} {ls : Array Slot} {H : Heap} {locs : List Loc} {s0 : S_Rn} {x1 : Int32} {x2 : Int32} {out : Unit} (X : Cx p s m args meth c prog_1_method_5_code 4 ws_Rn_convert R_Rn (some .int) D g) (hZ : SZ A s s.heap) (hfl : l.flags = flags0) (hout : ∀ x ∈ c.exceptionTable.toList, ∀ pc, covers x pc = false) (hl : lv_has ls 4 [(0, .ref (K 0 0)), (1, .int x1), (2, .int x2)]) (hI : Iw D A (w_Rn g (K 0) (fun j => K (j + 1) 0) s0 ++ (rest)) H) (hS : va_S A s.heap H locs) (h : B_Rn_convert_e1_7 s0 x1 x2 = some out) : W p l e (headSpec ws_Rn_convert { frames := 6, cells := 1, slots := 6, locals := 99 }).room s m args below meth c H locs 0 0 (MQT below "java/lang/IllegalArgumentException" (fun t => ∃ (u : Unit), Iw D A (w_Rn g (K 0) (fun j => K (j + 1) 0) s0 ++ (rest)) t.heap ∧ KK D g t) args s 1 6 A) (F0 m 7 ls []) := by
  have X1 := X
  obtain ⟨hx, hb, hml, hown, hts, hr, hlocks, hKK⟩ := X1
  have ht : ∀ w ∈ TB, w.before args s = true := fun w h => hts w (List.mem_cons_of_mem _ h)
  have hK := hKK.1
  unfold B_Rn_convert_e1_7 at h
  refine lv_iload_n hx hb d_Rn_convert_7 rfl (lv_at hl 2 rfl) ?_
  obtain ⟨o1, ho2, h⟩ := bd_s h
  refine cl_i (W1 := fun (_ : Unit) => w_Rn g (K 0) (fun j => K (j + 1) 0) s0 ++ (rest)) (va_runS (As := [.int x2]) (rest := []) ⟨hx, hb, hml, hown, ht⟩ (c_Rn_isSyntax (l := l) (D := D) (A := A) (g := g) (rest := w_Rn g (K 0) (fun j => K (j + 1) 0) s0 ++ (rest))  ho2) (va_cwS 1 ht (gd_S m_672 m_673 m_1 m_674) rfl rfl rfl (by decide +kernel) ⟨(Nat.le_of_ble_eq_true rfl), (Nat.le_of_ble_eq_true rfl)⟩) (prS hKK hI (List.Perm.refl _)) rfl rfl hl.1 rfl (lv_room (Nat.le_of_ble_eq_true rfl)) d_Rn_convert_8 ⟨(Nat.le_of_ble_eq_true rfl), (Nat.le_of_ble_eq_true rfl)⟩) hS (fun _ => ((List.Perm.refl _)).symm) (fun _ H locs hI hS => ?_)
  have hI : Iw D A (w_Rn g (K 0) (fun j => K (j + 1) 0) s0 ++ (rest)) H := hI
  refine lv_if_ne (tgt := 22) hx hb d_Rn_convert_11 (by decide) (fun hc => ?_) (fun hc => ?_)
  · have h := it_f h hc
    exact no_s h
  · have h := it_t h hc
    exact t_Rn_convert_e1_14 X hZ hfl hout (lv_sub hl [] rfl) hI hS h
set_option maxRecDepth 100000 in
set_option maxHeartbeats 4000000 in
theorem t_Rn_convert_e1_0 {p : Program} {l : Launch} {e : Env} {s : State} {m : MethodId} {args : Array Value} {below : List Frame} {meth : Method} {c : Code} {D : va_G} {A : Nat → Prop} {g : Nat → ClassId} {rest : va_W} {K : Nat → Nat → Nat} {ls : Array Slot} {H : Heap} {locs : List Loc} {s0 : S_Rn} {x1 : Int32} {x2 : Int32} {out : Unit} (X : Cx p s m args meth c prog_1_method_5_code 4 ws_Rn_convert R_Rn (some .int) D g) (hZ : SZ A s s.heap) (hfl : l.flags = flags0) (hout : ∀ x ∈ c.exceptionTable.toList, ∀ pc, covers x pc = false) (hl : lv_has ls 4 [(0, .ref (K 0 0)), (1, .int x1), (2, .int x2)]) (hI : Iw D A (w_Rn g (K 0) (fun j => K (j + 1) 0) s0 ++ (rest)) H) (hS : va_S A s.heap H locs) (h : B_Rn_convert_e1_0 s0 x1 x2 = some out) : W p l e (headSpec ws_Rn_convert { frames := 6, cells := 1, slots := 6, locals := 99 }).room s m args below meth c H locs 0 0 (MQT below "java/lang/IllegalArgumentException" (fun t => ∃ (u : Unit), Iw D A (w_Rn g (K 0) (fun j => K (j + 1) 0) s0 ++ (rest)) t.heap ∧ KK D g t) args s 1 6 A) (F0 m 0 ls []) := by
  have X1 := X
  obtain ⟨hx, hb, hml, hown, hts, hr, hlocks, hKK⟩ := X1
  have ht : ∀ w ∈ TB, w.before args s = true := fun w h => hts w (List.mem_cons_of_mem _ h)
  have hK := hKK.1
  unfold B_Rn_convert_e1_0 at h
  refine lv_iload_n hx hb d_Rn_convert_0 rfl (lv_at hl 1 rfl) ?_
  obtain ⟨o1, ho2, h⟩ := bd_s h
  refine cl_i (W1 := fun (_ : Unit) => w_Rn g (K 0) (fun j => K (j + 1) 0) s0 ++ (rest)) (va_runS (As := [.int x1]) (rest := []) ⟨hx, hb, hml, hown, ht⟩ (c_Rn_isSyntax (l := l) (D := D) (A := A) (g := g) (rest := w_Rn g (K 0) (fun j => K (j + 1) 0) s0 ++ (rest))  ho2) (va_cwS 1 ht (gd_S m_672 m_673 m_1 m_674) rfl rfl rfl (by decide +kernel) ⟨(Nat.le_of_ble_eq_true rfl), (Nat.le_of_ble_eq_true rfl)⟩) (prS hKK hI (List.Perm.refl _)) rfl rfl hl.1 rfl (lv_room (Nat.le_of_ble_eq_true rfl)) d_Rn_convert_1 ⟨(Nat.le_of_ble_eq_true rfl), (Nat.le_of_ble_eq_true rfl)⟩) hS (fun _ => ((List.Perm.refl _)).symm) (fun _ H locs hI hS => ?_)
  have hI : Iw D A (w_Rn g (K 0) (fun j => K (j + 1) 0) s0 ++ (rest)) H := hI
  refine lv_if_eq (tgt := 14) hx hb d_Rn_convert_4 (by decide) (fun hc => ?_) (fun hc => ?_)
  · have h := it_t h hc
    exact t_Rn_convert_e1_14 X hZ hfl hout (lv_sub hl [] rfl) hI hS h
  · have h := it_f h hc
    exact t_Rn_convert_e1_7 X hZ hfl hout (lv_sub hl [0, 1, 2] rfl) hI hS h
set_option maxRecDepth 100000 in
set_option maxHeartbeats 4000000 in
theorem c_Rn_convert_e1 {l : Launch} (hfl : l.flags = flags0) {D : va_G} {A : Nat → Prop} {g : Nat → ClassId} {rest : va_W} {K : Nat → Nat → Nat} {s0 : S_Rn} {x1 : Int32} {x2 : Int32} {out : Unit} (h : F_Rn_convert_e1 s0 x1 x2 = some out) : MetT l y_Rn_convert ws_Rn_convert { frames := 6, cells := 1, slots := 6, locals := 99 } (PcZ D A g [.ref (K 0 0), .int x1, .int x2] (w_Rn g (K 0) (fun j => K (j + 1) 0) s0 ++ (rest))) "java/lang/IllegalArgumentException" (fun t => ∃ (u : Unit), Iw D A (w_Rn g (K 0) (fun j => K (j + 1) 0) s0 ++ (rest)) t.heap ∧ KK D g t) 1 6 A := by
  refine MetT.ofW (cc := prog_1_method_5_code) (maxL := 4) (ret := (some .int)) (by decide) rfl ?_
  intro p e s m args below meth c s₁ B hml hv
  obtain ⟨rfl, hI, hK, hZ⟩ := hv
  have hl := lv_entry [.ref (K 0 0), .int x1, .int x2] (n := 4) (Nat.le_of_ble_eq_true rfl)
  rw [lg_entry_eq]
  generalize (lg_sl [.ref (K 0 0), .int x1, .int x2] ++ List.replicate (4 - (lg_sl [.ref (K 0 0), .int x1, .int x2]).length) Slot.unset).toArray = ls at hl ⊢
  have hl : lv_has ls 4 [(0, .ref (K 0 0)), (1, .int x1), (2, .int x2)] := hl
  have hts := atoms_spec (ws := ws_Rn_convert) B.pre
  exact t_Rn_convert_e1_0 ⟨B.exec, B.bytes, hml, findClass_of_methodNamed B.named, hts, B.returns, B.notSynchronized, hK⟩ hZ hfl (no_rows B (hts _ List.mem_cons_self)) (lv_sub hl [0, 1, 2] rfl) hI va_S.rf h
set_option maxRecDepth 100000 in
theorem hat_Rn_convert_e2 : ∀ a ∈ Bundle.ownAtoms0 R_Rn 131 "java/lang/IllegalStateException" ["java/lang/RuntimeException", "java/lang/Exception"], a ∈ TB ∨ a ∈ thW := hat_of (by decide +kernel)
def B_Rn_convert_e2_77 (s0 : S_Rn) (s2 : S_Bs) (s1 : S_Bs) (s3 : S_Rd) (s4 : S_Tr) : Option (S_Bs × S_Rd × S_Tr) :=
  some (s1, s3, s4)
def B_Rn_convert_e2_65 (s0 : S_Rn) (s2 : S_Bs) (s1 : S_Bs) (s3 : S_Rd) (s4 : S_Tr) : Option (S_Bs × S_Rd × S_Tr) :=
  ((F_Bs_count s1).bind fun o1 => (if o1 ≤ (120 : Int32) then none else (B_Rn_convert_e2_77 s0 s2 s1 s3 s4)))
def B_Rn_convert_e2_60 (s0 : S_Rn) (s2 : S_Bs) (s1 : S_Bs) (s3 : S_Rd) (s4 : S_Tr) (y0 : Int32) : Option (S_Bs × S_Rd × S_Tr) :=
  (if y0 = 0 then (B_Rn_convert_e2_77 s0 s2 s1 s3 s4) else (B_Rn_convert_e2_65 s0 s2 s1 s3 s4))
def B_Rn_convert_e2_59 (s0 : S_Rn) (s2 : S_Bs) (s1 : S_Bs) (s3 : S_Rd) (s4 : S_Tr) : Option (S_Bs × S_Rd × S_Tr) :=
  (B_Rn_convert_e2_60 s0 s2 s1 s3 s4 (0 : Int32))
def B_Rn_convert_e2_55 (s0 : S_Rn) (s2 : S_Bs) (s1 : S_Bs) (s3 : S_Rd) (s4 : S_Tr) : Option (S_Bs × S_Rd × S_Tr) :=
  (B_Rn_convert_e2_60 s0 s2 s1 s3 s4 (1 : Int32))
def B_Rn_convert_e2_37 (s0 : S_Rn) (s2 : S_Bs) (s1 : S_Bs) (s3 : S_Rd) (s4 : S_Tr) (x2 : Int32) : Option (S_Bs × S_Rd × S_Tr) :=
  ((F_Rd_tree s3).bind fun o1 => ((F_Tr_writeAll s4 s1 x2).bind fun o3 => (if o3.1 = 0 then (B_Rn_convert_e2_59 s0 s2 o3.2 s3 s4) else (B_Rn_convert_e2_55 s0 s2 o3.2 s3 s4))))
def B_Rn_convert_e2_22 (s0 : S_Rn) (s2 : S_Bs) (s1 : S_Bs) (s3 : S_Rd) (s4 : S_Tr) (x1 : Int32) (x2 : Int32) : Option (S_Bs × S_Rd × S_Tr) :=
  ((F_Rd_read s3 s4 s2 x1).bind fun o1 => (if o1.1 = 0 then (B_Rn_convert_e2_37 s0 s2 s1 o1.2.1 o1.2.2 x2) else (B_Rn_convert_e2_59 s0 s2 s1 o1.2.1 o1.2.2)))
def B_Rn_convert_e2_7 (s0 : S_Rn) (s2 : S_Bs) (s1 : S_Bs) (s3 : S_Rd) (s4 : S_Tr) (x1 : Int32) (x2 : Int32) : Option (S_Bs × S_Rd × S_Tr) :=
  ((F_Rn_isSyntax x2).bind fun o1 => (if o1 = 0 then none else (B_Rn_convert_e2_22 s0 s2 s1 s3 s4 x1 x2)))
def B_Rn_convert_e2_0 (s0 : S_Rn) (s2 : S_Bs) (s1 : S_Bs) (s3 : S_Rd) (s4 : S_Tr) (x1 : Int32) (x2 : Int32) : Option (S_Bs × S_Rd × S_Tr) :=
  ((F_Rn_isSyntax x1).bind fun o1 => (if o1 = 0 then none else (B_Rn_convert_e2_7 s0 s2 s1 s3 s4 x1 x2)))
def F_Rn_convert_e2 (s0 : S_Rn) (s1 : S_Bs) (s2 : S_Bs) (s3 : S_Rd) (s4 : S_Tr) (x1 : Int32) (x2 : Int32) : Option (S_Bs × S_Rd × S_Tr) := B_Rn_convert_e2_0 s0 s2 s1 s3 s4 x1 x2
set_option maxRecDepth 100000 in
set_option maxHeartbeats 4000000 in
theorem t_Rn_convert_e2_77 {p : Program} {l : Launch} {e : Env} {s : State} {m : MethodId} {args : Array Value} {below : List Frame} {meth : Method} {c : Code} {D : va_G} {A : Nat → Prop} {g : Nat → ClassId} {rest : va_W} {K : Nat → Nat → Nat} {g1 : Nat} {ls : Array Slot} {H : Heap} {locs : List Loc} {s0 : S_Rn} {s2 : S_Bs} {s1 : S_Bs} {s3 : S_Rd} {s4 : S_Tr} {out : S_Bs × S_Rd × S_Tr} (X : Cx p s m args meth c prog_1_method_5_code 4 ws_Rn_convert R_Rn (some .int) D g) (hZ : SZ A s s.heap) (hfl : l.flags = flags0) (hout : ∀ x ∈ c.exceptionTable.toList, ∀ pc, covers x pc = false) (hl : lv_has ls 4 []) (hI : Iw D A (w_Rn g (K 0) (fun j => K (j + 1) 0) s0 ++ (w_Bs g (K 2) s1 ++ (w_Bs g (K 1) s2 ++ (w_Rd g (K 11) (tw (K 14 0) g1) s3 ++ (w_Tr g (K 14) s4 ++ (rest)))))) H) (hS : va_S A s.heap H locs) (h : B_Rn_convert_e2_77 s0 s2 s1 s3 s4 = some out) : W p l e (headSpec ws_Rn_convert { frames := 6, cells := 1, slots := 6, locals := 99 }).room s m args below meth c H locs 0 0 (MQT below "java/lang/IllegalStateException" (fun t => ∃ (u : Nat), Iw D A (w_Rn g (K 0) (fun j => K (j + 1) 0) s0 ++ (w_Bs g (K 2) out.1 ++ (w_Bs g (K 1) s2 ++ (w_Rd g (K 11) (tw (K 14 0) u) out.2.1 ++ (w_Tr g (K 14) out.2.2 ++ (rest)))))) t.heap ∧ KK D g t) args s 1 6 A) (F0 m 77 ls []) := by
  have X1 := X
  obtain ⟨hx, hb, hml, hown, hts, hr, hlocks, hKK⟩ := X1
  have ht : ∀ w ∈ TB, w.before args s = true := fun w h => hts w (List.mem_cons_of_mem _ h)
  have hK := hKK.1
  unfold B_Rn_convert_e2_77 at h
  have h9 := Option.some.inj h
  subst h9
  refine W_mono ?_ (th_new (D := D) (A := A) (g := g) (own := R_Rn) (cls := "java/lang/IllegalStateException") (names := ["java/lang/RuntimeException", "java/lang/Exception"]) (ik := 129) (ic := 131) hx hb hfl (by rw [hml]; exact hl.1.symm) hown ht hlocks hKK hZ hI hS (by decide +kernel) (by decide +kernel) m_746 m_16 hat_Rn_convert_e2 d_Rn_convert_77 d_Rn_convert_80 d_Rn_convert_81 d_Rn_convert_84 (fun x hx => hout x hx _) (Nat.le_of_ble_eq_true rfl) (Nat.le_of_ble_eq_true rfl) (Nat.le_of_ble_eq_true rfl) (Nat.le_of_ble_eq_true rfl))
  exact fun t ht => MQT_mono (fun t h => ⟨g1, h⟩) t ht
set_option maxRecDepth 100000 in
set_option maxHeartbeats 4000000 in
theorem t_Rn_convert_e2_65 {p : Program} {l : Launch} {e : Env} {s : State} {m : MethodId} {args : Array Value} {below : List Frame} {meth : Method} {c : Code} {D : va_G} {A : Nat → Prop} {g : Nat → ClassId} {rest : va_W} {K : Nat → Nat → Nat} {g1 : Nat} {ls : Array Slot} {H : Heap} {locs : List Loc} {s0 : S_Rn} {s2 : S_Bs} {s1 : S_Bs} {s3 : S_Rd} {s4 : S_Tr} {out : S_Bs × S_Rd × S_Tr} (X : Cx p s m args meth c prog_1_method_5_code 4 ws_Rn_convert R_Rn (some .int) D g) (hZ : SZ A s s.heap) (hfl : l.flags = flags0) (hout : ∀ x ∈ c.exceptionTable.toList, ∀ pc, covers x pc = false) (hl : lv_has ls 4 [(0, .ref (K 0 0))]) (hI : Iw D A (w_Rn g (K 0) (fun j => K (j + 1) 0) s0 ++ (w_Bs g (K 2) s1 ++ (w_Bs g (K 1) s2 ++ (w_Rd g (K 11) (tw (K 14 0) g1) s3 ++ (w_Tr g (K 14) s4 ++ (rest)))))) H) (hS : va_S A s.heap H locs) (h : B_Rn_convert_e2_65 s0 s2 s1 s3 s4 = some out) : W p l e (headSpec ws_Rn_convert { frames := 6, cells := 1, slots := 6, locals := 99 }).room s m args below meth c H locs 0 0 (MQT below "java/lang/IllegalStateException" (fun t => ∃ (u : Nat), Iw D A (w_Rn g (K 0) (fun j => K (j + 1) 0) s0 ++ (w_Bs g (K 2) out.1 ++ (w_Bs g (K 1) s2 ++ (w_Rd g (K 11) (tw (K 14 0) u) out.2.1 ++ (w_Tr g (K 14) out.2.2 ++ (rest)))))) t.heap ∧ KK D g t) args s 1 6 A) (F0 m 65 ls []) := by
  have X1 := X
  obtain ⟨hx, hb, hml, hown, hts, hr, hlocks, hKK⟩ := X1
  have ht : ∀ w ∈ TB, w.before args s = true := fun w h => hts w (List.mem_cons_of_mem _ h)
  have hK := hKK.1
  unfold B_Rn_convert_e2_65 at h
  refine lv_aload_n hx hb d_Rn_convert_65 rfl (lv_at hl 0 rfl) ?_
  refine va_get (D := D) (ci := 8) (v := .ref (K 2 0)) (C := R_Rn) (T := T_Rn) (N := 16) hx hb ht in_Rn hown hK hI.1 0 rfl rfl 1 (by decide) (ht _ m_204) (fun _ h9 => h9) rfl d_Rn_convert_66 ?_
  obtain ⟨o1, ho2, h⟩ := bd_s h
  refine cl_i (W1 := fun (_ : Unit) => w_Rn g (K 0) (fun j => K (j + 1) 0) s0 ++ (w_Bs g (K 2) s1 ++ (w_Bs g (K 1) s2 ++ (w_Rd g (K 11) (tw (K 14 0) g1) s3 ++ (w_Tr g (K 14) s4 ++ (rest)))))) (va_runV (As := []) (rest := []) ⟨hx, hb, hml, hown, ht⟩ (c_Bs_count (l := l) (D := D) (A := A) (g := g) (rest := w_Rn g (K 0) (fun j => K (j + 1) 0) s0 ++ (w_Bs g (K 1) s2 ++ (w_Rd g (K 11) (tw (K 14 0) g1) s3 ++ (w_Tr g (K 14) s4 ++ (rest))))) (a0 := K 2) ho2) (cwV 0 ht (gd_V m_302 m_303 m_304 m_2 m_305) rfl rfl rfl (by decide +kernel) ⟨(Nat.le_of_ble_eq_true rfl), (Nat.le_of_ble_eq_true rfl)⟩) (prV (ci := 0) (q0 := 0) hKK hI (mv_1) rfl rfl rfl) rfl rfl hl.1 rfl (lv_room (Nat.le_of_ble_eq_true rfl)) d_Rn_convert_69 ⟨(Nat.le_of_ble_eq_true rfl), (Nat.le_of_ble_eq_true rfl)⟩) hS (fun _ => ((mv_1)).symm) (fun _ H locs hI hS => ?_)
  have hI : Iw D A (w_Rn g (K 0) (fun j => K (j + 1) 0) s0 ++ (w_Bs g (K 2) s1 ++ (w_Bs g (K 1) s2 ++ (w_Rd g (K 11) (tw (K 14 0) g1) s3 ++ (w_Tr g (K 14) s4 ++ (rest)))))) H := hI
  refine lv_bipush (v := 120) hx hb d_Rn_convert_72 (by decide) ?_
  refine lv_icmp_le (tgt := 85) hx hb d_Rn_convert_74 (by decide) (fun hc => ?_) (fun hc => ?_)
  · have h := it_t h hc
    exact no_s h
  · have h := it_f h hc
    exact t_Rn_convert_e2_77 X hZ hfl hout (lv_sub hl [] rfl) hI hS h
set_option maxRecDepth 100000 in
set_option maxHeartbeats 4000000 in
theorem t_Rn_convert_e2_60 {p : Program} {l : Launch} {e : Env} {s : State} {m : MethodId} {args : Array Value} {below : List Frame} {meth : Method} {c : Code} {D : va_G} {A : Nat → Prop} {g : Nat → ClassId} {rest : va_W} {K : Nat → Nat → Nat} {g1 : Nat} {ls : Array Slot} {H : Heap} {locs : List Loc} {s0 : S_Rn} {s2 : S_Bs} {s1 : S_Bs} {s3 : S_Rd} {s4 : S_Tr} {y0 : Int32} {out : S_Bs × S_Rd × S_Tr} (X : Cx p s m args meth c prog_1_method_5_code 4 ws_Rn_convert R_Rn (some .int) D g) (hZ : SZ A s s.heap) (hfl : l.flags = flags0) (hout : ∀ x ∈ c.exceptionTable.toList, ∀ pc, covers x pc = false) (hl : lv_has ls 4 [(0, .ref (K 0 0))]) (hI : Iw D A (w_Rn g (K 0) (fun j => K (j + 1) 0) s0 ++ (w_Bs g (K 2) s1 ++ (w_Bs g (K 1) s2 ++ (w_Rd g (K 11) (tw (K 14 0) g1) s3 ++ (w_Tr g (K 14) s4 ++ (rest)))))) H) (hS : va_S A s.heap H locs) (h : B_Rn_convert_e2_60 s0 s2 s1 s3 s4 y0 = some out) : W p l e (headSpec ws_Rn_convert { frames := 6, cells := 1, slots := 6, locals := 99 }).room s m args below meth c H locs 0 0 (MQT below "java/lang/IllegalStateException" (fun t => ∃ (u : Nat), Iw D A (w_Rn g (K 0) (fun j => K (j + 1) 0) s0 ++ (w_Bs g (K 2) out.1 ++ (w_Bs g (K 1) s2 ++ (w_Rd g (K 11) (tw (K 14 0) u) out.2.1 ++ (w_Tr g (K 14) out.2.2 ++ (rest)))))) t.heap ∧ KK D g t) args s 1 6 A) (F0 m 60 ls [.int y0]) := by
  have X1 := X
  obtain ⟨hx, hb, hml, hown, hts, hr, hlocks, hKK⟩ := X1
  have ht : ∀ w ∈ TB, w.before args s = true := fun w h => hts w (List.mem_cons_of_mem _ h)
  have hK := hKK.1
  unfold B_Rn_convert_e2_60 at h
  refine lv_istore_n hx hb d_Rn_convert_60 rfl hl (Nat.le_of_ble_eq_true rfl) rfl (fun ls hl => ?_)
  have hl : lv_has ls 4 [(3, .int y0), (0, .ref (K 0 0))] := hl
  refine lv_iload_n hx hb d_Rn_convert_61 rfl (lv_at hl 0 rfl) ?_
  refine lv_if_eq (tgt := 77) hx hb d_Rn_convert_62 (by decide) (fun hc => ?_) (fun hc => ?_)
  · have h := it_t h hc
    exact t_Rn_convert_e2_77 X hZ hfl hout (lv_sub hl [] rfl) hI hS h
  · have h := it_f h hc
    exact t_Rn_convert_e2_65 X hZ hfl hout (lv_sub hl [1] rfl) hI hS h
set_option maxRecDepth 100000 in
set_option maxHeartbeats 4000000 in
theorem t_Rn_convert_e2_59 {p : Program} {l : Launch} {e : Env} {s : State} {m : MethodId} {args : Array Value} {below : List Frame} {meth : Method} {c : Code} {D : va_G} {A : Nat → Prop} {g : Nat → ClassId} {rest : va_W} {K : Nat → Nat → Nat} {g1 : Nat} {ls : Array Slot} {H : Heap} {locs : List Loc} {s0 : S_Rn} {s2 : S_Bs} {s1 : S_Bs} {s3 : S_Rd} {s4 : S_Tr} {out : S_Bs × S_Rd × S_Tr} (X : Cx p s m args meth c prog_1_method_5_code 4 ws_Rn_convert R_Rn (some .int) D g) (hZ : SZ A s s.heap) (hfl : l.flags = flags0) (hout : ∀ x ∈ c.exceptionTable.toList, ∀ pc, covers x pc = false) (hl : lv_has ls 4 [(0, .ref (K 0 0))]) (hI : Iw D A (w_Rn g (K 0) (fun j => K (j + 1) 0) s0 ++ (w_Bs g (K 2) s1 ++ (w_Bs g (K 1) s2 ++ (w_Rd g (K 11) (tw (K 14 0) g1) s3 ++ (w_Tr g (K 14) s4 ++ (rest)))))) H) (hS : va_S A s.heap H locs) (h : B_Rn_convert_e2_59 s0 s2 s1 s3 s4 = some out) : W p l e (headSpec ws_Rn_convert { frames := 6, cells := 1, slots := 6, locals := 99 }).room s m args below meth c H locs 0 0 (MQT below "java/lang/IllegalStateException" (fun t => ∃ (u : Nat), Iw D A (w_Rn g (K 0) (fun j => K (j + 1) 0) s0 ++ (w_Bs g (K 2) out.1 ++ (w_Bs g (K 1) s2 ++ (w_Rd g (K 11) (tw (K 14 0) u) out.2.1 ++ (w_Tr g (K 14) out.2.2 ++ (rest)))))) t.heap ∧ KK D g t) args s 1 6 A) (F0 m 59 ls []) := by
  have X1 := X
  obtain ⟨hx, hb, hml, hown, hts, hr, hlocks, hKK⟩ := X1
  have ht : ∀ w ∈ TB, w.before args s = true := fun w h => hts w (List.mem_cons_of_mem _ h)
  have hK := hKK.1
  unfold B_Rn_convert_e2_59 at h
  refine lv_iconst (v := 0) hx hb d_Rn_convert_59 (by decide) ?_
  exact t_Rn_convert_e2_60 X hZ hfl hout (lv_sub hl [0] rfl) hI hS h
set_option maxRecDepth 100000 in
set_option maxHeartbeats 4000000 in
theorem t_Rn_convert_e2_55 {p : Program} {l : Launch} {e : Env} {s : State} {m : MethodId} {args : Array Value} {below : List Frame} {meth : Method} {c : Code} {D : va_G} {A : Nat → Prop} {g : Nat → ClassId} {rest : va_W} {K : Nat → Nat → Nat} {g1 : Nat} {ls : Array Slot} {H : Heap} {locs : List Loc} {s0 : S_Rn} {s2 : S_Bs} {s1 : S_Bs} {s3 : S_Rd} {s4 : S_Tr} {out : S_Bs × S_Rd × S_Tr} (X : Cx p s m args meth c prog_1_method_5_code 4 ws_Rn_convert R_Rn (some .int) D g) (hZ : SZ A s s.heap) (hfl : l.flags = flags0) (hout : ∀ x ∈ c.exceptionTable.toList, ∀ pc, covers x pc = false) (hl : lv_has ls 4 [(0, .ref (K 0 0))]) (hI : Iw D A (w_Rn g (K 0) (fun j => K (j + 1) 0) s0 ++ (w_Bs g (K 2) s1 ++ (w_Bs g (K 1) s2 ++ (w_Rd g (K 11) (tw (K 14 0) g1) s3 ++ (w_Tr g (K 14) s4 ++ (rest)))))) H) (hS : va_S A s.heap H locs) (h : B_Rn_convert_e2_55 s0 s2 s1 s3 s4 = some out) : W p l e (headSpec ws_Rn_convert { frames := 6, cells := 1, slots := 6, locals := 99 }).room s m args below meth c H locs 0 0 (MQT below "java/lang/IllegalStateException" (fun t => ∃ (u : Nat), Iw D A (w_Rn g (K 0) (fun j => K (j + 1) 0) s0 ++ (w_Bs g (K 2) out.1 ++ (w_Bs g (K 1) s2 ++ (w_Rd g (K 11) (tw (K 14 0) u) out.2.1 ++ (w_Tr g (K 14) out.2.2 ++ (rest)))))) t.heap ∧ KK D g t) args s 1 6 A) (F0 m 55 ls []) := by
  have X1 := X
  obtain ⟨hx, hb, hml, hown, hts, hr, hlocks, hKK⟩ := X1
  have ht : ∀ w ∈ TB, w.before args s = true := fun w h => hts w (List.mem_cons_of_mem _ h)
  have hK := hKK.1
  unfold B_Rn_convert_e2_55 at h
  refine lv_iconst (v := 1) hx hb d_Rn_convert_55 (by decide) ?_
  refine lv_goto (tgt := 60) hx hb d_Rn_convert_56 (by decide) ?_
  exact t_Rn_convert_e2_60 X hZ hfl hout (lv_sub hl [0] rfl) hI hS h
set_option maxRecDepth 100000 in
set_option maxHeartbeats 4000000 in
theorem t_Rn_convert_e2_37 {p : Program} {l : Launch} {e : Env} {s : State} {m : MethodId} {args : Array Value} {below : List Frame} {meth : Method} {c : Code} {D : va_G} {A : Nat → Prop} {g : Nat → ClassId} {rest : va_W} {K : Nat → Nat → Nat} {g1 : Nat} {ls : Array Slot} {H : Heap} {locs : List Loc} {s0 : S_Rn} {s2 : S_Bs} {s1 : S_Bs} {s3 : S_Rd} {s4 : S_Tr} {x2 : Int32} {out : S_Bs × S_Rd × S_Tr} (X : Cx p s m args meth c prog_1_method_5_code 4 ws_Rn_convert R_Rn (some .int) D g) (hZ : SZ A s s.heap) (hfl : l.flags = flags0) (hout : ∀ x ∈ c.exceptionTable.toList, ∀ pc, covers x pc = false) (hl : lv_has ls 4 [(0, .ref (K 0 0)), (2, .int x2)]) (hI : Iw D A (w_Rn g (K 0) (fun j => K (j + 1) 0) s0 ++ (w_Bs g (K 2) s1 ++ (w_Bs g (K 1) s2 ++ (w_Rd g (K 11) (tw (K 14 0) g1) s3 ++ (w_Tr g (K 14) s4 ++ (rest)))))) H) (hS : va_S A s.heap H locs) (h : B_Rn_convert_e2_37 s0 s2 s1 s3 s4 x2 = some out) : W p l e (headSpec ws_Rn_convert { frames := 6, cells := 1, slots := 6, locals := 99 }).room s m args below meth c H locs 0 0 (MQT below "java/lang/IllegalStateException" (fun t => ∃ (u : Nat), Iw D A (w_Rn g (K 0) (fun j => K (j + 1) 0) s0 ++ (w_Bs g (K 2) out.1 ++ (w_Bs g (K 1) s2 ++ (w_Rd g (K 11) (tw (K 14 0) u) out.2.1 ++ (w_Tr g (K 14) out.2.2 ++ (rest)))))) t.heap ∧ KK D g t) args s 1 6 A) (F0 m 37 ls []) := by
  have X1 := X
  obtain ⟨hx, hb, hml, hown, hts, hr, hlocks, hKK⟩ := X1
  have ht : ∀ w ∈ TB, w.before args s = true := fun w h => hts w (List.mem_cons_of_mem _ h)
  have hK := hKK.1
  unfold B_Rn_convert_e2_37 at h
  refine lv_aload_n hx hb d_Rn_convert_37 rfl (lv_at hl 0 rfl) ?_
  refine va_get (D := D) (ci := 8) (v := .ref (K 11 0)) (C := R_Rn) (T := T_Rn) (N := 16) hx hb ht in_Rn hown hK hI.1 0 rfl rfl 10 (by decide) (ht _ m_213) (fun _ h9 => h9) rfl d_Rn_convert_38 ?_
  obtain ⟨o1, ho2, h⟩ := bd_s h
  refine cl_a (W1 := fun (_ : Unit) => w_Rn g (K 0) (fun j => K (j + 1) 0) s0 ++ (w_Bs g (K 2) s1 ++ (w_Bs g (K 1) s2 ++ (w_Rd g (K 11) (tw (K 14 0) g1) s3 ++ (w_Tr g (K 14) s4 ++ (rest)))))) (va_runV (As := []) (rest := []) ⟨hx, hb, hml, hown, ht⟩ (c_Rd_tree (l := l) (D := D) (A := A) (g := g) (rest := w_Rn g (K 0) (fun j => K (j + 1) 0) s0 ++ (w_Bs g (K 2) s1 ++ (w_Bs g (K 1) s2 ++ (w_Tr g (K 14) s4 ++ (rest))))) (a0 := K 11) (a1 := K 14) (sr := fun _ => g1) ho2) (cwV 0 ht (gd_V m_495 m_496 m_497 m_8 m_498) rfl rfl rfl (by decide +kernel) ⟨(Nat.le_of_ble_eq_true rfl), (Nat.le_of_ble_eq_true rfl)⟩) (prV (ci := 5) (q0 := 0) hKK hI (mv_3) rfl rfl rfl) rfl rfl hl.1 rfl (lv_room (Nat.le_of_ble_eq_true rfl)) d_Rn_convert_41 ⟨(Nat.le_of_ble_eq_true rfl), (Nat.le_of_ble_eq_true rfl)⟩) hS (fun _ => ((mv_3)).symm) (fun _ H locs hI hS => ?_)
  have hI : Iw D A (w_Rn g (K 0) (fun j => K (j + 1) 0) s0 ++ (w_Bs g (K 2) s1 ++ (w_Bs g (K 1) s2 ++ (w_Rd g (K 11) (tw (K 14 0) g1) s3 ++ (w_Tr g (K 14) s4 ++ (rest)))))) H := hI
  refine lv_iload_n hx hb d_Rn_convert_44 rfl (lv_at hl 1 rfl) ?_
  refine lv_aload_n hx hb d_Rn_convert_45 rfl (lv_at hl 0 rfl) ?_
  refine va_get (D := D) (ci := 8) (v := .ref (K 2 0)) (C := R_Rn) (T := T_Rn) (N := 16) hx hb ht in_Rn hown hK hI.1 0 rfl rfl 1 (by decide) (ht _ m_204) (fun _ h9 => h9) rfl d_Rn_convert_46 ?_
  obtain ⟨o3, ho4, h⟩ := bd_s h
  refine cl_i (W1 := fun (_ : Unit) => w_Rn g (K 0) (fun j => K (j + 1) 0) s0 ++ (w_Bs g (K 2) o3.2 ++ (w_Bs g (K 1) s2 ++ (w_Rd g (K 11) (tw (K 14 0) g1) s3 ++ (w_Tr g (K 14) s4 ++ (rest)))))) (va_runV (As := [.int x2, .ref (K 2 0)]) (rest := []) ⟨hx, hb, hml, hown, ht⟩ (c_Tr_writeAll (l := l) (D := D) (A := A) (g := g) (rest := w_Rn g (K 0) (fun j => K (j + 1) 0) s0 ++ (w_Bs g (K 1) s2 ++ (w_Rd g (K 11) (tw (K 14 0) g1) s3 ++ (rest)))) (a0 := K 14) (a1 := K 2) ho4) (cwV 2 ht (gd_V m_564 m_565 m_566 m_9 m_567) rfl rfl rfl (by decide +kernel) ⟨(Nat.le_of_ble_eq_true rfl), (Nat.le_of_ble_eq_true rfl)⟩) (prV (ci := 7) (q0 := 0) hKK hI ((mv_1).trans (mv_4)) rfl rfl rfl) rfl rfl hl.1 rfl (lv_room (Nat.le_of_ble_eq_true rfl)) d_Rn_convert_49 ⟨(Nat.le_of_ble_eq_true rfl), (Nat.le_of_ble_eq_true rfl)⟩) hS (fun _ => (((mv_1).trans (mv_4))).symm) (fun _ H locs hI hS => ?_)
  have hI : Iw D A (w_Rn g (K 0) (fun j => K (j + 1) 0) s0 ++ (w_Bs g (K 2) o3.2 ++ (w_Bs g (K 1) s2 ++ (w_Rd g (K 11) (tw (K 14 0) g1) s3 ++ (w_Tr g (K 14) s4 ++ (rest)))))) H := hI
  refine lv_if_eq (tgt := 59) hx hb d_Rn_convert_52 (by decide) (fun hc => ?_) (fun hc => ?_)
  · have h := it_t h hc
    exact t_Rn_convert_e2_59 X hZ hfl hout (lv_sub hl [0] rfl) hI hS h
  · have h := it_f h hc
    exact t_Rn_convert_e2_55 X hZ hfl hout (lv_sub hl [0] rfl) hI hS h
set_option maxRecDepth 100000 in
set_option maxHeartbeats 4000000 in
theorem t_Rn_convert_e2_22 {p : Program} {l : Launch} {e : Env} {s : State} {m : MethodId} {args : Array Value} {below : List Frame} {meth : Method} {c : Code} {D : va_G} {A : Nat → Prop} {g : Nat → ClassId} {rest : va_W} {K : Nat → Nat → Nat} {g1 : Nat} {ls : Array Slot} {H : Heap} {locs : List Loc} {s0 : S_Rn} {s2 : S_Bs} {s1 : S_Bs} {s3 : S_Rd} {s4 : S_Tr} {x1 : Int32} {x2 : Int32} {out : S_Bs × S_Rd × S_Tr} (X : Cx p s m args meth c prog_1_method_5_code 4 ws_Rn_convert R_Rn (some .int) D g) (hZ : SZ A s s.heap) (hfl : l.flags = flags0) (hout : ∀ x ∈ c.exceptionTable.toList, ∀ pc, covers x pc = false) (hl : lv_has ls 4 [(0, .ref (K 0 0)), (1, .int x1), (2, .int x2)]) (hI : Iw D A (w_Rn g (K 0) (fun j => K (j + 1) 0) s0 ++ (w_Bs g (K 2) s1 ++ (w_Bs g (K 1) s2 ++ (w_Rd g (K 11) (tw (K 14 0) g1) s3 ++ (w_Tr g (K 14) s4 ++ (rest)))))) H) (hS : va_S A s.heap H locs) (h : B_Rn_convert_e2_22 s0 s2 s1 s3 s4 x1 x2 = some out) : W p l e (headSpec ws_Rn_convert { frames := 6, cells := 1, slots := 6, locals := 99 }).room s m args below meth c H locs 0 0 (MQT below "java/lang/IllegalStateException" (fun t => ∃ (u : Nat), Iw D A (w_Rn g (K 0) (fun j => K (j + 1) 0) s0 ++ (w_Bs g (K 2) out.1 ++ (w_Bs g (K 1) s2 ++ (w_Rd g (K 11) (tw (K 14 0) u) out.2.1 ++ (w_Tr g (K 14) out.2.2 ++ (rest)))))) t.heap ∧ KK D g t) args s 1 6 A) (F0 m 22 ls []) := by
  have X1 := X
  obtain ⟨hx, hb, hml, hown, hts, hr, hlocks, hKK⟩ := X1
  have ht : ∀ w ∈ TB, w.before args s = true := fun w h => hts w (List.mem_cons_of_mem _ h)
  have hK := hKK.1
  unfold B_Rn_convert_e2_22 at h
  refine lv_aload_n hx hb d_Rn_convert_22 rfl (lv_at hl 0 rfl) ?_
  refine va_get (D := D) (ci := 8) (v := .ref (K 11 0)) (C := R_Rn) (T := T_Rn) (N := 16) hx hb ht in_Rn hown hK hI.1 0 rfl rfl 10 (by decide) (ht _ m_213) (fun _ h9 => h9) rfl d_Rn_convert_23 ?_
  refine lv_aload_n hx hb d_Rn_convert_26 rfl (lv_at hl 0 rfl) ?_
  refine va_get (D := D) (ci := 8) (v := .ref (K 1 0)) (C := R_Rn) (T := T_Rn) (N := 16) hx hb ht in_Rn hown hK hI.1 0 rfl rfl 0 (by decide) (ht _ m_203) (fun _ h9 => h9) rfl d_Rn_convert_27 ?_
  refine lv_iload_n hx hb d_Rn_convert_30 rfl (lv_at hl 1 rfl) ?_
  obtain ⟨o1, ho2, h⟩ := bd_s h
  refine cl_i (W1 := fun (_ : Unit) => w_Rn g (K 0) (fun j => K (j + 1) 0) s0 ++ (w_Bs g (K 2) s1 ++ (w_Bs g (K 1) s2 ++ (w_Rd g (K 11) (tw (K 14 0) (K 1 0)) o1.2.1 ++ (w_Tr g (K 14) o1.2.2 ++ (rest)))))) (va_runV (As := [.ref (K 1 0), .int x1]) (rest := []) ⟨hx, hb, hml, hown, ht⟩ (c_Rd_read (l := l) (D := D) (A := A) (g := g) (rest := w_Rn g (K 0) (fun j => K (j + 1) 0) s0 ++ (w_Bs g (K 2) s1 ++ (rest))) (a0 := K 11) (a1 := K 14) (a2 := K 1) (u0 := g1) ho2) (cwV 2 ht (gd_V m_412 m_413 m_414 m_8 m_415) rfl rfl rfl (by decide +kernel) ⟨(Nat.le_of_ble_eq_true rfl), (Nat.le_of_ble_eq_true rfl)⟩) (prV (ci := 5) (q0 := 0) hKK hI ((mv_2).trans ((mv_4).trans (mv_4))) rfl rfl rfl) rfl rfl hl.1 rfl (lv_room (Nat.le_of_ble_eq_true rfl)) d_Rn_convert_31 ⟨(Nat.le_of_ble_eq_true rfl), (Nat.le_of_ble_eq_true rfl)⟩) hS (fun _ => (((mv_2).trans ((mv_4).trans (mv_4)))).symm) (fun _ H locs hI hS => ?_)
  have hI : Iw D A (w_Rn g (K 0) (fun j => K (j + 1) 0) s0 ++ (w_Bs g (K 2) s1 ++ (w_Bs g (K 1) s2 ++ (w_Rd g (K 11) (tw (K 14 0) (K 1 0)) o1.2.1 ++ (w_Tr g (K 14) o1.2.2 ++ (rest)))))) H := hI
  refine lv_if_ne (tgt := 59) hx hb d_Rn_convert_34 (by decide) (fun hc => ?_) (fun hc => ?_)
  · have h := it_f h hc
    exact t_Rn_convert_e2_59 X hZ hfl hout (lv_sub hl [0] rfl) hI hS h
  · have h := it_t h hc
    exact t_Rn_convert_e2_37 X hZ hfl hout (lv_sub hl [0, 2] rfl) hI hS h
set_option maxRecDepth 100000 in
set_option maxHeartbeats 4000000 in
theorem t_Rn_convert_e2_7 {p : Program} {l : Launch} {e : Env} {s : State} {m : MethodId} {args : Array Value} {below : List Frame} {meth : Method} {c : Code} {D : va_G} {A : Nat → Prop} {g : Nat → ClassId} {rest : va_W} {K : Nat → Nat → Nat} {g1 : Nat} {ls : Array Slot} {H : Heap} {locs : List Loc} {s0 : S_Rn} {s2 : S_Bs} {s1 : S_Bs} {s3 : S_Rd} {s4 : S_Tr} {x1 : Int32} {x2 : Int32} {out : S_Bs × S_Rd × S_Tr} (X : Cx p s m args meth c prog_1_method_5_code 4 ws_Rn_convert R_Rn (some .int) D g) (hZ : SZ A s s.heap) (hfl : l.flags = flags0) (hout : ∀ x ∈ c.exceptionTable.toList, ∀ pc, covers x pc = false) (hl : lv_has ls 4 [(0, .ref (K 0 0)), (1, .int x1), (2, .int x2)]) (hI : Iw D A (w_Rn g (K 0) (fun j => K (j + 1) 0) s0 ++ (w_Bs g (K 2) s1 ++ (w_Bs g (K 1) s2 ++ (w_Rd g (K 11) (tw (K 14 0) g1) s3 ++ (w_Tr g (K 14) s4 ++ (rest)))))) H) (hS : va_S A s.heap H locs) (h : B_Rn_convert_e2_7 s0 s2 s1 s3 s4 x1 x2 = some out) : W p l e (headSpec ws_Rn_convert { frames := 6, cells := 1, slots := 6, locals := 99 }).room s m args below meth c H locs 0 0 (MQT below "java/lang/IllegalStateException" (fun t => ∃ (u : Nat), Iw D A (w_Rn g (K 0) (fun j => K (j + 1) 0) s0 ++ (w_Bs g (K 2) out.1 ++ (w_Bs g (K 1) s2 ++ (w_Rd g (K 11) (tw (K 14 0) u) out.2.1 ++ (w_Tr g (K 14) out.2.2 ++ (rest)))))) t.heap ∧ KK D g t) args s 1 6 A) (F0 m 7 ls []) := by
  have X1 := X
  obtain ⟨hx, hb, hml, hown, hts, hr, hlocks, hKK⟩ := X1
  have ht : ∀ w ∈ TB, w.before args s = true := fun w h => hts w (List.mem_cons_of_mem _ h)
  have hK := hKK.1
  unfold B_Rn_convert_e2_7 at h
  refine lv_iload_n hx hb d_Rn_convert_7 rfl (lv_at hl 2 rfl) ?_
  obtain ⟨o1, ho2, h⟩ := bd_s h
  refine cl_i (W1 := fun (_ : Unit) => w_Rn g (K 0) (fun j => K (j + 1) 0) s0 ++ (w_Bs g (K 2) s1 ++ (w_Bs g (K 1) s2 ++ (w_Rd g (K 11) (tw (K 14 0) g1) s3 ++ (w_Tr g (K 14) s4 ++ (rest)))))) (va_runS (As := [.int x2]) (rest := []) ⟨hx, hb, hml, hown, ht⟩ (c_Rn_isSyntax (l := l) (D := D) (A := A) (g := g) (rest := w_Rn g (K 0) (fun j => K (j + 1) 0) s0 ++ (w_Bs g (K 2) s1 ++ (w_Bs g (K 1) s2 ++ (w_Rd g (K 11) (tw (K 14 0) g1) s3 ++ (w_Tr g (K 14) s4 ++ (rest))))))  ho2) (va_cwS 1 ht (gd_S m_672 m_673 m_1 m_674) rfl rfl rfl (by decide +kernel) ⟨(Nat.le_of_ble_eq_true rfl), (Nat.le_of_ble_eq_true rfl)⟩) (prS hKK hI (List.Perm.refl _)) rfl rfl hl.1 rfl (lv_room (Nat.le_of_ble_eq_true rfl)) d_Rn_convert_8 ⟨(Nat.le_of_ble_eq_true rfl), (Nat.le_of_ble_eq_true rfl)⟩) hS (fun _ => ((List.Perm.refl _)).symm) (fun _ H locs hI hS => ?_)
  have hI : Iw D A (w_Rn g (K 0) (fun j => K (j + 1) 0) s0 ++ (w_Bs g (K 2) s1 ++ (w_Bs g (K 1) s2 ++ (w_Rd g (K 11) (tw (K 14 0) g1) s3 ++ (w_Tr g (K 14) s4 ++ (rest)))))) H := hI
  refine lv_if_ne (tgt := 22) hx hb d_Rn_convert_11 (by decide) (fun hc => ?_) (fun hc => ?_)
  · have h := it_f h hc
    exact t_Rn_convert_e2_22 X hZ hfl hout (lv_sub hl [0, 1, 2] rfl) hI hS h
  · have h := it_t h hc
    exact no_s h
set_option maxRecDepth 100000 in
set_option maxHeartbeats 4000000 in
theorem t_Rn_convert_e2_0 {p : Program} {l : Launch} {e : Env} {s : State} {m : MethodId} {args : Array Value} {below : List Frame} {meth : Method} {c : Code} {D : va_G} {A : Nat → Prop} {g : Nat → ClassId} {rest : va_W} {K : Nat → Nat → Nat} {g1 : Nat} {ls : Array Slot} {H : Heap} {locs : List Loc} {s0 : S_Rn} {s2 : S_Bs} {s1 : S_Bs} {s3 : S_Rd} {s4 : S_Tr} {x1 : Int32} {x2 : Int32} {out : S_Bs × S_Rd × S_Tr} (X : Cx p s m args meth c prog_1_method_5_code 4 ws_Rn_convert R_Rn (some .int) D g) (hZ : SZ A s s.heap) (hfl : l.flags = flags0) (hout : ∀ x ∈ c.exceptionTable.toList, ∀ pc, covers x pc = false) (hl : lv_has ls 4 [(0, .ref (K 0 0)), (1, .int x1), (2, .int x2)]) (hI : Iw D A (w_Rn g (K 0) (fun j => K (j + 1) 0) s0 ++ (w_Bs g (K 2) s1 ++ (w_Bs g (K 1) s2 ++ (w_Rd g (K 11) (tw (K 14 0) g1) s3 ++ (w_Tr g (K 14) s4 ++ (rest)))))) H) (hS : va_S A s.heap H locs) (h : B_Rn_convert_e2_0 s0 s2 s1 s3 s4 x1 x2 = some out) : W p l e (headSpec ws_Rn_convert { frames := 6, cells := 1, slots := 6, locals := 99 }).room s m args below meth c H locs 0 0 (MQT below "java/lang/IllegalStateException" (fun t => ∃ (u : Nat), Iw D A (w_Rn g (K 0) (fun j => K (j + 1) 0) s0 ++ (w_Bs g (K 2) out.1 ++ (w_Bs g (K 1) s2 ++ (w_Rd g (K 11) (tw (K 14 0) u) out.2.1 ++ (w_Tr g (K 14) out.2.2 ++ (rest)))))) t.heap ∧ KK D g t) args s 1 6 A) (F0 m 0 ls []) := by
  have X1 := X
  obtain ⟨hx, hb, hml, hown, hts, hr, hlocks, hKK⟩ := X1
  have ht : ∀ w ∈ TB, w.before args s = true := fun w h => hts w (List.mem_cons_of_mem _ h)
  have hK := hKK.1
  unfold B_Rn_convert_e2_0 at h
  refine lv_iload_n hx hb d_Rn_convert_0 rfl (lv_at hl 1 rfl) ?_
  obtain ⟨o1, ho2, h⟩ := bd_s h
  refine cl_i (W1 := fun (_ : Unit) => w_Rn g (K 0) (fun j => K (j + 1) 0) s0 ++ (w_Bs g (K 2) s1 ++ (w_Bs g (K 1) s2 ++ (w_Rd g (K 11) (tw (K 14 0) g1) s3 ++ (w_Tr g (K 14) s4 ++ (rest)))))) (va_runS (As := [.int x1]) (rest := []) ⟨hx, hb, hml, hown, ht⟩ (c_Rn_isSyntax (l := l) (D := D) (A := A) (g := g) (rest := w_Rn g (K 0) (fun j => K (j + 1) 0) s0 ++ (w_Bs g (K 2) s1 ++ (w_Bs g (K 1) s2 ++ (w_Rd g (K 11) (tw (K 14 0) g1) s3 ++ (w_Tr g (K 14) s4 ++ (rest))))))  ho2) (va_cwS 1 ht (gd_S m_672 m_673 m_1 m_674) rfl rfl rfl (by decide +kernel) ⟨(Nat.le_of_ble_eq_true rfl), (Nat.le_of_ble_eq_true rfl)⟩) (prS hKK hI (List.Perm.refl _)) rfl rfl hl.1 rfl (lv_room (Nat.le_of_ble_eq_true rfl)) d_Rn_convert_1 ⟨(Nat.le_of_ble_eq_true rfl), (Nat.le_of_ble_eq_true rfl)⟩) hS (fun _ => ((List.Perm.refl _)).symm) (fun _ H locs hI hS => ?_)
  have hI : Iw D A (w_Rn g (K 0) (fun j => K (j + 1) 0) s0 ++ (w_Bs g (K 2) s1 ++ (w_Bs g (K 1) s2 ++ (w_Rd g (K 11) (tw (K 14 0) g1) s3 ++ (w_Tr g (K 14) s4 ++ (rest)))))) H := hI
  refine lv_if_eq (tgt := 14) hx hb d_Rn_convert_4 (by decide) (fun hc => ?_) (fun hc => ?_)
  · have h := it_t h hc
    exact no_s h
  · have h := it_f h hc
    exact t_Rn_convert_e2_7 X hZ hfl hout (lv_sub hl [0, 1, 2] rfl) hI hS h
set_option maxRecDepth 100000 in
set_option maxHeartbeats 4000000 in
theorem c_Rn_convert_e2 {l : Launch} (hfl : l.flags = flags0) {D : va_G} {A : Nat → Prop} {g : Nat → ClassId} {rest : va_W} {K : Nat → Nat → Nat} {g1 : Nat} {s0 : S_Rn} {s1 : S_Bs} {s2 : S_Bs} {s3 : S_Rd} {s4 : S_Tr} {x1 : Int32} {x2 : Int32} {out : S_Bs × S_Rd × S_Tr} (h : F_Rn_convert_e2 s0 s1 s2 s3 s4 x1 x2 = some out) : MetT l y_Rn_convert ws_Rn_convert { frames := 6, cells := 1, slots := 6, locals := 99 } (PcZ D A g [.ref (K 0 0), .int x1, .int x2] (w_Rn g (K 0) (fun j => K (j + 1) 0) s0 ++ (w_Bs g (K 2) s1 ++ (w_Bs g (K 1) s2 ++ (w_Rd g (K 11) (tw (K 14 0) g1) s3 ++ (w_Tr g (K 14) s4 ++ (rest))))))) "java/lang/IllegalStateException" (fun t => ∃ (u : Nat), Iw D A (w_Rn g (K 0) (fun j => K (j + 1) 0) s0 ++ (w_Bs g (K 2) out.1 ++ (w_Bs g (K 1) s2 ++ (w_Rd g (K 11) (tw (K 14 0) u) out.2.1 ++ (w_Tr g (K 14) out.2.2 ++ (rest)))))) t.heap ∧ KK D g t) 1 6 A := by
  refine MetT.ofW (cc := prog_1_method_5_code) (maxL := 4) (ret := (some .int)) (by decide) rfl ?_
  intro p e s m args below meth c s₁ B hml hv
  obtain ⟨rfl, hI, hK, hZ⟩ := hv
  have hl := lv_entry [.ref (K 0 0), .int x1, .int x2] (n := 4) (Nat.le_of_ble_eq_true rfl)
  rw [lg_entry_eq]
  generalize (lg_sl [.ref (K 0 0), .int x1, .int x2] ++ List.replicate (4 - (lg_sl [.ref (K 0 0), .int x1, .int x2]).length) Slot.unset).toArray = ls at hl ⊢
  have hl : lv_has ls 4 [(0, .ref (K 0 0)), (1, .int x1), (2, .int x2)] := hl
  have hts := atoms_spec (ws := ws_Rn_convert) B.pre
  exact t_Rn_convert_e2_0 ⟨B.exec, B.bytes, hml, findClass_of_methodNamed B.named, hts, B.returns, B.notSynchronized, hK⟩ hZ hfl (no_rows B (hts _ List.mem_cons_self)) (lv_sub hl [0, 1, 2] rfl) hI va_S.rf h
set_option maxRecDepth 100000 in
theorem hat_Rn_at_e1 : ∀ a ∈ Bundle.ownAtoms0 R_Rn 138 "java/util/NoSuchElementException" ["java/lang/RuntimeException", "java/lang/Exception"], a ∈ TB ∨ a ∈ thW := hat_of (by decide +kernel)
def B_Rn_at_e1_16 (s0 : S_Rn) (s1 : S_Bs) : Option Unit :=
  some ()
def B_Rn_at_e1_5 (s0 : S_Rn) (s1 : S_Bs) (x1 : Int32) : Option Unit :=
  ((F_Bs_count s1).bind fun o1 => (if x1 < o1 then none else (B_Rn_at_e1_16 s0 s1)))
def B_Rn_at_e1_0 (s0 : S_Rn) (s1 : S_Bs) (x1 : Int32) : Option Unit :=
  (if x1 < ((-1) : Int32) then (B_Rn_at_e1_16 s0 s1) else (B_Rn_at_e1_5 s0 s1 x1))
def F_Rn_at_e1 (s0 : S_Rn) (s1 : S_Bs) (x1 : Int32) : Option Unit := B_Rn_at_e1_0 s0 s1 x1
set_option maxRecDepth 100000 in
set_option maxHeartbeats 4000000 in
theorem t_Rn_at_e1_16 {p : Program} {l : Launch} {e : Env} {s : State} {m : MethodId} {args : Array Value} {below : List Frame} {meth : Method} {c : Code} {D : va_G} {A : Nat → Prop} {g : Nat → ClassId} {rest : va_W} {K : Nat → Nat → Nat} {ls : Array Slot} {H : Heap} {locs : List Loc} {s0 : S_Rn} {s1 : S_Bs} {out : Unit} (X : Cx p s m args meth c prog_1_method_6_code 2 ws_Rn_at R_Rn (some .int) D g) (hZ : SZ A s s.heap) (hfl : l.flags = flags0) (hout : ∀ x ∈ c.exceptionTable.toList, ∀ pc, covers x pc = false) (hl : lv_has ls 2 []) (hI : Iw D A (w_Rn g (K 0) (fun j => K (j + 1) 0) s0 ++ (w_Bs g (K 1) s1 ++ (rest))) H) (hS : va_S A s.heap H locs) (h : B_Rn_at_e1_16 s0 s1 = some out) : W p l e (headSpec ws_Rn_at { frames := 6, cells := 1, slots := 6, locals := 99 }).room s m args below meth c H locs 0 0 (MQT below "java/util/NoSuchElementException" (fun t => ∃ (u : Unit), Iw D A (w_Rn g (K 0) (fun j => K (j + 1) 0) s0 ++ (w_Bs g (K 1) s1 ++ (rest))) t.heap ∧ KK D g t) args s 1 6 A) (F0 m 16 ls []) := by
  have X1 := X
  obtain ⟨hx, hb, hml, hown, hts, hr, hlocks, hKK⟩ := X1
  have ht : ∀ w ∈ TB, w.before args s = true := fun w h => hts w (List.mem_cons_of_mem _ h)
  have hK := hKK.1
  unfold B_Rn_at_e1_16 at h
  have h9 := Option.some.inj h
  subst h9
  refine W_mono ?_ (th_new (D := D) (A := A) (g := g) (own := R_Rn) (cls := "java/util/NoSuchElementException") (names := ["java/lang/RuntimeException", "java/lang/Exception"]) (ik := 136) (ic := 138) hx hb hfl (by rw [hml]; exact hl.1.symm) hown ht hlocks hKK hZ hI hS (by decide +kernel) (by decide +kernel) m_770 m_17 hat_Rn_at_e1 d_Rn_at_16 d_Rn_at_19 d_Rn_at_20 d_Rn_at_23 (fun x hx => hout x hx _) (Nat.le_of_ble_eq_true rfl) (Nat.le_of_ble_eq_true rfl) (Nat.le_of_ble_eq_true rfl) (Nat.le_of_ble_eq_true rfl))
  exact fun t ht => MQT_mono (fun t h => ⟨(), h⟩) t ht
set_option maxRecDepth 100000 in
set_option maxHeartbeats 4000000 in
theorem t_Rn_at_e1_5 {p : Program} {l : Launch} {e : Env} {s : State} {m : MethodId} {args : Array Value} {below : List Frame} {meth : Method} {c : Code} {D : va_G} {A : Nat → Prop} {g : Nat → ClassId} {rest : va_W} {K : Nat → Nat → Nat} {ls : Array Slot} {H : Heap} {locs : List Loc} {s0 : S_Rn} {s1 : S_Bs} {x1 : Int32} {out : Unit} (X : Cx p s m args meth c prog_1_method_6_code 2 ws_Rn_at R_Rn (some .int) D g) (hZ : SZ A s s.heap) (hfl : l.flags = flags0) (hout : ∀ x ∈ c.exceptionTable.toList, ∀ pc, covers x pc = false) (hl : lv_has ls 2 [(0, .ref (K 0 0)), (1, .int x1)]) (hI : Iw D A (w_Rn g (K 0) (fun j => K (j + 1) 0) s0 ++ (w_Bs g (K 1) s1 ++ (rest))) H) (hS : va_S A s.heap H locs) (h : B_Rn_at_e1_5 s0 s1 x1 = some out) : W p l e (headSpec ws_Rn_at { frames := 6, cells := 1, slots := 6, locals := 99 }).room s m args below meth c H locs 0 0 (MQT below "java/util/NoSuchElementException" (fun t => ∃ (u : Unit), Iw D A (w_Rn g (K 0) (fun j => K (j + 1) 0) s0 ++ (w_Bs g (K 1) s1 ++ (rest))) t.heap ∧ KK D g t) args s 1 6 A) (F0 m 5 ls []) := by
  have X1 := X
  obtain ⟨hx, hb, hml, hown, hts, hr, hlocks, hKK⟩ := X1
  have ht : ∀ w ∈ TB, w.before args s = true := fun w h => hts w (List.mem_cons_of_mem _ h)
  have hK := hKK.1
  unfold B_Rn_at_e1_5 at h
  refine lv_iload_n hx hb d_Rn_at_5 rfl (lv_at hl 1 rfl) ?_
  refine lv_aload_n hx hb d_Rn_at_6 rfl (lv_at hl 0 rfl) ?_
  refine va_get (D := D) (ci := 8) (v := .ref (K 1 0)) (C := R_Rn) (T := T_Rn) (N := 16) hx hb ht in_Rn hown hK hI.1 0 rfl rfl 0 (by decide) (ht _ m_203) (fun _ h9 => h9) rfl d_Rn_at_7 ?_
  obtain ⟨o1, ho2, h⟩ := bd_s h
  refine cl_i (W1 := fun (_ : Unit) => w_Rn g (K 0) (fun j => K (j + 1) 0) s0 ++ (w_Bs g (K 1) s1 ++ (rest))) (va_runV (As := []) (rest := [.int x1]) ⟨hx, hb, hml, hown, ht⟩ (c_Bs_count (l := l) (D := D) (A := A) (g := g) (rest := w_Rn g (K 0) (fun j => K (j + 1) 0) s0 ++ (rest)) (a0 := K 1) ho2) (cwV 0 ht (gd_V m_302 m_303 m_304 m_2 m_305) rfl rfl rfl (by decide +kernel) ⟨(Nat.le_of_ble_eq_true rfl), (Nat.le_of_ble_eq_true rfl)⟩) (prV (ci := 0) (q0 := 0) hKK hI (mv_1) rfl rfl rfl) rfl rfl hl.1 rfl (lv_room (Nat.le_of_ble_eq_true rfl)) d_Rn_at_10 ⟨(Nat.le_of_ble_eq_true rfl), (Nat.le_of_ble_eq_true rfl)⟩) hS (fun _ => ((mv_1)).symm) (fun _ H locs hI hS => ?_)
  have hI : Iw D A (w_Rn g (K 0) (fun j => K (j + 1) 0) s0 ++ (w_Bs g (K 1) s1 ++ (rest))) H := hI
  refine lv_icmp_lt (tgt := 24) hx hb d_Rn_at_13 (by decide) (fun hc => ?_) (fun hc => ?_)
  · have h := it_t h hc
    exact no_s h
  · have h := it_f h hc
    exact t_Rn_at_e1_16 X hZ hfl hout (lv_sub hl [] rfl) hI hS h
set_option maxRecDepth 100000 in
set_option maxHeartbeats 4000000 in
theorem t_Rn_at_e1_0 {p : Program} {l : Launch} {e : Env} {s : State} {m : MethodId} {args : Array Value} {below : List Frame} {meth : Method} {c : Code} {D : va_G} {A : Nat → Prop} {g : Nat → ClassId} {rest : va_W} {K : Nat → Nat → Nat} {ls : Array Slot} {H : Heap} {locs : List Loc} {s0 : S_Rn} {s1 : S_Bs} {x1 : Int32} {out : Unit} (X : Cx p s m args meth c prog_1_method_6_code 2 ws_Rn_at R_Rn (some .int) D g) (hZ : SZ A s s.heap) (hfl : l.flags = flags0) (hout : ∀ x ∈ c.exceptionTable.toList, ∀ pc, covers x pc = false) (hl : lv_has ls 2 [(0, .ref (K 0 0)), (1, .int x1)]) (hI : Iw D A (w_Rn g (K 0) (fun j => K (j + 1) 0) s0 ++ (w_Bs g (K 1) s1 ++ (rest))) H) (hS : va_S A s.heap H locs) (h : B_Rn_at_e1_0 s0 s1 x1 = some out) : W p l e (headSpec ws_Rn_at { frames := 6, cells := 1, slots := 6, locals := 99 }).room s m args below meth c H locs 0 0 (MQT below "java/util/NoSuchElementException" (fun t => ∃ (u : Unit), Iw D A (w_Rn g (K 0) (fun j => K (j + 1) 0) s0 ++ (w_Bs g (K 1) s1 ++ (rest))) t.heap ∧ KK D g t) args s 1 6 A) (F0 m 0 ls []) := by
  have X1 := X
  obtain ⟨hx, hb, hml, hown, hts, hr, hlocks, hKK⟩ := X1
  have ht : ∀ w ∈ TB, w.before args s = true := fun w h => hts w (List.mem_cons_of_mem _ h)
  have hK := hKK.1
  unfold B_Rn_at_e1_0 at h
  refine lv_iload_n hx hb d_Rn_at_0 rfl (lv_at hl 1 rfl) ?_
  refine lv_iconst (v := (-1)) hx hb d_Rn_at_1 (by decide) ?_
  refine lv_icmp_lt (tgt := 16) hx hb d_Rn_at_2 (by decide) (fun hc => ?_) (fun hc => ?_)
  · have h := it_t h hc
    exact t_Rn_at_e1_16 X hZ hfl hout (lv_sub hl [] rfl) hI hS h
  · have h := it_f h hc
    exact t_Rn_at_e1_5 X hZ hfl hout (lv_sub hl [0, 1] rfl) hI hS h
set_option maxRecDepth 100000 in
set_option maxHeartbeats 4000000 in
theorem c_Rn_at_e1 {l : Launch} (hfl : l.flags = flags0) {D : va_G} {A : Nat → Prop} {g : Nat → ClassId} {rest : va_W} {K : Nat → Nat → Nat} {s0 : S_Rn} {s1 : S_Bs} {x1 : Int32} {out : Unit} (h : F_Rn_at_e1 s0 s1 x1 = some out) : MetT l y_Rn_at ws_Rn_at { frames := 6, cells := 1, slots := 6, locals := 99 } (PcZ D A g [.ref (K 0 0), .int x1] (w_Rn g (K 0) (fun j => K (j + 1) 0) s0 ++ (w_Bs g (K 1) s1 ++ (rest)))) "java/util/NoSuchElementException" (fun t => ∃ (u : Unit), Iw D A (w_Rn g (K 0) (fun j => K (j + 1) 0) s0 ++ (w_Bs g (K 1) s1 ++ (rest))) t.heap ∧ KK D g t) 1 6 A := by
  refine MetT.ofW (cc := prog_1_method_6_code) (maxL := 2) (ret := (some .int)) (by decide) rfl ?_
  intro p e s m args below meth c s₁ B hml hv
  obtain ⟨rfl, hI, hK, hZ⟩ := hv
  have hl := lv_entry [.ref (K 0 0), .int x1] (n := 2) (Nat.le_of_ble_eq_true rfl)
  rw [lg_entry_eq]
  generalize (lg_sl [.ref (K 0 0), .int x1] ++ List.replicate (2 - (lg_sl [.ref (K 0 0), .int x1]).length) Slot.unset).toArray = ls at hl ⊢
  have hl : lv_has ls 2 [(0, .ref (K 0 0)), (1, .int x1)] := hl
  have hts := atoms_spec (ws := ws_Rn_at) B.pre
  exact t_Rn_at_e1_0 ⟨B.exec, B.bytes, hml, findClass_of_methodNamed B.named, hts, B.returns, B.notSynchronized, hK⟩ hZ hfl (no_rows B (hts _ List.mem_cons_self)) (lv_sub hl [0, 1] rfl) hI va_S.rf h
set_option maxRecDepth 100000 in
theorem hat_Rn_feed_e1 : ∀ a ∈ Bundle.ownAtoms0 R_Rn 110 "java/lang/IllegalArgumentException" ["java/lang/RuntimeException", "java/lang/Exception"], a ∈ TB ∨ a ∈ thW := hat_of (by decide +kernel)
def B_Rn_feed_e1_7 (s0 : S_Rn) : Option Unit :=
  some ()
def B_Rn_feed_e1_0 (s0 : S_Rn) (x1 : Int64) (x3 : Int32) : Option Unit :=
  ((F_Rn_isCount x3).bind fun o1 => (if o1 = 0 then (B_Rn_feed_e1_7 s0) else none))
def F_Rn_feed_e1 (s0 : S_Rn) (x1 : Int64) (x3 : Int32) : Option Unit := B_Rn_feed_e1_0 s0 x1 x3
set_option maxRecDepth 100000 in
set_option maxHeartbeats 4000000 in
theorem t_Rn_feed_e1_7 {p : Program} {l : Launch} {e : Env} {s : State} {m : MethodId} {args : Array Value} {below : List Frame} {meth : Method} {c : Code} {D : va_G} {A : Nat → Prop} {g : Nat → ClassId} {rest : va_W} {K : Nat → Nat → Nat} {ls : Array Slot} {H : Heap} {locs : List Loc} {s0 : S_Rn} {out : Unit} (X : Cx p s m args meth c prog_1_method_9_code 5 ws_Rn_feed R_Rn (some .boolean) D g) (hZ : SZ A s s.heap) (hfl : l.flags = flags0) (hout : ∀ x ∈ c.exceptionTable.toList, ∀ pc, covers x pc = false) (hl : lv_has ls 5 []) (hI : Iw D A (w_Rn g (K 0) (fun j => K (j + 1) 0) s0 ++ (rest)) H) (hS : va_S A s.heap H locs) (h : B_Rn_feed_e1_7 s0 = some out) : W p l e (headSpec ws_Rn_feed { frames := 6, cells := 1, slots := 6, locals := 99 }).room s m args below meth c H locs 0 0 (MQT below "java/lang/IllegalArgumentException" (fun t => ∃ (u : Unit), Iw D A (w_Rn g (K 0) (fun j => K (j + 1) 0) s0 ++ (rest)) t.heap ∧ KK D g t) args s 1 6 A) (F0 m 7 ls []) := by
  have X1 := X
  obtain ⟨hx, hb, hml, hown, hts, hr, hlocks, hKK⟩ := X1
  have ht : ∀ w ∈ TB, w.before args s = true := fun w h => hts w (List.mem_cons_of_mem _ h)
  have hK := hKK.1
  unfold B_Rn_feed_e1_7 at h
  have h9 := Option.some.inj h
  subst h9
  refine W_mono ?_ (th_new (D := D) (A := A) (g := g) (own := R_Rn) (cls := "java/lang/IllegalArgumentException") (names := ["java/lang/RuntimeException", "java/lang/Exception"]) (ik := 108) (ic := 110) hx hb hfl (by rw [hml]; exact hl.1.symm) hown ht hlocks hKK hZ hI hS (by decide +kernel) (by decide +kernel) m_675 m_15 hat_Rn_feed_e1 d_Rn_feed_7 d_Rn_feed_10 d_Rn_feed_11 d_Rn_feed_14 (fun x hx => hout x hx _) (Nat.le_of_ble_eq_true rfl) (Nat.le_of_ble_eq_true rfl) (Nat.le_of_ble_eq_true rfl) (Nat.le_of_ble_eq_true rfl))
  exact fun t ht => MQT_mono (fun t h => ⟨(), h⟩) t ht
set_option maxRecDepth 100000 in
set_option maxHeartbeats 4000000 in
theorem t_Rn_feed_e1_0 {p : Program} {l : Launch} {e : Env} {s : State} {m : MethodId} {args : Array Value} {below : List Frame} {meth : Method} {c : Code} {D : va_G} {A : Nat → Prop} {g : Nat → ClassId} {rest : va_W} {K : Nat → Nat → Nat} {ls : Array Slot} {H : Heap} {locs : List Loc} {s0 : S_Rn} {x1 : Int64} {x3 : Int32} {out : Unit} (X : Cx p s m args meth c prog_1_method_9_code 5 ws_Rn_feed R_Rn (some .boolean) D g) (hZ : SZ A s s.heap) (hfl : l.flags = flags0) (hout : ∀ x ∈ c.exceptionTable.toList, ∀ pc, covers x pc = false) (hl : lv_has ls 5 [(0, .ref (K 0 0)), (1, .long x1), (3, .int x3)]) (hI : Iw D A (w_Rn g (K 0) (fun j => K (j + 1) 0) s0 ++ (rest)) H) (hS : va_S A s.heap H locs) (h : B_Rn_feed_e1_0 s0 x1 x3 = some out) : W p l e (headSpec ws_Rn_feed { frames := 6, cells := 1, slots := 6, locals := 99 }).room s m args below meth c H locs 0 0 (MQT below "java/lang/IllegalArgumentException" (fun t => ∃ (u : Unit), Iw D A (w_Rn g (K 0) (fun j => K (j + 1) 0) s0 ++ (rest)) t.heap ∧ KK D g t) args s 1 6 A) (F0 m 0 ls []) := by
  have X1 := X
  obtain ⟨hx, hb, hml, hown, hts, hr, hlocks, hKK⟩ := X1
  have ht : ∀ w ∈ TB, w.before args s = true := fun w h => hts w (List.mem_cons_of_mem _ h)
  have hK := hKK.1
  unfold B_Rn_feed_e1_0 at h
  refine lv_iload_n hx hb d_Rn_feed_0 rfl (lv_at hl 2 rfl) ?_
  obtain ⟨o1, ho2, h⟩ := bd_s h
  refine cl_i (W1 := fun (_ : Unit) => w_Rn g (K 0) (fun j => K (j + 1) 0) s0 ++ (rest)) (va_runS (As := [.int x3]) (rest := []) ⟨hx, hb, hml, hown, ht⟩ (c_Rn_isCount (l := l) (D := D) (A := A) (g := g) (rest := w_Rn g (K 0) (fun j => K (j + 1) 0) s0 ++ (rest))  ho2) (va_cwS 1 ht (gd_S m_256 m_257 m_1 m_258) rfl rfl rfl (by decide +kernel) ⟨(Nat.le_of_ble_eq_true rfl), (Nat.le_of_ble_eq_true rfl)⟩) (prS hKK hI (pmn (rest := rest) [w_Rn g (K 0) (fun j => K (j + 1) 0) s0] [w_Rn g (K 0) (fun j => K (j + 1) 0) s0] [0] 1 rfl rfl (by decide))) rfl rfl hl.1 rfl (lv_room (Nat.le_of_ble_eq_true rfl)) d_Rn_feed_1 ⟨(Nat.le_of_ble_eq_true rfl), (Nat.le_of_ble_eq_true rfl)⟩) hS (fun _ => (pmn (rest := rest) [w_Rn g (K 0) (fun j => K (j + 1) 0) s0] [w_Rn g (K 0) (fun j => K (j + 1) 0) s0] [0] 1 rfl rfl (by decide))) (fun _ H locs hI hS => ?_)
  have hI : Iw D A (w_Rn g (K 0) (fun j => K (j + 1) 0) s0 ++ (rest)) H := hI
  refine lv_if_ne (tgt := 15) hx hb d_Rn_feed_4 (by decide) (fun hc => ?_) (fun hc => ?_)
  · have h := it_f h hc
    exact no_s h
  · have h := it_t h hc
    exact t_Rn_feed_e1_7 X hZ hfl hout (lv_sub hl [] rfl) hI hS h
set_option maxRecDepth 100000 in
set_option maxHeartbeats 4000000 in
theorem c_Rn_feed_e1 {l : Launch} (hfl : l.flags = flags0) {D : va_G} {A : Nat → Prop} {g : Nat → ClassId} {rest : va_W} {K : Nat → Nat → Nat} {s0 : S_Rn} {x1 : Int64} {x3 : Int32} {out : Unit} (h : F_Rn_feed_e1 s0 x1 x3 = some out) : MetT l y_Rn_feed ws_Rn_feed { frames := 6, cells := 1, slots := 6, locals := 99 } (PcZ D A g [.ref (K 0 0), .long x1, .int x3] (w_Rn g (K 0) (fun j => K (j + 1) 0) s0 ++ (rest))) "java/lang/IllegalArgumentException" (fun t => ∃ (u : Unit), Iw D A (w_Rn g (K 0) (fun j => K (j + 1) 0) s0 ++ (rest)) t.heap ∧ KK D g t) 1 6 A := by
  refine MetT.ofW (cc := prog_1_method_9_code) (maxL := 5) (ret := (some .boolean)) (by decide) rfl ?_
  intro p e s m args below meth c s₁ B hml hv
  obtain ⟨rfl, hI, hK, hZ⟩ := hv
  have hl := lv_entry [.ref (K 0 0), .long x1, .int x3] (n := 5) (Nat.le_of_ble_eq_true rfl)
  rw [lg_entry_eq]
  generalize (lg_sl [.ref (K 0 0), .long x1, .int x3] ++ List.replicate (5 - (lg_sl [.ref (K 0 0), .long x1, .int x3]).length) Slot.unset).toArray = ls at hl ⊢
  have hl : lv_has ls 5 [(0, .ref (K 0 0)), (1, .long x1), (3, .int x3)] := hl
  have hts := atoms_spec (ws := ws_Rn_feed) B.pre
  exact t_Rn_feed_e1_0 ⟨B.exec, B.bytes, hml, findClass_of_methodNamed B.named, hts, B.returns, B.notSynchronized, hK⟩ hZ hfl (no_rows B (hts _ List.mem_cons_self)) (lv_sub hl [0, 1, 2] rfl) hI va_S.rf h
set_option maxRecDepth 100000 in
theorem hat_Rn_take_e1 : ∀ a ∈ Bundle.ownAtoms0 R_Rn 138 "java/util/NoSuchElementException" ["java/lang/RuntimeException", "java/lang/Exception"], a ∈ TB ∨ a ∈ thW := hat_of (by decide +kernel)
def B_Rn_take_e1_10 (s0 : S_Rn) (s1 : S_Ou) : Option Unit :=
  some ()
def B_Rn_take_e1_0 (s0 : S_Rn) (s1 : S_Ou) : Option Unit :=
  ((F_Ou_count s1).bind fun o1 => (if o1 = 0 then (B_Rn_take_e1_10 s0 s1) else none))
def F_Rn_take_e1 (s0 : S_Rn) (s1 : S_Ou) : Option Unit := B_Rn_take_e1_0 s0 s1
set_option maxRecDepth 100000 in
set_option maxHeartbeats 4000000 in
theorem t_Rn_take_e1_10 {p : Program} {l : Launch} {e : Env} {s : State} {m : MethodId} {args : Array Value} {below : List Frame} {meth : Method} {c : Code} {D : va_G} {A : Nat → Prop} {g : Nat → ClassId} {rest : va_W} {K : Nat → Nat → Nat} {ls : Array Slot} {H : Heap} {locs : List Loc} {s0 : S_Rn} {s1 : S_Ou} {out : Unit} (X : Cx p s m args meth c prog_1_method_12_code 1 ws_Rn_take R_Rn (some .int) D g) (hZ : SZ A s s.heap) (hfl : l.flags = flags0) (hout : ∀ x ∈ c.exceptionTable.toList, ∀ pc, covers x pc = false) (hl : lv_has ls 1 []) (hI : Iw D A (w_Rn g (K 0) (fun j => K (j + 1) 0) s0 ++ (w_Ou g (K 7) s1 ++ (rest))) H) (hS : va_S A s.heap H locs) (h : B_Rn_take_e1_10 s0 s1 = some out) : W p l e (headSpec ws_Rn_take { frames := 6, cells := 1, slots := 6, locals := 99 }).room s m args below meth c H locs 0 0 (MQT below "java/util/NoSuchElementException" (fun t => ∃ (u : Unit), Iw D A (w_Rn g (K 0) (fun j => K (j + 1) 0) s0 ++ (w_Ou g (K 7) s1 ++ (rest))) t.heap ∧ KK D g t) args s 1 6 A) (F0 m 10 ls []) := by
  have X1 := X
  obtain ⟨hx, hb, hml, hown, hts, hr, hlocks, hKK⟩ := X1
  have ht : ∀ w ∈ TB, w.before args s = true := fun w h => hts w (List.mem_cons_of_mem _ h)
  have hK := hKK.1
  unfold B_Rn_take_e1_10 at h
  have h9 := Option.some.inj h
  subst h9
  refine W_mono ?_ (th_new (D := D) (A := A) (g := g) (own := R_Rn) (cls := "java/util/NoSuchElementException") (names := ["java/lang/RuntimeException", "java/lang/Exception"]) (ik := 136) (ic := 138) hx hb hfl (by rw [hml]; exact hl.1.symm) hown ht hlocks hKK hZ hI hS (by decide +kernel) (by decide +kernel) m_770 m_17 hat_Rn_take_e1 d_Rn_take_10 d_Rn_take_13 d_Rn_take_14 d_Rn_take_17 (fun x hx => hout x hx _) (Nat.le_of_ble_eq_true rfl) (Nat.le_of_ble_eq_true rfl) (Nat.le_of_ble_eq_true rfl) (Nat.le_of_ble_eq_true rfl))
  exact fun t ht => MQT_mono (fun t h => ⟨(), h⟩) t ht
set_option maxRecDepth 100000 in
set_option maxHeartbeats 4000000 in
theorem t_Rn_take_e1_0 {p : Program} {l : Launch} {e : Env} {s : State} {m : MethodId} {args : Array Value} {below : List Frame} {meth : Method} {c : Code} {D : va_G} {A : Nat → Prop} {g : Nat → ClassId} {rest : va_W} {K : Nat → Nat → Nat} {ls : Array Slot} {H : Heap} {locs : List Loc} {s0 : S_Rn} {s1 : S_Ou} {out : Unit} (X : Cx p s m args meth c prog_1_method_12_code 1 ws_Rn_take R_Rn (some .int) D g) (hZ : SZ A s s.heap) (hfl : l.flags = flags0) (hout : ∀ x ∈ c.exceptionTable.toList, ∀ pc, covers x pc = false) (hl : lv_has ls 1 [(0, .ref (K 0 0))]) (hI : Iw D A (w_Rn g (K 0) (fun j => K (j + 1) 0) s0 ++ (w_Ou g (K 7) s1 ++ (rest))) H) (hS : va_S A s.heap H locs) (h : B_Rn_take_e1_0 s0 s1 = some out) : W p l e (headSpec ws_Rn_take { frames := 6, cells := 1, slots := 6, locals := 99 }).room s m args below meth c H locs 0 0 (MQT below "java/util/NoSuchElementException" (fun t => ∃ (u : Unit), Iw D A (w_Rn g (K 0) (fun j => K (j + 1) 0) s0 ++ (w_Ou g (K 7) s1 ++ (rest))) t.heap ∧ KK D g t) args s 1 6 A) (F0 m 0 ls []) := by
  have X1 := X
  obtain ⟨hx, hb, hml, hown, hts, hr, hlocks, hKK⟩ := X1
  have ht : ∀ w ∈ TB, w.before args s = true := fun w h => hts w (List.mem_cons_of_mem _ h)
  have hK := hKK.1
  unfold B_Rn_take_e1_0 at h
  refine lv_aload_n hx hb d_Rn_take_0 rfl (lv_at hl 0 rfl) ?_
  refine va_get (D := D) (ci := 8) (v := .ref (K 7 0)) (C := R_Rn) (T := T_Rn) (N := 16) hx hb ht in_Rn hown hK hI.1 0 rfl rfl 6 (by decide) (ht _ m_209) (fun _ h9 => h9) rfl d_Rn_take_1 ?_
  obtain ⟨o1, ho2, h⟩ := bd_s h
  refine cl_i (W1 := fun (_ : Unit) => w_Rn g (K 0) (fun j => K (j + 1) 0) s0 ++ (w_Ou g (K 7) s1 ++ (rest))) (va_runV (As := []) (rest := []) ⟨hx, hb, hml, hown, ht⟩ (c_Ou_count (l := l) (D := D) (A := A) (g := g) (rest := w_Rn g (K 0) (fun j => K (j + 1) 0) s0 ++ (rest)) (a0 := K 7) ho2) (cwV 0 ht (gd_V m_652 m_653 m_654 m_3 m_655) rfl rfl rfl (by decide +kernel) ⟨(Nat.le_of_ble_eq_true rfl), (Nat.le_of_ble_eq_true rfl)⟩) (prV (ci := 4) (q0 := 0) hKK hI (mv_1) rfl rfl rfl) rfl rfl hl.1 rfl (lv_room (Nat.le_of_ble_eq_true rfl)) d_Rn_take_4 ⟨(Nat.le_of_ble_eq_true rfl), (Nat.le_of_ble_eq_true rfl)⟩) hS (fun _ => ((mv_1)).symm) (fun _ H locs hI hS => ?_)
  have hI : Iw D A (w_Rn g (K 0) (fun j => K (j + 1) 0) s0 ++ (w_Ou g (K 7) s1 ++ (rest))) H := hI
  refine lv_if_ne (tgt := 18) hx hb d_Rn_take_7 (by decide) (fun hc => ?_) (fun hc => ?_)
  · have h := it_f h hc
    exact no_s h
  · have h := it_t h hc
    exact t_Rn_take_e1_10 X hZ hfl hout (lv_sub hl [] rfl) hI hS h
set_option maxRecDepth 100000 in
set_option maxHeartbeats 4000000 in
theorem c_Rn_take_e1 {l : Launch} (hfl : l.flags = flags0) {D : va_G} {A : Nat → Prop} {g : Nat → ClassId} {rest : va_W} {K : Nat → Nat → Nat} {s0 : S_Rn} {s1 : S_Ou} {out : Unit} (h : F_Rn_take_e1 s0 s1 = some out) : MetT l y_Rn_take ws_Rn_take { frames := 6, cells := 1, slots := 6, locals := 99 } (PcZ D A g [.ref (K 0 0)] (w_Rn g (K 0) (fun j => K (j + 1) 0) s0 ++ (w_Ou g (K 7) s1 ++ (rest)))) "java/util/NoSuchElementException" (fun t => ∃ (u : Unit), Iw D A (w_Rn g (K 0) (fun j => K (j + 1) 0) s0 ++ (w_Ou g (K 7) s1 ++ (rest))) t.heap ∧ KK D g t) 1 6 A := by
  refine MetT.ofW (cc := prog_1_method_12_code) (maxL := 1) (ret := (some .int)) (by decide) rfl ?_
  intro p e s m args below meth c s₁ B hml hv
  obtain ⟨rfl, hI, hK, hZ⟩ := hv
  have hl := lv_entry [.ref (K 0 0)] (n := 1) (Nat.le_of_ble_eq_true rfl)
  rw [lg_entry_eq]
  generalize (lg_sl [.ref (K 0 0)] ++ List.replicate (1 - (lg_sl [.ref (K 0 0)]).length) Slot.unset).toArray = ls at hl ⊢
  have hl : lv_has ls 1 [(0, .ref (K 0 0))] := hl
  have hts := atoms_spec (ws := ws_Rn_take) B.pre
  exact t_Rn_take_e1_0 ⟨B.exec, B.bytes, hml, findClass_of_methodNamed B.named, hts, B.returns, B.notSynchronized, hK⟩ hZ hfl (no_rows B (hts _ List.mem_cons_self)) (lv_sub hl [0] rfl) hI va_S.rf h
set_option maxRecDepth 100000 in
theorem hat_Rn_record_e1 : ∀ a ∈ Bundle.ownAtoms0 R_Rn 138 "java/util/NoSuchElementException" ["java/lang/RuntimeException", "java/lang/Exception"], a ∈ TB ∨ a ∈ thW := hat_of (by decide +kernel)
def B_Rn_record_e1_35 (s0 : S_Rn) (s1 : S_Rs) : Option Unit :=
  some ()
def B_Rn_record_e1_20 (s0 : S_Rn) (s1 : S_Rs) (x1 : Int32) (x2 : Int32) : Option Unit :=
  ((F_Rs_bytes s1 x1).bind fun o1 => (if x1.toNatClampNeg < (Rs_n s1) then ((F_Bs_count (Rs_bytes s1 x1.toNatClampNeg)).bind fun o4 => (if x2 < o4 then none else (B_Rn_record_e1_35 s0 s1))) else none))
def B_Rn_record_e1_15 (s0 : S_Rn) (s1 : S_Rs) (x1 : Int32) (x2 : Int32) : Option Unit :=
  (if x2 < ((-1) : Int32) then (B_Rn_record_e1_35 s0 s1) else (B_Rn_record_e1_20 s0 s1 x1 x2))
def B_Rn_record_e1_4 (s0 : S_Rn) (s1 : S_Rs) (x1 : Int32) (x2 : Int32) : Option Unit :=
  ((F_Rs_count s1).bind fun o1 => (if o1 ≤ x1 then (B_Rn_record_e1_35 s0 s1) else (B_Rn_record_e1_15 s0 s1 x1 x2)))
def B_Rn_record_e1_0 (s0 : S_Rn) (s1 : S_Rs) (x1 : Int32) (x2 : Int32) : Option Unit :=
  (if x1 < 0 then (B_Rn_record_e1_35 s0 s1) else (B_Rn_record_e1_4 s0 s1 x1 x2))
def F_Rn_record_e1 (s0 : S_Rn) (s1 : S_Rs) (x1 : Int32) (x2 : Int32) : Option Unit := B_Rn_record_e1_0 s0 s1 x1 x2
set_option maxRecDepth 100000 in
set_option maxHeartbeats 4000000 in
theorem t_Rn_record_e1_35 {p : Program} {l : Launch} {e : Env} {s : State} {m : MethodId} {args : Array Value} {below : List Frame} {meth : Method} {c : Code} {D : va_G} {A : Nat → Prop} {g : Nat → ClassId} {rest : va_W} {K : Nat → Nat → Nat} {ls : Array Slot} {H : Heap} {locs : List Loc} {s0 : S_Rn} {s1 : S_Rs} {out : Unit} (X : Cx p s m args meth c prog_1_method_15_code 3 ws_Rn_record R_Rn (some .int) D g) (hZ : SZ A s s.heap) (hfl : l.flags = flags0) (hout : ∀ x ∈ c.exceptionTable.toList, ∀ pc, covers x pc = false) (hl : lv_has ls 3 []) (hI : Iw D A (w_Rn g (K 0) (fun j => K (j + 1) 0) s0 ++ (w_Rs g (K 10) (fun k => K (16 + 2 * k)) (fun k => K (17 + 2 * k)) s1 ++ (rest))) H) (hS : va_S A s.heap H locs) (h : B_Rn_record_e1_35 s0 s1 = some out) : W p l e (headSpec ws_Rn_record { frames := 6, cells := 1, slots := 6, locals := 99 }).room s m args below meth c H locs 0 0 (MQT below "java/util/NoSuchElementException" (fun t => ∃ (u : Unit), Iw D A (w_Rn g (K 0) (fun j => K (j + 1) 0) s0 ++ (w_Rs g (K 10) (fun k => K (16 + 2 * k)) (fun k => K (17 + 2 * k)) s1 ++ (rest))) t.heap ∧ KK D g t) args s 1 6 A) (F0 m 35 ls []) := by
  have X1 := X
  obtain ⟨hx, hb, hml, hown, hts, hr, hlocks, hKK⟩ := X1
  have ht : ∀ w ∈ TB, w.before args s = true := fun w h => hts w (List.mem_cons_of_mem _ h)
  have hK := hKK.1
  unfold B_Rn_record_e1_35 at h
  have h9 := Option.some.inj h
  subst h9
  refine W_mono ?_ (th_new (D := D) (A := A) (g := g) (own := R_Rn) (cls := "java/util/NoSuchElementException") (names := ["java/lang/RuntimeException", "java/lang/Exception"]) (ik := 136) (ic := 138) hx hb hfl (by rw [hml]; exact hl.1.symm) hown ht hlocks hKK hZ hI hS (by decide +kernel) (by decide +kernel) m_770 m_17 hat_Rn_record_e1 d_Rn_record_35 d_Rn_record_38 d_Rn_record_39 d_Rn_record_42 (fun x hx => hout x hx _) (Nat.le_of_ble_eq_true rfl) (Nat.le_of_ble_eq_true rfl) (Nat.le_of_ble_eq_true rfl) (Nat.le_of_ble_eq_true rfl))
  exact fun t ht => MQT_mono (fun t h => ⟨(), h⟩) t ht
set_option maxRecDepth 100000 in
set_option maxHeartbeats 4000000 in
theorem t_Rn_record_e1_20 {p : Program} {l : Launch} {e : Env} {s : State} {m : MethodId} {args : Array Value} {below : List Frame} {meth : Method} {c : Code} {D : va_G} {A : Nat → Prop} {g : Nat → ClassId} {rest : va_W} {K : Nat → Nat → Nat} {ls : Array Slot} {H : Heap} {locs : List Loc} {s0 : S_Rn} {s1 : S_Rs} {x1 : Int32} {x2 : Int32} {out : Unit} (X : Cx p s m args meth c prog_1_method_15_code 3 ws_Rn_record R_Rn (some .int) D g) (hZ : SZ A s s.heap) (hfl : l.flags = flags0) (hout : ∀ x ∈ c.exceptionTable.toList, ∀ pc, covers x pc = false) (hl : lv_has ls 3 [(0, .ref (K 0 0)), (1, .int x1), (2, .int x2)]) (hI : Iw D A (w_Rn g (K 0) (fun j => K (j + 1) 0) s0 ++ (w_Rs g (K 10) (fun k => K (16 + 2 * k)) (fun k => K (17 + 2 * k)) s1 ++ (rest))) H) (hS : va_S A s.heap H locs) (h : B_Rn_record_e1_20 s0 s1 x1 x2 = some out) : W p l e (headSpec ws_Rn_record { frames := 6, cells := 1, slots := 6, locals := 99 }).room s m args below meth c H locs 0 0 (MQT below "java/util/NoSuchElementException" (fun t => ∃ (u : Unit), Iw D A (w_Rn g (K 0) (fun j => K (j + 1) 0) s0 ++ (w_Rs g (K 10) (fun k => K (16 + 2 * k)) (fun k => K (17 + 2 * k)) s1 ++ (rest))) t.heap ∧ KK D g t) args s 1 6 A) (F0 m 20 ls []) := by
  have X1 := X
  obtain ⟨hx, hb, hml, hown, hts, hr, hlocks, hKK⟩ := X1
  have ht : ∀ w ∈ TB, w.before args s = true := fun w h => hts w (List.mem_cons_of_mem _ h)
  have hK := hKK.1
  unfold B_Rn_record_e1_20 at h
  refine lv_iload_n hx hb d_Rn_record_20 rfl (lv_at hl 2 rfl) ?_
  refine lv_aload_n hx hb d_Rn_record_21 rfl (lv_at hl 0 rfl) ?_
  refine va_get (D := D) (ci := 8) (v := .ref (K 10 0)) (C := R_Rn) (T := T_Rn) (N := 16) hx hb ht in_Rn hown hK hI.1 0 rfl rfl 9 (by decide) (ht _ m_212) (fun _ h9 => h9) rfl d_Rn_record_22 ?_
  refine lv_iload_n hx hb d_Rn_record_25 rfl (lv_at hl 1 rfl) ?_
  obtain ⟨o1, ho2, h⟩ := bd_s h
  refine cl_a (W1 := fun (_ : Unit) => w_Rn g (K 0) (fun j => K (j + 1) 0) s0 ++ (w_Rs g (K 10) (fun k => K (16 + 2 * k)) (fun k => K (17 + 2 * k)) s1 ++ (rest))) (va_runV (As := [.int x1]) (rest := [.int x2]) ⟨hx, hb, hml, hown, ht⟩ (c_Rs_bytes (l := l) (D := D) (A := A) (g := g) (rest := w_Rn g (K 0) (fun j => K (j + 1) 0) s0 ++ (rest)) (a0 := K 10) (N := (fun k => K (16 + 2 * k))) (B := (fun k => K (17 + 2 * k))) ho2) (cwV 1 ht (gd_V m_614 m_615 m_616 m_6 m_617) rfl rfl rfl (by decide +kernel) ⟨(Nat.le_of_ble_eq_true rfl), (Nat.le_of_ble_eq_true rfl)⟩) (prV (ci := 6) (q0 := 0) hKK hI (pmn (rest := rest) [w_Rn g (K 0) (fun j => K (j + 1) 0) s0, w_Rs g (K 10) (fun k => K (16 + 2 * k)) (fun k => K (17 + 2 * k)) s1] [w_Rs g (K 10) (fun k => K (16 + 2 * k)) (fun k => K (17 + 2 * k)) s1, w_Rn g (K 0) (fun j => K (j + 1) 0) s0] [1, 0] 2 rfl rfl (by decide)) rfl rfl rfl) rfl rfl hl.1 rfl (lv_room (Nat.le_of_ble_eq_true rfl)) d_Rn_record_26 ⟨(Nat.le_of_ble_eq_true rfl), (Nat.le_of_ble_eq_true rfl)⟩) hS (fun _ => (pmn (rest := rest) [w_Rs g (K 10) (fun k => K (16 + 2 * k)) (fun k => K (17 + 2 * k)) s1, w_Rn g (K 0) (fun j => K (j + 1) 0) s0] [w_Rn g (K 0) (fun j => K (j + 1) 0) s0, w_Rs g (K 10) (fun k => K (16 + 2 * k)) (fun k => K (17 + 2 * k)) s1] [1, 0] 2 rfl rfl (by decide))) (fun _ H locs hI hS => ?_)
  have hI : Iw D A (w_Rn g (K 0) (fun j => K (j + 1) 0) s0 ++ (w_Rs g (K 10) (fun k => K (16 + 2 * k)) (fun k => K (17 + 2 * k)) s1 ++ (rest))) H := hI
  have hc3 : x1.toNatClampNeg < (Rs_n s1) := by
    by_cases z : x1.toNatClampNeg < (Rs_n s1)
    · exact z
    · exact no_s (it_f h z)
  have h := it_t h hc3
  obtain ⟨o4, ho5, h⟩ := bd_s h
  refine cl_i (W1 := fun (_ : Unit) => w_Rn g (K 0) (fun j => K (j + 1) 0) s0 ++ (w_Rs g (K 10) (fun k => K (16 + 2 * k)) (fun k => K (17 + 2 * k)) s1 ++ (rest))) (va_runV (As := []) (rest := [.int x2]) ⟨hx, hb, hml, hown, ht⟩ (c_Bs_count (l := l) (D := D) (A := A) (g := g) (rest := rem_B g (K 10) (fun k => K (16 + 2 * k)) (fun k => K (17 + 2 * k)) s1 x1.toNatClampNeg ++ (w_Rn g (K 0) (fun j => K (j + 1) 0) s0 ++ (rest))) (a0 := K (17 + 2 * x1.toNatClampNeg)) ho5) (cwV 0 ht (gd_V m_302 m_303 m_304 m_2 m_305) rfl rfl rfl (by decide +kernel) ⟨(Nat.le_of_ble_eq_true rfl), (Nat.le_of_ble_eq_true rfl)⟩) (prV (ci := 0) (q0 := 0) hKK hI (((pmn (rest := rest) [w_Rn g (K 0) (fun j => K (j + 1) 0) s0, w_Rs g (K 10) (fun k => K (16 + 2 * k)) (fun k => K (17 + 2 * k)) s1] [w_Rs g (K 10) (fun k => K (16 + 2 * k)) (fun k => K (17 + 2 * k)) s1, w_Rn g (K 0) (fun j => K (j + 1) 0) s0] [1, 0] 2 rfl rfl (by decide))).trans ((fa (foc_B hc3)).trans (pmn (rest := rest) [w_Bs g (K (17 + 2 * x1.toNatClampNeg)) (Rs_bytes s1 x1.toNatClampNeg), rem_B g (K 10) (fun k => K (16 + 2 * k)) (fun k => K (17 + 2 * k)) s1 x1.toNatClampNeg, w_Rn g (K 0) (fun j => K (j + 1) 0) s0] [w_Bs g (K (17 + 2 * x1.toNatClampNeg)) (Rs_bytes s1 x1.toNatClampNeg), rem_B g (K 10) (fun k => K (16 + 2 * k)) (fun k => K (17 + 2 * k)) s1 x1.toNatClampNeg, w_Rn g (K 0) (fun j => K (j + 1) 0) s0] [0, 1, 2] 3 rfl rfl (by decide)))) rfl rfl rfl) rfl rfl hl.1 rfl (lv_room (Nat.le_of_ble_eq_true rfl)) d_Rn_record_29 ⟨(Nat.le_of_ble_eq_true rfl), (Nat.le_of_ble_eq_true rfl)⟩) hS (fun _ => (((pmn (rest := rest) [w_Rn g (K 0) (fun j => K (j + 1) 0) s0, w_Rs g (K 10) (fun k => K (16 + 2 * k)) (fun k => K (17 + 2 * k)) s1] [w_Rs g (K 10) (fun k => K (16 + 2 * k)) (fun k => K (17 + 2 * k)) s1, w_Rn g (K 0) (fun j => K (j + 1) 0) s0] [1, 0] 2 rfl rfl (by decide))).trans ((fa (foc_B hc3)).trans (pmn (rest := rest) [w_Bs g (K (17 + 2 * x1.toNatClampNeg)) (Rs_bytes s1 x1.toNatClampNeg), rem_B g (K 10) (fun k => K (16 + 2 * k)) (fun k => K (17 + 2 * k)) s1 x1.toNatClampNeg, w_Rn g (K 0) (fun j => K (j + 1) 0) s0] [w_Bs g (K (17 + 2 * x1.toNatClampNeg)) (Rs_bytes s1 x1.toNatClampNeg), rem_B g (K 10) (fun k => K (16 + 2 * k)) (fun k => K (17 + 2 * k)) s1 x1.toNatClampNeg, w_Rn g (K 0) (fun j => K (j + 1) 0) s0] [0, 1, 2] 3 rfl rfl (by decide)))).symm) (fun _ H locs hI hS => ?_)
  have hI : Iw D A (w_Rn g (K 0) (fun j => K (j + 1) 0) s0 ++ (w_Rs g (K 10) (fun k => K (16 + 2 * k)) (fun k => K (17 + 2 * k)) s1 ++ (rest))) H := hI
  refine lv_icmp_lt (tgt := 43) hx hb d_Rn_record_32 (by decide) (fun hc => ?_) (fun hc => ?_)
  · have h := it_t h hc
    exact no_s h
  · have h := it_f h hc
    exact t_Rn_record_e1_35 X hZ hfl hout (lv_sub hl [] rfl) hI hS h
set_option maxRecDepth 100000 in
set_option maxHeartbeats 4000000 in
theorem t_Rn_record_e1_15 {p : Program} {l : Launch} {e : Env} {s : State} {m : MethodId} {args : Array Value} {below : List Frame} {meth : Method} {c : Code} {D : va_G} {A : Nat → Prop} {g : Nat → ClassId} {rest : va_W} {K : Nat → Nat → Nat} {ls : Array Slot} {H : Heap} {locs : List Loc} {s0 : S_Rn} {s1 : S_Rs} {x1 : Int32} {x2 : Int32} {out : Unit} (X : Cx p s m args meth c prog_1_method_15_code 3 ws_Rn_record R_Rn (some .int) D g) (hZ : SZ A s s.heap) (hfl : l.flags = flags0) (hout : ∀ x ∈ c.exceptionTable.toList, ∀ pc, covers x pc = false) (hl : lv_has ls 3 [(0, .ref (K 0 0)), (1, .int x1), (2, .int x2)]) (hI : Iw D A (w_Rn g (K 0) (fun j => K (j + 1) 0) s0 ++ (w_Rs g (K 10) (fun k => K (16 + 2 * k)) (fun k => K (17 + 2 * k)) s1 ++ (rest))) H) (hS : va_S A s.heap H locs) (h : B_Rn_record_e1_15 s0 s1 x1 x2 = some out) : W p l e (headSpec ws_Rn_record { frames := 6, cells := 1, slots := 6, locals := 99 }).room s m args below meth c H locs 0 0 (MQT below "java/util/NoSuchElementException" (fun t => ∃ (u : Unit), Iw D A (w_Rn g (K 0) (fun j => K (j + 1) 0) s0 ++ (w_Rs g (K 10) (fun k => K (16 + 2 * k)) (fun k => K (17 + 2 * k)) s1 ++ (rest))) t.heap ∧ KK D g t) args s 1 6 A) (F0 m 15 ls []) := by
  have X1 := X
  obtain ⟨hx, hb, hml, hown, hts, hr, hlocks, hKK⟩ := X1
  have ht : ∀ w ∈ TB, w.before args s = true := fun w h => hts w (List.mem_cons_of_mem _ h)
  have hK := hKK.1
  unfold B_Rn_record_e1_15 at h
  refine lv_iload_n hx hb d_Rn_record_15 rfl (lv_at hl 2 rfl) ?_
  refine lv_iconst (v := (-1)) hx hb d_Rn_record_16 (by decide) ?_
  refine lv_icmp_lt (tgt := 35) hx hb d_Rn_record_17 (by decide) (fun hc => ?_) (fun hc => ?_)
  · have h := it_t h hc
    exact t_Rn_record_e1_35 X hZ hfl hout (lv_sub hl [] rfl) hI hS h
  · have h := it_f h hc
    exact t_Rn_record_e1_20 X hZ hfl hout (lv_sub hl [0, 1, 2] rfl) hI hS h
set_option maxRecDepth 100000 in
set_option maxHeartbeats 4000000 in
theorem t_Rn_record_e1_4 {p : Program} {l : Launch} {e : Env} {s : State} {m : MethodId} {args : Array Value} {below : List Frame} {meth : Method} {c : Code} {D : va_G} {A : Nat → Prop} {g : Nat → ClassId} {rest : va_W} {K : Nat → Nat → Nat} {ls : Array Slot} {H : Heap} {locs : List Loc} {s0 : S_Rn} {s1 : S_Rs} {x1 : Int32} {x2 : Int32} {out : Unit} (X : Cx p s m args meth c prog_1_method_15_code 3 ws_Rn_record R_Rn (some .int) D g) (hZ : SZ A s s.heap) (hfl : l.flags = flags0) (hout : ∀ x ∈ c.exceptionTable.toList, ∀ pc, covers x pc = false) (hl : lv_has ls 3 [(0, .ref (K 0 0)), (1, .int x1), (2, .int x2)]) (hI : Iw D A (w_Rn g (K 0) (fun j => K (j + 1) 0) s0 ++ (w_Rs g (K 10) (fun k => K (16 + 2 * k)) (fun k => K (17 + 2 * k)) s1 ++ (rest))) H) (hS : va_S A s.heap H locs) (h : B_Rn_record_e1_4 s0 s1 x1 x2 = some out) : W p l e (headSpec ws_Rn_record { frames := 6, cells := 1, slots := 6, locals := 99 }).room s m args below meth c H locs 0 0 (MQT below "java/util/NoSuchElementException" (fun t => ∃ (u : Unit), Iw D A (w_Rn g (K 0) (fun j => K (j + 1) 0) s0 ++ (w_Rs g (K 10) (fun k => K (16 + 2 * k)) (fun k => K (17 + 2 * k)) s1 ++ (rest))) t.heap ∧ KK D g t) args s 1 6 A) (F0 m 4 ls []) := by
  have X1 := X
  obtain ⟨hx, hb, hml, hown, hts, hr, hlocks, hKK⟩ := X1
  have ht : ∀ w ∈ TB, w.before args s = true := fun w h => hts w (List.mem_cons_of_mem _ h)
  have hK := hKK.1
  unfold B_Rn_record_e1_4 at h
  refine lv_iload_n hx hb d_Rn_record_4 rfl (lv_at hl 1 rfl) ?_
  refine lv_aload_n hx hb d_Rn_record_5 rfl (lv_at hl 0 rfl) ?_
  refine va_get (D := D) (ci := 8) (v := .ref (K 10 0)) (C := R_Rn) (T := T_Rn) (N := 16) hx hb ht in_Rn hown hK hI.1 0 rfl rfl 9 (by decide) (ht _ m_212) (fun _ h9 => h9) rfl d_Rn_record_6 ?_
  obtain ⟨o1, ho2, h⟩ := bd_s h
  refine cl_i (W1 := fun (_ : Unit) => w_Rn g (K 0) (fun j => K (j + 1) 0) s0 ++ (w_Rs g (K 10) (fun k => K (16 + 2 * k)) (fun k => K (17 + 2 * k)) s1 ++ (rest))) (va_runV (As := []) (rest := [.int x1]) ⟨hx, hb, hml, hown, ht⟩ (c_Rs_count (l := l) (D := D) (A := A) (g := g) (rest := w_Rn g (K 0) (fun j => K (j + 1) 0) s0 ++ (rest)) (a0 := K 10) (N := (fun k => K (16 + 2 * k))) (B := (fun k => K (17 + 2 * k))) ho2) (cwV 0 ht (gd_V m_610 m_611 m_612 m_6 m_613) rfl rfl rfl (by decide +kernel) ⟨(Nat.le_of_ble_eq_true rfl), (Nat.le_of_ble_eq_true rfl)⟩) (prV (ci := 6) (q0 := 0) hKK hI (pmn (rest := rest) [w_Rn g (K 0) (fun j => K (j + 1) 0) s0, w_Rs g (K 10) (fun k => K (16 + 2 * k)) (fun k => K (17 + 2 * k)) s1] [w_Rs g (K 10) (fun k => K (16 + 2 * k)) (fun k => K (17 + 2 * k)) s1, w_Rn g (K 0) (fun j => K (j + 1) 0) s0] [1, 0] 2 rfl rfl (by decide)) rfl rfl rfl) rfl rfl hl.1 rfl (lv_room (Nat.le_of_ble_eq_true rfl)) d_Rn_record_9 ⟨(Nat.le_of_ble_eq_true rfl), (Nat.le_of_ble_eq_true rfl)⟩) hS (fun _ => (pmn (rest := rest) [w_Rs g (K 10) (fun k => K (16 + 2 * k)) (fun k => K (17 + 2 * k)) s1, w_Rn g (K 0) (fun j => K (j + 1) 0) s0] [w_Rn g (K 0) (fun j => K (j + 1) 0) s0, w_Rs g (K 10) (fun k => K (16 + 2 * k)) (fun k => K (17 + 2 * k)) s1] [1, 0] 2 rfl rfl (by decide))) (fun _ H locs hI hS => ?_)
  have hI : Iw D A (w_Rn g (K 0) (fun j => K (j + 1) 0) s0 ++ (w_Rs g (K 10) (fun k => K (16 + 2 * k)) (fun k => K (17 + 2 * k)) s1 ++ (rest))) H := hI
  refine lv_icmp_ge (tgt := 35) hx hb d_Rn_record_12 (by decide) (fun hc => ?_) (fun hc => ?_)
  · have h := it_t h hc
    exact t_Rn_record_e1_35 X hZ hfl hout (lv_sub hl [] rfl) hI hS h
  · have h := it_f h hc
    exact t_Rn_record_e1_15 X hZ hfl hout (lv_sub hl [0, 1, 2] rfl) hI hS h
set_option maxRecDepth 100000 in
set_option maxHeartbeats 4000000 in
theorem t_Rn_record_e1_0 {p : Program} {l : Launch} {e : Env} {s : State} {m : MethodId} {args : Array Value} {below : List Frame} {meth : Method} {c : Code} {D : va_G} {A : Nat → Prop} {g : Nat → ClassId} {rest : va_W} {K : Nat → Nat → Nat} {ls : Array Slot} {H : Heap} {locs : List Loc} {s0 : S_Rn} {s1 : S_Rs} {x1 : Int32} {x2 : Int32} {out : Unit} (X : Cx p s m args meth c prog_1_method_15_code 3 ws_Rn_record R_Rn (some .int) D g) (hZ : SZ A s s.heap) (hfl : l.flags = flags0) (hout : ∀ x ∈ c.exceptionTable.toList, ∀ pc, covers x pc = false) (hl : lv_has ls 3 [(0, .ref (K 0 0)), (1, .int x1), (2, .int x2)]) (hI : Iw D A (w_Rn g (K 0) (fun j => K (j + 1) 0) s0 ++ (w_Rs g (K 10) (fun k => K (16 + 2 * k)) (fun k => K (17 + 2 * k)) s1 ++ (rest))) H) (hS : va_S A s.heap H locs) (h : B_Rn_record_e1_0 s0 s1 x1 x2 = some out) : W p l e (headSpec ws_Rn_record { frames := 6, cells := 1, slots := 6, locals := 99 }).room s m args below meth c H locs 0 0 (MQT below "java/util/NoSuchElementException" (fun t => ∃ (u : Unit), Iw D A (w_Rn g (K 0) (fun j => K (j + 1) 0) s0 ++ (w_Rs g (K 10) (fun k => K (16 + 2 * k)) (fun k => K (17 + 2 * k)) s1 ++ (rest))) t.heap ∧ KK D g t) args s 1 6 A) (F0 m 0 ls []) := by
  have X1 := X
  obtain ⟨hx, hb, hml, hown, hts, hr, hlocks, hKK⟩ := X1
  have ht : ∀ w ∈ TB, w.before args s = true := fun w h => hts w (List.mem_cons_of_mem _ h)
  have hK := hKK.1
  unfold B_Rn_record_e1_0 at h
  refine lv_iload_n hx hb d_Rn_record_0 rfl (lv_at hl 1 rfl) ?_
  refine lv_if_lt (tgt := 35) hx hb d_Rn_record_1 (by decide) (fun hc => ?_) (fun hc => ?_)
  · have h := it_t h hc
    exact t_Rn_record_e1_35 X hZ hfl hout (lv_sub hl [] rfl) hI hS h
  · have h := it_f h hc
    exact t_Rn_record_e1_4 X hZ hfl hout (lv_sub hl [0, 1, 2] rfl) hI hS h
set_option maxRecDepth 100000 in
set_option maxHeartbeats 4000000 in
theorem c_Rn_record_e1 {l : Launch} (hfl : l.flags = flags0) {D : va_G} {A : Nat → Prop} {g : Nat → ClassId} {rest : va_W} {K : Nat → Nat → Nat} {s0 : S_Rn} {s1 : S_Rs} {x1 : Int32} {x2 : Int32} {out : Unit} (h : F_Rn_record_e1 s0 s1 x1 x2 = some out) : MetT l y_Rn_record ws_Rn_record { frames := 6, cells := 1, slots := 6, locals := 99 } (PcZ D A g [.ref (K 0 0), .int x1, .int x2] (w_Rn g (K 0) (fun j => K (j + 1) 0) s0 ++ (w_Rs g (K 10) (fun k => K (16 + 2 * k)) (fun k => K (17 + 2 * k)) s1 ++ (rest)))) "java/util/NoSuchElementException" (fun t => ∃ (u : Unit), Iw D A (w_Rn g (K 0) (fun j => K (j + 1) 0) s0 ++ (w_Rs g (K 10) (fun k => K (16 + 2 * k)) (fun k => K (17 + 2 * k)) s1 ++ (rest))) t.heap ∧ KK D g t) 1 6 A := by
  refine MetT.ofW (cc := prog_1_method_15_code) (maxL := 3) (ret := (some .int)) (by decide) rfl ?_
  intro p e s m args below meth c s₁ B hml hv
  obtain ⟨rfl, hI, hK, hZ⟩ := hv
  have hl := lv_entry [.ref (K 0 0), .int x1, .int x2] (n := 3) (Nat.le_of_ble_eq_true rfl)
  rw [lg_entry_eq]
  generalize (lg_sl [.ref (K 0 0), .int x1, .int x2] ++ List.replicate (3 - (lg_sl [.ref (K 0 0), .int x1, .int x2]).length) Slot.unset).toArray = ls at hl ⊢
  have hl : lv_has ls 3 [(0, .ref (K 0 0)), (1, .int x1), (2, .int x2)] := hl
  have hts := atoms_spec (ws := ws_Rn_record) B.pre
  exact t_Rn_record_e1_0 ⟨B.exec, B.bytes, hml, findClass_of_methodNamed B.named, hts, B.returns, B.notSynchronized, hK⟩ hZ hfl (no_rows B (hts _ List.mem_cons_self)) (lv_sub hl [0, 1, 2] rfl) hI va_S.rf h
