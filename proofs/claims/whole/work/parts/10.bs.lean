theorem d_Bs_reset_0 : decode prog_2_method_2_code 0 = .ok (.aload_n 0, 1) := by decide +kernel
theorem d_Bs_reset_1 : decode prog_2_method_2_code 1 = .ok (.iconst 0, 1) := by decide +kernel
theorem d_Bs_reset_2 : decode prog_2_method_2_code 2 = .ok (.putfield 15, 3) := by decide +kernel
theorem d_Bs_reset_5 : decode prog_2_method_2_code 5 = .ok (.return_, 1) := by decide +kernel
theorem d_Bs_count_0 : decode prog_2_method_3_code 0 = .ok (.aload_n 0, 1) := by decide +kernel
theorem d_Bs_count_1 : decode prog_2_method_3_code 1 = .ok (.getfield 15, 3) := by decide +kernel
theorem d_Bs_count_4 : decode prog_2_method_3_code 4 = .ok (.ireturn, 1) := by decide +kernel
theorem d_Bs_hasRoom_0 : decode prog_2_method_4_code 0 = .ok (.iload_n 1, 1) := by decide +kernel
theorem d_Bs_hasRoom_1 : decode prog_2_method_4_code 1 = .ok (.aload_n 0, 1) := by decide +kernel
theorem d_Bs_hasRoom_2 : decode prog_2_method_4_code 2 = .ok (.getfield 9, 3) := by decide +kernel
theorem d_Bs_hasRoom_5 : decode prog_2_method_4_code 5 = .ok (.arraylength, 1) := by decide +kernel
theorem d_Bs_hasRoom_6 : decode prog_2_method_4_code 6 = .ok (.aload_n 0, 1) := by decide +kernel
theorem d_Bs_hasRoom_7 : decode prog_2_method_4_code 7 = .ok (.getfield 15, 3) := by decide +kernel
theorem d_Bs_hasRoom_10 : decode prog_2_method_4_code 10 = .ok (.isub, 1) := by decide +kernel
theorem d_Bs_hasRoom_11 : decode prog_2_method_4_code 11 = .ok (.if_icmp .gt 7, 3) := by decide +kernel
theorem d_Bs_hasRoom_14 : decode prog_2_method_4_code 14 = .ok (.iconst 1, 1) := by decide +kernel
theorem d_Bs_hasRoom_15 : decode prog_2_method_4_code 15 = .ok (.goto 4, 3) := by decide +kernel
theorem d_Bs_hasRoom_18 : decode prog_2_method_4_code 18 = .ok (.iconst 0, 1) := by decide +kernel
theorem d_Bs_hasRoom_19 : decode prog_2_method_4_code 19 = .ok (.ireturn, 1) := by decide +kernel
theorem d_Bs_append_0 : decode prog_2_method_5_code 0 = .ok (.aload_n 0, 1) := by decide +kernel
theorem d_Bs_append_1 : decode prog_2_method_5_code 1 = .ok (.getfield 15, 3) := by decide +kernel
theorem d_Bs_append_4 : decode prog_2_method_5_code 4 = .ok (.aload_n 0, 1) := by decide +kernel
theorem d_Bs_append_5 : decode prog_2_method_5_code 5 = .ok (.getfield 9, 3) := by decide +kernel
theorem d_Bs_append_8 : decode prog_2_method_5_code 8 = .ok (.arraylength, 1) := by decide +kernel
theorem d_Bs_append_9 : decode prog_2_method_5_code 9 = .ok (.if_icmp .ge 27, 3) := by decide +kernel
theorem d_Bs_append_12 : decode prog_2_method_5_code 12 = .ok (.aload_n 0, 1) := by decide +kernel
theorem d_Bs_append_13 : decode prog_2_method_5_code 13 = .ok (.getfield 9, 3) := by decide +kernel
theorem d_Bs_append_16 : decode prog_2_method_5_code 16 = .ok (.aload_n 0, 1) := by decide +kernel
theorem d_Bs_append_17 : decode prog_2_method_5_code 17 = .ok (.getfield 15, 3) := by decide +kernel
theorem d_Bs_append_20 : decode prog_2_method_5_code 20 = .ok (.iload_n 1, 1) := by decide +kernel
theorem d_Bs_append_21 : decode prog_2_method_5_code 21 = .ok (.sipush 255, 3) := by decide +kernel
theorem d_Bs_append_24 : decode prog_2_method_5_code 24 = .ok (.iand, 1) := by decide +kernel
theorem d_Bs_append_25 : decode prog_2_method_5_code 25 = .ok (.iastore, 1) := by decide +kernel
theorem d_Bs_append_26 : decode prog_2_method_5_code 26 = .ok (.aload_n 0, 1) := by decide +kernel
theorem d_Bs_append_27 : decode prog_2_method_5_code 27 = .ok (.dup, 1) := by decide +kernel
theorem d_Bs_append_28 : decode prog_2_method_5_code 28 = .ok (.getfield 15, 3) := by decide +kernel
theorem d_Bs_append_31 : decode prog_2_method_5_code 31 = .ok (.iconst 1, 1) := by decide +kernel
theorem d_Bs_append_32 : decode prog_2_method_5_code 32 = .ok (.iadd, 1) := by decide +kernel
theorem d_Bs_append_33 : decode prog_2_method_5_code 33 = .ok (.putfield 15, 3) := by decide +kernel
theorem d_Bs_append_36 : decode prog_2_method_5_code 36 = .ok (.return_, 1) := by decide +kernel
theorem d_Bs_get_0 : decode prog_2_method_6_code 0 = .ok (.iload_n 1, 1) := by decide +kernel
theorem d_Bs_get_1 : decode prog_2_method_6_code 1 = .ok (.ifCond .lt 20, 3) := by decide +kernel
theorem d_Bs_get_4 : decode prog_2_method_6_code 4 = .ok (.iload_n 1, 1) := by decide +kernel
theorem d_Bs_get_5 : decode prog_2_method_6_code 5 = .ok (.aload_n 0, 1) := by decide +kernel
theorem d_Bs_get_6 : decode prog_2_method_6_code 6 = .ok (.getfield 15, 3) := by decide +kernel
theorem d_Bs_get_9 : decode prog_2_method_6_code 9 = .ok (.if_icmp .ge 12, 3) := by decide +kernel
theorem d_Bs_get_12 : decode prog_2_method_6_code 12 = .ok (.aload_n 0, 1) := by decide +kernel
theorem d_Bs_get_13 : decode prog_2_method_6_code 13 = .ok (.getfield 9, 3) := by decide +kernel
theorem d_Bs_get_16 : decode prog_2_method_6_code 16 = .ok (.iload_n 1, 1) := by decide +kernel
theorem d_Bs_get_17 : decode prog_2_method_6_code 17 = .ok (.iaload, 1) := by decide +kernel
theorem d_Bs_get_18 : decode prog_2_method_6_code 18 = .ok (.goto 4, 3) := by decide +kernel
theorem d_Bs_get_21 : decode prog_2_method_6_code 21 = .ok (.iconst (-1), 1) := by decide +kernel
theorem d_Bs_get_22 : decode prog_2_method_6_code 22 = .ok (.ireturn, 1) := by decide +kernel
theorem d_Bs_become_0 : decode prog_2_method_7_code 0 = .ok (.aload_n 0, 1) := by decide +kernel
theorem d_Bs_become_1 : decode prog_2_method_7_code 1 = .ok (.iconst 0, 1) := by decide +kernel
theorem d_Bs_become_2 : decode prog_2_method_7_code 2 = .ok (.putfield 15, 3) := by decide +kernel
theorem d_Bs_become_5 : decode prog_2_method_7_code 5 = .ok (.iconst 0, 1) := by decide +kernel
theorem d_Bs_become_6 : decode prog_2_method_7_code 6 = .ok (.istore_n 2, 1) := by decide +kernel
theorem d_Bs_become_7 : decode prog_2_method_7_code 7 = .ok (.iload_n 2, 1) := by decide +kernel
theorem d_Bs_become_8 : decode prog_2_method_7_code 8 = .ok (.aload_n 1, 1) := by decide +kernel
theorem d_Bs_become_9 : decode prog_2_method_7_code 9 = .ok (.getfield 15, 3) := by decide +kernel
theorem d_Bs_become_12 : decode prog_2_method_7_code 12 = .ok (.if_icmp .ge 19, 3) := by decide +kernel
theorem d_Bs_become_15 : decode prog_2_method_7_code 15 = .ok (.aload_n 0, 1) := by decide +kernel
theorem d_Bs_become_16 : decode prog_2_method_7_code 16 = .ok (.aload_n 1, 1) := by decide +kernel
theorem d_Bs_become_17 : decode prog_2_method_7_code 17 = .ok (.getfield 9, 3) := by decide +kernel
theorem d_Bs_become_20 : decode prog_2_method_7_code 20 = .ok (.iload_n 2, 1) := by decide +kernel
theorem d_Bs_become_21 : decode prog_2_method_7_code 21 = .ok (.iaload, 1) := by decide +kernel
theorem d_Bs_become_22 : decode prog_2_method_7_code 22 = .ok (.invokevirtual 19, 3) := by decide +kernel
theorem d_Bs_become_25 : decode prog_2_method_7_code 25 = .ok (.iinc 2 1, 3) := by decide +kernel
theorem d_Bs_become_28 : decode prog_2_method_7_code 28 = .ok (.goto (-21), 3) := by decide +kernel
theorem d_Bs_become_31 : decode prog_2_method_7_code 31 = .ok (.return_, 1) := by decide +kernel
theorem d_Bs_isSame_0 : decode prog_2_method_8_code 0 = .ok (.aload_n 0, 1) := by decide +kernel
theorem d_Bs_isSame_1 : decode prog_2_method_8_code 1 = .ok (.getfield 15, 3) := by decide +kernel
theorem d_Bs_isSame_4 : decode prog_2_method_8_code 4 = .ok (.aload_n 1, 1) := by decide +kernel
theorem d_Bs_isSame_5 : decode prog_2_method_8_code 5 = .ok (.getfield 15, 3) := by decide +kernel
theorem d_Bs_isSame_8 : decode prog_2_method_8_code 8 = .ok (.if_icmp .ne 7, 3) := by decide +kernel
theorem d_Bs_isSame_11 : decode prog_2_method_8_code 11 = .ok (.iconst 1, 1) := by decide +kernel
theorem d_Bs_isSame_12 : decode prog_2_method_8_code 12 = .ok (.goto 4, 3) := by decide +kernel
theorem d_Bs_isSame_15 : decode prog_2_method_8_code 15 = .ok (.iconst 0, 1) := by decide +kernel
theorem d_Bs_isSame_16 : decode prog_2_method_8_code 16 = .ok (.istore_n 2, 1) := by decide +kernel
theorem d_Bs_isSame_17 : decode prog_2_method_8_code 17 = .ok (.iconst 0, 1) := by decide +kernel
theorem d_Bs_isSame_18 : decode prog_2_method_8_code 18 = .ok (.istore_n 3, 1) := by decide +kernel
theorem d_Bs_isSame_19 : decode prog_2_method_8_code 19 = .ok (.iload_n 3, 1) := by decide +kernel
theorem d_Bs_isSame_20 : decode prog_2_method_8_code 20 = .ok (.aload_n 0, 1) := by decide +kernel
theorem d_Bs_isSame_21 : decode prog_2_method_8_code 21 = .ok (.getfield 15, 3) := by decide +kernel
theorem d_Bs_isSame_24 : decode prog_2_method_8_code 24 = .ok (.if_icmp .ge 34, 3) := by decide +kernel
theorem d_Bs_isSame_27 : decode prog_2_method_8_code 27 = .ok (.iload_n 2, 1) := by decide +kernel
theorem d_Bs_isSame_28 : decode prog_2_method_8_code 28 = .ok (.ifCond .eq 30, 3) := by decide +kernel
theorem d_Bs_isSame_31 : decode prog_2_method_8_code 31 = .ok (.aload_n 0, 1) := by decide +kernel
theorem d_Bs_isSame_32 : decode prog_2_method_8_code 32 = .ok (.getfield 9, 3) := by decide +kernel
theorem d_Bs_isSame_35 : decode prog_2_method_8_code 35 = .ok (.iload_n 3, 1) := by decide +kernel
theorem d_Bs_isSame_36 : decode prog_2_method_8_code 36 = .ok (.iaload, 1) := by decide +kernel
theorem d_Bs_isSame_37 : decode prog_2_method_8_code 37 = .ok (.aload_n 1, 1) := by decide +kernel
theorem d_Bs_isSame_38 : decode prog_2_method_8_code 38 = .ok (.getfield 9, 3) := by decide +kernel
theorem d_Bs_isSame_41 : decode prog_2_method_8_code 41 = .ok (.iload_n 3, 1) := by decide +kernel
theorem d_Bs_isSame_42 : decode prog_2_method_8_code 42 = .ok (.iaload, 1) := by decide +kernel
theorem d_Bs_isSame_43 : decode prog_2_method_8_code 43 = .ok (.if_icmp .ne 7, 3) := by decide +kernel
theorem d_Bs_isSame_46 : decode prog_2_method_8_code 46 = .ok (.iconst 1, 1) := by decide +kernel
theorem d_Bs_isSame_47 : decode prog_2_method_8_code 47 = .ok (.goto 4, 3) := by decide +kernel
theorem d_Bs_isSame_50 : decode prog_2_method_8_code 50 = .ok (.iconst 0, 1) := by decide +kernel
theorem d_Bs_isSame_51 : decode prog_2_method_8_code 51 = .ok (.istore_n 2, 1) := by decide +kernel
theorem d_Bs_isSame_52 : decode prog_2_method_8_code 52 = .ok (.iinc 3 1, 3) := by decide +kernel
theorem d_Bs_isSame_55 : decode prog_2_method_8_code 55 = .ok (.goto (-36), 3) := by decide +kernel
theorem d_Bs_isSame_58 : decode prog_2_method_8_code 58 = .ok (.iload_n 2, 1) := by decide +kernel
theorem d_Bs_isSame_59 : decode prog_2_method_8_code 59 = .ok (.ireturn, 1) := by decide +kernel
def ws_Bs_reset : List Cond := .code y_Bs_reset prog_2_method_2_code 1 none :: TB
def B_Bs_reset_0 (s0 : S_Bs) : Option S_Bs :=
  some (Bs_set_count s0 (0 : Int32))
def F_Bs_reset (s0 : S_Bs) : Option S_Bs := B_Bs_reset_0 s0
set_option maxRecDepth 100000 in
set_option maxHeartbeats 4000000 in
theorem t_Bs_reset_0 {p : Program} {l : Launch} {e : Env} {s : State} {m : MethodId} {args : Array Value} {below : List Frame} {meth : Method} {c : Code} {D : va_G} {A : Nat → Prop} {g : Nat → ClassId} {rest : va_W} {a0 : Nat → Nat} {ls : Array Slot} {H : Heap} {locs : List Loc} {s0 : S_Bs} {out : S_Bs} (X : Cx p s m args meth c prog_2_method_2_code 1 ws_Bs_reset R_Bs none D g) (hl : lv_has ls 1 [(0, .ref (a0 0))]) (hI : Iw D A (w_Bs g a0 s0 ++ (rest)) H) (hS : va_S A s.heap H locs) (h : B_Bs_reset_0  s0 = some out) : W p l e (headSpec ws_Bs_reset { frames := 0, cells := 0, slots := 0, locals := 0 }).room s m args below meth c H locs 0 0 (MQ below (QcV D A g (fun (_ : Unit) => w_Bs g a0 out ++ (rest))) args s 0 0 A) (F0 m 0 ls []) := by
  have X1 := X
  obtain ⟨hx, hb, hml, hown, hts, hr, hlocks, hKK⟩ := X1
  have ht : ∀ w ∈ TB, w.before args s = true := fun w h => hts w (List.mem_cons_of_mem _ h)
  have hK := hKK.1
  unfold B_Bs_reset_0 at h
  refine lv_aload_n hx hb d_Bs_reset_0 rfl (lv_at hl 0 rfl) ?_
  refine lv_iconst (v := 0) hx hb d_Bs_reset_1 (by decide) ?_
  refine va_put (D := D) (ci := 0) (v := .int (0 : Int32)) (ty := .int) (C := R_Bs) (T := T_Bs) (N := 2) hx hb ht in_Bs ty_Bs tyok_Bs nm_Bs hown hK hI.1 hI.2 hS 0 rfl rfl 1 (by decide) (ht _ m_33) (fun _ h9 => h9) rfl (by decide +kernel) rfl rfl (Nat.le_of_ble_eq_true rfl) d_Bs_reset_2 (fun H locs hP hD hS => ?_)
  have hI : Iw D A (w_Bs g a0 (Bs_set_count s0 (0 : Int32)) ++ (rest)) H := ⟨hP, hD⟩
  have h9 := Option.some.inj h
  subst h9
  exact W.vret hx hb hr (fun t ht hW => ⟨⟨(), rfl, trivial, ⟨by rw [ht]; exact hI, hKK.moved hW⟩⟩, hS.F ht⟩) hS.2.2 d_Bs_reset_5
set_option maxRecDepth 100000 in
set_option maxHeartbeats 4000000 in
theorem c_Bs_reset {l : Launch} {D : va_G} {A : Nat → Prop} {g : Nat → ClassId} {rest : va_W} {a0 : Nat → Nat} {s0 : S_Bs} {out : S_Bs} (h : F_Bs_reset s0 = some out) : Met l y_Bs_reset ws_Bs_reset { frames := 0, cells := 0, slots := 0, locals := 0 } (PcW D A g [.ref (a0 0)] (w_Bs g a0 s0 ++ (rest))) (QcV D A g (fun (_ : Unit) => w_Bs g a0 out ++ (rest))) 0 0 A := by
  refine Met.ofW (cc := prog_2_method_2_code) (maxL := 1) (ret := none) (by decide) rfl ?_
  intro p e s m args below meth c s₁ B hml hv
  obtain ⟨rfl, hI, hK⟩ := hv
  have hl := lv_entry [.ref (a0 0)] (n := 1) (Nat.le_of_ble_eq_true rfl)
  rw [lg_entry_eq]
  generalize (lg_sl [.ref (a0 0)] ++ List.replicate (1 - (lg_sl [.ref (a0 0)]).length) Slot.unset).toArray = ls at hl ⊢
  have hl : lv_has ls 1 [(0, .ref (a0 0))] := hl
  exact t_Bs_reset_0 ⟨B.exec, B.bytes, hml, findClass_of_methodNamed B.named, atoms_spec (ws := ws_Bs_reset) B.pre, B.returns, B.notSynchronized, hK⟩ (lv_sub hl [0] rfl) hI va_S.rf h
def ws_Bs_count : List Cond := .code y_Bs_count prog_2_method_3_code 1 (some .int) :: TB
def B_Bs_count_0 (s0 : S_Bs) : Option Int32 :=
  some (Bs_count s0)
def F_Bs_count (s0 : S_Bs) : Option Int32 := B_Bs_count_0 s0
set_option maxRecDepth 100000 in
set_option maxHeartbeats 4000000 in
theorem t_Bs_count_0 {p : Program} {l : Launch} {e : Env} {s : State} {m : MethodId} {args : Array Value} {below : List Frame} {meth : Method} {c : Code} {D : va_G} {A : Nat → Prop} {g : Nat → ClassId} {rest : va_W} {a0 : Nat → Nat} {ls : Array Slot} {H : Heap} {locs : List Loc} {s0 : S_Bs} {out : Int32} (X : Cx p s m args meth c prog_2_method_3_code 1 ws_Bs_count R_Bs (some .int) D g) (hl : lv_has ls 1 [(0, .ref (a0 0))]) (hI : Iw D A (w_Bs g a0 s0 ++ (rest)) H) (hS : va_S A s.heap H locs) (h : B_Bs_count_0  s0 = some out) : W p l e (headSpec ws_Bs_count { frames := 0, cells := 0, slots := 0, locals := 0 }).room s m args below meth c H locs 0 0 (MQ below (QcI D A g out (fun (_ : Unit) => w_Bs g a0 s0 ++ (rest))) args s 0 0 A) (F0 m 0 ls []) := by
  have X1 := X
  obtain ⟨hx, hb, hml, hown, hts, hr, hlocks, hKK⟩ := X1
  have ht : ∀ w ∈ TB, w.before args s = true := fun w h => hts w (List.mem_cons_of_mem _ h)
  have hK := hKK.1
  unfold B_Bs_count_0 at h
  refine lv_aload_n hx hb d_Bs_count_0 rfl (lv_at hl 0 rfl) ?_
  refine va_get (D := D) (ci := 0) (v := .int (Bs_count s0)) (C := R_Bs) (T := T_Bs) (N := 2) hx hb ht in_Bs hown hK hI.1 0 rfl rfl 1 (by decide) (ht _ m_33) (fun _ h9 => h9) rfl d_Bs_count_1 ?_
  have h9 := Option.some.inj h
  subst h9
  exact W.iret (v := (Bs_count s0)) hx hb hr (fun t ht hW => ⟨⟨_, (), rfl, rfl, ⟨by rw [ht]; exact hI, hKK.moved hW⟩⟩, hS.F ht⟩) hS.2.2 d_Bs_count_4
set_option maxRecDepth 100000 in
set_option maxHeartbeats 4000000 in
theorem c_Bs_count {l : Launch} {D : va_G} {A : Nat → Prop} {g : Nat → ClassId} {rest : va_W} {a0 : Nat → Nat} {s0 : S_Bs} {out : Int32} (h : F_Bs_count s0 = some out) : Met l y_Bs_count ws_Bs_count { frames := 0, cells := 0, slots := 0, locals := 0 } (PcW D A g [.ref (a0 0)] (w_Bs g a0 s0 ++ (rest))) (QcI D A g out (fun (_ : Unit) => w_Bs g a0 s0 ++ (rest))) 0 0 A := by
  refine Met.ofW (cc := prog_2_method_3_code) (maxL := 1) (ret := (some .int)) (by decide) rfl ?_
  intro p e s m args below meth c s₁ B hml hv
  obtain ⟨rfl, hI, hK⟩ := hv
  have hl := lv_entry [.ref (a0 0)] (n := 1) (Nat.le_of_ble_eq_true rfl)
  rw [lg_entry_eq]
  generalize (lg_sl [.ref (a0 0)] ++ List.replicate (1 - (lg_sl [.ref (a0 0)]).length) Slot.unset).toArray = ls at hl ⊢
  have hl : lv_has ls 1 [(0, .ref (a0 0))] := hl
  exact t_Bs_count_0 ⟨B.exec, B.bytes, hml, findClass_of_methodNamed B.named, atoms_spec (ws := ws_Bs_count) B.pre, B.returns, B.notSynchronized, hK⟩ (lv_sub hl [0] rfl) hI va_S.rf h
def ws_Bs_hasRoom : List Cond := .code y_Bs_hasRoom prog_2_method_4_code 2 (some .boolean) :: TB
def B_Bs_hasRoom_19 (s0 : S_Bs) (y0 : Int32) : Option Int32 :=
  (if y0 = 0 ∨ y0 = 1 then some y0 else none)
def B_Bs_hasRoom_18 (s0 : S_Bs) : Option Int32 :=
  (B_Bs_hasRoom_19 s0 (0 : Int32))
def B_Bs_hasRoom_14 (s0 : S_Bs) : Option Int32 :=
  (B_Bs_hasRoom_19 s0 (1 : Int32))
def B_Bs_hasRoom_0 (s0 : S_Bs) (x1 : Int32) : Option Int32 :=
  (if ((Int32.ofNat (Bs_n s0)) - (Bs_count s0)) < x1 then (B_Bs_hasRoom_18 s0) else (B_Bs_hasRoom_14 s0))
def F_Bs_hasRoom (s0 : S_Bs) (x1 : Int32) : Option Int32 := B_Bs_hasRoom_0 s0 x1
set_option maxRecDepth 100000 in
set_option maxHeartbeats 4000000 in
theorem t_Bs_hasRoom_19 {p : Program} {l : Launch} {e : Env} {s : State} {m : MethodId} {args : Array Value} {below : List Frame} {meth : Method} {c : Code} {D : va_G} {A : Nat → Prop} {g : Nat → ClassId} {rest : va_W} {a0 : Nat → Nat} {ls : Array Slot} {H : Heap} {locs : List Loc} {s0 : S_Bs} {y0 : Int32} {out : Int32} (X : Cx p s m args meth c prog_2_method_4_code 2 ws_Bs_hasRoom R_Bs (some .boolean) D g) (hl : lv_has ls 2 []) (hI : Iw D A (w_Bs g a0 s0 ++ (rest)) H) (hS : va_S A s.heap H locs) (h : B_Bs_hasRoom_19  s0 y0 = some out) : W p l e (headSpec ws_Bs_hasRoom { frames := 0, cells := 0, slots := 0, locals := 0 }).room s m args below meth c H locs 0 0 (MQ below (QcI D A g out (fun (_ : Unit) => w_Bs g a0 s0 ++ (rest))) args s 0 0 A) (F0 m 19 ls [.int y0]) := by
  have X1 := X
  obtain ⟨hx, hb, hml, hown, hts, hr, hlocks, hKK⟩ := X1
  have ht : ∀ w ∈ TB, w.before args s = true := fun w h => hts w (List.mem_cons_of_mem _ h)
  have hK := hKK.1
  unfold B_Bs_hasRoom_19 at h
  have hc1 : y0 = 0 ∨ y0 = 1 := by
    by_cases z : y0 = 0 ∨ y0 = 1
    · exact z
    · exact no_s (it_f h z)
  have h := it_t h hc1
  have h9 := Option.some.inj h
  subst h9
  exact W.zret (v := y0) hx hb hr (by rcases hc1 with z | z <;> rw [z] <;> rfl) (fun t ht hW => ⟨⟨_, (), rfl, rfl, ⟨by rw [ht]; exact hI, hKK.moved hW⟩⟩, hS.F ht⟩) hS.2.2 d_Bs_hasRoom_19
set_option maxRecDepth 100000 in
set_option maxHeartbeats 4000000 in
theorem t_Bs_hasRoom_18 {p : Program} {l : Launch} {e : Env} {s : State} {m : MethodId} {args : Array Value} {below : List Frame} {meth : Method} {c : Code} {D : va_G} {A : Nat → Prop} {g : Nat → ClassId} {rest : va_W} {a0 : Nat → Nat} {ls : Array Slot} {H : Heap} {locs : List Loc} {s0 : S_Bs} {out : Int32} (X : Cx p s m args meth c prog_2_method_4_code 2 ws_Bs_hasRoom R_Bs (some .boolean) D g) (hl : lv_has ls 2 []) (hI : Iw D A (w_Bs g a0 s0 ++ (rest)) H) (hS : va_S A s.heap H locs) (h : B_Bs_hasRoom_18  s0 = some out) : W p l e (headSpec ws_Bs_hasRoom { frames := 0, cells := 0, slots := 0, locals := 0 }).room s m args below meth c H locs 0 0 (MQ below (QcI D A g out (fun (_ : Unit) => w_Bs g a0 s0 ++ (rest))) args s 0 0 A) (F0 m 18 ls []) := by
  have X1 := X
  obtain ⟨hx, hb, hml, hown, hts, hr, hlocks, hKK⟩ := X1
  have ht : ∀ w ∈ TB, w.before args s = true := fun w h => hts w (List.mem_cons_of_mem _ h)
  have hK := hKK.1
  unfold B_Bs_hasRoom_18 at h
  refine lv_iconst (v := 0) hx hb d_Bs_hasRoom_18 (by decide) ?_
  exact t_Bs_hasRoom_19 X (lv_sub hl [] rfl) hI hS h
set_option maxRecDepth 100000 in
set_option maxHeartbeats 4000000 in
theorem t_Bs_hasRoom_14 {p : Program} {l : Launch} {e : Env} {s : State} {m : MethodId} {args : Array Value} {below : List Frame} {meth : Method} {c : Code} {D : va_G} {A : Nat → Prop} {g : Nat → ClassId} {rest : va_W} {a0 : Nat → Nat} {ls : Array Slot} {H : Heap} {locs : List Loc} {s0 : S_Bs} {out : Int32} (X : Cx p s m args meth c prog_2_method_4_code 2 ws_Bs_hasRoom R_Bs (some .boolean) D g) (hl : lv_has ls 2 []) (hI : Iw D A (w_Bs g a0 s0 ++ (rest)) H) (hS : va_S A s.heap H locs) (h : B_Bs_hasRoom_14  s0 = some out) : W p l e (headSpec ws_Bs_hasRoom { frames := 0, cells := 0, slots := 0, locals := 0 }).room s m args below meth c H locs 0 0 (MQ below (QcI D A g out (fun (_ : Unit) => w_Bs g a0 s0 ++ (rest))) args s 0 0 A) (F0 m 14 ls []) := by
  have X1 := X
  obtain ⟨hx, hb, hml, hown, hts, hr, hlocks, hKK⟩ := X1
  have ht : ∀ w ∈ TB, w.before args s = true := fun w h => hts w (List.mem_cons_of_mem _ h)
  have hK := hKK.1
  unfold B_Bs_hasRoom_14 at h
  refine lv_iconst (v := 1) hx hb d_Bs_hasRoom_14 (by decide) ?_
  refine lv_goto (tgt := 19) hx hb d_Bs_hasRoom_15 (by decide) ?_
  exact t_Bs_hasRoom_19 X (lv_sub hl [] rfl) hI hS h
set_option maxRecDepth 100000 in
set_option maxHeartbeats 4000000 in
theorem t_Bs_hasRoom_0 {p : Program} {l : Launch} {e : Env} {s : State} {m : MethodId} {args : Array Value} {below : List Frame} {meth : Method} {c : Code} {D : va_G} {A : Nat → Prop} {g : Nat → ClassId} {rest : va_W} {a0 : Nat → Nat} {ls : Array Slot} {H : Heap} {locs : List Loc} {s0 : S_Bs} {x1 : Int32} {out : Int32} (X : Cx p s m args meth c prog_2_method_4_code 2 ws_Bs_hasRoom R_Bs (some .boolean) D g) (hl : lv_has ls 2 [(0, .ref (a0 0)), (1, .int x1)]) (hI : Iw D A (w_Bs g a0 s0 ++ (rest)) H) (hS : va_S A s.heap H locs) (h : B_Bs_hasRoom_0  s0 x1 = some out) : W p l e (headSpec ws_Bs_hasRoom { frames := 0, cells := 0, slots := 0, locals := 0 }).room s m args below meth c H locs 0 0 (MQ below (QcI D A g out (fun (_ : Unit) => w_Bs g a0 s0 ++ (rest))) args s 0 0 A) (F0 m 0 ls []) := by
  have X1 := X
  obtain ⟨hx, hb, hml, hown, hts, hr, hlocks, hKK⟩ := X1
  have ht : ∀ w ∈ TB, w.before args s = true := fun w h => hts w (List.mem_cons_of_mem _ h)
  have hK := hKK.1
  unfold B_Bs_hasRoom_0 at h
  refine lv_iload_n hx hb d_Bs_hasRoom_0 rfl (lv_at hl 1 rfl) ?_
  refine lv_aload_n hx hb d_Bs_hasRoom_1 rfl (lv_at hl 0 rfl) ?_
  refine va_get (D := D) (ci := 0) (v := .ref (a0 1)) (C := R_Bs) (T := T_Bs) (N := 2) hx hb ht in_Bs hown hK hI.1 0 rfl rfl 0 (by decide) (ht _ m_32) (fun _ h9 => h9) rfl d_Bs_hasRoom_2 ?_
  refine va_alen hx hb hK hI.1 1 0 rfl rfl rfl d_Bs_hasRoom_5 ?_
  refine lv_aload_n hx hb d_Bs_hasRoom_6 rfl (lv_at hl 0 rfl) ?_
  refine va_get (D := D) (ci := 0) (v := .int (Bs_count s0)) (C := R_Bs) (T := T_Bs) (N := 2) hx hb ht in_Bs hown hK hI.1 0 rfl rfl 1 (by decide) (ht _ m_33) (fun _ h9 => h9) rfl d_Bs_hasRoom_7 ?_
  refine lv_isub hx hb d_Bs_hasRoom_10 ?_
  refine lv_icmp_gt (tgt := 18) hx hb d_Bs_hasRoom_11 (by decide) (fun hc => ?_) (fun hc => ?_)
  · have h := it_t h hc
    exact t_Bs_hasRoom_18 X (lv_sub hl [] rfl) hI hS h
  · have h := it_f h hc
    exact t_Bs_hasRoom_14 X (lv_sub hl [] rfl) hI hS h
set_option maxRecDepth 100000 in
set_option maxHeartbeats 4000000 in
theorem c_Bs_hasRoom {l : Launch} {D : va_G} {A : Nat → Prop} {g : Nat → ClassId} {rest : va_W} {a0 : Nat → Nat} {s0 : S_Bs} {x1 : Int32} {out : Int32} (h : F_Bs_hasRoom s0 x1 = some out) : Met l y_Bs_hasRoom ws_Bs_hasRoom { frames := 0, cells := 0, slots := 0, locals := 0 } (PcW D A g [.ref (a0 0), .int x1] (w_Bs g a0 s0 ++ (rest))) (QcI D A g out (fun (_ : Unit) => w_Bs g a0 s0 ++ (rest))) 0 0 A := by
  refine Met.ofW (cc := prog_2_method_4_code) (maxL := 2) (ret := (some .boolean)) (by decide) rfl ?_
  intro p e s m args below meth c s₁ B hml hv
  obtain ⟨rfl, hI, hK⟩ := hv
  have hl := lv_entry [.ref (a0 0), .int x1] (n := 2) (Nat.le_of_ble_eq_true rfl)
  rw [lg_entry_eq]
  generalize (lg_sl [.ref (a0 0), .int x1] ++ List.replicate (2 - (lg_sl [.ref (a0 0), .int x1]).length) Slot.unset).toArray = ls at hl ⊢
  have hl : lv_has ls 2 [(0, .ref (a0 0)), (1, .int x1)] := hl
  exact t_Bs_hasRoom_0 ⟨B.exec, B.bytes, hml, findClass_of_methodNamed B.named, atoms_spec (ws := ws_Bs_hasRoom) B.pre, B.returns, B.notSynchronized, hK⟩ (lv_sub hl [0, 1] rfl) hI va_S.rf h
def ws_Bs_append : List Cond := .code y_Bs_append prog_2_method_5_code 2 none :: TB
def B_Bs_append_36 (s0 : S_Bs) : Option S_Bs :=
  some s0
def B_Bs_append_12 (s0 : S_Bs) (x1 : Int32) : Option S_Bs :=
  (if ((Bs_count s0) < 0 ∨ (Bs_n s0) ≤ (Bs_count s0).toNatClampNeg) then none else (B_Bs_append_36 (Bs_set_count (Bs_set_values s0 (upd (Bs_values s0) (Bs_count s0).toNatClampNeg (x1 &&& (255 : Int32)))) ((Bs_count (Bs_set_values s0 (upd (Bs_values s0) (Bs_count s0).toNatClampNeg (x1 &&& (255 : Int32))))) + (1 : Int32)))))
def B_Bs_append_0 (s0 : S_Bs) (x1 : Int32) : Option S_Bs :=
  (if (Int32.ofNat (Bs_n s0)) ≤ (Bs_count s0) then (B_Bs_append_36 s0) else (B_Bs_append_12 s0 x1))
def F_Bs_append (s0 : S_Bs) (x1 : Int32) : Option S_Bs := B_Bs_append_0 s0 x1
set_option maxRecDepth 100000 in
set_option maxHeartbeats 4000000 in
theorem t_Bs_append_36 {p : Program} {l : Launch} {e : Env} {s : State} {m : MethodId} {args : Array Value} {below : List Frame} {meth : Method} {c : Code} {D : va_G} {A : Nat → Prop} {g : Nat → ClassId} {rest : va_W} {a0 : Nat → Nat} {ls : Array Slot} {H : Heap} {locs : List Loc} {s0 : S_Bs} {out : S_Bs} (X : Cx p s m args meth c prog_2_method_5_code 2 ws_Bs_append R_Bs none D g) (hl : lv_has ls 2 []) (hI : Iw D A (w_Bs g a0 s0 ++ (rest)) H) (hS : va_S A s.heap H locs) (h : B_Bs_append_36  s0 = some out) : W p l e (headSpec ws_Bs_append { frames := 0, cells := 0, slots := 0, locals := 0 }).room s m args below meth c H locs 0 0 (MQ below (QcV D A g (fun (_ : Unit) => w_Bs g a0 out ++ (rest))) args s 0 0 A) (F0 m 36 ls []) := by
  have X1 := X
  obtain ⟨hx, hb, hml, hown, hts, hr, hlocks, hKK⟩ := X1
  have ht : ∀ w ∈ TB, w.before args s = true := fun w h => hts w (List.mem_cons_of_mem _ h)
  have hK := hKK.1
  unfold B_Bs_append_36 at h
  have h9 := Option.some.inj h
  subst h9
  exact W.vret hx hb hr (fun t ht hW => ⟨⟨(), rfl, trivial, ⟨by rw [ht]; exact hI, hKK.moved hW⟩⟩, hS.F ht⟩) hS.2.2 d_Bs_append_36
set_option maxRecDepth 100000 in
set_option maxHeartbeats 4000000 in
theorem t_Bs_append_12 {p : Program} {l : Launch} {e : Env} {s : State} {m : MethodId} {args : Array Value} {below : List Frame} {meth : Method} {c : Code} {D : va_G} {A : Nat → Prop} {g : Nat → ClassId} {rest : va_W} {a0 : Nat → Nat} {ls : Array Slot} {H : Heap} {locs : List Loc} {s0 : S_Bs} {x1 : Int32} {out : S_Bs} (X : Cx p s m args meth c prog_2_method_5_code 2 ws_Bs_append R_Bs none D g) (hl : lv_has ls 2 [(0, .ref (a0 0)), (1, .int x1)]) (hI : Iw D A (w_Bs g a0 s0 ++ (rest)) H) (hS : va_S A s.heap H locs) (h : B_Bs_append_12  s0 x1 = some out) : W p l e (headSpec ws_Bs_append { frames := 0, cells := 0, slots := 0, locals := 0 }).room s m args below meth c H locs 0 0 (MQ below (QcV D A g (fun (_ : Unit) => w_Bs g a0 out ++ (rest))) args s 0 0 A) (F0 m 12 ls []) := by
  have X1 := X
  obtain ⟨hx, hb, hml, hown, hts, hr, hlocks, hKK⟩ := X1
  have ht : ∀ w ∈ TB, w.before args s = true := fun w h => hts w (List.mem_cons_of_mem _ h)
  have hK := hKK.1
  unfold B_Bs_append_12 at h
  refine lv_aload_n hx hb d_Bs_append_12 rfl (lv_at hl 0 rfl) ?_
  refine va_get (D := D) (ci := 0) (v := .ref (a0 1)) (C := R_Bs) (T := T_Bs) (N := 2) hx hb ht in_Bs hown hK hI.1 0 rfl rfl 0 (by decide) (ht _ m_32) (fun _ h9 => h9) rfl d_Bs_append_13 ?_
  refine lv_aload_n hx hb d_Bs_append_16 rfl (lv_at hl 0 rfl) ?_
  refine va_get (D := D) (ci := 0) (v := .int (Bs_count s0)) (C := R_Bs) (T := T_Bs) (N := 2) hx hb ht in_Bs hown hK hI.1 0 rfl rfl 1 (by decide) (ht _ m_33) (fun _ h9 => h9) rfl d_Bs_append_17 ?_
  refine lv_iload_n hx hb d_Bs_append_20 rfl (lv_at hl 1 rfl) ?_
  refine lv_sipush (v := 255) hx hb d_Bs_append_21 (by decide) ?_
  refine lv_iand hx hb d_Bs_append_24 ?_
  by_cases hc1 : ((Bs_count s0) < 0 ∨ (Bs_n s0) ≤ (Bs_count s0).toNatClampNeg)
  · exact no_s (it_t h hc1)
  have h := it_f h hc1
  refine va_iast hx hb hK hI.1 hI.2 hS 1 0 rfl rfl hc1 d_Bs_append_25 (fun H locs hP hD hS => ?_)
  have hI : Iw D A (w_Bs g a0 (Bs_set_values s0 (upd (Bs_values s0) (Bs_count s0).toNatClampNeg (x1 &&& (255 : Int32)))) ++ (rest)) H := ⟨hP, hD⟩
  refine lv_aload_n hx hb d_Bs_append_26 rfl (lv_at hl 0 rfl) ?_
  refine lv_dup hx hb d_Bs_append_27 rfl ?_
  refine va_get (D := D) (ci := 0) (v := .int (Bs_count (Bs_set_values s0 (upd (Bs_values s0) (Bs_count s0).toNatClampNeg (x1 &&& (255 : Int32)))))) (C := R_Bs) (T := T_Bs) (N := 2) hx hb ht in_Bs hown hK hI.1 0 rfl rfl 1 (by decide) (ht _ m_33) (fun _ h9 => h9) rfl d_Bs_append_28 ?_
  refine lv_iconst (v := 1) hx hb d_Bs_append_31 (by decide) ?_
  refine lv_iadd hx hb d_Bs_append_32 ?_
  refine va_put (D := D) (ci := 0) (v := .int ((Bs_count (Bs_set_values s0 (upd (Bs_values s0) (Bs_count s0).toNatClampNeg (x1 &&& (255 : Int32))))) + (1 : Int32))) (ty := .int) (C := R_Bs) (T := T_Bs) (N := 2) hx hb ht in_Bs ty_Bs tyok_Bs nm_Bs hown hK hI.1 hI.2 hS 0 rfl rfl 1 (by decide) (ht _ m_33) (fun _ h9 => h9) rfl (by decide +kernel) rfl rfl (Nat.le_of_ble_eq_true rfl) d_Bs_append_33 (fun H locs hP hD hS => ?_)
  have hI : Iw D A (w_Bs g a0 (Bs_set_count (Bs_set_values s0 (upd (Bs_values s0) (Bs_count s0).toNatClampNeg (x1 &&& (255 : Int32)))) ((Bs_count (Bs_set_values s0 (upd (Bs_values s0) (Bs_count s0).toNatClampNeg (x1 &&& (255 : Int32))))) + (1 : Int32))) ++ (rest)) H := ⟨hP, hD⟩
  exact t_Bs_append_36 X (lv_sub hl [] rfl) hI hS h
set_option maxRecDepth 100000 in
set_option maxHeartbeats 4000000 in
theorem t_Bs_append_0 {p : Program} {l : Launch} {e : Env} {s : State} {m : MethodId} {args : Array Value} {below : List Frame} {meth : Method} {c : Code} {D : va_G} {A : Nat → Prop} {g : Nat → ClassId} {rest : va_W} {a0 : Nat → Nat} {ls : Array Slot} {H : Heap} {locs : List Loc} {s0 : S_Bs} {x1 : Int32} {out : S_Bs} (X : Cx p s m args meth c prog_2_method_5_code 2 ws_Bs_append R_Bs none D g) (hl : lv_has ls 2 [(0, .ref (a0 0)), (1, .int x1)]) (hI : Iw D A (w_Bs g a0 s0 ++ (rest)) H) (hS : va_S A s.heap H locs) (h : B_Bs_append_0  s0 x1 = some out) : W p l e (headSpec ws_Bs_append { frames := 0, cells := 0, slots := 0, locals := 0 }).room s m args below meth c H locs 0 0 (MQ below (QcV D A g (fun (_ : Unit) => w_Bs g a0 out ++ (rest))) args s 0 0 A) (F0 m 0 ls []) := by
  have X1 := X
  obtain ⟨hx, hb, hml, hown, hts, hr, hlocks, hKK⟩ := X1
  have ht : ∀ w ∈ TB, w.before args s = true := fun w h => hts w (List.mem_cons_of_mem _ h)
  have hK := hKK.1
  unfold B_Bs_append_0 at h
  refine lv_aload_n hx hb d_Bs_append_0 rfl (lv_at hl 0 rfl) ?_
  refine va_get (D := D) (ci := 0) (v := .int (Bs_count s0)) (C := R_Bs) (T := T_Bs) (N := 2) hx hb ht in_Bs hown hK hI.1 0 rfl rfl 1 (by decide) (ht _ m_33) (fun _ h9 => h9) rfl d_Bs_append_1 ?_
  refine lv_aload_n hx hb d_Bs_append_4 rfl (lv_at hl 0 rfl) ?_
  refine va_get (D := D) (ci := 0) (v := .ref (a0 1)) (C := R_Bs) (T := T_Bs) (N := 2) hx hb ht in_Bs hown hK hI.1 0 rfl rfl 0 (by decide) (ht _ m_32) (fun _ h9 => h9) rfl d_Bs_append_5 ?_
  refine va_alen hx hb hK hI.1 1 0 rfl rfl rfl d_Bs_append_8 ?_
  refine lv_icmp_ge (tgt := 36) hx hb d_Bs_append_9 (by decide) (fun hc => ?_) (fun hc => ?_)
  · have h := it_t h hc
    exact t_Bs_append_36 X (lv_sub hl [] rfl) hI hS h
  · have h := it_f h hc
    exact t_Bs_append_12 X (lv_sub hl [0, 1] rfl) hI hS h
set_option maxRecDepth 100000 in
set_option maxHeartbeats 4000000 in
theorem c_Bs_append {l : Launch} {D : va_G} {A : Nat → Prop} {g : Nat → ClassId} {rest : va_W} {a0 : Nat → Nat} {s0 : S_Bs} {x1 : Int32} {out : S_Bs} (h : F_Bs_append s0 x1 = some out) : Met l y_Bs_append ws_Bs_append { frames := 0, cells := 0, slots := 0, locals := 0 } (PcW D A g [.ref (a0 0), .int x1] (w_Bs g a0 s0 ++ (rest))) (QcV D A g (fun (_ : Unit) => w_Bs g a0 out ++ (rest))) 0 0 A := by
  refine Met.ofW (cc := prog_2_method_5_code) (maxL := 2) (ret := none) (by decide) rfl ?_
  intro p e s m args below meth c s₁ B hml hv
  obtain ⟨rfl, hI, hK⟩ := hv
  have hl := lv_entry [.ref (a0 0), .int x1] (n := 2) (Nat.le_of_ble_eq_true rfl)
  rw [lg_entry_eq]
  generalize (lg_sl [.ref (a0 0), .int x1] ++ List.replicate (2 - (lg_sl [.ref (a0 0), .int x1]).length) Slot.unset).toArray = ls at hl ⊢
  have hl : lv_has ls 2 [(0, .ref (a0 0)), (1, .int x1)] := hl
  exact t_Bs_append_0 ⟨B.exec, B.bytes, hml, findClass_of_methodNamed B.named, atoms_spec (ws := ws_Bs_append) B.pre, B.returns, B.notSynchronized, hK⟩ (lv_sub hl [0, 1] rfl) hI va_S.rf h
def ws_Bs_get : List Cond := .code y_Bs_get prog_2_method_6_code 2 (some .int) :: TB
def B_Bs_get_22 (s0 : S_Bs) (y0 : Int32) : Option Int32 :=
  some y0
def B_Bs_get_21 (s0 : S_Bs) : Option Int32 :=
  (B_Bs_get_22 s0 ((-1) : Int32))
def B_Bs_get_12 (s0 : S_Bs) (x1 : Int32) : Option Int32 :=
  (if (x1 < 0 ∨ (Bs_n s0) ≤ x1.toNatClampNeg) then none else (B_Bs_get_22 s0 ((Bs_values s0) x1.toNatClampNeg)))
def B_Bs_get_4 (s0 : S_Bs) (x1 : Int32) : Option Int32 :=
  (if (Bs_count s0) ≤ x1 then (B_Bs_get_21 s0) else (B_Bs_get_12 s0 x1))
def B_Bs_get_0 (s0 : S_Bs) (x1 : Int32) : Option Int32 :=
  (if x1 < 0 then (B_Bs_get_21 s0) else (B_Bs_get_4 s0 x1))
def F_Bs_get (s0 : S_Bs) (x1 : Int32) : Option Int32 := B_Bs_get_0 s0 x1
set_option maxRecDepth 100000 in
set_option maxHeartbeats 4000000 in
theorem t_Bs_get_22 {p : Program} {l : Launch} {e : Env} {s : State} {m : MethodId} {args : Array Value} {below : List Frame} {meth : Method} {c : Code} {D : va_G} {A : Nat → Prop} {g : Nat → ClassId} {rest : va_W} {a0 : Nat → Nat} {ls : Array Slot} {H : Heap} {locs : List Loc} {s0 : S_Bs} {y0 : Int32} {out : Int32} (X : Cx p s m args meth c prog_2_method_6_code 2 ws_Bs_get R_Bs (some .int) D g) (hl : lv_has ls 2 []) (hI : Iw D A (w_Bs g a0 s0 ++ (rest)) H) (hS : va_S A s.heap H locs) (h : B_Bs_get_22  s0 y0 = some out) : W p l e (headSpec ws_Bs_get { frames := 0, cells := 0, slots := 0, locals := 0 }).room s m args below meth c H locs 0 0 (MQ below (QcI D A g out (fun (_ : Unit) => w_Bs g a0 s0 ++ (rest))) args s 0 0 A) (F0 m 22 ls [.int y0]) := by
  have X1 := X
  obtain ⟨hx, hb, hml, hown, hts, hr, hlocks, hKK⟩ := X1
  have ht : ∀ w ∈ TB, w.before args s = true := fun w h => hts w (List.mem_cons_of_mem _ h)
  have hK := hKK.1
  unfold B_Bs_get_22 at h
  have h9 := Option.some.inj h
  subst h9
  exact W.iret (v := y0) hx hb hr (fun t ht hW => ⟨⟨_, (), rfl, rfl, ⟨by rw [ht]; exact hI, hKK.moved hW⟩⟩, hS.F ht⟩) hS.2.2 d_Bs_get_22
set_option maxRecDepth 100000 in
set_option maxHeartbeats 4000000 in
theorem t_Bs_get_21 {p : Program} {l : Launch} {e : Env} {s : State} {m : MethodId} {args : Array Value} {below : List Frame} {meth : Method} {c : Code} {D : va_G} {A : Nat → Prop} {g : Nat → ClassId} {rest : va_W} {a0 : Nat → Nat} {ls : Array Slot} {H : Heap} {locs : List Loc} {s0 : S_Bs} {out : Int32} (X : Cx p s m args meth c prog_2_method_6_code 2 ws_Bs_get R_Bs (some .int) D g) (hl : lv_has ls 2 []) (hI : Iw D A (w_Bs g a0 s0 ++ (rest)) H) (hS : va_S A s.heap H locs) (h : B_Bs_get_21  s0 = some out) : W p l e (headSpec ws_Bs_get { frames := 0, cells := 0, slots := 0, locals := 0 }).room s m args below meth c H locs 0 0 (MQ below (QcI D A g out (fun (_ : Unit) => w_Bs g a0 s0 ++ (rest))) args s 0 0 A) (F0 m 21 ls []) := by
  have X1 := X
  obtain ⟨hx, hb, hml, hown, hts, hr, hlocks, hKK⟩ := X1
  have ht : ∀ w ∈ TB, w.before args s = true := fun w h => hts w (List.mem_cons_of_mem _ h)
  have hK := hKK.1
  unfold B_Bs_get_21 at h
  refine lv_iconst (v := (-1)) hx hb d_Bs_get_21 (by decide) ?_
  exact t_Bs_get_22 X (lv_sub hl [] rfl) hI hS h
set_option maxRecDepth 100000 in
set_option maxHeartbeats 4000000 in
theorem t_Bs_get_12 {p : Program} {l : Launch} {e : Env} {s : State} {m : MethodId} {args : Array Value} {below : List Frame} {meth : Method} {c : Code} {D : va_G} {A : Nat → Prop} {g : Nat → ClassId} {rest : va_W} {a0 : Nat → Nat} {ls : Array Slot} {H : Heap} {locs : List Loc} {s0 : S_Bs} {x1 : Int32} {out : Int32} (X : Cx p s m args meth c prog_2_method_6_code 2 ws_Bs_get R_Bs (some .int) D g) (hl : lv_has ls 2 [(0, .ref (a0 0)), (1, .int x1)]) (hI : Iw D A (w_Bs g a0 s0 ++ (rest)) H) (hS : va_S A s.heap H locs) (h : B_Bs_get_12  s0 x1 = some out) : W p l e (headSpec ws_Bs_get { frames := 0, cells := 0, slots := 0, locals := 0 }).room s m args below meth c H locs 0 0 (MQ below (QcI D A g out (fun (_ : Unit) => w_Bs g a0 s0 ++ (rest))) args s 0 0 A) (F0 m 12 ls []) := by
  have X1 := X
  obtain ⟨hx, hb, hml, hown, hts, hr, hlocks, hKK⟩ := X1
  have ht : ∀ w ∈ TB, w.before args s = true := fun w h => hts w (List.mem_cons_of_mem _ h)
  have hK := hKK.1
  unfold B_Bs_get_12 at h
  refine lv_aload_n hx hb d_Bs_get_12 rfl (lv_at hl 0 rfl) ?_
  refine va_get (D := D) (ci := 0) (v := .ref (a0 1)) (C := R_Bs) (T := T_Bs) (N := 2) hx hb ht in_Bs hown hK hI.1 0 rfl rfl 0 (by decide) (ht _ m_32) (fun _ h9 => h9) rfl d_Bs_get_13 ?_
  refine lv_iload_n hx hb d_Bs_get_16 rfl (lv_at hl 1 rfl) ?_
  by_cases hc1 : (x1 < 0 ∨ (Bs_n s0) ≤ x1.toNatClampNeg)
  · exact no_s (it_t h hc1)
  have h := it_f h hc1
  refine va_iald hx hb hK hI.1 1 0 rfl rfl hc1 d_Bs_get_17 ?_
  refine lv_goto (tgt := 22) hx hb d_Bs_get_18 (by decide) ?_
  exact t_Bs_get_22 X (lv_sub hl [] rfl) hI hS h
set_option maxRecDepth 100000 in
set_option maxHeartbeats 4000000 in
theorem t_Bs_get_4 {p : Program} {l : Launch} {e : Env} {s : State} {m : MethodId} {args : Array Value} {below : List Frame} {meth : Method} {c : Code} {D : va_G} {A : Nat → Prop} {g : Nat → ClassId} {rest : va_W} {a0 : Nat → Nat} {ls : Array Slot} {H : Heap} {locs : List Loc} {s0 : S_Bs} {x1 : Int32} {out : Int32} (X : Cx p s m args meth c prog_2_method_6_code 2 ws_Bs_get R_Bs (some .int) D g) (hl : lv_has ls 2 [(0, .ref (a0 0)), (1, .int x1)]) (hI : Iw D A (w_Bs g a0 s0 ++ (rest)) H) (hS : va_S A s.heap H locs) (h : B_Bs_get_4  s0 x1 = some out) : W p l e (headSpec ws_Bs_get { frames := 0, cells := 0, slots := 0, locals := 0 }).room s m args below meth c H locs 0 0 (MQ below (QcI D A g out (fun (_ : Unit) => w_Bs g a0 s0 ++ (rest))) args s 0 0 A) (F0 m 4 ls []) := by
  have X1 := X
  obtain ⟨hx, hb, hml, hown, hts, hr, hlocks, hKK⟩ := X1
  have ht : ∀ w ∈ TB, w.before args s = true := fun w h => hts w (List.mem_cons_of_mem _ h)
  have hK := hKK.1
  unfold B_Bs_get_4 at h
  refine lv_iload_n hx hb d_Bs_get_4 rfl (lv_at hl 1 rfl) ?_
  refine lv_aload_n hx hb d_Bs_get_5 rfl (lv_at hl 0 rfl) ?_
  refine va_get (D := D) (ci := 0) (v := .int (Bs_count s0)) (C := R_Bs) (T := T_Bs) (N := 2) hx hb ht in_Bs hown hK hI.1 0 rfl rfl 1 (by decide) (ht _ m_33) (fun _ h9 => h9) rfl d_Bs_get_6 ?_
  refine lv_icmp_ge (tgt := 21) hx hb d_Bs_get_9 (by decide) (fun hc => ?_) (fun hc => ?_)
  · have h := it_t h hc
    exact t_Bs_get_21 X (lv_sub hl [] rfl) hI hS h
  · have h := it_f h hc
    exact t_Bs_get_12 X (lv_sub hl [0, 1] rfl) hI hS h
set_option maxRecDepth 100000 in
set_option maxHeartbeats 4000000 in
theorem t_Bs_get_0 {p : Program} {l : Launch} {e : Env} {s : State} {m : MethodId} {args : Array Value} {below : List Frame} {meth : Method} {c : Code} {D : va_G} {A : Nat → Prop} {g : Nat → ClassId} {rest : va_W} {a0 : Nat → Nat} {ls : Array Slot} {H : Heap} {locs : List Loc} {s0 : S_Bs} {x1 : Int32} {out : Int32} (X : Cx p s m args meth c prog_2_method_6_code 2 ws_Bs_get R_Bs (some .int) D g) (hl : lv_has ls 2 [(0, .ref (a0 0)), (1, .int x1)]) (hI : Iw D A (w_Bs g a0 s0 ++ (rest)) H) (hS : va_S A s.heap H locs) (h : B_Bs_get_0  s0 x1 = some out) : W p l e (headSpec ws_Bs_get { frames := 0, cells := 0, slots := 0, locals := 0 }).room s m args below meth c H locs 0 0 (MQ below (QcI D A g out (fun (_ : Unit) => w_Bs g a0 s0 ++ (rest))) args s 0 0 A) (F0 m 0 ls []) := by
  have X1 := X
  obtain ⟨hx, hb, hml, hown, hts, hr, hlocks, hKK⟩ := X1
  have ht : ∀ w ∈ TB, w.before args s = true := fun w h => hts w (List.mem_cons_of_mem _ h)
  have hK := hKK.1
  unfold B_Bs_get_0 at h
  refine lv_iload_n hx hb d_Bs_get_0 rfl (lv_at hl 1 rfl) ?_
  refine lv_if_lt (tgt := 21) hx hb d_Bs_get_1 (by decide) (fun hc => ?_) (fun hc => ?_)
  · have h := it_t h hc
    exact t_Bs_get_21 X (lv_sub hl [] rfl) hI hS h
  · have h := it_f h hc
    exact t_Bs_get_4 X (lv_sub hl [0, 1] rfl) hI hS h
set_option maxRecDepth 100000 in
set_option maxHeartbeats 4000000 in
theorem c_Bs_get {l : Launch} {D : va_G} {A : Nat → Prop} {g : Nat → ClassId} {rest : va_W} {a0 : Nat → Nat} {s0 : S_Bs} {x1 : Int32} {out : Int32} (h : F_Bs_get s0 x1 = some out) : Met l y_Bs_get ws_Bs_get { frames := 0, cells := 0, slots := 0, locals := 0 } (PcW D A g [.ref (a0 0), .int x1] (w_Bs g a0 s0 ++ (rest))) (QcI D A g out (fun (_ : Unit) => w_Bs g a0 s0 ++ (rest))) 0 0 A := by
  refine Met.ofW (cc := prog_2_method_6_code) (maxL := 2) (ret := (some .int)) (by decide) rfl ?_
  intro p e s m args below meth c s₁ B hml hv
  obtain ⟨rfl, hI, hK⟩ := hv
  have hl := lv_entry [.ref (a0 0), .int x1] (n := 2) (Nat.le_of_ble_eq_true rfl)
  rw [lg_entry_eq]
  generalize (lg_sl [.ref (a0 0), .int x1] ++ List.replicate (2 - (lg_sl [.ref (a0 0), .int x1]).length) Slot.unset).toArray = ls at hl ⊢
  have hl : lv_has ls 2 [(0, .ref (a0 0)), (1, .int x1)] := hl
  exact t_Bs_get_0 ⟨B.exec, B.bytes, hml, findClass_of_methodNamed B.named, atoms_spec (ws := ws_Bs_get) B.pre, B.returns, B.notSynchronized, hK⟩ (lv_sub hl [0, 1] rfl) hI va_S.rf h
def ws_Bs_become : List Cond := .code y_Bs_become prog_2_method_7_code 3 none :: TB
def B_Bs_become_31 (s1 : S_Bs) (s0 : S_Bs) : Option S_Bs :=
  some s0
def B_Bs_become_15 (k7 : S_Bs × Int32 → Option S_Bs) (s1 : S_Bs) (s0 : S_Bs) (x2 : Int32) : Option S_Bs :=
  (if (x2 < 0 ∨ (Bs_n s1) ≤ x2.toNatClampNeg) then none else ((F_Bs_append s0 ((Bs_values s1) x2.toNatClampNeg)).bind fun o2 => (k7 (o2, (x2 + 1)))))
def B_Bs_become_7 (k7 : S_Bs × Int32 → Option S_Bs) (s1 : S_Bs) (s0 : S_Bs) (x2 : Int32) : Option S_Bs :=
  (if (Bs_count s1) ≤ x2 then (B_Bs_become_31 s1 s0) else (B_Bs_become_15 k7 s1 s0 x2))
def L_Bs_become_7 (s1 : S_Bs) (v : S_Bs × Int32) : Option S_Bs := lp (fun k7 v => B_Bs_become_7  k7 s1 v.1 v.2) FU v
def B_Bs_become_0 (s1 : S_Bs) (s0 : S_Bs) : Option S_Bs :=
  (L_Bs_become_7 s1 ((Bs_set_count s0 (0 : Int32)), (0 : Int32)))
def F_Bs_become (s0 : S_Bs) (s1 : S_Bs) : Option S_Bs := B_Bs_become_0 s1 s0
set_option maxRecDepth 100000 in
set_option maxHeartbeats 4000000 in
theorem t_Bs_become_31 {p : Program} {l : Launch} {e : Env} {s : State} {m : MethodId} {args : Array Value} {below : List Frame} {meth : Method} {c : Code} {D : va_G} {A : Nat → Prop} {g : Nat → ClassId} {rest : va_W} {a0 : Nat → Nat} {a1 : Nat → Nat} {ls : Array Slot} {H : Heap} {locs : List Loc} {s1 : S_Bs} {s0 : S_Bs} {out : S_Bs} (X : Cx p s m args meth c prog_2_method_7_code 3 ws_Bs_become R_Bs none D g) (hl : lv_has ls 3 []) (hI : Iw D A (w_Bs g a0 s0 ++ (w_Bs g a1 s1 ++ (rest))) H) (hS : va_S A s.heap H locs) (h : B_Bs_become_31  s1 s0 = some out) : W p l e (headSpec ws_Bs_become { frames := 1, cells := 0, slots := 0, locals := 21 }).room s m args below meth c H locs 0 0 (MQ below (QcV D A g (fun (_ : Unit) => w_Bs g a0 out ++ (w_Bs g a1 s1 ++ (rest)))) args s 0 0 A) (F0 m 31 ls []) := by
  have X1 := X
  obtain ⟨hx, hb, hml, hown, hts, hr, hlocks, hKK⟩ := X1
  have ht : ∀ w ∈ TB, w.before args s = true := fun w h => hts w (List.mem_cons_of_mem _ h)
  have hK := hKK.1
  unfold B_Bs_become_31 at h
  have h9 := Option.some.inj h
  subst h9
  exact W.vret hx hb hr (fun t ht hW => ⟨⟨(), rfl, trivial, ⟨by rw [ht]; exact hI, hKK.moved hW⟩⟩, hS.F ht⟩) hS.2.2 d_Bs_become_31
set_option maxRecDepth 100000 in
set_option maxHeartbeats 4000000 in
theorem t_Bs_become_15 {p : Program} {l : Launch} {e : Env} {s : State} {m : MethodId} {args : Array Value} {below : List Frame} {meth : Method} {c : Code} {D : va_G} {A : Nat → Prop} {g : Nat → ClassId} {rest : va_W} {a0 : Nat → Nat} {a1 : Nat → Nat} {ls : Array Slot} {H : Heap} {locs : List Loc} {k7 : S_Bs × Int32 → Option S_Bs} {s1 : S_Bs} {s0 : S_Bs} {x2 : Int32} {out : S_Bs} (X : Cx p s m args meth c prog_2_method_7_code 3 ws_Bs_become R_Bs none D g) (hk7 : ∀ (v : S_Bs × Int32) (ls : Array Slot) (H : Heap) (locs : List Loc), lv_has ls 3 [(0, .ref (a0 0)), (1, .ref (a1 0)), (2, .int v.2)] → Iw D A (w_Bs g a0 v.1 ++ (w_Bs g a1 s1 ++ (rest))) H → va_S A s.heap H locs → k7 v = some out → W p l e (headSpec ws_Bs_become { frames := 1, cells := 0, slots := 0, locals := 21 }).room s m args below meth c H locs 0 0 (MQ below (QcV D A g (fun (_ : Unit) => w_Bs g a0 out ++ (w_Bs g a1 s1 ++ (rest)))) args s 0 0 A) (F0 m 7 ls [])) (hl : lv_has ls 3 [(0, .ref (a0 0)), (1, .ref (a1 0)), (2, .int x2)]) (hI : Iw D A (w_Bs g a0 s0 ++ (w_Bs g a1 s1 ++ (rest))) H) (hS : va_S A s.heap H locs) (h : B_Bs_become_15 k7 s1 s0 x2 = some out) : W p l e (headSpec ws_Bs_become { frames := 1, cells := 0, slots := 0, locals := 21 }).room s m args below meth c H locs 0 0 (MQ below (QcV D A g (fun (_ : Unit) => w_Bs g a0 out ++ (w_Bs g a1 s1 ++ (rest)))) args s 0 0 A) (F0 m 15 ls []) := by
  have X1 := X
  obtain ⟨hx, hb, hml, hown, hts, hr, hlocks, hKK⟩ := X1
  have ht : ∀ w ∈ TB, w.before args s = true := fun w h => hts w (List.mem_cons_of_mem _ h)
  have hK := hKK.1
  unfold B_Bs_become_15 at h
  refine lv_aload_n hx hb d_Bs_become_15 rfl (lv_at hl 0 rfl) ?_
  refine lv_aload_n hx hb d_Bs_become_16 rfl (lv_at hl 1 rfl) ?_
  refine va_get (D := D) (ci := 0) (v := .ref (a1 1)) (C := R_Bs) (T := T_Bs) (N := 2) hx hb ht in_Bs hown hK hI.1 2 rfl rfl 0 (by decide) (ht _ m_32) (fun _ h9 => h9) rfl d_Bs_become_17 ?_
  refine lv_iload_n hx hb d_Bs_become_20 rfl (lv_at hl 2 rfl) ?_
  by_cases hc1 : (x2 < 0 ∨ (Bs_n s1) ≤ x2.toNatClampNeg)
  · exact no_s (it_t h hc1)
  have h := it_f h hc1
  refine va_iald hx hb hK hI.1 3 0 rfl rfl hc1 d_Bs_become_21 ?_
  obtain ⟨o2, ho3, h⟩ := bd_s h
  refine cl_v (W1 := fun (_ : Unit) => w_Bs g a0 o2 ++ (w_Bs g a1 s1 ++ (rest))) (va_runV (As := [.int ((Bs_values s1) x2.toNatClampNeg)]) (rest := []) ⟨hx, hb, hml, hown, ht⟩ (c_Bs_append (l := l) (D := D) (A := A) (g := g) (rest := w_Bs g a1 s1 ++ (rest)) (a0 := a0) ho3) (cwV 1 ht (gd_V m_605 m_267 m_268 m_2 m_269) rfl rfl rfl (by decide +kernel) ⟨(Nat.le_of_ble_eq_true rfl), (Nat.le_of_ble_eq_true rfl)⟩) (prV (ci := 0) (q0 := 0) hKK hI (List.Perm.refl _) rfl rfl rfl) rfl rfl hl.1 rfl (lv_room (Nat.le_of_ble_eq_true rfl)) d_Bs_become_22 ⟨(Nat.le_of_ble_eq_true rfl), (Nat.le_of_ble_eq_true rfl)⟩) hS (fun _ => ((List.Perm.refl _)).symm) (fun _ H locs hI hS => ?_)
  have hI : Iw D A (w_Bs g a0 o2 ++ (w_Bs g a1 s1 ++ (rest))) H := hI
  refine lv_iinc (k := 2) (v := (x2 + 1)) hx hb d_Bs_become_25 hl rfl (congrArg (fun z => x2 + z) (by decide)) (Nat.le_of_ble_eq_true rfl) rfl (fun ls hl => ?_)
  have hl : lv_has ls 3 [(2, .int (x2 + 1)), (0, .ref (a0 0)), (1, .ref (a1 0))] := hl
  refine lv_goto (tgt := 7) hx hb d_Bs_become_28 (by decide) ?_
  exact hk7 (o2, (x2 + 1)) _ _ _ (lv_sub hl [1, 2, 0] rfl) hI hS h
set_option maxRecDepth 100000 in
set_option maxHeartbeats 4000000 in
theorem t_Bs_become_7 {p : Program} {l : Launch} {e : Env} {s : State} {m : MethodId} {args : Array Value} {below : List Frame} {meth : Method} {c : Code} {D : va_G} {A : Nat → Prop} {g : Nat → ClassId} {rest : va_W} {a0 : Nat → Nat} {a1 : Nat → Nat} {ls : Array Slot} {H : Heap} {locs : List Loc} {k7 : S_Bs × Int32 → Option S_Bs} {s1 : S_Bs} {s0 : S_Bs} {x2 : Int32} {out : S_Bs} (X : Cx p s m args meth c prog_2_method_7_code 3 ws_Bs_become R_Bs none D g) (hk7 : ∀ (v : S_Bs × Int32) (ls : Array Slot) (H : Heap) (locs : List Loc), lv_has ls 3 [(0, .ref (a0 0)), (1, .ref (a1 0)), (2, .int v.2)] → Iw D A (w_Bs g a0 v.1 ++ (w_Bs g a1 s1 ++ (rest))) H → va_S A s.heap H locs → k7 v = some out → W p l e (headSpec ws_Bs_become { frames := 1, cells := 0, slots := 0, locals := 21 }).room s m args below meth c H locs 0 0 (MQ below (QcV D A g (fun (_ : Unit) => w_Bs g a0 out ++ (w_Bs g a1 s1 ++ (rest)))) args s 0 0 A) (F0 m 7 ls [])) (hl : lv_has ls 3 [(0, .ref (a0 0)), (1, .ref (a1 0)), (2, .int x2)]) (hI : Iw D A (w_Bs g a0 s0 ++ (w_Bs g a1 s1 ++ (rest))) H) (hS : va_S A s.heap H locs) (h : B_Bs_become_7 k7 s1 s0 x2 = some out) : W p l e (headSpec ws_Bs_become { frames := 1, cells := 0, slots := 0, locals := 21 }).room s m args below meth c H locs 0 0 (MQ below (QcV D A g (fun (_ : Unit) => w_Bs g a0 out ++ (w_Bs g a1 s1 ++ (rest)))) args s 0 0 A) (F0 m 7 ls []) := by
  have X1 := X
  obtain ⟨hx, hb, hml, hown, hts, hr, hlocks, hKK⟩ := X1
  have ht : ∀ w ∈ TB, w.before args s = true := fun w h => hts w (List.mem_cons_of_mem _ h)
  have hK := hKK.1
  unfold B_Bs_become_7 at h
  refine lv_iload_n hx hb d_Bs_become_7 rfl (lv_at hl 2 rfl) ?_
  refine lv_aload_n hx hb d_Bs_become_8 rfl (lv_at hl 1 rfl) ?_
  refine va_get (D := D) (ci := 0) (v := .int (Bs_count s1)) (C := R_Bs) (T := T_Bs) (N := 2) hx hb ht in_Bs hown hK hI.1 2 rfl rfl 1 (by decide) (ht _ m_33) (fun _ h9 => h9) rfl d_Bs_become_9 ?_
  refine lv_icmp_ge (tgt := 31) hx hb d_Bs_become_12 (by decide) (fun hc => ?_) (fun hc => ?_)
  · have h := it_t h hc
    exact t_Bs_become_31 X (lv_sub hl [] rfl) hI hS h
  · have h := it_f h hc
    exact t_Bs_become_15 X hk7 (lv_sub hl [0, 1, 2] rfl) hI hS h
set_option maxRecDepth 100000 in
set_option maxHeartbeats 4000000 in
theorem T_Bs_become_7 {p : Program} {l : Launch} {e : Env} {s : State} {m : MethodId} {args : Array Value} {below : List Frame} {meth : Method} {c : Code} {D : va_G} {A : Nat → Prop} {g : Nat → ClassId} {rest : va_W} {a0 : Nat → Nat} {a1 : Nat → Nat} {ls : Array Slot} {H : Heap} {locs : List Loc} {s1 : S_Bs} {s0 : S_Bs} {x2 : Int32} {out : S_Bs} (X : Cx p s m args meth c prog_2_method_7_code 3 ws_Bs_become R_Bs none D g) (hl : lv_has ls 3 [(0, .ref (a0 0)), (1, .ref (a1 0)), (2, .int x2)]) (hI : Iw D A (w_Bs g a0 s0 ++ (w_Bs g a1 s1 ++ (rest))) H) (hS : va_S A s.heap H locs) (h : L_Bs_become_7  s1 (s0, x2) = some out) : W p l e (headSpec ws_Bs_become { frames := 1, cells := 0, slots := 0, locals := 21 }).room s m args below meth c H locs 0 0 (MQ below (QcV D A g (fun (_ : Unit) => w_Bs g a0 out ++ (w_Bs g a1 s1 ++ (rest)))) args s 0 0 A) (F0 m 7 ls []) := by
  unfold L_Bs_become_7 at h
  exact lp_ind (P := fun v => ∀ (ls : Array Slot) (H : Heap) (locs : List Loc), lv_has ls 3 [(0, .ref (a0 0)), (1, .ref (a1 0)), (2, .int v.2)] → Iw D A (w_Bs g a0 v.1 ++ (w_Bs g a1 s1 ++ (rest))) H → va_S A s.heap H locs → W p l e (headSpec ws_Bs_become { frames := 1, cells := 0, slots := 0, locals := 21 }).room s m args below meth c H locs 0 0 (MQ below (QcV D A g (fun (_ : Unit) => w_Bs g a0 out ++ (w_Bs g a1 s1 ++ (rest)))) args s 0 0 A) (F0 m 7 ls [])) (fun k v ih hb ls H locs  hl hI hS => t_Bs_become_7 X  (fun v' ls H locs  hl hI hS h' => ih v' h' ls H locs  hl hI hS) hl hI hS hb) FU _ h ls H locs  hl hI hS
set_option maxRecDepth 100000 in
set_option maxHeartbeats 4000000 in
theorem t_Bs_become_0 {p : Program} {l : Launch} {e : Env} {s : State} {m : MethodId} {args : Array Value} {below : List Frame} {meth : Method} {c : Code} {D : va_G} {A : Nat → Prop} {g : Nat → ClassId} {rest : va_W} {a0 : Nat → Nat} {a1 : Nat → Nat} {ls : Array Slot} {H : Heap} {locs : List Loc} {s1 : S_Bs} {s0 : S_Bs} {out : S_Bs} (X : Cx p s m args meth c prog_2_method_7_code 3 ws_Bs_become R_Bs none D g) (hl : lv_has ls 3 [(0, .ref (a0 0)), (1, .ref (a1 0))]) (hI : Iw D A (w_Bs g a0 s0 ++ (w_Bs g a1 s1 ++ (rest))) H) (hS : va_S A s.heap H locs) (h : B_Bs_become_0  s1 s0 = some out) : W p l e (headSpec ws_Bs_become { frames := 1, cells := 0, slots := 0, locals := 21 }).room s m args below meth c H locs 0 0 (MQ below (QcV D A g (fun (_ : Unit) => w_Bs g a0 out ++ (w_Bs g a1 s1 ++ (rest)))) args s 0 0 A) (F0 m 0 ls []) := by
  have X1 := X
  obtain ⟨hx, hb, hml, hown, hts, hr, hlocks, hKK⟩ := X1
  have ht : ∀ w ∈ TB, w.before args s = true := fun w h => hts w (List.mem_cons_of_mem _ h)
  have hK := hKK.1
  unfold B_Bs_become_0 at h
  refine lv_aload_n hx hb d_Bs_become_0 rfl (lv_at hl 0 rfl) ?_
  refine lv_iconst (v := 0) hx hb d_Bs_become_1 (by decide) ?_
  refine va_put (D := D) (ci := 0) (v := .int (0 : Int32)) (ty := .int) (C := R_Bs) (T := T_Bs) (N := 2) hx hb ht in_Bs ty_Bs tyok_Bs nm_Bs hown hK hI.1 hI.2 hS 0 rfl rfl 1 (by decide) (ht _ m_33) (fun _ h9 => h9) rfl (by decide +kernel) rfl rfl (Nat.le_of_ble_eq_true rfl) d_Bs_become_2 (fun H locs hP hD hS => ?_)
  have hI : Iw D A (w_Bs g a0 (Bs_set_count s0 (0 : Int32)) ++ (w_Bs g a1 s1 ++ (rest))) H := ⟨hP, hD⟩
  refine lv_iconst (v := 0) hx hb d_Bs_become_5 (by decide) ?_
  refine lv_istore_n hx hb d_Bs_become_6 rfl hl (Nat.le_of_ble_eq_true rfl) rfl (fun ls hl => ?_)
  have hl : lv_has ls 3 [(2, .int (0 : Int32)), (0, .ref (a0 0)), (1, .ref (a1 0))] := hl
  exact T_Bs_become_7 X (lv_sub hl [1, 2, 0] rfl) hI hS h
set_option maxRecDepth 100000 in
set_option maxHeartbeats 4000000 in
theorem c_Bs_become {l : Launch} {D : va_G} {A : Nat → Prop} {g : Nat → ClassId} {rest : va_W} {a0 : Nat → Nat} {a1 : Nat → Nat} {s0 : S_Bs} {s1 : S_Bs} {out : S_Bs} (h : F_Bs_become s0 s1 = some out) : Met l y_Bs_become ws_Bs_become { frames := 1, cells := 0, slots := 0, locals := 21 } (PcW D A g [.ref (a0 0), .ref (a1 0)] (w_Bs g a0 s0 ++ (w_Bs g a1 s1 ++ (rest)))) (QcV D A g (fun (_ : Unit) => w_Bs g a0 out ++ (w_Bs g a1 s1 ++ (rest)))) 0 0 A := by
  refine Met.ofW (cc := prog_2_method_7_code) (maxL := 3) (ret := none) (by decide) rfl ?_
  intro p e s m args below meth c s₁ B hml hv
  obtain ⟨rfl, hI, hK⟩ := hv
  have hl := lv_entry [.ref (a0 0), .ref (a1 0)] (n := 3) (Nat.le_of_ble_eq_true rfl)
  rw [lg_entry_eq]
  generalize (lg_sl [.ref (a0 0), .ref (a1 0)] ++ List.replicate (3 - (lg_sl [.ref (a0 0), .ref (a1 0)]).length) Slot.unset).toArray = ls at hl ⊢
  have hl : lv_has ls 3 [(0, .ref (a0 0)), (1, .ref (a1 0))] := hl
  exact t_Bs_become_0 ⟨B.exec, B.bytes, hml, findClass_of_methodNamed B.named, atoms_spec (ws := ws_Bs_become) B.pre, B.returns, B.notSynchronized, hK⟩ (lv_sub hl [0, 1] rfl) hI va_S.rf h
def ws_Bs_isSame : List Cond := .code y_Bs_isSame prog_2_method_8_code 4 (some .boolean) :: TB
def B_Bs_isSame_58 (s0 : S_Bs) (s1 : S_Bs) (x2 : Int32) : Option Int32 :=
  (if x2 = 0 ∨ x2 = 1 then some x2 else none)
def B_Bs_isSame_51 (k19 : Int32 × Int32 → Option Int32) (s0 : S_Bs) (s1 : S_Bs) (x3 : Int32) (y0 : Int32) : Option Int32 :=
  (k19 (y0, (x3 + 1)))
def B_Bs_isSame_50 (k19 : Int32 × Int32 → Option Int32) (s0 : S_Bs) (s1 : S_Bs) (x3 : Int32) : Option Int32 :=
  (B_Bs_isSame_51 k19 s0 s1 x3 (0 : Int32))
def B_Bs_isSame_46 (k19 : Int32 × Int32 → Option Int32) (s0 : S_Bs) (s1 : S_Bs) (x3 : Int32) : Option Int32 :=
  (B_Bs_isSame_51 k19 s0 s1 x3 (1 : Int32))
def B_Bs_isSame_31 (k19 : Int32 × Int32 → Option Int32) (s0 : S_Bs) (s1 : S_Bs) (x3 : Int32) : Option Int32 :=
  (if (x3 < 0 ∨ (Bs_n s0) ≤ x3.toNatClampNeg) then none else (if (x3 < 0 ∨ (Bs_n s1) ≤ x3.toNatClampNeg) then none else (if ((Bs_values s0) x3.toNatClampNeg) = ((Bs_values s1) x3.toNatClampNeg) then (B_Bs_isSame_46 k19 s0 s1 x3) else (B_Bs_isSame_50 k19 s0 s1 x3))))
def B_Bs_isSame_27 (k19 : Int32 × Int32 → Option Int32) (s0 : S_Bs) (s1 : S_Bs) (x2 : Int32) (x3 : Int32) : Option Int32 :=
  (if x2 = 0 then (B_Bs_isSame_58 s0 s1 x2) else (B_Bs_isSame_31 k19 s0 s1 x3))
def B_Bs_isSame_19 (k19 : Int32 × Int32 → Option Int32) (s0 : S_Bs) (s1 : S_Bs) (x2 : Int32) (x3 : Int32) : Option Int32 :=
  (if (Bs_count s0) ≤ x3 then (B_Bs_isSame_58 s0 s1 x2) else (B_Bs_isSame_27 k19 s0 s1 x2 x3))
def L_Bs_isSame_19 (s0 : S_Bs) (s1 : S_Bs) (v : Int32 × Int32) : Option Int32 := lp (fun k19 v => B_Bs_isSame_19  k19 s0 s1 v.1 v.2) FU v
def B_Bs_isSame_16 (s0 : S_Bs) (s1 : S_Bs) (y0 : Int32) : Option Int32 :=
  (L_Bs_isSame_19 s0 s1 (y0, (0 : Int32)))
def B_Bs_isSame_15 (s0 : S_Bs) (s1 : S_Bs) : Option Int32 :=
  (B_Bs_isSame_16 s0 s1 (0 : Int32))
def B_Bs_isSame_11 (s0 : S_Bs) (s1 : S_Bs) : Option Int32 :=
  (B_Bs_isSame_16 s0 s1 (1 : Int32))
def B_Bs_isSame_0 (s0 : S_Bs) (s1 : S_Bs) : Option Int32 :=
  (if (Bs_count s0) = (Bs_count s1) then (B_Bs_isSame_11 s0 s1) else (B_Bs_isSame_15 s0 s1))
def F_Bs_isSame (s0 : S_Bs) (s1 : S_Bs) : Option Int32 := B_Bs_isSame_0 s0 s1
set_option maxRecDepth 100000 in
set_option maxHeartbeats 4000000 in
theorem t_Bs_isSame_58 {p : Program} {l : Launch} {e : Env} {s : State} {m : MethodId} {args : Array Value} {below : List Frame} {meth : Method} {c : Code} {D : va_G} {A : Nat → Prop} {g : Nat → ClassId} {rest : va_W} {a0 : Nat → Nat} {a1 : Nat → Nat} {ls : Array Slot} {H : Heap} {locs : List Loc} {s0 : S_Bs} {s1 : S_Bs} {x2 : Int32} {out : Int32} (X : Cx p s m args meth c prog_2_method_8_code 4 ws_Bs_isSame R_Bs (some .boolean) D g) (hl : lv_has ls 4 [(2, .int x2)]) (hI : Iw D A (w_Bs g a0 s0 ++ (w_Bs g a1 s1 ++ (rest))) H) (hS : va_S A s.heap H locs) (h : B_Bs_isSame_58  s0 s1 x2 = some out) : W p l e (headSpec ws_Bs_isSame { frames := 0, cells := 0, slots := 0, locals := 0 }).room s m args below meth c H locs 0 0 (MQ below (QcI D A g out (fun (_ : Unit) => w_Bs g a0 s0 ++ (w_Bs g a1 s1 ++ (rest)))) args s 0 0 A) (F0 m 58 ls []) := by
  have X1 := X
  obtain ⟨hx, hb, hml, hown, hts, hr, hlocks, hKK⟩ := X1
  have ht : ∀ w ∈ TB, w.before args s = true := fun w h => hts w (List.mem_cons_of_mem _ h)
  have hK := hKK.1
  unfold B_Bs_isSame_58 at h
  refine lv_iload_n hx hb d_Bs_isSame_58 rfl (lv_at hl 0 rfl) ?_
  have hc1 : x2 = 0 ∨ x2 = 1 := by
    by_cases z : x2 = 0 ∨ x2 = 1
    · exact z
    · exact no_s (it_f h z)
  have h := it_t h hc1
  have h9 := Option.some.inj h
  subst h9
  exact W.zret (v := x2) hx hb hr (by rcases hc1 with z | z <;> rw [z] <;> rfl) (fun t ht hW => ⟨⟨_, (), rfl, rfl, ⟨by rw [ht]; exact hI, hKK.moved hW⟩⟩, hS.F ht⟩) hS.2.2 d_Bs_isSame_59
set_option maxRecDepth 100000 in
set_option maxHeartbeats 4000000 in
theorem t_Bs_isSame_51 {p : Program} {l : Launch} {e : Env} {s : State} {m : MethodId} {args : Array Value} {below : List Frame} {meth : Method} {c : Code} {D : va_G} {A : Nat → Prop} {g : Nat → ClassId} {rest : va_W} {a0 : Nat → Nat} {a1 : Nat → Nat} {ls : Array Slot} {H : Heap} {locs : List Loc} {k19 : Int32 × Int32 → Option Int32} {s0 : S_Bs} {s1 : S_Bs} {x3 : Int32} {y0 : Int32} {out : Int32} (X : Cx p s m args meth c prog_2_method_8_code 4 ws_Bs_isSame R_Bs (some .boolean) D g) (hk19 : ∀ (v : Int32 × Int32) (ls : Array Slot) (H : Heap) (locs : List Loc), lv_has ls 4 [(0, .ref (a0 0)), (1, .ref (a1 0)), (2, .int v.1), (3, .int v.2)] → Iw D A (w_Bs g a0 s0 ++ (w_Bs g a1 s1 ++ (rest))) H → va_S A s.heap H locs → k19 v = some out → W p l e (headSpec ws_Bs_isSame { frames := 0, cells := 0, slots := 0, locals := 0 }).room s m args below meth c H locs 0 0 (MQ below (QcI D A g out (fun (_ : Unit) => w_Bs g a0 s0 ++ (w_Bs g a1 s1 ++ (rest)))) args s 0 0 A) (F0 m 19 ls [])) (hl : lv_has ls 4 [(0, .ref (a0 0)), (1, .ref (a1 0)), (3, .int x3)]) (hI : Iw D A (w_Bs g a0 s0 ++ (w_Bs g a1 s1 ++ (rest))) H) (hS : va_S A s.heap H locs) (h : B_Bs_isSame_51 k19 s0 s1 x3 y0 = some out) : W p l e (headSpec ws_Bs_isSame { frames := 0, cells := 0, slots := 0, locals := 0 }).room s m args below meth c H locs 0 0 (MQ below (QcI D A g out (fun (_ : Unit) => w_Bs g a0 s0 ++ (w_Bs g a1 s1 ++ (rest)))) args s 0 0 A) (F0 m 51 ls [.int y0]) := by
  have X1 := X
  obtain ⟨hx, hb, hml, hown, hts, hr, hlocks, hKK⟩ := X1
  have ht : ∀ w ∈ TB, w.before args s = true := fun w h => hts w (List.mem_cons_of_mem _ h)
  have hK := hKK.1
  unfold B_Bs_isSame_51 at h
  refine lv_istore_n hx hb d_Bs_isSame_51 rfl hl (Nat.le_of_ble_eq_true rfl) rfl (fun ls hl => ?_)
  have hl : lv_has ls 4 [(2, .int y0), (0, .ref (a0 0)), (1, .ref (a1 0)), (3, .int x3)] := hl
  refine lv_iinc (k := 3) (v := (x3 + 1)) hx hb d_Bs_isSame_52 hl rfl (congrArg (fun z => x3 + z) (by decide)) (Nat.le_of_ble_eq_true rfl) rfl (fun ls hl => ?_)
  have hl : lv_has ls 4 [(3, .int (x3 + 1)), (2, .int y0), (0, .ref (a0 0)), (1, .ref (a1 0))] := hl
  refine lv_goto (tgt := 19) hx hb d_Bs_isSame_55 (by decide) ?_
  exact hk19 (y0, (x3 + 1)) _ _ _ (lv_sub hl [2, 3, 1, 0] rfl) hI hS h
set_option maxRecDepth 100000 in
set_option maxHeartbeats 4000000 in
theorem t_Bs_isSame_50 {p : Program} {l : Launch} {e : Env} {s : State} {m : MethodId} {args : Array Value} {below : List Frame} {meth : Method} {c : Code} {D : va_G} {A : Nat → Prop} {g : Nat → ClassId} {rest : va_W} {a0 : Nat → Nat} {a1 : Nat → Nat} {ls : Array Slot} {H : Heap} {locs : List Loc} {k19 : Int32 × Int32 → Option Int32} {s0 : S_Bs} {s1 : S_Bs} {x3 : Int32} {out : Int32} (X : Cx p s m args meth c prog_2_method_8_code 4 ws_Bs_isSame R_Bs (some .boolean) D g) (hk19 : ∀ (v : Int32 × Int32) (ls : Array Slot) (H : Heap) (locs : List Loc), lv_has ls 4 [(0, .ref (a0 0)), (1, .ref (a1 0)), (2, .int v.1), (3, .int v.2)] → Iw D A (w_Bs g a0 s0 ++ (w_Bs g a1 s1 ++ (rest))) H → va_S A s.heap H locs → k19 v = some out → W p l e (headSpec ws_Bs_isSame { frames := 0, cells := 0, slots := 0, locals := 0 }).room s m args below meth c H locs 0 0 (MQ below (QcI D A g out (fun (_ : Unit) => w_Bs g a0 s0 ++ (w_Bs g a1 s1 ++ (rest)))) args s 0 0 A) (F0 m 19 ls [])) (hl : lv_has ls 4 [(0, .ref (a0 0)), (1, .ref (a1 0)), (3, .int x3)]) (hI : Iw D A (w_Bs g a0 s0 ++ (w_Bs g a1 s1 ++ (rest))) H) (hS : va_S A s.heap H locs) (h : B_Bs_isSame_50 k19 s0 s1 x3 = some out) : W p l e (headSpec ws_Bs_isSame { frames := 0, cells := 0, slots := 0, locals := 0 }).room s m args below meth c H locs 0 0 (MQ below (QcI D A g out (fun (_ : Unit) => w_Bs g a0 s0 ++ (w_Bs g a1 s1 ++ (rest)))) args s 0 0 A) (F0 m 50 ls []) := by
  have X1 := X
  obtain ⟨hx, hb, hml, hown, hts, hr, hlocks, hKK⟩ := X1
  have ht : ∀ w ∈ TB, w.before args s = true := fun w h => hts w (List.mem_cons_of_mem _ h)
  have hK := hKK.1
  unfold B_Bs_isSame_50 at h
  refine lv_iconst (v := 0) hx hb d_Bs_isSame_50 (by decide) ?_
  exact t_Bs_isSame_51 X hk19 (lv_sub hl [0, 1, 2] rfl) hI hS h
set_option maxRecDepth 100000 in
set_option maxHeartbeats 4000000 in
theorem t_Bs_isSame_46 {p : Program} {l : Launch} {e : Env} {s : State} {m : MethodId} {args : Array Value} {below : List Frame} {meth : Method} {c : Code} {D : va_G} {A : Nat → Prop} {g : Nat → ClassId} {rest : va_W} {a0 : Nat → Nat} {a1 : Nat → Nat} {ls : Array Slot} {H : Heap} {locs : List Loc} {k19 : Int32 × Int32 → Option Int32} {s0 : S_Bs} {s1 : S_Bs} {x3 : Int32} {out : Int32} (X : Cx p s m args meth c prog_2_method_8_code 4 ws_Bs_isSame R_Bs (some .boolean) D g) (hk19 : ∀ (v : Int32 × Int32) (ls : Array Slot) (H : Heap) (locs : List Loc), lv_has ls 4 [(0, .ref (a0 0)), (1, .ref (a1 0)), (2, .int v.1), (3, .int v.2)] → Iw D A (w_Bs g a0 s0 ++ (w_Bs g a1 s1 ++ (rest))) H → va_S A s.heap H locs → k19 v = some out → W p l e (headSpec ws_Bs_isSame { frames := 0, cells := 0, slots := 0, locals := 0 }).room s m args below meth c H locs 0 0 (MQ below (QcI D A g out (fun (_ : Unit) => w_Bs g a0 s0 ++ (w_Bs g a1 s1 ++ (rest)))) args s 0 0 A) (F0 m 19 ls [])) (hl : lv_has ls 4 [(0, .ref (a0 0)), (1, .ref (a1 0)), (3, .int x3)]) (hI : Iw D A (w_Bs g a0 s0 ++ (w_Bs g a1 s1 ++ (rest))) H) (hS : va_S A s.heap H locs) (h : B_Bs_isSame_46 k19 s0 s1 x3 = some out) : W p l e (headSpec ws_Bs_isSame { frames := 0, cells := 0, slots := 0, locals := 0 }).room s m args below meth c H locs 0 0 (MQ below (QcI D A g out (fun (_ : Unit) => w_Bs g a0 s0 ++ (w_Bs g a1 s1 ++ (rest)))) args s 0 0 A) (F0 m 46 ls []) := by
  have X1 := X
  obtain ⟨hx, hb, hml, hown, hts, hr, hlocks, hKK⟩ := X1
  have ht : ∀ w ∈ TB, w.before args s = true := fun w h => hts w (List.mem_cons_of_mem _ h)
  have hK := hKK.1
  unfold B_Bs_isSame_46 at h
  refine lv_iconst (v := 1) hx hb d_Bs_isSame_46 (by decide) ?_
  refine lv_goto (tgt := 51) hx hb d_Bs_isSame_47 (by decide) ?_
  exact t_Bs_isSame_51 X hk19 (lv_sub hl [0, 1, 2] rfl) hI hS h
set_option maxRecDepth 100000 in
set_option maxHeartbeats 4000000 in
theorem t_Bs_isSame_31 {p : Program} {l : Launch} {e : Env} {s : State} {m : MethodId} {args : Array Value} {below : List Frame} {meth : Method} {c : Code} {D : va_G} {A : Nat → Prop} {g : Nat → ClassId} {rest : va_W} {a0 : Nat → Nat} {a1 : Nat → Nat} {ls : Array Slot} {H : Heap} {locs : List Loc} {k19 : Int32 × Int32 → Option Int32} {s0 : S_Bs} {s1 : S_Bs} {x3 : Int32} {out : Int32} (X : Cx p s m args meth c prog_2_method_8_code 4 ws_Bs_isSame R_Bs (some .boolean) D g) (hk19 : ∀ (v : Int32 × Int32) (ls : Array Slot) (H : Heap) (locs : List Loc), lv_has ls 4 [(0, .ref (a0 0)), (1, .ref (a1 0)), (2, .int v.1), (3, .int v.2)] → Iw D A (w_Bs g a0 s0 ++ (w_Bs g a1 s1 ++ (rest))) H → va_S A s.heap H locs → k19 v = some out → W p l e (headSpec ws_Bs_isSame { frames := 0, cells := 0, slots := 0, locals := 0 }).room s m args below meth c H locs 0 0 (MQ below (QcI D A g out (fun (_ : Unit) => w_Bs g a0 s0 ++ (w_Bs g a1 s1 ++ (rest)))) args s 0 0 A) (F0 m 19 ls [])) (hl : lv_has ls 4 [(0, .ref (a0 0)), (1, .ref (a1 0)), (3, .int x3)]) (hI : Iw D A (w_Bs g a0 s0 ++ (w_Bs g a1 s1 ++ (rest))) H) (hS : va_S A s.heap H locs) (h : B_Bs_isSame_31 k19 s0 s1 x3 = some out) : W p l e (headSpec ws_Bs_isSame { frames := 0, cells := 0, slots := 0, locals := 0 }).room s m args below meth c H locs 0 0 (MQ below (QcI D A g out (fun (_ : Unit) => w_Bs g a0 s0 ++ (w_Bs g a1 s1 ++ (rest)))) args s 0 0 A) (F0 m 31 ls []) := by
  have X1 := X
  obtain ⟨hx, hb, hml, hown, hts, hr, hlocks, hKK⟩ := X1
  have ht : ∀ w ∈ TB, w.before args s = true := fun w h => hts w (List.mem_cons_of_mem _ h)
  have hK := hKK.1
  unfold B_Bs_isSame_31 at h
  refine lv_aload_n hx hb d_Bs_isSame_31 rfl (lv_at hl 0 rfl) ?_
  refine va_get (D := D) (ci := 0) (v := .ref (a0 1)) (C := R_Bs) (T := T_Bs) (N := 2) hx hb ht in_Bs hown hK hI.1 0 rfl rfl 0 (by decide) (ht _ m_32) (fun _ h9 => h9) rfl d_Bs_isSame_32 ?_
  refine lv_iload_n hx hb d_Bs_isSame_35 rfl (lv_at hl 2 rfl) ?_
  by_cases hc1 : (x3 < 0 ∨ (Bs_n s0) ≤ x3.toNatClampNeg)
  · exact no_s (it_t h hc1)
  have h := it_f h hc1
  refine va_iald hx hb hK hI.1 1 0 rfl rfl hc1 d_Bs_isSame_36 ?_
  refine lv_aload_n hx hb d_Bs_isSame_37 rfl (lv_at hl 1 rfl) ?_
  refine va_get (D := D) (ci := 0) (v := .ref (a1 1)) (C := R_Bs) (T := T_Bs) (N := 2) hx hb ht in_Bs hown hK hI.1 2 rfl rfl 0 (by decide) (ht _ m_32) (fun _ h9 => h9) rfl d_Bs_isSame_38 ?_
  refine lv_iload_n hx hb d_Bs_isSame_41 rfl (lv_at hl 2 rfl) ?_
  by_cases hc2 : (x3 < 0 ∨ (Bs_n s1) ≤ x3.toNatClampNeg)
  · exact no_s (it_t h hc2)
  have h := it_f h hc2
  refine va_iald hx hb hK hI.1 3 0 rfl rfl hc2 d_Bs_isSame_42 ?_
  refine lv_icmp_ne (tgt := 50) hx hb d_Bs_isSame_43 (by decide) (fun hc => ?_) (fun hc => ?_)
  · have h := it_f h hc
    exact t_Bs_isSame_50 X hk19 (lv_sub hl [0, 1, 2] rfl) hI hS h
  · have h := it_t h hc
    exact t_Bs_isSame_46 X hk19 (lv_sub hl [0, 1, 2] rfl) hI hS h
set_option maxRecDepth 100000 in
set_option maxHeartbeats 4000000 in
theorem t_Bs_isSame_27 {p : Program} {l : Launch} {e : Env} {s : State} {m : MethodId} {args : Array Value} {below : List Frame} {meth : Method} {c : Code} {D : va_G} {A : Nat → Prop} {g : Nat → ClassId} {rest : va_W} {a0 : Nat → Nat} {a1 : Nat → Nat} {ls : Array Slot} {H : Heap} {locs : List Loc} {k19 : Int32 × Int32 → Option Int32} {s0 : S_Bs} {s1 : S_Bs} {x2 : Int32} {x3 : Int32} {out : Int32} (X : Cx p s m args meth c prog_2_method_8_code 4 ws_Bs_isSame R_Bs (some .boolean) D g) (hk19 : ∀ (v : Int32 × Int32) (ls : Array Slot) (H : Heap) (locs : List Loc), lv_has ls 4 [(0, .ref (a0 0)), (1, .ref (a1 0)), (2, .int v.1), (3, .int v.2)] → Iw D A (w_Bs g a0 s0 ++ (w_Bs g a1 s1 ++ (rest))) H → va_S A s.heap H locs → k19 v = some out → W p l e (headSpec ws_Bs_isSame { frames := 0, cells := 0, slots := 0, locals := 0 }).room s m args below meth c H locs 0 0 (MQ below (QcI D A g out (fun (_ : Unit) => w_Bs g a0 s0 ++ (w_Bs g a1 s1 ++ (rest)))) args s 0 0 A) (F0 m 19 ls [])) (hl : lv_has ls 4 [(0, .ref (a0 0)), (1, .ref (a1 0)), (2, .int x2), (3, .int x3)]) (hI : Iw D A (w_Bs g a0 s0 ++ (w_Bs g a1 s1 ++ (rest))) H) (hS : va_S A s.heap H locs) (h : B_Bs_isSame_27 k19 s0 s1 x2 x3 = some out) : W p l e (headSpec ws_Bs_isSame { frames := 0, cells := 0, slots := 0, locals := 0 }).room s m args below meth c H locs 0 0 (MQ below (QcI D A g out (fun (_ : Unit) => w_Bs g a0 s0 ++ (w_Bs g a1 s1 ++ (rest)))) args s 0 0 A) (F0 m 27 ls []) := by
  have X1 := X
  obtain ⟨hx, hb, hml, hown, hts, hr, hlocks, hKK⟩ := X1
  have ht : ∀ w ∈ TB, w.before args s = true := fun w h => hts w (List.mem_cons_of_mem _ h)
  have hK := hKK.1
  unfold B_Bs_isSame_27 at h
  refine lv_iload_n hx hb d_Bs_isSame_27 rfl (lv_at hl 2 rfl) ?_
  refine lv_if_eq (tgt := 58) hx hb d_Bs_isSame_28 (by decide) (fun hc => ?_) (fun hc => ?_)
  · have h := it_t h hc
    exact t_Bs_isSame_58 X (lv_sub hl [2] rfl) hI hS h
  · have h := it_f h hc
    exact t_Bs_isSame_31 X hk19 (lv_sub hl [0, 1, 3] rfl) hI hS h
set_option maxRecDepth 100000 in
set_option maxHeartbeats 4000000 in
theorem t_Bs_isSame_19 {p : Program} {l : Launch} {e : Env} {s : State} {m : MethodId} {args : Array Value} {below : List Frame} {meth : Method} {c : Code} {D : va_G} {A : Nat → Prop} {g : Nat → ClassId} {rest : va_W} {a0 : Nat → Nat} {a1 : Nat → Nat} {ls : Array Slot} {H : Heap} {locs : List Loc} {k19 : Int32 × Int32 → Option Int32} {s0 : S_Bs} {s1 : S_Bs} {x2 : Int32} {x3 : Int32} {out : Int32} (X : Cx p s m args meth c prog_2_method_8_code 4 ws_Bs_isSame R_Bs (some .boolean) D g) (hk19 : ∀ (v : Int32 × Int32) (ls : Array Slot) (H : Heap) (locs : List Loc), lv_has ls 4 [(0, .ref (a0 0)), (1, .ref (a1 0)), (2, .int v.1), (3, .int v.2)] → Iw D A (w_Bs g a0 s0 ++ (w_Bs g a1 s1 ++ (rest))) H → va_S A s.heap H locs → k19 v = some out → W p l e (headSpec ws_Bs_isSame { frames := 0, cells := 0, slots := 0, locals := 0 }).room s m args below meth c H locs 0 0 (MQ below (QcI D A g out (fun (_ : Unit) => w_Bs g a0 s0 ++ (w_Bs g a1 s1 ++ (rest)))) args s 0 0 A) (F0 m 19 ls [])) (hl : lv_has ls 4 [(0, .ref (a0 0)), (1, .ref (a1 0)), (2, .int x2), (3, .int x3)]) (hI : Iw D A (w_Bs g a0 s0 ++ (w_Bs g a1 s1 ++ (rest))) H) (hS : va_S A s.heap H locs) (h : B_Bs_isSame_19 k19 s0 s1 x2 x3 = some out) : W p l e (headSpec ws_Bs_isSame { frames := 0, cells := 0, slots := 0, locals := 0 }).room s m args below meth c H locs 0 0 (MQ below (QcI D A g out (fun (_ : Unit) => w_Bs g a0 s0 ++ (w_Bs g a1 s1 ++ (rest)))) args s 0 0 A) (F0 m 19 ls []) := by
  have X1 := X
  obtain ⟨hx, hb, hml, hown, hts, hr, hlocks, hKK⟩ := X1
  have ht : ∀ w ∈ TB, w.before args s = true := fun w h => hts w (List.mem_cons_of_mem _ h)
  have hK := hKK.1
  unfold B_Bs_isSame_19 at h
  refine lv_iload_n hx hb d_Bs_isSame_19 rfl (lv_at hl 3 rfl) ?_
  refine lv_aload_n hx hb d_Bs_isSame_20 rfl (lv_at hl 0 rfl) ?_
  refine va_get (D := D) (ci := 0) (v := .int (Bs_count s0)) (C := R_Bs) (T := T_Bs) (N := 2) hx hb ht in_Bs hown hK hI.1 0 rfl rfl 1 (by decide) (ht _ m_33) (fun _ h9 => h9) rfl d_Bs_isSame_21 ?_
  refine lv_icmp_ge (tgt := 58) hx hb d_Bs_isSame_24 (by decide) (fun hc => ?_) (fun hc => ?_)
  · have h := it_t h hc
    exact t_Bs_isSame_58 X (lv_sub hl [2] rfl) hI hS h
  · have h := it_f h hc
    exact t_Bs_isSame_27 X hk19 (lv_sub hl [0, 1, 2, 3] rfl) hI hS h
set_option maxRecDepth 100000 in
set_option maxHeartbeats 4000000 in
theorem T_Bs_isSame_19 {p : Program} {l : Launch} {e : Env} {s : State} {m : MethodId} {args : Array Value} {below : List Frame} {meth : Method} {c : Code} {D : va_G} {A : Nat → Prop} {g : Nat → ClassId} {rest : va_W} {a0 : Nat → Nat} {a1 : Nat → Nat} {ls : Array Slot} {H : Heap} {locs : List Loc} {s0 : S_Bs} {s1 : S_Bs} {x2 : Int32} {x3 : Int32} {out : Int32} (X : Cx p s m args meth c prog_2_method_8_code 4 ws_Bs_isSame R_Bs (some .boolean) D g) (hl : lv_has ls 4 [(0, .ref (a0 0)), (1, .ref (a1 0)), (2, .int x2), (3, .int x3)]) (hI : Iw D A (w_Bs g a0 s0 ++ (w_Bs g a1 s1 ++ (rest))) H) (hS : va_S A s.heap H locs) (h : L_Bs_isSame_19  s0 s1 (x2, x3) = some out) : W p l e (headSpec ws_Bs_isSame { frames := 0, cells := 0, slots := 0, locals := 0 }).room s m args below meth c H locs 0 0 (MQ below (QcI D A g out (fun (_ : Unit) => w_Bs g a0 s0 ++ (w_Bs g a1 s1 ++ (rest)))) args s 0 0 A) (F0 m 19 ls []) := by
  unfold L_Bs_isSame_19 at h
  exact lp_ind (P := fun v => ∀ (ls : Array Slot) (H : Heap) (locs : List Loc), lv_has ls 4 [(0, .ref (a0 0)), (1, .ref (a1 0)), (2, .int v.1), (3, .int v.2)] → Iw D A (w_Bs g a0 s0 ++ (w_Bs g a1 s1 ++ (rest))) H → va_S A s.heap H locs → W p l e (headSpec ws_Bs_isSame { frames := 0, cells := 0, slots := 0, locals := 0 }).room s m args below meth c H locs 0 0 (MQ below (QcI D A g out (fun (_ : Unit) => w_Bs g a0 s0 ++ (w_Bs g a1 s1 ++ (rest)))) args s 0 0 A) (F0 m 19 ls [])) (fun k v ih hb ls H locs  hl hI hS => t_Bs_isSame_19 X  (fun v' ls H locs  hl hI hS h' => ih v' h' ls H locs  hl hI hS) hl hI hS hb) FU _ h ls H locs  hl hI hS
set_option maxRecDepth 100000 in
set_option maxHeartbeats 4000000 in
theorem t_Bs_isSame_16 {p : Program} {l : Launch} {e : Env} {s : State} {m : MethodId} {args : Array Value} {below : List Frame} {meth : Method} {c : Code} {D : va_G} {A : Nat → Prop} {g : Nat → ClassId} {rest : va_W} {a0 : Nat → Nat} {a1 : Nat → Nat} {ls : Array Slot} {H : Heap} {locs : List Loc} {s0 : S_Bs} {s1 : S_Bs} {y0 : Int32} {out : Int32} (X : Cx p s m args meth c prog_2_method_8_code 4 ws_Bs_isSame R_Bs (some .boolean) D g) (hl : lv_has ls 4 [(0, .ref (a0 0)), (1, .ref (a1 0))]) (hI : Iw D A (w_Bs g a0 s0 ++ (w_Bs g a1 s1 ++ (rest))) H) (hS : va_S A s.heap H locs) (h : B_Bs_isSame_16  s0 s1 y0 = some out) : W p l e (headSpec ws_Bs_isSame { frames := 0, cells := 0, slots := 0, locals := 0 }).room s m args below meth c H locs 0 0 (MQ below (QcI D A g out (fun (_ : Unit) => w_Bs g a0 s0 ++ (w_Bs g a1 s1 ++ (rest)))) args s 0 0 A) (F0 m 16 ls [.int y0]) := by
  have X1 := X
  obtain ⟨hx, hb, hml, hown, hts, hr, hlocks, hKK⟩ := X1
  have ht : ∀ w ∈ TB, w.before args s = true := fun w h => hts w (List.mem_cons_of_mem _ h)
  have hK := hKK.1
  unfold B_Bs_isSame_16 at h
  refine lv_istore_n hx hb d_Bs_isSame_16 rfl hl (Nat.le_of_ble_eq_true rfl) rfl (fun ls hl => ?_)
  have hl : lv_has ls 4 [(2, .int y0), (0, .ref (a0 0)), (1, .ref (a1 0))] := hl
  refine lv_iconst (v := 0) hx hb d_Bs_isSame_17 (by decide) ?_
  refine lv_istore_n hx hb d_Bs_isSame_18 rfl hl (Nat.le_of_ble_eq_true rfl) rfl (fun ls hl => ?_)
  have hl : lv_has ls 4 [(3, .int (0 : Int32)), (2, .int y0), (0, .ref (a0 0)), (1, .ref (a1 0))] := hl
  exact T_Bs_isSame_19 X (lv_sub hl [2, 3, 1, 0] rfl) hI hS h
set_option maxRecDepth 100000 in
set_option maxHeartbeats 4000000 in
theorem t_Bs_isSame_15 {p : Program} {l : Launch} {e : Env} {s : State} {m : MethodId} {args : Array Value} {below : List Frame} {meth : Method} {c : Code} {D : va_G} {A : Nat → Prop} {g : Nat → ClassId} {rest : va_W} {a0 : Nat → Nat} {a1 : Nat → Nat} {ls : Array Slot} {H : Heap} {locs : List Loc} {s0 : S_Bs} {s1 : S_Bs} {out : Int32} (X : Cx p s m args meth c prog_2_method_8_code 4 ws_Bs_isSame R_Bs (some .boolean) D g) (hl : lv_has ls 4 [(0, .ref (a0 0)), (1, .ref (a1 0))]) (hI : Iw D A (w_Bs g a0 s0 ++ (w_Bs g a1 s1 ++ (rest))) H) (hS : va_S A s.heap H locs) (h : B_Bs_isSame_15  s0 s1 = some out) : W p l e (headSpec ws_Bs_isSame { frames := 0, cells := 0, slots := 0, locals := 0 }).room s m args below meth c H locs 0 0 (MQ below (QcI D A g out (fun (_ : Unit) => w_Bs g a0 s0 ++ (w_Bs g a1 s1 ++ (rest)))) args s 0 0 A) (F0 m 15 ls []) := by
  have X1 := X
  obtain ⟨hx, hb, hml, hown, hts, hr, hlocks, hKK⟩ := X1
  have ht : ∀ w ∈ TB, w.before args s = true := fun w h => hts w (List.mem_cons_of_mem _ h)
  have hK := hKK.1
  unfold B_Bs_isSame_15 at h
  refine lv_iconst (v := 0) hx hb d_Bs_isSame_15 (by decide) ?_
  exact t_Bs_isSame_16 X (lv_sub hl [0, 1] rfl) hI hS h
set_option maxRecDepth 100000 in
set_option maxHeartbeats 4000000 in
theorem t_Bs_isSame_11 {p : Program} {l : Launch} {e : Env} {s : State} {m : MethodId} {args : Array Value} {below : List Frame} {meth : Method} {c : Code} {D : va_G} {A : Nat → Prop} {g : Nat → ClassId} {rest : va_W} {a0 : Nat → Nat} {a1 : Nat → Nat} {ls : Array Slot} {H : Heap} {locs : List Loc} {s0 : S_Bs} {s1 : S_Bs} {out : Int32} (X : Cx p s m args meth c prog_2_method_8_code 4 ws_Bs_isSame R_Bs (some .boolean) D g) (hl : lv_has ls 4 [(0, .ref (a0 0)), (1, .ref (a1 0))]) (hI : Iw D A (w_Bs g a0 s0 ++ (w_Bs g a1 s1 ++ (rest))) H) (hS : va_S A s.heap H locs) (h : B_Bs_isSame_11  s0 s1 = some out) : W p l e (headSpec ws_Bs_isSame { frames := 0, cells := 0, slots := 0, locals := 0 }).room s m args below meth c H locs 0 0 (MQ below (QcI D A g out (fun (_ : Unit) => w_Bs g a0 s0 ++ (w_Bs g a1 s1 ++ (rest)))) args s 0 0 A) (F0 m 11 ls []) := by
  have X1 := X
  obtain ⟨hx, hb, hml, hown, hts, hr, hlocks, hKK⟩ := X1
  have ht : ∀ w ∈ TB, w.before args s = true := fun w h => hts w (List.mem_cons_of_mem _ h)
  have hK := hKK.1
  unfold B_Bs_isSame_11 at h
  refine lv_iconst (v := 1) hx hb d_Bs_isSame_11 (by decide) ?_
  refine lv_goto (tgt := 16) hx hb d_Bs_isSame_12 (by decide) ?_
  exact t_Bs_isSame_16 X (lv_sub hl [0, 1] rfl) hI hS h
set_option maxRecDepth 100000 in
set_option maxHeartbeats 4000000 in
theorem t_Bs_isSame_0 {p : Program} {l : Launch} {e : Env} {s : State} {m : MethodId} {args : Array Value} {below : List Frame} {meth : Method} {c : Code} {D : va_G} {A : Nat → Prop} {g : Nat → ClassId} {rest : va_W} {a0 : Nat → Nat} {a1 : Nat → Nat} {ls : Array Slot} {H : Heap} {locs : List Loc} {s0 : S_Bs} {s1 : S_Bs} {out : Int32} (X : Cx p s m args meth c prog_2_method_8_code 4 ws_Bs_isSame R_Bs (some .boolean) D g) (hl : lv_has ls 4 [(0, .ref (a0 0)), (1, .ref (a1 0))]) (hI : Iw D A (w_Bs g a0 s0 ++ (w_Bs g a1 s1 ++ (rest))) H) (hS : va_S A s.heap H locs) (h : B_Bs_isSame_0  s0 s1 = some out) : W p l e (headSpec ws_Bs_isSame { frames := 0, cells := 0, slots := 0, locals := 0 }).room s m args below meth c H locs 0 0 (MQ below (QcI D A g out (fun (_ : Unit) => w_Bs g a0 s0 ++ (w_Bs g a1 s1 ++ (rest)))) args s 0 0 A) (F0 m 0 ls []) := by
  have X1 := X
  obtain ⟨hx, hb, hml, hown, hts, hr, hlocks, hKK⟩ := X1
  have ht : ∀ w ∈ TB, w.before args s = true := fun w h => hts w (List.mem_cons_of_mem _ h)
  have hK := hKK.1
  unfold B_Bs_isSame_0 at h
  refine lv_aload_n hx hb d_Bs_isSame_0 rfl (lv_at hl 0 rfl) ?_
  refine va_get (D := D) (ci := 0) (v := .int (Bs_count s0)) (C := R_Bs) (T := T_Bs) (N := 2) hx hb ht in_Bs hown hK hI.1 0 rfl rfl 1 (by decide) (ht _ m_33) (fun _ h9 => h9) rfl d_Bs_isSame_1 ?_
  refine lv_aload_n hx hb d_Bs_isSame_4 rfl (lv_at hl 1 rfl) ?_
  refine va_get (D := D) (ci := 0) (v := .int (Bs_count s1)) (C := R_Bs) (T := T_Bs) (N := 2) hx hb ht in_Bs hown hK hI.1 2 rfl rfl 1 (by decide) (ht _ m_33) (fun _ h9 => h9) rfl d_Bs_isSame_5 ?_
  refine lv_icmp_ne (tgt := 15) hx hb d_Bs_isSame_8 (by decide) (fun hc => ?_) (fun hc => ?_)
  · have h := it_f h hc
    exact t_Bs_isSame_15 X (lv_sub hl [0, 1] rfl) hI hS h
  · have h := it_t h hc
    exact t_Bs_isSame_11 X (lv_sub hl [0, 1] rfl) hI hS h
set_option maxRecDepth 100000 in
set_option maxHeartbeats 4000000 in
theorem c_Bs_isSame {l : Launch} {D : va_G} {A : Nat → Prop} {g : Nat → ClassId} {rest : va_W} {a0 : Nat → Nat} {a1 : Nat → Nat} {s0 : S_Bs} {s1 : S_Bs} {out : Int32} (h : F_Bs_isSame s0 s1 = some out) : Met l y_Bs_isSame ws_Bs_isSame { frames := 0, cells := 0, slots := 0, locals := 0 } (PcW D A g [.ref (a0 0), .ref (a1 0)] (w_Bs g a0 s0 ++ (w_Bs g a1 s1 ++ (rest)))) (QcI D A g out (fun (_ : Unit) => w_Bs g a0 s0 ++ (w_Bs g a1 s1 ++ (rest)))) 0 0 A := by
  refine Met.ofW (cc := prog_2_method_8_code) (maxL := 4) (ret := (some .boolean)) (by decide) rfl ?_
  intro p e s m args below meth c s₁ B hml hv
  obtain ⟨rfl, hI, hK⟩ := hv
  have hl := lv_entry [.ref (a0 0), .ref (a1 0)] (n := 4) (Nat.le_of_ble_eq_true rfl)
  rw [lg_entry_eq]
  generalize (lg_sl [.ref (a0 0), .ref (a1 0)] ++ List.replicate (4 - (lg_sl [.ref (a0 0), .ref (a1 0)]).length) Slot.unset).toArray = ls at hl ⊢
  have hl : lv_has ls 4 [(0, .ref (a0 0)), (1, .ref (a1 0))] := hl
  exact t_Bs_isSame_0 ⟨B.exec, B.bytes, hml, findClass_of_methodNamed B.named, atoms_spec (ws := ws_Bs_isSame) B.pre, B.returns, B.notSynchronized, hK⟩ (lv_sub hl [0, 1] rfl) hI va_S.rf h
