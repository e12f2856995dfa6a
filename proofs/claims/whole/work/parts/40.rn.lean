def B_Rn_store_33 (s0 : S_Rn) (s3 : S_Rd) (s4 : S_Tr) (s1 : S_Bs) (s2 : S_Bs) (s5 : S_Rs) : Option (Int32 × S_Bs × S_Bs × S_Rs) :=
  some ((3 : Int32), s1, s2, s5)
def B_Rn_store_56 (s0 : S_Rn) (s3 : S_Rd) (s4 : S_Tr) (s1 : S_Bs) (s2 : S_Bs) (s5 : S_Rs) : Option (Int32 × S_Bs × S_Bs × S_Rs) :=
  some ((4 : Int32), s1, s2, s5)
def B_Rn_store_97 (s0 : S_Rn) (s3 : S_Rd) (s4 : S_Tr) (s1 : S_Bs) (s2 : S_Bs) (s5 : S_Rs) (y0 : Int32) : Option (Int32 × S_Bs × S_Bs × S_Rs) :=
  some (y0, s1, s2, s5)
def B_Rn_store_96 (s0 : S_Rn) (s3 : S_Rd) (s4 : S_Tr) (s1 : S_Bs) (s2 : S_Bs) (s5 : S_Rs) : Option (Int32 × S_Bs × S_Bs × S_Rs) :=
  (B_Rn_store_97 s0 s3 s4 s1 s2 s5 (5 : Int32))
def B_Rn_store_92 (s0 : S_Rn) (s3 : S_Rd) (s4 : S_Tr) (s1 : S_Bs) (s2 : S_Bs) (s5 : S_Rs) : Option (Int32 × S_Bs × S_Bs × S_Rs) :=
  (B_Rn_store_97 s0 s3 s4 s1 s2 s5 (0 : Int32))
def B_Rn_store_58 (s0 : S_Rn) (s3 : S_Rd) (s4 : S_Tr) (s1 : S_Bs) (s2 : S_Bs) (s5 : S_Rs) (x2 : Int32) : Option (Int32 × S_Bs × S_Bs × S_Rs) :=
  ((F_Bs_reset s2).bind fun o1 => ((F_Tr_copyText s4 o1 x2).bind fun o3 => ((F_Rs_keep s5 o3 s1).bind fun o5 => (if o5.1 = 0 then (B_Rn_store_96 s0 s3 s4 s1 o3 o5.2) else (B_Rn_store_92 s0 s3 s4 s1 o3 o5.2)))))
def B_Rn_store_48 (s0 : S_Rn) (s3 : S_Rd) (s4 : S_Tr) (s1 : S_Bs) (s2 : S_Bs) (s5 : S_Rs) (x2 : Int32) : Option (Int32 × S_Bs × S_Bs × S_Rs) :=
  ((F_Tr_textLength s4 x2).bind fun o1 => (if o1 = 0 then (B_Rn_store_56 s0 s3 s4 s1 s2 s5) else (B_Rn_store_58 s0 s3 s4 s1 s2 s5 x2)))
def B_Rn_store_35 (s0 : S_Rn) (s3 : S_Rd) (s4 : S_Tr) (s1 : S_Bs) (s2 : S_Bs) (s5 : S_Rs) : Option (Int32 × S_Bs × S_Bs × S_Rs) :=
  ((F_Tr_find s4 (0 : Int32) (80 : Int32)).bind fun o1 => (if o1 = ((-1) : Int32) then (B_Rn_store_56 s0 s3 s4 s1 s2 s5) else (B_Rn_store_48 s0 s3 s4 s1 s2 s5 o1)))
def B_Rn_store_20 (s0 : S_Rn) (s3 : S_Rd) (s4 : S_Tr) (s1 : S_Bs) (s2 : S_Bs) (s5 : S_Rs) : Option (Int32 × S_Bs × S_Bs × S_Rs) :=
  ((F_Bs_count s1).bind fun o1 => (if o1 ≤ (198 : Int32) then (B_Rn_store_35 s0 s3 s4 s1 s2 s5) else (B_Rn_store_33 s0 s3 s4 s1 s2 s5)))
def B_Rn_store_0 (s0 : S_Rn) (s3 : S_Rd) (s4 : S_Tr) (s1 : S_Bs) (s2 : S_Bs) (s5 : S_Rs) : Option (Int32 × S_Bs × S_Bs × S_Rs) :=
  ((F_Rd_tree s3).bind fun o1 => ((F_Tr_writeAll s4 s1 (0 : Int32)).bind fun o3 => (if o3.1 = 0 then (B_Rn_store_33 s0 s3 s4 o3.2 s2 s5) else (B_Rn_store_20 s0 s3 s4 o3.2 s2 s5))))
def F_Rn_store (s0 : S_Rn) (s1 : S_Bs) (s2 : S_Bs) (s3 : S_Rd) (s4 : S_Tr) (s5 : S_Rs) : Option (Int32 × S_Bs × S_Bs × S_Rs) := B_Rn_store_0 s0 s3 s4 s1 s2 s5
set_option maxRecDepth 100000 in
set_option maxHeartbeats 4000000 in
theorem t_Rn_store_33 {p : Program} {l : Launch} {e : Env} {s : State} {m : MethodId} {args : Array Value} {below : List Frame} {meth : Method} {c : Code} {D : va_G} {A : Nat → Prop} {g : Nat → ClassId} {rest : va_W} {K : Nat → Nat → Nat} {g1 : Nat} {ls : Array Slot} {H : Heap} {locs : List Loc} {s0 : S_Rn} {s3 : S_Rd} {s4 : S_Tr} {s1 : S_Bs} {s2 : S_Bs} {s5 : S_Rs} {out : Int32 × S_Bs × S_Bs × S_Rs} (X : Cx p s m args meth c prog_1_method_36_code 3 ws_Rn_store R_Rn (some .int) D g) (hl : lv_has ls 3 []) (hI : Iw D A (w_Rn g (K 0) (fun j => K (j + 1) 0) s0 ++ (w_Bs g (K 2) s1 ++ (w_Bs g (K 3) s2 ++ (w_Rd g (K 11) (tw (K 14 0) g1) s3 ++ (w_Tr g (K 14) s4 ++ (w_Rs g (K 10) (fun k => K (16 + 2 * k)) (fun k => K (17 + 2 * k)) s5 ++ (rest))))))) H) (hS : va_S A s.heap H locs) (h : B_Rn_store_33  s0 s3 s4 s1 s2 s5 = some out) : W p l e (headSpec ws_Rn_store { frames := 4, cells := 0, slots := 0, locals := 98 }).room s m args below meth c H locs 0 0 (MQ below (QcI D A g out.1 (fun (u : Nat) => w_Rn g (K 0) (fun j => K (j + 1) 0) s0 ++ (w_Bs g (K 2) out.2.1 ++ (w_Bs g (K 3) out.2.2.1 ++ (w_Rd g (K 11) (tw (K 14 0) u) s3 ++ (w_Tr g (K 14) s4 ++ (w_Rs g (K 10) (fun k => K (16 + 2 * k)) (fun k => K (17 + 2 * k)) out.2.2.2 ++ (rest)))))))) args s 0 0 A) (F0 m 33 ls []) := by
  have X1 := X
  obtain ⟨hx, hb, hml, hown, hts, hr, hlocks, hKK⟩ := X1
  have ht : ∀ w ∈ TB, w.before args s = true := fun w h => hts w (List.mem_cons_of_mem _ h)
  have hK := hKK.1
  unfold B_Rn_store_33 at h
  refine lv_iconst (v := 3) hx hb d_Rn_store_33 (by decide) ?_
  have h9 := Option.some.inj h
  subst h9
  exact W.iret (v := (3 : Int32)) hx hb hr (fun t ht hW => ⟨⟨_, g1, rfl, rfl, ⟨by rw [ht]; exact hI, hKK.moved hW⟩⟩, hS.F ht⟩) hS.2.2 d_Rn_store_34
set_option maxRecDepth 100000 in
set_option maxHeartbeats 4000000 in
theorem t_Rn_store_56 {p : Program} {l : Launch} {e : Env} {s : State} {m : MethodId} {args : Array Value} {below : List Frame} {meth : Method} {c : Code} {D : va_G} {A : Nat → Prop} {g : Nat → ClassId} {rest : va_W} {K : Nat → Nat → Nat} {g1 : Nat} {ls : Array Slot} {H : Heap} {locs : List Loc} {s0 : S_Rn} {s3 : S_Rd} {s4 : S_Tr} {s1 : S_Bs} {s2 : S_Bs} {s5 : S_Rs} {out : Int32 × S_Bs × S_Bs × S_Rs} (X : Cx p s m args meth c prog_1_method_36_code 3 ws_Rn_store R_Rn (some .int) D g) (hl : lv_has ls 3 []) (hI : Iw D A (w_Rn g (K 0) (fun j => K (j + 1) 0) s0 ++ (w_Bs g (K 2) s1 ++ (w_Bs g (K 3) s2 ++ (w_Rd g (K 11) (tw (K 14 0) g1) s3 ++ (w_Tr g (K 14) s4 ++ (w_Rs g (K 10) (fun k => K (16 + 2 * k)) (fun k => K (17 + 2 * k)) s5 ++ (rest))))))) H) (hS : va_S A s.heap H locs) (h : B_Rn_store_56  s0 s3 s4 s1 s2 s5 = some out) : W p l e (headSpec ws_Rn_store { frames := 4, cells := 0, slots := 0, locals := 98 }).room s m args below meth c H locs 0 0 (MQ below (QcI D A g out.1 (fun (u : Nat) => w_Rn g (K 0) (fun j => K (j + 1) 0) s0 ++ (w_Bs g (K 2) out.2.1 ++ (w_Bs g (K 3) out.2.2.1 ++ (w_Rd g (K 11) (tw (K 14 0) u) s3 ++ (w_Tr g (K 14) s4 ++ (w_Rs g (K 10) (fun k => K (16 + 2 * k)) (fun k => K (17 + 2 * k)) out.2.2.2 ++ (rest)))))))) args s 0 0 A) (F0 m 56 ls []) := by
  have X1 := X
  obtain ⟨hx, hb, hml, hown, hts, hr, hlocks, hKK⟩ := X1
  have ht : ∀ w ∈ TB, w.before args s = true := fun w h => hts w (List.mem_cons_of_mem _ h)
  have hK := hKK.1
  unfold B_Rn_store_56 at h
  refine lv_iconst (v := 4) hx hb d_Rn_store_56 (by decide) ?_
  have h9 := Option.some.inj h
  subst h9
  exact W.iret (v := (4 : Int32)) hx hb hr (fun t ht hW => ⟨⟨_, g1, rfl, rfl, ⟨by rw [ht]; exact hI, hKK.moved hW⟩⟩, hS.F ht⟩) hS.2.2 d_Rn_store_57
set_option maxRecDepth 100000 in
set_option maxHeartbeats 4000000 in
theorem t_Rn_store_97 {p : Program} {l : Launch} {e : Env} {s : State} {m : MethodId} {args : Array Value} {below : List Frame} {meth : Method} {c : Code} {D : va_G} {A : Nat → Prop} {g : Nat → ClassId} {rest : va_W} {K : Nat → Nat → Nat} {g1 : Nat} {ls : Array Slot} {H : Heap} {locs : List Loc} {s0 : S_Rn} {s3 : S_Rd} {s4 : S_Tr} {s1 : S_Bs} {s2 : S_Bs} {s5 : S_Rs} {y0 : Int32} {out : Int32 × S_Bs × S_Bs × S_Rs} (X : Cx p s m args meth c prog_1_method_36_code 3 ws_Rn_store R_Rn (some .int) D g) (hl : lv_has ls 3 []) (hI : Iw D A (w_Rn g (K 0) (fun j => K (j + 1) 0) s0 ++ (w_Bs g (K 2) s1 ++ (w_Bs g (K 3) s2 ++ (w_Rd g (K 11) (tw (K 14 0) g1) s3 ++ (w_Tr g (K 14) s4 ++ (w_Rs g (K 10) (fun k => K (16 + 2 * k)) (fun k => K (17 + 2 * k)) s5 ++ (rest))))))) H) (hS : va_S A s.heap H locs) (h : B_Rn_store_97  s0 s3 s4 s1 s2 s5 y0 = some out) : W p l e (headSpec ws_Rn_store { frames := 4, cells := 0, slots := 0, locals := 98 }).room s m args below meth c H locs 0 0 (MQ below (QcI D A g out.1 (fun (u : Nat) => w_Rn g (K 0) (fun j => K (j + 1) 0) s0 ++ (w_Bs g (K 2) out.2.1 ++ (w_Bs g (K 3) out.2.2.1 ++ (w_Rd g (K 11) (tw (K 14 0) u) s3 ++ (w_Tr g (K 14) s4 ++ (w_Rs g (K 10) (fun k => K (16 + 2 * k)) (fun k => K (17 + 2 * k)) out.2.2.2 ++ (rest)))))))) args s 0 0 A) (F0 m 97 ls [.int y0]) := by
  have X1 := X
  obtain ⟨hx, hb, hml, hown, hts, hr, hlocks, hKK⟩ := X1
  have ht : ∀ w ∈ TB, w.before args s = true := fun w h => hts w (List.mem_cons_of_mem _ h)
  have hK := hKK.1
  unfold B_Rn_store_97 at h
  have h9 := Option.some.inj h
  subst h9
  exact W.iret (v := y0) hx hb hr (fun t ht hW => ⟨⟨_, g1, rfl, rfl, ⟨by rw [ht]; exact hI, hKK.moved hW⟩⟩, hS.F ht⟩) hS.2.2 d_Rn_store_97
set_option maxRecDepth 100000 in
set_option maxHeartbeats 4000000 in
theorem t_Rn_store_96 {p : Program} {l : Launch} {e : Env} {s : State} {m : MethodId} {args : Array Value} {below : List Frame} {meth : Method} {c : Code} {D : va_G} {A : Nat → Prop} {g : Nat → ClassId} {rest : va_W} {K : Nat → Nat → Nat} {g1 : Nat} {ls : Array Slot} {H : Heap} {locs : List Loc} {s0 : S_Rn} {s3 : S_Rd} {s4 : S_Tr} {s1 : S_Bs} {s2 : S_Bs} {s5 : S_Rs} {out : Int32 × S_Bs × S_Bs × S_Rs} (X : Cx p s m args meth c prog_1_method_36_code 3 ws_Rn_store R_Rn (some .int) D g) (hl : lv_has ls 3 []) (hI : Iw D A (w_Rn g (K 0) (fun j => K (j + 1) 0) s0 ++ (w_Bs g (K 2) s1 ++ (w_Bs g (K 3) s2 ++ (w_Rd g (K 11) (tw (K 14 0) g1) s3 ++ (w_Tr g (K 14) s4 ++ (w_Rs g (K 10) (fun k => K (16 + 2 * k)) (fun k => K (17 + 2 * k)) s5 ++ (rest))))))) H) (hS : va_S A s.heap H locs) (h : B_Rn_store_96  s0 s3 s4 s1 s2 s5 = some out) : W p l e (headSpec ws_Rn_store { frames := 4, cells := 0, slots := 0, locals := 98 }).room s m args below meth c H locs 0 0 (MQ below (QcI D A g out.1 (fun (u : Nat) => w_Rn g (K 0) (fun j => K (j + 1) 0) s0 ++ (w_Bs g (K 2) out.2.1 ++ (w_Bs g (K 3) out.2.2.1 ++ (w_Rd g (K 11) (tw (K 14 0) u) s3 ++ (w_Tr g (K 14) s4 ++ (w_Rs g (K 10) (fun k => K (16 + 2 * k)) (fun k => K (17 + 2 * k)) out.2.2.2 ++ (rest)))))))) args s 0 0 A) (F0 m 96 ls []) := by
  have X1 := X
  obtain ⟨hx, hb, hml, hown, hts, hr, hlocks, hKK⟩ := X1
  have ht : ∀ w ∈ TB, w.before args s = true := fun w h => hts w (List.mem_cons_of_mem _ h)
  have hK := hKK.1
  unfold B_Rn_store_96 at h
  refine lv_iconst (v := 5) hx hb d_Rn_store_96 (by decide) ?_
  exact t_Rn_store_97 X (lv_sub hl [] rfl) hI hS h
set_option maxRecDepth 100000 in
set_option maxHeartbeats 4000000 in
theorem t_Rn_store_92 {p : Program} {l : Launch} {e : Env} {s : State} {m : MethodId} {args : Array Value} {below : List Frame} {meth : Method} {c : Code} {D : va_G} {A : Nat → Prop} {g : Nat → ClassId} {rest : va_W} {K : Nat → Nat → Nat} {g1 : Nat} {ls : Array Slot} {H : Heap} {locs : List Loc} {s0 : S_Rn} {s3 : S_Rd} {s4 : S_Tr} {s1 : S_Bs} {s2 : S_Bs} {s5 : S_Rs} {out : Int32 × S_Bs × S_Bs × S_Rs} (X : Cx p s m args meth c prog_1_method_36_code 3 ws_Rn_store R_Rn (some .int) D g) (hl : lv_has ls 3 []) (hI : Iw D A (w_Rn g (K 0) (fun j => K (j + 1) 0) s0 ++ (w_Bs g (K 2) s1 ++ (w_Bs g (K 3) s2 ++ (w_Rd g (K 11) (tw (K 14 0) g1) s3 ++ (w_Tr g (K 14) s4 ++ (w_Rs g (K 10) (fun k => K (16 + 2 * k)) (fun k => K (17 + 2 * k)) s5 ++ (rest))))))) H) (hS : va_S A s.heap H locs) (h : B_Rn_store_92  s0 s3 s4 s1 s2 s5 = some out) : W p l e (headSpec ws_Rn_store { frames := 4, cells := 0, slots := 0, locals := 98 }).room s m args below meth c H locs 0 0 (MQ below (QcI D A g out.1 (fun (u : Nat) => w_Rn g (K 0) (fun j => K (j + 1) 0) s0 ++ (w_Bs g (K 2) out.2.1 ++ (w_Bs g (K 3) out.2.2.1 ++ (w_Rd g (K 11) (tw (K 14 0) u) s3 ++ (w_Tr g (K 14) s4 ++ (w_Rs g (K 10) (fun k => K (16 + 2 * k)) (fun k => K (17 + 2 * k)) out.2.2.2 ++ (rest)))))))) args s 0 0 A) (F0 m 92 ls []) := by
  have X1 := X
  obtain ⟨hx, hb, hml, hown, hts, hr, hlocks, hKK⟩ := X1
  have ht : ∀ w ∈ TB, w.before args s = true := fun w h => hts w (List.mem_cons_of_mem _ h)
  have hK := hKK.1
  unfold B_Rn_store_92 at h
  refine lv_iconst (v := 0) hx hb d_Rn_store_92 (by decide) ?_
  refine lv_goto (tgt := 97) hx hb d_Rn_store_93 (by decide) ?_
  exact t_Rn_store_97 X (lv_sub hl [] rfl) hI hS h
set_option maxRecDepth 100000 in
set_option maxHeartbeats 4000000 in
theorem t_Rn_store_58 {p : Program} {l : Launch} {e : Env} {s : State} {m : MethodId} {args : Array Value} {below : List Frame} {meth : Method} {c : Code} {D : va_G} {A : Nat → Prop} {g : Nat → ClassId} {rest : va_W} {K : Nat → Nat → Nat} {g1 : Nat} {ls : Array Slot} {H : Heap} {locs : List Loc} {s0 : S_Rn} {s3 : S_Rd} {s4 : S_Tr} {s1 : S_Bs} {s2 : S_Bs} {s5 : S_Rs} {x2 : Int32} {out : Int32 × S_Bs × S_Bs × S_Rs} (X : Cx p s m args meth c prog_1_method_36_code 3 ws_Rn_store R_Rn (some .int) D g) (hl : lv_has ls 3 [(0, .ref (K 0 0)), (1, .ref (K 14 0)), (2, .int x2)]) (hI : Iw D A (w_Rn g (K 0) (fun j => K (j + 1) 0) s0 ++ (w_Bs g (K 2) s1 ++ (w_Bs g (K 3) s2 ++ (w_Rd g (K 11) (tw (K 14 0) g1) s3 ++ (w_Tr g (K 14) s4 ++ (w_Rs g (K 10) (fun k => K (16 + 2 * k)) (fun k => K (17 + 2 * k)) s5 ++ (rest))))))) H) (hS : va_S A s.heap H locs) (h : B_Rn_store_58  s0 s3 s4 s1 s2 s5 x2 = some out) : W p l e (headSpec ws_Rn_store { frames := 4, cells := 0, slots := 0, locals := 98 }).room s m args below meth c H locs 0 0 (MQ below (QcI D A g out.1 (fun (u : Nat) => w_Rn g (K 0) (fun j => K (j + 1) 0) s0 ++ (w_Bs g (K 2) out.2.1 ++ (w_Bs g (K 3) out.2.2.1 ++ (w_Rd g (K 11) (tw (K 14 0) u) s3 ++ (w_Tr g (K 14) s4 ++ (w_Rs g (K 10) (fun k => K (16 + 2 * k)) (fun k => K (17 + 2 * k)) out.2.2.2 ++ (rest)))))))) args s 0 0 A) (F0 m 58 ls []) := by
  have X1 := X
  obtain ⟨hx, hb, hml, hown, hts, hr, hlocks, hKK⟩ := X1
  have ht : ∀ w ∈ TB, w.before args s = true := fun w h => hts w (List.mem_cons_of_mem _ h)
  have hK := hKK.1
  unfold B_Rn_store_58 at h
  refine lv_aload_n hx hb d_Rn_store_58 rfl (lv_at hl 0 rfl) ?_
  refine va_get (D := D) (ci := 8) (v := .ref (K 3 0)) (C := R_Rn) (T := T_Rn) (N := 16) hx hb ht in_Rn hown hK hI.1 0 rfl rfl 2 (by decide) (ht _ m_205) (fun _ h9 => h9) rfl d_Rn_store_59 ?_
  obtain ⟨o1, ho2, h⟩ := bd_s h
  refine cl_v (W1 := fun (_ : Unit) => w_Rn g (K 0) (fun j => K (j + 1) 0) s0 ++ (w_Bs g (K 2) s1 ++ (w_Bs g (K 3) o1 ++ (w_Rd g (K 11) (tw (K 14 0) g1) s3 ++ (w_Tr g (K 14) s4 ++ (w_Rs g (K 10) (fun k => K (16 + 2 * k)) (fun k => K (17 + 2 * k)) s5 ++ (rest))))))) (va_runV (As := []) (rest := []) ⟨hx, hb, hml, hown, ht⟩ (c_Bs_reset (l := l) (D := D) (A := A) (g := g) (rest := w_Rn g (K 0) (fun j => K (j + 1) 0) s0 ++ (w_Bs g (K 2) s1 ++ (w_Rd g (K 11) (tw (K 14 0) g1) s3 ++ (w_Tr g (K 14) s4 ++ (w_Rs g (K 10) (fun k => K (16 + 2 * k)) (fun k => K (17 + 2 * k)) s5 ++ (rest)))))) (a0 := K 3) ho2) (cwV 0 ht (gd_V m_274 m_275 m_276 m_2 m_277) rfl rfl rfl (by decide +kernel) ⟨(Nat.le_of_ble_eq_true rfl), (Nat.le_of_ble_eq_true rfl)⟩) (prV (ci := 0) (q0 := 0) hKK hI (pmn (rest := rest) [w_Rn g (K 0) (fun j => K (j + 1) 0) s0, w_Bs g (K 2) s1, w_Bs g (K 3) s2, w_Rd g (K 11) (tw (K 14 0) g1) s3, w_Tr g (K 14) s4, w_Rs g (K 10) (fun k => K (16 + 2 * k)) (fun k => K (17 + 2 * k)) s5] [w_Bs g (K 3) s2, w_Rn g (K 0) (fun j => K (j + 1) 0) s0, w_Bs g (K 2) s1, w_Rd g (K 11) (tw (K 14 0) g1) s3, w_Tr g (K 14) s4, w_Rs g (K 10) (fun k => K (16 + 2 * k)) (fun k => K (17 + 2 * k)) s5] [2, 0, 1, 3, 4, 5] 6 rfl rfl (by decide)) rfl rfl rfl) rfl rfl hl.1 rfl (lv_room (Nat.le_of_ble_eq_true rfl)) d_Rn_store_62 ⟨(Nat.le_of_ble_eq_true rfl), (Nat.le_of_ble_eq_true rfl)⟩) hS (fun _ => (pmn (rest := rest) [w_Bs g (K 3) o1, w_Rn g (K 0) (fun j => K (j + 1) 0) s0, w_Bs g (K 2) s1, w_Rd g (K 11) (tw (K 14 0) g1) s3, w_Tr g (K 14) s4, w_Rs g (K 10) (fun k => K (16 + 2 * k)) (fun k => K (17 + 2 * k)) s5] [w_Rn g (K 0) (fun j => K (j + 1) 0) s0, w_Bs g (K 2) s1, w_Bs g (K 3) o1, w_Rd g (K 11) (tw (K 14 0) g1) s3, w_Tr g (K 14) s4, w_Rs g (K 10) (fun k => K (16 + 2 * k)) (fun k => K (17 + 2 * k)) s5] [1, 2, 0, 3, 4, 5] 6 rfl rfl (by decide))) (fun _ H locs hI hS => ?_)
  have hI : Iw D A (w_Rn g (K 0) (fun j => K (j + 1) 0) s0 ++ (w_Bs g (K 2) s1 ++ (w_Bs g (K 3) o1 ++ (w_Rd g (K 11) (tw (K 14 0) g1) s3 ++ (w_Tr g (K 14) s4 ++ (w_Rs g (K 10) (fun k => K (16 + 2 * k)) (fun k => K (17 + 2 * k)) s5 ++ (rest))))))) H := hI
  refine lv_aload_n hx hb d_Rn_store_65 rfl (lv_at hl 1 rfl) ?_
  refine lv_iload_n hx hb d_Rn_store_66 rfl (lv_at hl 2 rfl) ?_
  refine lv_aload_n hx hb d_Rn_store_67 rfl (lv_at hl 0 rfl) ?_
  refine va_get (D := D) (ci := 8) (v := .ref (K 3 0)) (C := R_Rn) (T := T_Rn) (N := 16) hx hb ht in_Rn hown hK hI.1 0 rfl rfl 2 (by decide) (ht _ m_205) (fun _ h9 => h9) rfl d_Rn_store_68 ?_
  obtain ⟨o3, ho4, h⟩ := bd_s h
  refine cl_v (W1 := fun (_ : Unit) => w_Rn g (K 0) (fun j => K (j + 1) 0) s0 ++ (w_Bs g (K 2) s1 ++ (w_Bs g (K 3) o3 ++ (w_Rd g (K 11) (tw (K 14 0) g1) s3 ++ (w_Tr g (K 14) s4 ++ (w_Rs g (K 10) (fun k => K (16 + 2 * k)) (fun k => K (17 + 2 * k)) s5 ++ (rest))))))) (va_runV (As := [.int x2, .ref (K 3 0)]) (rest := []) ⟨hx, hb, hml, hown, ht⟩ (c_Tr_copyText (l := l) (D := D) (A := A) (g := g) (rest := w_Rn g (K 0) (fun j => K (j + 1) 0) s0 ++ (w_Bs g (K 2) s1 ++ (w_Rd g (K 11) (tw (K 14 0) g1) s3 ++ (w_Rs g (K 10) (fun k => K (16 + 2 * k)) (fun k => K (17 + 2 * k)) s5 ++ (rest))))) (a0 := K 14) (a1 := K 3) ho4) (cwV 2 ht (gd_V m_588 m_589 m_590 m_9 m_591) rfl rfl rfl (by decide +kernel) ⟨(Nat.le_of_ble_eq_true rfl), (Nat.le_of_ble_eq_true rfl)⟩) (prV (ci := 7) (q0 := 0) hKK hI (pmn (rest := rest) [w_Rn g (K 0) (fun j => K (j + 1) 0) s0, w_Bs g (K 2) s1, w_Bs g (K 3) o1, w_Rd g (K 11) (tw (K 14 0) g1) s3, w_Tr g (K 14) s4, w_Rs g (K 10) (fun k => K (16 + 2 * k)) (fun k => K (17 + 2 * k)) s5] [w_Tr g (K 14) s4, w_Bs g (K 3) o1, w_Rn g (K 0) (fun j => K (j + 1) 0) s0, w_Bs g (K 2) s1, w_Rd g (K 11) (tw (K 14 0) g1) s3, w_Rs g (K 10) (fun k => K (16 + 2 * k)) (fun k => K (17 + 2 * k)) s5] [4, 2, 0, 1, 3, 5] 6 rfl rfl (by decide)) rfl rfl rfl) rfl rfl hl.1 rfl (lv_room (Nat.le_of_ble_eq_true rfl)) d_Rn_store_71 ⟨(Nat.le_of_ble_eq_true rfl), (Nat.le_of_ble_eq_true rfl)⟩) hS (fun _ => (pmn (rest := rest) [w_Tr g (K 14) s4, w_Bs g (K 3) o3, w_Rn g (K 0) (fun j => K (j + 1) 0) s0, w_Bs g (K 2) s1, w_Rd g (K 11) (tw (K 14 0) g1) s3, w_Rs g (K 10) (fun k => K (16 + 2 * k)) (fun k => K (17 + 2 * k)) s5] [w_Rn g (K 0) (fun j => K (j + 1) 0) s0, w_Bs g (K 2) s1, w_Bs g (K 3) o3, w_Rd g (K 11) (tw (K 14 0) g1) s3, w_Tr g (K 14) s4, w_Rs g (K 10) (fun k => K (16 + 2 * k)) (fun k => K (17 + 2 * k)) s5] [2, 3, 1, 4, 0, 5] 6 rfl rfl (by decide))) (fun _ H locs hI hS => ?_)
  have hI : Iw D A (w_Rn g (K 0) (fun j => K (j + 1) 0) s0 ++ (w_Bs g (K 2) s1 ++ (w_Bs g (K 3) o3 ++ (w_Rd g (K 11) (tw (K 14 0) g1) s3 ++ (w_Tr g (K 14) s4 ++ (w_Rs g (K 10) (fun k => K (16 + 2 * k)) (fun k => K (17 + 2 * k)) s5 ++ (rest))))))) H := hI
  refine lv_aload_n hx hb d_Rn_store_74 rfl (lv_at hl 0 rfl) ?_
  refine va_get (D := D) (ci := 8) (v := .ref (K 10 0)) (C := R_Rn) (T := T_Rn) (N := 16) hx hb ht in_Rn hown hK hI.1 0 rfl rfl 9 (by decide) (ht _ m_212) (fun _ h9 => h9) rfl d_Rn_store_75 ?_
  refine lv_aload_n hx hb d_Rn_store_78 rfl (lv_at hl 0 rfl) ?_
  refine va_get (D := D) (ci := 8) (v := .ref (K 3 0)) (C := R_Rn) (T := T_Rn) (N := 16) hx hb ht in_Rn hown hK hI.1 0 rfl rfl 2 (by decide) (ht _ m_205) (fun _ h9 => h9) rfl d_Rn_store_79 ?_
  refine lv_aload_n hx hb d_Rn_store_82 rfl (lv_at hl 0 rfl) ?_
  refine va_get (D := D) (ci := 8) (v := .ref (K 2 0)) (C := R_Rn) (T := T_Rn) (N := 16) hx hb ht in_Rn hown hK hI.1 0 rfl rfl 1 (by decide) (ht _ m_204) (fun _ h9 => h9) rfl d_Rn_store_83 ?_
  obtain ⟨o5, ho6, h⟩ := bd_s h
  refine cl_i (W1 := fun (_ : Unit) => w_Rn g (K 0) (fun j => K (j + 1) 0) s0 ++ (w_Bs g (K 2) s1 ++ (w_Bs g (K 3) o3 ++ (w_Rd g (K 11) (tw (K 14 0) g1) s3 ++ (w_Tr g (K 14) s4 ++ (w_Rs g (K 10) (fun k => K (16 + 2 * k)) (fun k => K (17 + 2 * k)) o5.2 ++ (rest))))))) (va_runV (As := [.ref (K 3 0), .ref (K 2 0)]) (rest := []) ⟨hx, hb, hml, hown, ht⟩ (c_Rs_keep (l := l) (D := D) (A := A) (g := g) (rest := w_Rn g (K 0) (fun j => K (j + 1) 0) s0 ++ (w_Rd g (K 11) (tw (K 14 0) g1) s3 ++ (w_Tr g (K 14) s4 ++ (rest)))) (a0 := K 10) (a1 := K 3) (a2 := K 2) (N := (fun k => K (16 + 2 * k))) (B := (fun k => K (17 + 2 * k))) ho6) (cwV 2 ht (gd_V m_593 m_594 m_595 m_6 m_596) rfl rfl rfl (by decide +kernel) ⟨(Nat.le_of_ble_eq_true rfl), (Nat.le_of_ble_eq_true rfl)⟩) (prV (ci := 6) (q0 := 0) hKK hI (pmn (rest := rest) [w_Rn g (K 0) (fun j => K (j + 1) 0) s0, w_Bs g (K 2) s1, w_Bs g (K 3) o3, w_Rd g (K 11) (tw (K 14 0) g1) s3, w_Tr g (K 14) s4, w_Rs g (K 10) (fun k => K (16 + 2 * k)) (fun k => K (17 + 2 * k)) s5] [w_Rs g (K 10) (fun k => K (16 + 2 * k)) (fun k => K (17 + 2 * k)) s5, w_Bs g (K 3) o3, w_Bs g (K 2) s1, w_Rn g (K 0) (fun j => K (j + 1) 0) s0, w_Rd g (K 11) (tw (K 14 0) g1) s3, w_Tr g (K 14) s4] [5, 2, 1, 0, 3, 4] 6 rfl rfl (by decide)) rfl rfl rfl) rfl rfl hl.1 rfl (lv_room (Nat.le_of_ble_eq_true rfl)) d_Rn_store_86 ⟨(Nat.le_of_ble_eq_true rfl), (Nat.le_of_ble_eq_true rfl)⟩) hS (fun _ => (pmn (rest := rest) [w_Rs g (K 10) (fun k => K (16 + 2 * k)) (fun k => K (17 + 2 * k)) o5.2, w_Bs g (K 3) o3, w_Bs g (K 2) s1, w_Rn g (K 0) (fun j => K (j + 1) 0) s0, w_Rd g (K 11) (tw (K 14 0) g1) s3, w_Tr g (K 14) s4] [w_Rn g (K 0) (fun j => K (j + 1) 0) s0, w_Bs g (K 2) s1, w_Bs g (K 3) o3, w_Rd g (K 11) (tw (K 14 0) g1) s3, w_Tr g (K 14) s4, w_Rs g (K 10) (fun k => K (16 + 2 * k)) (fun k => K (17 + 2 * k)) o5.2] [3, 2, 1, 4, 5, 0] 6 rfl rfl (by decide))) (fun _ H locs hI hS => ?_)
  have hI : Iw D A (w_Rn g (K 0) (fun j => K (j + 1) 0) s0 ++ (w_Bs g (K 2) s1 ++ (w_Bs g (K 3) o3 ++ (w_Rd g (K 11) (tw (K 14 0) g1) s3 ++ (w_Tr g (K 14) s4 ++ (w_Rs g (K 10) (fun k => K (16 + 2 * k)) (fun k => K (17 + 2 * k)) o5.2 ++ (rest))))))) H := hI
  refine lv_if_eq (tgt := 96) hx hb d_Rn_store_89 (by decide) (fun hc => ?_) (fun hc => ?_)
  · have h := it_t h hc
    exact t_Rn_store_96 X (lv_sub hl [] rfl) hI hS h
  · have h := it_f h hc
    exact t_Rn_store_92 X (lv_sub hl [] rfl) hI hS h
set_option maxRecDepth 100000 in
set_option maxHeartbeats 4000000 in
theorem t_Rn_store_48 {p : Program} {l : Launch} {e : Env} {s : State} {m : MethodId} {args : Array Value} {below : List Frame} {meth : Method} {c : Code} {D : va_G} {A : Nat → Prop} {g : Nat → ClassId} {rest : va_W} {K : Nat → Nat → Nat} {g1 : Nat} {ls : Array Slot} {H : Heap} {locs : List Loc} {s0 : S_Rn} {s3 : S_Rd} {s4 : S_Tr} {s1 : S_Bs} {s2 : S_Bs} {s5 : S_Rs} {x2 : Int32} {out : Int32 × S_Bs × S_Bs × S_Rs} (X : Cx p s m args meth c prog_1_method_36_code 3 ws_Rn_store R_Rn (some .int) D g) (hl : lv_has ls 3 [(0, .ref (K 0 0)), (1, .ref (K 14 0)), (2, .int x2)]) (hI : Iw D A (w_Rn g (K 0) (fun j => K (j + 1) 0) s0 ++ (w_Bs g (K 2) s1 ++ (w_Bs g (K 3) s2 ++ (w_Rd g (K 11) (tw (K 14 0) g1) s3 ++ (w_Tr g (K 14) s4 ++ (w_Rs g (K 10) (fun k => K (16 + 2 * k)) (fun k => K (17 + 2 * k)) s5 ++ (rest))))))) H) (hS : va_S A s.heap H locs) (h : B_Rn_store_48  s0 s3 s4 s1 s2 s5 x2 = some out) : W p l e (headSpec ws_Rn_store { frames := 4, cells := 0, slots := 0, locals := 98 }).room s m args below meth c H locs 0 0 (MQ below (QcI D A g out.1 (fun (u : Nat) => w_Rn g (K 0) (fun j => K (j + 1) 0) s0 ++ (w_Bs g (K 2) out.2.1 ++ (w_Bs g (K 3) out.2.2.1 ++ (w_Rd g (K 11) (tw (K 14 0) u) s3 ++ (w_Tr g (K 14) s4 ++ (w_Rs g (K 10) (fun k => K (16 + 2 * k)) (fun k => K (17 + 2 * k)) out.2.2.2 ++ (rest)))))))) args s 0 0 A) (F0 m 48 ls []) := by
  have X1 := X
  obtain ⟨hx, hb, hml, hown, hts, hr, hlocks, hKK⟩ := X1
  have ht : ∀ w ∈ TB, w.before args s = true := fun w h => hts w (List.mem_cons_of_mem _ h)
  have hK := hKK.1
  unfold B_Rn_store_48 at h
  refine lv_aload_n hx hb d_Rn_store_48 rfl (lv_at hl 1 rfl) ?_
  refine lv_iload_n hx hb d_Rn_store_49 rfl (lv_at hl 2 rfl) ?_
  obtain ⟨o1, ho2, h⟩ := bd_s h
  refine cl_i (W1 := fun (_ : Unit) => w_Rn g (K 0) (fun j => K (j + 1) 0) s0 ++ (w_Bs g (K 2) s1 ++ (w_Bs g (K 3) s2 ++ (w_Rd g (K 11) (tw (K 14 0) g1) s3 ++ (w_Tr g (K 14) s4 ++ (w_Rs g (K 10) (fun k => K (16 + 2 * k)) (fun k => K (17 + 2 * k)) s5 ++ (rest))))))) (va_runV (As := [.int x2]) (rest := []) ⟨hx, hb, hml, hown, ht⟩ (c_Tr_textLength (l := l) (D := D) (A := A) (g := g) (rest := w_Rn g (K 0) (fun j => K (j + 1) 0) s0 ++ (w_Bs g (K 2) s1 ++ (w_Bs g (K 3) s2 ++ (w_Rd g (K 11) (tw (K 14 0) g1) s3 ++ (w_Rs g (K 10) (fun k => K (16 + 2 * k)) (fun k => K (17 + 2 * k)) s5 ++ (rest)))))) (a0 := K 14) ho2) (cwV 1 ht (gd_V m_584 m_585 m_586 m_9 m_587) rfl rfl rfl (by decide +kernel) ⟨(Nat.le_of_ble_eq_true rfl), (Nat.le_of_ble_eq_true rfl)⟩) (prV (ci := 7) (q0 := 0) hKK hI (pmn (rest := rest) [w_Rn g (K 0) (fun j => K (j + 1) 0) s0, w_Bs g (K 2) s1, w_Bs g (K 3) s2, w_Rd g (K 11) (tw (K 14 0) g1) s3, w_Tr g (K 14) s4, w_Rs g (K 10) (fun k => K (16 + 2 * k)) (fun k => K (17 + 2 * k)) s5] [w_Tr g (K 14) s4, w_Rn g (K 0) (fun j => K (j + 1) 0) s0, w_Bs g (K 2) s1, w_Bs g (K 3) s2, w_Rd g (K 11) (tw (K 14 0) g1) s3, w_Rs g (K 10) (fun k => K (16 + 2 * k)) (fun k => K (17 + 2 * k)) s5] [4, 0, 1, 2, 3, 5] 6 rfl rfl (by decide)) rfl rfl rfl) rfl rfl hl.1 rfl (lv_room (Nat.le_of_ble_eq_true rfl)) d_Rn_store_50 ⟨(Nat.le_of_ble_eq_true rfl), (Nat.le_of_ble_eq_true rfl)⟩) hS (fun _ => (pmn (rest := rest) [w_Tr g (K 14) s4, w_Rn g (K 0) (fun j => K (j + 1) 0) s0, w_Bs g (K 2) s1, w_Bs g (K 3) s2, w_Rd g (K 11) (tw (K 14 0) g1) s3, w_Rs g (K 10) (fun k => K (16 + 2 * k)) (fun k => K (17 + 2 * k)) s5] [w_Rn g (K 0) (fun j => K (j + 1) 0) s0, w_Bs g (K 2) s1, w_Bs g (K 3) s2, w_Rd g (K 11) (tw (K 14 0) g1) s3, w_Tr g (K 14) s4, w_Rs g (K 10) (fun k => K (16 + 2 * k)) (fun k => K (17 + 2 * k)) s5] [1, 2, 3, 4, 0, 5] 6 rfl rfl (by decide))) (fun _ H locs hI hS => ?_)
  have hI : Iw D A (w_Rn g (K 0) (fun j => K (j + 1) 0) s0 ++ (w_Bs g (K 2) s1 ++ (w_Bs g (K 3) s2 ++ (w_Rd g (K 11) (tw (K 14 0) g1) s3 ++ (w_Tr g (K 14) s4 ++ (w_Rs g (K 10) (fun k => K (16 + 2 * k)) (fun k => K (17 + 2 * k)) s5 ++ (rest))))))) H := hI
  refine lv_if_ne (tgt := 58) hx hb d_Rn_store_53 (by decide) (fun hc => ?_) (fun hc => ?_)
  · have h := it_f h hc
    exact t_Rn_store_58 X (lv_sub hl [0, 1, 2] rfl) hI hS h
  · have h := it_t h hc
    exact t_Rn_store_56 X (lv_sub hl [] rfl) hI hS h
set_option maxRecDepth 100000 in
set_option maxHeartbeats 4000000 in
theorem t_Rn_store_35 {p : Program} {l : Launch} {e : Env} {s : State} {m : MethodId} {args : Array Value} {below : List Frame} {meth : Method} {c : Code} {D : va_G} {A : Nat → Prop} {g : Nat → ClassId} {rest : va_W} {K : Nat → Nat → Nat} {g1 : Nat} {ls : Array Slot} {H : Heap} {locs : List Loc} {s0 : S_Rn} {s3 : S_Rd} {s4 : S_Tr} {s1 : S_Bs} {s2 : S_Bs} {s5 : S_Rs} {out : Int32 × S_Bs × S_Bs × S_Rs} (X : Cx p s m args meth c prog_1_method_36_code 3 ws_Rn_store R_Rn (some .int) D g) (hl : lv_has ls 3 [(0, .ref (K 0 0)), (1, .ref (K 14 0))]) (hI : Iw D A (w_Rn g (K 0) (fun j => K (j + 1) 0) s0 ++ (w_Bs g (K 2) s1 ++ (w_Bs g (K 3) s2 ++ (w_Rd g (K 11) (tw (K 14 0) g1) s3 ++ (w_Tr g (K 14) s4 ++ (w_Rs g (K 10) (fun k => K (16 + 2 * k)) (fun k => K (17 + 2 * k)) s5 ++ (rest))))))) H) (hS : va_S A s.heap H locs) (h : B_Rn_store_35  s0 s3 s4 s1 s2 s5 = some out) : W p l e (headSpec ws_Rn_store { frames := 4, cells := 0, slots := 0, locals := 98 }).room s m args below meth c H locs 0 0 (MQ below (QcI D A g out.1 (fun (u : Nat) => w_Rn g (K 0) (fun j => K (j + 1) 0) s0 ++ (w_Bs g (K 2) out.2.1 ++ (w_Bs g (K 3) out.2.2.1 ++ (w_Rd g (K 11) (tw (K 14 0) u) s3 ++ (w_Tr g (K 14) s4 ++ (w_Rs g (K 10) (fun k => K (16 + 2 * k)) (fun k => K (17 + 2 * k)) out.2.2.2 ++ (rest)))))))) args s 0 0 A) (F0 m 35 ls []) := by
  have X1 := X
  obtain ⟨hx, hb, hml, hown, hts, hr, hlocks, hKK⟩ := X1
  have ht : ∀ w ∈ TB, w.before args s = true := fun w h => hts w (List.mem_cons_of_mem _ h)
  have hK := hKK.1
  unfold B_Rn_store_35 at h
  refine lv_aload_n hx hb d_Rn_store_35 rfl (lv_at hl 1 rfl) ?_
  refine lv_iconst (v := 0) hx hb d_Rn_store_36 (by decide) ?_
  refine lv_bipush (v := 80) hx hb d_Rn_store_37 (by decide) ?_
  obtain ⟨o1, ho2, h⟩ := bd_s h
  refine cl_i (W1 := fun (_ : Unit) => w_Rn g (K 0) (fun j => K (j + 1) 0) s0 ++ (w_Bs g (K 2) s1 ++ (w_Bs g (K 3) s2 ++ (w_Rd g (K 11) (tw (K 14 0) g1) s3 ++ (w_Tr g (K 14) s4 ++ (w_Rs g (K 10) (fun k => K (16 + 2 * k)) (fun k => K (17 + 2 * k)) s5 ++ (rest))))))) (va_runV (As := [.int (0 : Int32), .int (80 : Int32)]) (rest := []) ⟨hx, hb, hml, hown, ht⟩ (c_Tr_find (l := l) (D := D) (A := A) (g := g) (rest := w_Rn g (K 0) (fun j => K (j + 1) 0) s0 ++ (w_Bs g (K 2) s1 ++ (w_Bs g (K 3) s2 ++ (w_Rd g (K 11) (tw (K 14 0) g1) s3 ++ (w_Rs g (K 10) (fun k => K (16 + 2 * k)) (fun k => K (17 + 2 * k)) s5 ++ (rest)))))) (a0 := K 14) ho2) (cwV 2 ht (gd_V m_583 m_504 m_505 m_9 m_506) rfl rfl rfl (by decide +kernel) ⟨(Nat.le_of_ble_eq_true rfl), (Nat.le_of_ble_eq_true rfl)⟩) (prV (ci := 7) (q0 := 0) hKK hI (pmn (rest := rest) [w_Rn g (K 0) (fun j => K (j + 1) 0) s0, w_Bs g (K 2) s1, w_Bs g (K 3) s2, w_Rd g (K 11) (tw (K 14 0) g1) s3, w_Tr g (K 14) s4, w_Rs g (K 10) (fun k => K (16 + 2 * k)) (fun k => K (17 + 2 * k)) s5] [w_Tr g (K 14) s4, w_Rn g (K 0) (fun j => K (j + 1) 0) s0, w_Bs g (K 2) s1, w_Bs g (K 3) s2, w_Rd g (K 11) (tw (K 14 0) g1) s3, w_Rs g (K 10) (fun k => K (16 + 2 * k)) (fun k => K (17 + 2 * k)) s5] [4, 0, 1, 2, 3, 5] 6 rfl rfl (by decide)) rfl rfl rfl) rfl rfl hl.1 rfl (lv_room (Nat.le_of_ble_eq_true rfl)) d_Rn_store_39 ⟨(Nat.le_of_ble_eq_true rfl), (Nat.le_of_ble_eq_true rfl)⟩) hS (fun _ => (pmn (rest := rest) [w_Tr g (K 14) s4, w_Rn g (K 0) (fun j => K (j + 1) 0) s0, w_Bs g (K 2) s1, w_Bs g (K 3) s2, w_Rd g (K 11) (tw (K 14 0) g1) s3, w_Rs g (K 10) (fun k => K (16 + 2 * k)) (fun k => K (17 + 2 * k)) s5] [w_Rn g (K 0) (fun j => K (j + 1) 0) s0, w_Bs g (K 2) s1, w_Bs g (K 3) s2, w_Rd g (K 11) (tw (K 14 0) g1) s3, w_Tr g (K 14) s4, w_Rs g (K 10) (fun k => K (16 + 2 * k)) (fun k => K (17 + 2 * k)) s5] [1, 2, 3, 4, 0, 5] 6 rfl rfl (by decide))) (fun _ H locs hI hS => ?_)
  have hI : Iw D A (w_Rn g (K 0) (fun j => K (j + 1) 0) s0 ++ (w_Bs g (K 2) s1 ++ (w_Bs g (K 3) s2 ++ (w_Rd g (K 11) (tw (K 14 0) g1) s3 ++ (w_Tr g (K 14) s4 ++ (w_Rs g (K 10) (fun k => K (16 + 2 * k)) (fun k => K (17 + 2 * k)) s5 ++ (rest))))))) H := hI
  refine lv_istore_n hx hb d_Rn_store_42 rfl hl (Nat.le_of_ble_eq_true rfl) rfl (fun ls hl => ?_)
  have hl : lv_has ls 3 [(2, .int o1), (0, .ref (K 0 0)), (1, .ref (K 14 0))] := hl
  refine lv_iload_n hx hb d_Rn_store_43 rfl (lv_at hl 0 rfl) ?_
  refine lv_iconst (v := (-1)) hx hb d_Rn_store_44 (by decide) ?_
  refine lv_icmp_eq (tgt := 56) hx hb d_Rn_store_45 (by decide) (fun hc => ?_) (fun hc => ?_)
  · have h := it_t h hc
    exact t_Rn_store_56 X (lv_sub hl [] rfl) hI hS h
  · have h := it_f h hc
    exact t_Rn_store_48 X (lv_sub hl [1, 2, 0] rfl) hI hS h
set_option maxRecDepth 100000 in
set_option maxHeartbeats 4000000 in
theorem t_Rn_store_20 {p : Program} {l : Launch} {e : Env} {s : State} {m : MethodId} {args : Array Value} {below : List Frame} {meth : Method} {c : Code} {D : va_G} {A : Nat → Prop} {g : Nat → ClassId} {rest : va_W} {K : Nat → Nat → Nat} {g1 : Nat} {ls : Array Slot} {H : Heap} {locs : List Loc} {s0 : S_Rn} {s3 : S_Rd} {s4 : S_Tr} {s1 : S_Bs} {s2 : S_Bs} {s5 : S_Rs} {out : Int32 × S_Bs × S_Bs × S_Rs} (X : Cx p s m args meth c prog_1_method_36_code 3 ws_Rn_store R_Rn (some .int) D g) (hl : lv_has ls 3 [(0, .ref (K 0 0)), (1, .ref (K 14 0))]) (hI : Iw D A (w_Rn g (K 0) (fun j => K (j + 1) 0) s0 ++ (w_Bs g (K 2) s1 ++ (w_Bs g (K 3) s2 ++ (w_Rd g (K 11) (tw (K 14 0) g1) s3 ++ (w_Tr g (K 14) s4 ++ (w_Rs g (K 10) (fun k => K (16 + 2 * k)) (fun k => K (17 + 2 * k)) s5 ++ (rest))))))) H) (hS : va_S A s.heap H locs) (h : B_Rn_store_20  s0 s3 s4 s1 s2 s5 = some out) : W p l e (headSpec ws_Rn_store { frames := 4, cells := 0, slots := 0, locals := 98 }).room s m args below meth c H locs 0 0 (MQ below (QcI D A g out.1 (fun (u : Nat) => w_Rn g (K 0) (fun j => K (j + 1) 0) s0 ++ (w_Bs g (K 2) out.2.1 ++ (w_Bs g (K 3) out.2.2.1 ++ (w_Rd g (K 11) (tw (K 14 0) u) s3 ++ (w_Tr g (K 14) s4 ++ (w_Rs g (K 10) (fun k => K (16 + 2 * k)) (fun k => K (17 + 2 * k)) out.2.2.2 ++ (rest)))))))) args s 0 0 A) (F0 m 20 ls []) := by
  have X1 := X
  obtain ⟨hx, hb, hml, hown, hts, hr, hlocks, hKK⟩ := X1
  have ht : ∀ w ∈ TB, w.before args s = true := fun w h => hts w (List.mem_cons_of_mem _ h)
  have hK := hKK.1
  unfold B_Rn_store_20 at h
  refine lv_aload_n hx hb d_Rn_store_20 rfl (lv_at hl 0 rfl) ?_
  refine va_get (D := D) (ci := 8) (v := .ref (K 2 0)) (C := R_Rn) (T := T_Rn) (N := 16) hx hb ht in_Rn hown hK hI.1 0 rfl rfl 1 (by decide) (ht _ m_204) (fun _ h9 => h9) rfl d_Rn_store_21 ?_
  obtain ⟨o1, ho2, h⟩ := bd_s h
  refine cl_i (W1 := fun (_ : Unit) => w_Rn g (K 0) (fun j => K (j + 1) 0) s0 ++ (w_Bs g (K 2) s1 ++ (w_Bs g (K 3) s2 ++ (w_Rd g (K 11) (tw (K 14 0) g1) s3 ++ (w_Tr g (K 14) s4 ++ (w_Rs g (K 10) (fun k => K (16 + 2 * k)) (fun k => K (17 + 2 * k)) s5 ++ (rest))))))) (va_runV (As := []) (rest := []) ⟨hx, hb, hml, hown, ht⟩ (c_Bs_count (l := l) (D := D) (A := A) (g := g) (rest := w_Rn g (K 0) (fun j => K (j + 1) 0) s0 ++ (w_Bs g (K 3) s2 ++ (w_Rd g (K 11) (tw (K 14 0) g1) s3 ++ (w_Tr g (K 14) s4 ++ (w_Rs g (K 10) (fun k => K (16 + 2 * k)) (fun k => K (17 + 2 * k)) s5 ++ (rest)))))) (a0 := K 2) ho2) (cwV 0 ht (gd_V m_302 m_303 m_304 m_2 m_305) rfl rfl rfl (by decide +kernel) ⟨(Nat.le_of_ble_eq_true rfl), (Nat.le_of_ble_eq_true rfl)⟩) (prV (ci := 0) (q0 := 0) hKK hI (pmn (rest := rest) [w_Rn g (K 0) (fun j => K (j + 1) 0) s0, w_Bs g (K 2) s1, w_Bs g (K 3) s2, w_Rd g (K 11) (tw (K 14 0) g1) s3, w_Tr g (K 14) s4, w_Rs g (K 10) (fun k => K (16 + 2 * k)) (fun k => K (17 + 2 * k)) s5] [w_Bs g (K 2) s1, w_Rn g (K 0) (fun j => K (j + 1) 0) s0, w_Bs g (K 3) s2, w_Rd g (K 11) (tw (K 14 0) g1) s3, w_Tr g (K 14) s4, w_Rs g (K 10) (fun k => K (16 + 2 * k)) (fun k => K (17 + 2 * k)) s5] [1, 0, 2, 3, 4, 5] 6 rfl rfl (by decide)) rfl rfl rfl) rfl rfl hl.1 rfl (lv_room (Nat.le_of_ble_eq_true rfl)) d_Rn_store_24 ⟨(Nat.le_of_ble_eq_true rfl), (Nat.le_of_ble_eq_true rfl)⟩) hS (fun _ => (pmn (rest := rest) [w_Bs g (K 2) s1, w_Rn g (K 0) (fun j => K (j + 1) 0) s0, w_Bs g (K 3) s2, w_Rd g (K 11) (tw (K 14 0) g1) s3, w_Tr g (K 14) s4, w_Rs g (K 10) (fun k => K (16 + 2 * k)) (fun k => K (17 + 2 * k)) s5] [w_Rn g (K 0) (fun j => K (j + 1) 0) s0, w_Bs g (K 2) s1, w_Bs g (K 3) s2, w_Rd g (K 11) (tw (K 14 0) g1) s3, w_Tr g (K 14) s4, w_Rs g (K 10) (fun k => K (16 + 2 * k)) (fun k => K (17 + 2 * k)) s5] [1, 0, 2, 3, 4, 5] 6 rfl rfl (by decide))) (fun _ H locs hI hS => ?_)
  have hI : Iw D A (w_Rn g (K 0) (fun j => K (j + 1) 0) s0 ++ (w_Bs g (K 2) s1 ++ (w_Bs g (K 3) s2 ++ (w_Rd g (K 11) (tw (K 14 0) g1) s3 ++ (w_Tr g (K 14) s4 ++ (w_Rs g (K 10) (fun k => K (16 + 2 * k)) (fun k => K (17 + 2 * k)) s5 ++ (rest))))))) H := hI
  refine lv_sipush (v := 198) hx hb d_Rn_store_27 (by decide) ?_
  refine lv_icmp_le (tgt := 35) hx hb d_Rn_store_30 (by decide) (fun hc => ?_) (fun hc => ?_)
  · have h := it_t h hc
    exact t_Rn_store_35 X (lv_sub hl [0, 1] rfl) hI hS h
  · have h := it_f h hc
    exact t_Rn_store_33 X (lv_sub hl [] rfl) hI hS h
set_option maxRecDepth 100000 in
set_option maxHeartbeats 4000000 in
theorem t_Rn_store_0 {p : Program} {l : Launch} {e : Env} {s : State} {m : MethodId} {args : Array Value} {below : List Frame} {meth : Method} {c : Code} {D : va_G} {A : Nat → Prop} {g : Nat → ClassId} {rest : va_W} {K : Nat → Nat → Nat} {g1 : Nat} {ls : Array Slot} {H : Heap} {locs : List Loc} {s0 : S_Rn} {s3 : S_Rd} {s4 : S_Tr} {s1 : S_Bs} {s2 : S_Bs} {s5 : S_Rs} {out : Int32 × S_Bs × S_Bs × S_Rs} (X : Cx p s m args meth c prog_1_method_36_code 3 ws_Rn_store R_Rn (some .int) D g) (hl : lv_has ls 3 [(0, .ref (K 0 0))]) (hI : Iw D A (w_Rn g (K 0) (fun j => K (j + 1) 0) s0 ++ (w_Bs g (K 2) s1 ++ (w_Bs g (K 3) s2 ++ (w_Rd g (K 11) (tw (K 14 0) g1) s3 ++ (w_Tr g (K 14) s4 ++ (w_Rs g (K 10) (fun k => K (16 + 2 * k)) (fun k => K (17 + 2 * k)) s5 ++ (rest))))))) H) (hS : va_S A s.heap H locs) (h : B_Rn_store_0  s0 s3 s4 s1 s2 s5 = some out) : W p l e (headSpec ws_Rn_store { frames := 4, cells := 0, slots := 0, locals := 98 }).room s m args below meth c H locs 0 0 (MQ below (QcI D A g out.1 (fun (u : Nat) => w_Rn g (K 0) (fun j => K (j + 1) 0) s0 ++ (w_Bs g (K 2) out.2.1 ++ (w_Bs g (K 3) out.2.2.1 ++ (w_Rd g (K 11) (tw (K 14 0) u) s3 ++ (w_Tr g (K 14) s4 ++ (w_Rs g (K 10) (fun k => K (16 + 2 * k)) (fun k => K (17 + 2 * k)) out.2.2.2 ++ (rest)))))))) args s 0 0 A) (F0 m 0 ls []) := by
  have X1 := X
  obtain ⟨hx, hb, hml, hown, hts, hr, hlocks, hKK⟩ := X1
  have ht : ∀ w ∈ TB, w.before args s = true := fun w h => hts w (List.mem_cons_of_mem _ h)
  have hK := hKK.1
  unfold B_Rn_store_0 at h
  refine lv_aload_n hx hb d_Rn_store_0 rfl (lv_at hl 0 rfl) ?_
  refine va_get (D := D) (ci := 8) (v := .ref (K 11 0)) (C := R_Rn) (T := T_Rn) (N := 16) hx hb ht in_Rn hown hK hI.1 0 rfl rfl 10 (by decide) (ht _ m_213) (fun _ h9 => h9) rfl d_Rn_store_1 ?_
  obtain ⟨o1, ho2, h⟩ := bd_s h
  refine cl_a (W1 := fun (_ : Unit) => w_Rn g (K 0) (fun j => K (j + 1) 0) s0 ++ (w_Bs g (K 2) s1 ++ (w_Bs g (K 3) s2 ++ (w_Rd g (K 11) (tw (K 14 0) g1) s3 ++ (w_Tr g (K 14) s4 ++ (w_Rs g (K 10) (fun k => K (16 + 2 * k)) (fun k => K (17 + 2 * k)) s5 ++ (rest))))))) (va_runV (As := []) (rest := []) ⟨hx, hb, hml, hown, ht⟩ (c_Rd_tree (l := l) (D := D) (A := A) (g := g) (rest := w_Rn g (K 0) (fun j => K (j + 1) 0) s0 ++ (w_Bs g (K 2) s1 ++ (w_Bs g (K 3) s2 ++ (w_Tr g (K 14) s4 ++ (w_Rs g (K 10) (fun k => K (16 + 2 * k)) (fun k => K (17 + 2 * k)) s5 ++ (rest)))))) (a0 := K 11) (a1 := K 14) (sr := fun _ => g1) ho2) (cwV 0 ht (gd_V m_495 m_496 m_497 m_8 m_498) rfl rfl rfl (by decide +kernel) ⟨(Nat.le_of_ble_eq_true rfl), (Nat.le_of_ble_eq_true rfl)⟩) (prV (ci := 5) (q0 := 0) hKK hI (pmn (rest := rest) [w_Rn g (K 0) (fun j => K (j + 1) 0) s0, w_Bs g (K 2) s1, w_Bs g (K 3) s2, w_Rd g (K 11) (tw (K 14 0) g1) s3, w_Tr g (K 14) s4, w_Rs g (K 10) (fun k => K (16 + 2 * k)) (fun k => K (17 + 2 * k)) s5] [w_Rd g (K 11) (tw (K 14 0) g1) s3, w_Rn g (K 0) (fun j => K (j + 1) 0) s0, w_Bs g (K 2) s1, w_Bs g (K 3) s2, w_Tr g (K 14) s4, w_Rs g (K 10) (fun k => K (16 + 2 * k)) (fun k => K (17 + 2 * k)) s5] [3, 0, 1, 2, 4, 5] 6 rfl rfl (by decide)) rfl rfl rfl) rfl rfl hl.1 rfl (lv_room (Nat.le_of_ble_eq_true rfl)) d_Rn_store_4 ⟨(Nat.le_of_ble_eq_true rfl), (Nat.le_of_ble_eq_true rfl)⟩) hS (fun _ => (pmn (rest := rest) [w_Rd g (K 11) (tw (K 14 0) g1) s3, w_Rn g (K 0) (fun j => K (j + 1) 0) s0, w_Bs g (K 2) s1, w_Bs g (K 3) s2, w_Tr g (K 14) s4, w_Rs g (K 10) (fun k => K (16 + 2 * k)) (fun k => K (17 + 2 * k)) s5] [w_Rn g (K 0) (fun j => K (j + 1) 0) s0, w_Bs g (K 2) s1, w_Bs g (K 3) s2, w_Rd g (K 11) (tw (K 14 0) g1) s3, w_Tr g (K 14) s4, w_Rs g (K 10) (fun k => K (16 + 2 * k)) (fun k => K (17 + 2 * k)) s5] [1, 2, 3, 0, 4, 5] 6 rfl rfl (by decide))) (fun _ H locs hI hS => ?_)
  have hI : Iw D A (w_Rn g (K 0) (fun j => K (j + 1) 0) s0 ++ (w_Bs g (K 2) s1 ++ (w_Bs g (K 3) s2 ++ (w_Rd g (K 11) (tw (K 14 0) g1) s3 ++ (w_Tr g (K 14) s4 ++ (w_Rs g (K 10) (fun k => K (16 + 2 * k)) (fun k => K (17 + 2 * k)) s5 ++ (rest))))))) H := hI
  refine lv_astore_n hx hb d_Rn_store_7 rfl hl (Nat.le_of_ble_eq_true rfl) rfl (fun ls hl => ?_)
  have hl : lv_has ls 3 [(1, .ref (K 14 0)), (0, .ref (K 0 0))] := hl
  refine lv_aload_n hx hb d_Rn_store_8 rfl (lv_at hl 0 rfl) ?_
  refine lv_iconst (v := 0) hx hb d_Rn_store_9 (by decide) ?_
  refine lv_aload_n hx hb d_Rn_store_10 rfl (lv_at hl 1 rfl) ?_
  refine va_get (D := D) (ci := 8) (v := .ref (K 2 0)) (C := R_Rn) (T := T_Rn) (N := 16) hx hb ht in_Rn hown hK hI.1 0 rfl rfl 1 (by decide) (ht _ m_204) (fun _ h9 => h9) rfl d_Rn_store_11 ?_
  obtain ⟨o3, ho4, h⟩ := bd_s h
  refine cl_i (W1 := fun (_ : Unit) => w_Rn g (K 0) (fun j => K (j + 1) 0) s0 ++ (w_Bs g (K 2) o3.2 ++ (w_Bs g (K 3) s2 ++ (w_Rd g (K 11) (tw (K 14 0) g1) s3 ++ (w_Tr g (K 14) s4 ++ (w_Rs g (K 10) (fun k => K (16 + 2 * k)) (fun k => K (17 + 2 * k)) s5 ++ (rest))))))) (va_runV (As := [.int (0 : Int32), .ref (K 2 0)]) (rest := []) ⟨hx, hb, hml, hown, ht⟩ (c_Tr_writeAll (l := l) (D := D) (A := A) (g := g) (rest := w_Rn g (K 0) (fun j => K (j + 1) 0) s0 ++ (w_Bs g (K 3) s2 ++ (w_Rd g (K 11) (tw (K 14 0) g1) s3 ++ (w_Rs g (K 10) (fun k => K (16 + 2 * k)) (fun k => K (17 + 2 * k)) s5 ++ (rest))))) (a0 := K 14) (a1 := K 2) ho4) (cwV 2 ht (gd_V m_564 m_565 m_566 m_9 m_567) rfl rfl rfl (by decide +kernel) ⟨(Nat.le_of_ble_eq_true rfl), (Nat.le_of_ble_eq_true rfl)⟩) (prV (ci := 7) (q0 := 0) hKK hI (pmn (rest := rest) [w_Rn g (K 0) (fun j => K (j + 1) 0) s0, w_Bs g (K 2) s1, w_Bs g (K 3) s2, w_Rd g (K 11) (tw (K 14 0) g1) s3, w_Tr g (K 14) s4, w_Rs g (K 10) (fun k => K (16 + 2 * k)) (fun k => K (17 + 2 * k)) s5] [w_Tr g (K 14) s4, w_Bs g (K 2) s1, w_Rn g (K 0) (fun j => K (j + 1) 0) s0, w_Bs g (K 3) s2, w_Rd g (K 11) (tw (K 14 0) g1) s3, w_Rs g (K 10) (fun k => K (16 + 2 * k)) (fun k => K (17 + 2 * k)) s5] [4, 1, 0, 2, 3, 5] 6 rfl rfl (by decide)) rfl rfl rfl) rfl rfl hl.1 rfl (lv_room (Nat.le_of_ble_eq_true rfl)) d_Rn_store_14 ⟨(Nat.le_of_ble_eq_true rfl), (Nat.le_of_ble_eq_true rfl)⟩) hS (fun _ => (pmn (rest := rest) [w_Tr g (K 14) s4, w_Bs g (K 2) o3.2, w_Rn g (K 0) (fun j => K (j + 1) 0) s0, w_Bs g (K 3) s2, w_Rd g (K 11) (tw (K 14 0) g1) s3, w_Rs g (K 10) (fun k => K (16 + 2 * k)) (fun k => K (17 + 2 * k)) s5] [w_Rn g (K 0) (fun j => K (j + 1) 0) s0, w_Bs g (K 2) o3.2, w_Bs g (K 3) s2, w_Rd g (K 11) (tw (K 14 0) g1) s3, w_Tr g (K 14) s4, w_Rs g (K 10) (fun k => K (16 + 2 * k)) (fun k => K (17 + 2 * k)) s5] [2, 1, 3, 4, 0, 5] 6 rfl rfl (by decide))) (fun _ H locs hI hS => ?_)
  have hI : Iw D A (w_Rn g (K 0) (fun j => K (j + 1) 0) s0 ++ (w_Bs g (K 2) o3.2 ++ (w_Bs g (K 3) s2 ++ (w_Rd g (K 11) (tw (K 14 0) g1) s3 ++ (w_Tr g (K 14) s4 ++ (w_Rs g (K 10) (fun k => K (16 + 2 * k)) (fun k => K (17 + 2 * k)) s5 ++ (rest))))))) H := hI
  refine lv_if_eq (tgt := 33) hx hb d_Rn_store_17 (by decide) (fun hc => ?_) (fun hc => ?_)
  · have h := it_t h hc
    exact t_Rn_store_33 X (lv_sub hl [] rfl) hI hS h
  · have h := it_f h hc
    exact t_Rn_store_20 X (lv_sub hl [1, 0] rfl) hI hS h
set_option maxRecDepth 100000 in
set_option maxHeartbeats 4000000 in
theorem c_Rn_store {l : Launch} {D : va_G} {A : Nat → Prop} {g : Nat → ClassId} {rest : va_W} {K : Nat → Nat → Nat} {g1 : Nat} {s0 : S_Rn} {s1 : S_Bs} {s2 : S_Bs} {s3 : S_Rd} {s4 : S_Tr} {s5 : S_Rs} {out : Int32 × S_Bs × S_Bs × S_Rs} (h : F_Rn_store s0 s1 s2 s3 s4 s5 = some out) : Met l y_Rn_store ws_Rn_store { frames := 4, cells := 0, slots := 0, locals := 98 } (PcW D A g [.ref (K 0 0)] (w_Rn g (K 0) (fun j => K (j + 1) 0) s0 ++ (w_Bs g (K 2) s1 ++ (w_Bs g (K 3) s2 ++ (w_Rd g (K 11) (tw (K 14 0) g1) s3 ++ (w_Tr g (K 14) s4 ++ (w_Rs g (K 10) (fun k => K (16 + 2 * k)) (fun k => K (17 + 2 * k)) s5 ++ (rest)))))))) (QcI D A g out.1 (fun (u : Nat) => w_Rn g (K 0) (fun j => K (j + 1) 0) s0 ++ (w_Bs g (K 2) out.2.1 ++ (w_Bs g (K 3) out.2.2.1 ++ (w_Rd g (K 11) (tw (K 14 0) u) s3 ++ (w_Tr g (K 14) s4 ++ (w_Rs g (K 10) (fun k => K (16 + 2 * k)) (fun k => K (17 + 2 * k)) out.2.2.2 ++ (rest)))))))) 0 0 A := by
  refine Met.ofW (cc := prog_1_method_36_code) (maxL := 3) (ret := (some .int)) (by decide) rfl ?_
  intro p e s m args below meth c s₁ B hml hv
  obtain ⟨rfl, hI, hK⟩ := hv
  have hl := lv_entry [.ref (K 0 0)] (n := 3) (Nat.le_of_ble_eq_true rfl)
  rw [lg_entry_eq]
  generalize (lg_sl [.ref (K 0 0)] ++ List.replicate (3 - (lg_sl [.ref (K 0 0)]).length) Slot.unset).toArray = ls at hl ⊢
  have hl : lv_has ls 3 [(0, .ref (K 0 0))] := hl
  exact t_Rn_store_0 ⟨B.exec, B.bytes, hml, findClass_of_methodNamed B.named, atoms_spec (ws := ws_Rn_store) B.pre, B.returns, B.notSynchronized, hK⟩ (lv_sub hl [0] rfl) hI va_S.rf h
def B_Rn_record_35 (s0 : S_Rn) (s1 : S_Rs) : Option Int32 :=
  none
def B_Rn_record_74 (s0 : S_Rn) (s1 : S_Rs) (y0 : Int32) : Option Int32 :=
  some y0
def B_Rn_record_62 (s0 : S_Rn) (s1 : S_Rs) (x1 : Int32) (x2 : Int32) : Option Int32 :=
  ((F_Rs_bytes s1 x1).bind fun o1 => (if x1.toNatClampNeg < (Rs_n s1) then ((F_Bs_get (Rs_bytes s1 x1.toNatClampNeg) x2).bind fun o4 => (B_Rn_record_74 s0 s1 o4)) else none))
def B_Rn_record_48 (s0 : S_Rn) (s1 : S_Rs) (x1 : Int32) : Option Int32 :=
  ((F_Rs_bytes s1 x1).bind fun o1 => (if x1.toNatClampNeg < (Rs_n s1) then ((F_Bs_count (Rs_bytes s1 x1.toNatClampNeg)).bind fun o4 => (B_Rn_record_74 s0 s1 o4)) else none))
def B_Rn_record_43 (s0 : S_Rn) (s1 : S_Rs) (x1 : Int32) (x2 : Int32) : Option Int32 :=
  (if x2 = ((-1) : Int32) then (B_Rn_record_48 s0 s1 x1) else (B_Rn_record_62 s0 s1 x1 x2))
def B_Rn_record_20 (s0 : S_Rn) (s1 : S_Rs) (x1 : Int32) (x2 : Int32) : Option Int32 :=
  ((F_Rs_bytes s1 x1).bind fun o1 => (if x1.toNatClampNeg < (Rs_n s1) then ((F_Bs_count (Rs_bytes s1 x1.toNatClampNeg)).bind fun o4 => (if x2 < o4 then (B_Rn_record_43 s0 s1 x1 x2) else (B_Rn_record_35 s0 s1))) else none))
def B_Rn_record_15 (s0 : S_Rn) (s1 : S_Rs) (x1 : Int32) (x2 : Int32) : Option Int32 :=
  (if x2 < ((-1) : Int32) then (B_Rn_record_35 s0 s1) else (B_Rn_record_20 s0 s1 x1 x2))
def B_Rn_record_4 (s0 : S_Rn) (s1 : S_Rs) (x1 : Int32) (x2 : Int32) : Option Int32 :=
  ((F_Rs_count s1).bind fun o1 => (if o1 ≤ x1 then (B_Rn_record_35 s0 s1) else (B_Rn_record_15 s0 s1 x1 x2)))
def B_Rn_record_0 (s0 : S_Rn) (s1 : S_Rs) (x1 : Int32) (x2 : Int32) : Option Int32 :=
  (if x1 < 0 then (B_Rn_record_35 s0 s1) else (B_Rn_record_4 s0 s1 x1 x2))
def F_Rn_record (s0 : S_Rn) (s1 : S_Rs) (x1 : Int32) (x2 : Int32) : Option Int32 := B_Rn_record_0 s0 s1 x1 x2
set_option maxRecDepth 100000 in
set_option maxHeartbeats 4000000 in
theorem t_Rn_record_35 {p : Program} {l : Launch} {e : Env} {s : State} {m : MethodId} {args : Array Value} {below : List Frame} {meth : Method} {c : Code} {D : va_G} {A : Nat → Prop} {g : Nat → ClassId} {rest : va_W} {K : Nat → Nat → Nat} {ls : Array Slot} {H : Heap} {locs : List Loc} {s0 : S_Rn} {s1 : S_Rs} {out : Int32} (X : Cx p s m args meth c prog_1_method_15_code 3 ws_Rn_record R_Rn (some .int) D g) (hl : lv_has ls 3 []) (hI : Iw D A (w_Rn g (K 0) (fun j => K (j + 1) 0) s0 ++ (w_Rs g (K 10) (fun k => K (16 + 2 * k)) (fun k => K (17 + 2 * k)) s1 ++ (rest))) H) (hS : va_S A s.heap H locs) (h : B_Rn_record_35  s0 s1 = some out) : W p l e (headSpec ws_Rn_record { frames := 1, cells := 0, slots := 0, locals := 21 }).room s m args below meth c H locs 0 0 (MQ below (QcI D A g out (fun (_ : Unit) => w_Rn g (K 0) (fun j => K (j + 1) 0) s0 ++ (w_Rs g (K 10) (fun k => K (16 + 2 * k)) (fun k => K (17 + 2 * k)) s1 ++ (rest)))) args s 0 0 A) (F0 m 35 ls []) := by
  have X1 := X
  obtain ⟨hx, hb, hml, hown, hts, hr, hlocks, hKK⟩ := X1
  have ht : ∀ w ∈ TB, w.before args s = true := fun w h => hts w (List.mem_cons_of_mem _ h)
  have hK := hKK.1
  unfold B_Rn_record_35 at h
  exact no_s h
set_option maxRecDepth 100000 in
set_option maxHeartbeats 4000000 in
theorem t_Rn_record_74 {p : Program} {l : Launch} {e : Env} {s : State} {m : MethodId} {args : Array Value} {below : List Frame} {meth : Method} {c : Code} {D : va_G} {A : Nat → Prop} {g : Nat → ClassId} {rest : va_W} {K : Nat → Nat → Nat} {ls : Array Slot} {H : Heap} {locs : List Loc} {s0 : S_Rn} {s1 : S_Rs} {y0 : Int32} {out : Int32} (X : Cx p s m args meth c prog_1_method_15_code 3 ws_Rn_record R_Rn (some .int) D g) (hl : lv_has ls 3 []) (hI : Iw D A (w_Rn g (K 0) (fun j => K (j + 1) 0) s0 ++ (w_Rs g (K 10) (fun k => K (16 + 2 * k)) (fun k => K (17 + 2 * k)) s1 ++ (rest))) H) (hS : va_S A s.heap H locs) (h : B_Rn_record_74  s0 s1 y0 = some out) : W p l e (headSpec ws_Rn_record { frames := 1, cells := 0, slots := 0, locals := 21 }).room s m args below meth c H locs 0 0 (MQ below (QcI D A g out (fun (_ : Unit) => w_Rn g (K 0) (fun j => K (j + 1) 0) s0 ++ (w_Rs g (K 10) (fun k => K (16 + 2 * k)) (fun k => K (17 + 2 * k)) s1 ++ (rest)))) args s 0 0 A) (F0 m 74 ls [.int y0]) := by
  have X1 := X
  obtain ⟨hx, hb, hml, hown, hts, hr, hlocks, hKK⟩ := X1
  have ht : ∀ w ∈ TB, w.before args s = true := fun w h => hts w (List.mem_cons_of_mem _ h)
  have hK := hKK.1
  unfold B_Rn_record_74 at h
  have h9 := Option.some.inj h
  subst h9
  exact W.iret (v := y0) hx hb hr (fun t ht hW => ⟨⟨_, (), rfl, rfl, ⟨by rw [ht]; exact hI, hKK.moved hW⟩⟩, hS.F ht⟩) hS.2.2 d_Rn_record_74
set_option maxRecDepth 100000 in
set_option maxHeartbeats 4000000 in
theorem t_Rn_record_62 {p : Program} {l : Launch} {e : Env} {s : State} {m : MethodId} {args : Array Value} {below : List Frame} {meth : Method} {c : Code} {D : va_G} {A : Nat → Prop} {g : Nat → ClassId} {rest : va_W} {K : Nat → Nat → Nat} {ls : Array Slot} {H : Heap} {locs : List Loc} {s0 : S_Rn} {s1 : S_Rs} {x1 : Int32} {x2 : Int32} {out : Int32} (X : Cx p s m args meth c prog_1_method_15_code 3 ws_Rn_record R_Rn (some .int) D g) (hl : lv_has ls 3 [(0, .ref (K 0 0)), (1, .int x1), (2, .int x2)]) (hI : Iw D A (w_Rn g (K 0) (fun j => K (j + 1) 0) s0 ++ (w_Rs g (K 10) (fun k => K (16 + 2 * k)) (fun k => K (17 + 2 * k)) s1 ++ (rest))) H) (hS : va_S A s.heap H locs) (h : B_Rn_record_62  s0 s1 x1 x2 = some out) : W p l e (headSpec ws_Rn_record { frames := 1, cells := 0, slots := 0, locals := 21 }).room s m args below meth c H locs 0 0 (MQ below (QcI D A g out (fun (_ : Unit) => w_Rn g (K 0) (fun j => K (j + 1) 0) s0 ++ (w_Rs g (K 10) (fun k => K (16 + 2 * k)) (fun k => K (17 + 2 * k)) s1 ++ (rest)))) args s 0 0 A) (F0 m 62 ls []) := by
  have X1 := X
  obtain ⟨hx, hb, hml, hown, hts, hr, hlocks, hKK⟩ := X1
  have ht : ∀ w ∈ TB, w.before args s = true := fun w h => hts w (List.mem_cons_of_mem _ h)
  have hK := hKK.1
  unfold B_Rn_record_62 at h
  refine lv_aload_n hx hb d_Rn_record_62 rfl (lv_at hl 0 rfl) ?_
  refine va_get (D := D) (ci := 8) (v := .ref (K 10 0)) (C := R_Rn) (T := T_Rn) (N := 16) hx hb ht in_Rn hown hK hI.1 0 rfl rfl 9 (by decide) (ht _ m_212) (fun _ h9 => h9) rfl d_Rn_record_63 ?_
  refine lv_iload_n hx hb d_Rn_record_66 rfl (lv_at hl 1 rfl) ?_
  obtain ⟨o1, ho2, h⟩ := bd_s h
  refine cl_a (W1 := fun (_ : Unit) => w_Rn g (K 0) (fun j => K (j + 1) 0) s0 ++ (w_Rs g (K 10) (fun k => K (16 + 2 * k)) (fun k => K (17 + 2 * k)) s1 ++ (rest))) (va_runV (As := [.int x1]) (rest := []) ⟨hx, hb, hml, hown, ht⟩ (c_Rs_bytes (l := l) (D := D) (A := A) (g := g) (rest := w_Rn g (K 0) (fun j => K (j + 1) 0) s0 ++ (rest)) (a0 := K 10) (N := (fun k => K (16 + 2 * k))) (B := (fun k => K (17 + 2 * k))) ho2) (cwV 1 ht (gd_V m_614 m_615 m_616 m_6 m_617) rfl rfl rfl (by decide +kernel) ⟨(Nat.le_of_ble_eq_true rfl), (Nat.le_of_ble_eq_true rfl)⟩) (prV (ci := 6) (q0 := 0) hKK hI (pmn (rest := rest) [w_Rn g (K 0) (fun j => K (j + 1) 0) s0, w_Rs g (K 10) (fun k => K (16 + 2 * k)) (fun k => K (17 + 2 * k)) s1] [w_Rs g (K 10) (fun k => K (16 + 2 * k)) (fun k => K (17 + 2 * k)) s1, w_Rn g (K 0) (fun j => K (j + 1) 0) s0] [1, 0] 2 rfl rfl (by decide)) rfl rfl rfl) rfl rfl hl.1 rfl (lv_room (Nat.le_of_ble_eq_true rfl)) d_Rn_record_67 ⟨(Nat.le_of_ble_eq_true rfl), (Nat.le_of_ble_eq_true rfl)⟩) hS (fun _ => (pmn (rest := rest) [w_Rs g (K 10) (fun k => K (16 + 2 * k)) (fun k => K (17 + 2 * k)) s1, w_Rn g (K 0) (fun j => K (j + 1) 0) s0] [w_Rn g (K 0) (fun j => K (j + 1) 0) s0, w_Rs g (K 10) (fun k => K (16 + 2 * k)) (fun k => K (17 + 2 * k)) s1] [1, 0] 2 rfl rfl (by decide))) (fun _ H locs hI hS => ?_)
  have hI : Iw D A (w_Rn g (K 0) (fun j => K (j + 1) 0) s0 ++ (w_Rs g (K 10) (fun k => K (16 + 2 * k)) (fun k => K (17 + 2 * k)) s1 ++ (rest))) H := hI
  refine lv_iload_n hx hb d_Rn_record_70 rfl (lv_at hl 2 rfl) ?_
  have hc3 : x1.toNatClampNeg < (Rs_n s1) := by
    by_cases z : x1.toNatClampNeg < (Rs_n s1)
    · exact z
    · exact no_s (it_f h z)
  have h := it_t h hc3
  obtain ⟨o4, ho5, h⟩ := bd_s h
  refine cl_i (W1 := fun (_ : Unit) => w_Rn g (K 0) (fun j => K (j + 1) 0) s0 ++ (w_Rs g (K 10) (fun k => K (16 + 2 * k)) (fun k => K (17 + 2 * k)) s1 ++ (rest))) (va_runV (As := [.int x2]) (rest := []) ⟨hx, hb, hml, hown, ht⟩ (c_Bs_get (l := l) (D := D) (A := A) (g := g) (rest := rem_B g (K 10) (fun k => K (16 + 2 * k)) (fun k => K (17 + 2 * k)) s1 x1.toNatClampNeg ++ (w_Rn g (K 0) (fun j => K (j + 1) 0) s0 ++ (rest))) (a0 := K (17 + 2 * x1.toNatClampNeg)) ho5) (cwV 1 ht (gd_V m_306 m_307 m_308 m_2 m_309) rfl rfl rfl (by decide +kernel) ⟨(Nat.le_of_ble_eq_true rfl), (Nat.le_of_ble_eq_true rfl)⟩) (prV (ci := 0) (q0 := 0) hKK hI (((pmn (rest := rest) [w_Rn g (K 0) (fun j => K (j + 1) 0) s0, w_Rs g (K 10) (fun k => K (16 + 2 * k)) (fun k => K (17 + 2 * k)) s1] [w_Rs g (K 10) (fun k => K (16 + 2 * k)) (fun k => K (17 + 2 * k)) s1, w_Rn g (K 0) (fun j => K (j + 1) 0) s0] [1, 0] 2 rfl rfl (by decide))).trans ((fa (foc_B hc3)).trans (pmn (rest := rest) [w_Bs g (K (17 + 2 * x1.toNatClampNeg)) (Rs_bytes s1 x1.toNatClampNeg), rem_B g (K 10) (fun k => K (16 + 2 * k)) (fun k => K (17 + 2 * k)) s1 x1.toNatClampNeg, w_Rn g (K 0) (fun j => K (j + 1) 0) s0] [w_Bs g (K (17 + 2 * x1.toNatClampNeg)) (Rs_bytes s1 x1.toNatClampNeg), rem_B g (K 10) (fun k => K (16 + 2 * k)) (fun k => K (17 + 2 * k)) s1 x1.toNatClampNeg, w_Rn g (K 0) (fun j => K (j + 1) 0) s0] [0, 1, 2] 3 rfl rfl (by decide)))) rfl rfl rfl) rfl rfl hl.1 rfl (lv_room (Nat.le_of_ble_eq_true rfl)) d_Rn_record_71 ⟨(Nat.le_of_ble_eq_true rfl), (Nat.le_of_ble_eq_true rfl)⟩) hS (fun _ => (((pmn (rest := rest) [w_Rn g (K 0) (fun j => K (j + 1) 0) s0, w_Rs g (K 10) (fun k => K (16 + 2 * k)) (fun k => K (17 + 2 * k)) s1] [w_Rs g (K 10) (fun k => K (16 + 2 * k)) (fun k => K (17 + 2 * k)) s1, w_Rn g (K 0) (fun j => K (j + 1) 0) s0] [1, 0] 2 rfl rfl (by decide))).trans ((fa (foc_B hc3)).trans (pmn (rest := rest) [w_Bs g (K (17 + 2 * x1.toNatClampNeg)) (Rs_bytes s1 x1.toNatClampNeg), rem_B g (K 10) (fun k => K (16 + 2 * k)) (fun k => K (17 + 2 * k)) s1 x1.toNatClampNeg, w_Rn g (K 0) (fun j => K (j + 1) 0) s0] [w_Bs g (K (17 + 2 * x1.toNatClampNeg)) (Rs_bytes s1 x1.toNatClampNeg), rem_B g (K 10) (fun k => K (16 + 2 * k)) (fun k => K (17 + 2 * k)) s1 x1.toNatClampNeg, w_Rn g (K 0) (fun j => K (j + 1) 0) s0] [0, 1, 2] 3 rfl rfl (by decide)))).symm) (fun _ H locs hI hS => ?_)
  have hI : Iw D A (w_Rn g (K 0) (fun j => K (j + 1) 0) s0 ++ (w_Rs g (K 10) (fun k => K (16 + 2 * k)) (fun k => K (17 + 2 * k)) s1 ++ (rest))) H := hI
  exact t_Rn_record_74 X (lv_sub hl [] rfl) hI hS h
set_option maxRecDepth 100000 in
set_option maxHeartbeats 4000000 in
theorem t_Rn_record_48 {p : Program} {l : Launch} {e : Env} {s : State} {m : MethodId} {args : Array Value} {below : List Frame} {meth : Method} {c : Code} {D : va_G} {A : Nat → Prop} {g : Nat → ClassId} {rest : va_W} {K : Nat → Nat → Nat} {ls : Array Slot} {H : Heap} {locs : List Loc} {s0 : S_Rn} {s1 : S_Rs} {x1 : Int32} {out : Int32} (X : Cx p s m args meth c prog_1_method_15_code 3 ws_Rn_record R_Rn (some .int) D g) (hl : lv_has ls 3 [(0, .ref (K 0 0)), (1, .int x1)]) (hI : Iw D A (w_Rn g (K 0) (fun j => K (j + 1) 0) s0 ++ (w_Rs g (K 10) (fun k => K (16 + 2 * k)) (fun k => K (17 + 2 * k)) s1 ++ (rest))) H) (hS : va_S A s.heap H locs) (h : B_Rn_record_48  s0 s1 x1 = some out) : W p l e (headSpec ws_Rn_record { frames := 1, cells := 0, slots := 0, locals := 21 }).room s m args below meth c H locs 0 0 (MQ below (QcI D A g out (fun (_ : Unit) => w_Rn g (K 0) (fun j => K (j + 1) 0) s0 ++ (w_Rs g (K 10) (fun k => K (16 + 2 * k)) (fun k => K (17 + 2 * k)) s1 ++ (rest)))) args s 0 0 A) (F0 m 48 ls []) := by
  have X1 := X
  obtain ⟨hx, hb, hml, hown, hts, hr, hlocks, hKK⟩ := X1
  have ht : ∀ w ∈ TB, w.before args s = true := fun w h => hts w (List.mem_cons_of_mem _ h)
  have hK := hKK.1
  unfold B_Rn_record_48 at h
  refine lv_aload_n hx hb d_Rn_record_48 rfl (lv_at hl 0 rfl) ?_
  refine va_get (D := D) (ci := 8) (v := .ref (K 10 0)) (C := R_Rn) (T := T_Rn) (N := 16) hx hb ht in_Rn hown hK hI.1 0 rfl rfl 9 (by decide) (ht _ m_212) (fun _ h9 => h9) rfl d_Rn_record_49 ?_
  refine lv_iload_n hx hb d_Rn_record_52 rfl (lv_at hl 1 rfl) ?_
  obtain ⟨o1, ho2, h⟩ := bd_s h
  refine cl_a (W1 := fun (_ : Unit) => w_Rn g (K 0) (fun j => K (j + 1) 0) s0 ++ (w_Rs g (K 10) (fun k => K (16 + 2 * k)) (fun k => K (17 + 2 * k)) s1 ++ (rest))) (va_runV (As := [.int x1]) (rest := []) ⟨hx, hb, hml, hown, ht⟩ (c_Rs_bytes (l := l) (D := D) (A := A) (g := g) (rest := w_Rn g (K 0) (fun j => K (j + 1) 0) s0 ++ (rest)) (a0 := K 10) (N := (fun k => K (16 + 2 * k))) (B := (fun k => K (17 + 2 * k))) ho2) (cwV 1 ht (gd_V m_614 m_615 m_616 m_6 m_617) rfl rfl rfl (by decide +kernel) ⟨(Nat.le_of_ble_eq_true rfl), (Nat.le_of_ble_eq_true rfl)⟩) (prV (ci := 6) (q0 := 0) hKK hI (pmn (rest := rest) [w_Rn g (K 0) (fun j => K (j + 1) 0) s0, w_Rs g (K 10) (fun k => K (16 + 2 * k)) (fun k => K (17 + 2 * k)) s1] [w_Rs g (K 10) (fun k => K (16 + 2 * k)) (fun k => K (17 + 2 * k)) s1, w_Rn g (K 0) (fun j => K (j + 1) 0) s0] [1, 0] 2 rfl rfl (by decide)) rfl rfl rfl) rfl rfl hl.1 rfl (lv_room (Nat.le_of_ble_eq_true rfl)) d_Rn_record_53 ⟨(Nat.le_of_ble_eq_true rfl), (Nat.le_of_ble_eq_true rfl)⟩) hS (fun _ => (pmn (rest := rest) [w_Rs g (K 10) (fun k => K (16 + 2 * k)) (fun k => K (17 + 2 * k)) s1, w_Rn g (K 0) (fun j => K (j + 1) 0) s0] [w_Rn g (K 0) (fun j => K (j + 1) 0) s0, w_Rs g (K 10) (fun k => K (16 + 2 * k)) (fun k => K (17 + 2 * k)) s1] [1, 0] 2 rfl rfl (by decide))) (fun _ H locs hI hS => ?_)
  have hI : Iw D A (w_Rn g (K 0) (fun j => K (j + 1) 0) s0 ++ (w_Rs g (K 10) (fun k => K (16 + 2 * k)) (fun k => K (17 + 2 * k)) s1 ++ (rest))) H := hI
  have hc3 : x1.toNatClampNeg < (Rs_n s1) := by
    by_cases z : x1.toNatClampNeg < (Rs_n s1)
    · exact z
    · exact no_s (it_f h z)
  have h := it_t h hc3
  obtain ⟨o4, ho5, h⟩ := bd_s h
  refine cl_i (W1 := fun (_ : Unit) => w_Rn g (K 0) (fun j => K (j + 1) 0) s0 ++ (w_Rs g (K 10) (fun k => K (16 + 2 * k)) (fun k => K (17 + 2 * k)) s1 ++ (rest))) (va_runV (As := []) (rest := []) ⟨hx, hb, hml, hown, ht⟩ (c_Bs_count (l := l) (D := D) (A := A) (g := g) (rest := rem_B g (K 10) (fun k => K (16 + 2 * k)) (fun k => K (17 + 2 * k)) s1 x1.toNatClampNeg ++ (w_Rn g (K 0) (fun j => K (j + 1) 0) s0 ++ (rest))) (a0 := K (17 + 2 * x1.toNatClampNeg)) ho5) (cwV 0 ht (gd_V m_302 m_303 m_304 m_2 m_305) rfl rfl rfl (by decide +kernel) ⟨(Nat.le_of_ble_eq_true rfl), (Nat.le_of_ble_eq_true rfl)⟩) (prV (ci := 0) (q0 := 0) hKK hI (((pmn (rest := rest) [w_Rn g (K 0) (fun j => K (j + 1) 0) s0, w_Rs g (K 10) (fun k => K (16 + 2 * k)) (fun k => K (17 + 2 * k)) s1] [w_Rs g (K 10) (fun k => K (16 + 2 * k)) (fun k => K (17 + 2 * k)) s1, w_Rn g (K 0) (fun j => K (j + 1) 0) s0] [1, 0] 2 rfl rfl (by decide))).trans ((fa (foc_B hc3)).trans (pmn (rest := rest) [w_Bs g (K (17 + 2 * x1.toNatClampNeg)) (Rs_bytes s1 x1.toNatClampNeg), rem_B g (K 10) (fun k => K (16 + 2 * k)) (fun k => K (17 + 2 * k)) s1 x1.toNatClampNeg, w_Rn g (K 0) (fun j => K (j + 1) 0) s0] [w_Bs g (K (17 + 2 * x1.toNatClampNeg)) (Rs_bytes s1 x1.toNatClampNeg), rem_B g (K 10) (fun k => K (16 + 2 * k)) (fun k => K (17 + 2 * k)) s1 x1.toNatClampNeg, w_Rn g (K 0) (fun j => K (j + 1) 0) s0] [0, 1, 2] 3 rfl rfl (by decide)))) rfl rfl rfl) rfl rfl hl.1 rfl (lv_room (Nat.le_of_ble_eq_true rfl)) d_Rn_record_56 ⟨(Nat.le_of_ble_eq_true rfl), (Nat.le_of_ble_eq_true rfl)⟩) hS (fun _ => (((pmn (rest := rest) [w_Rn g (K 0) (fun j => K (j + 1) 0) s0, w_Rs g (K 10) (fun k => K (16 + 2 * k)) (fun k => K (17 + 2 * k)) s1] [w_Rs g (K 10) (fun k => K (16 + 2 * k)) (fun k => K (17 + 2 * k)) s1, w_Rn g (K 0) (fun j => K (j + 1) 0) s0] [1, 0] 2 rfl rfl (by decide))).trans ((fa (foc_B hc3)).trans (pmn (rest := rest) [w_Bs g (K (17 + 2 * x1.toNatClampNeg)) (Rs_bytes s1 x1.toNatClampNeg), rem_B g (K 10) (fun k => K (16 + 2 * k)) (fun k => K (17 + 2 * k)) s1 x1.toNatClampNeg, w_Rn g (K 0) (fun j => K (j + 1) 0) s0] [w_Bs g (K (17 + 2 * x1.toNatClampNeg)) (Rs_bytes s1 x1.toNatClampNeg), rem_B g (K 10) (fun k => K (16 + 2 * k)) (fun k => K (17 + 2 * k)) s1 x1.toNatClampNeg, w_Rn g (K 0) (fun j => K (j + 1) 0) s0] [0, 1, 2] 3 rfl rfl (by decide)))).symm) (fun _ H locs hI hS => ?_)
  have hI : Iw D A (w_Rn g (K 0) (fun j => K (j + 1) 0) s0 ++ (w_Rs g (K 10) (fun k => K (16 + 2 * k)) (fun k => K (17 + 2 * k)) s1 ++ (rest))) H := hI
  refine lv_goto (tgt := 74) hx hb d_Rn_record_59 (by decide) ?_
  exact t_Rn_record_74 X (lv_sub hl [] rfl) hI hS h
set_option maxRecDepth 100000 in
set_option maxHeartbeats 4000000 in
theorem t_Rn_record_43 {p : Program} {l : Launch} {e : Env} {s : State} {m : MethodId} {args : Array Value} {below : List Frame} {meth : Method} {c : Code} {D : va_G} {A : Nat → Prop} {g : Nat → ClassId} {rest : va_W} {K : Nat → Nat → Nat} {ls : Array Slot} {H : Heap} {locs : List Loc} {s0 : S_Rn} {s1 : S_Rs} {x1 : Int32} {x2 : Int32} {out : Int32} (X : Cx p s m args meth c prog_1_method_15_code 3 ws_Rn_record R_Rn (some .int) D g) (hl : lv_has ls 3 [(0, .ref (K 0 0)), (1, .int x1), (2, .int x2)]) (hI : Iw D A (w_Rn g (K 0) (fun j => K (j + 1) 0) s0 ++ (w_Rs g (K 10) (fun k => K (16 + 2 * k)) (fun k => K (17 + 2 * k)) s1 ++ (rest))) H) (hS : va_S A s.heap H locs) (h : B_Rn_record_43  s0 s1 x1 x2 = some out) : W p l e (headSpec ws_Rn_record { frames := 1, cells := 0, slots := 0, locals := 21 }).room s m args below meth c H locs 0 0 (MQ below (QcI D A g out (fun (_ : Unit) => w_Rn g (K 0) (fun j => K (j + 1) 0) s0 ++ (w_Rs g (K 10) (fun k => K (16 + 2 * k)) (fun k => K (17 + 2 * k)) s1 ++ (rest)))) args s 0 0 A) (F0 m 43 ls []) := by
  have X1 := X
  obtain ⟨hx, hb, hml, hown, hts, hr, hlocks, hKK⟩ := X1
  have ht : ∀ w ∈ TB, w.before args s = true := fun w h => hts w (List.mem_cons_of_mem _ h)
  have hK := hKK.1
  unfold B_Rn_record_43 at h
  refine lv_iload_n hx hb d_Rn_record_43 rfl (lv_at hl 2 rfl) ?_
  refine lv_iconst (v := (-1)) hx hb d_Rn_record_44 (by decide) ?_
  refine lv_icmp_ne (tgt := 62) hx hb d_Rn_record_45 (by decide) (fun hc => ?_) (fun hc => ?_)
  · have h := it_f h hc
    exact t_Rn_record_62 X (lv_sub hl [0, 1, 2] rfl) hI hS h
  · have h := it_t h hc
    exact t_Rn_record_48 X (lv_sub hl [0, 1] rfl) hI hS h
set_option maxRecDepth 100000 in
set_option maxHeartbeats 4000000 in
theorem t_Rn_record_20 {p : Program} {l : Launch} {e : Env} {s : State} {m : MethodId} {args : Array Value} {below : List Frame} {meth : Method} {c : Code} {D : va_G} {A : Nat → Prop} {g : Nat → ClassId} {rest : va_W} {K : Nat → Nat → Nat} {ls : Array Slot} {H : Heap} {locs : List Loc} {s0 : S_Rn} {s1 : S_Rs} {x1 : Int32} {x2 : Int32} {out : Int32} (X : Cx p s m args meth c prog_1_method_15_code 3 ws_Rn_record R_Rn (some .int) D g) (hl : lv_has ls 3 [(0, .ref (K 0 0)), (1, .int x1), (2, .int x2)]) (hI : Iw D A (w_Rn g (K 0) (fun j => K (j + 1) 0) s0 ++ (w_Rs g (K 10) (fun k => K (16 + 2 * k)) (fun k => K (17 + 2 * k)) s1 ++ (rest))) H) (hS : va_S A s.heap H locs) (h : B_Rn_record_20  s0 s1 x1 x2 = some out) : W p l e (headSpec ws_Rn_record { frames := 1, cells := 0, slots := 0, locals := 21 }).room s m args below meth c H locs 0 0 (MQ below (QcI D A g out (fun (_ : Unit) => w_Rn g (K 0) (fun j => K (j + 1) 0) s0 ++ (w_Rs g (K 10) (fun k => K (16 + 2 * k)) (fun k => K (17 + 2 * k)) s1 ++ (rest)))) args s 0 0 A) (F0 m 20 ls []) := by
  have X1 := X
  obtain ⟨hx, hb, hml, hown, hts, hr, hlocks, hKK⟩ := X1
  have ht : ∀ w ∈ TB, w.before args s = true := fun w h => hts w (List.mem_cons_of_mem _ h)
  have hK := hKK.1
  unfold B_Rn_record_20 at h
  refine lv_iload_n hx hb d_Rn_record_20 rfl (lv_at hl 2 rfl) ?_
  refine lv_aload_n hx hb d_Rn_record_21 rfl (lv_at hl 0 rfl) ?_
  refine va_get (D := D) (ci := 8) (v := .ref (K 10 0)) (C := R_Rn) (T := T_Rn) (N := 16) hx hb ht in_Rn hown hK hI.1 0 rfl rfl 9 (by decide) (ht _ m_212) (fun _ h9 => h9) rfl d_Rn_record_22 ?_
  refine lv_iload_n hx hb d_Rn_record_25 rfl (lv_at hl 1 rfl) ?_
  obtain ⟨o1, ho2, h⟩ := bd_s h
  refine cl_a (W1 := fun (_ : Unit) => w_Rn g (K 0) (fun j => K (j + 1) 0) s0 ++ (w_Rs g (K 10) (fun k => K (16 + 2 * k)) (fun k => K (17 + 2 * k)) s1 ++ (rest))) (va_runV (As := [.int x1]) (rest := [.int x2]) ⟨hx, hb, hml, hown, ht⟩ (c_Rs_bytes (l := l) (D := D) (A := A) (g := g) (rest := w_Rn g (K 0) (fun j => K (j + 1) 0) s0 ++ (rest)) (a0 := K 10) (N := (fun k => K (16 + 2 * k))) (B := (fun k => K (17 + 2 * k))) ho2) (cwV 1 ht (gd_V m_614 m_615 m_616 m_6 m_617) rfl rfl rfl (by decide +kernel) ⟨(Nat.le_of_ble_eq_true rfl), (Nat.le_of_ble_eq_true rfl)⟩) (prV (ci := 6) (q0 := 0) hKK hI (pmn (rest := rest) [w_Rn g (K 0) (fun j => K (j + 1) 0) s0, w_Rs g (K 10) (fun k => K (16 + 2 * k)) (fun k => K (17 + 2 * k)) s1] [w_Rs g (K 10) (fun k => K (16 + 2 * k)) (fun k => K (17 + 2 * k)) s1, w_Rn g (K 0) (fun j => K (j + 1) 0) s0] [1, 0] 2 rfl rfl (by decide)) rfl rfl rfl) rfl rfl hl.1 rfl (lv_room (Nat.le_of_ble_eq_true rfl)) d_Rn_record_26 ⟨(Nat.le_of_ble_eq_true rfl), (Nat.le_of_ble_eq_true rfl)⟩) hS (fun _ => (pmn (rest := rest) [w_Rs g (K 10) (fun k => K (16 + 2 * k)) (fun k => K (17 + 2 * k)) s1, w_Rn g (K 0) (fun j => K (j + 1) 0) s0] [w_Rn g (K 0) (fun j => K (j + 1) 0) s0, w_Rs g (K 10) (fun k => K (16 + 2 * k)) (fun k => K (17 + 2 * k)) s1] [1, 0] 2 rfl rfl (by decide))) (fun _ H locs hI hS => ?_)
  have hI : Iw D A (w_Rn g (K 0) (fun j => K (j + 1) 0) s0 ++ (w_Rs g (K 10) (fun k => K (16 + 2 * k)) (fun k => K (17 + 2 * k)) s1 ++ (rest))) H := hI
  have hc3 : x1.toNatClampNeg < (Rs_n s1) := by
    by_cases z : x1.toNatClampNeg < (Rs_n s1)
    · exact z
    · exact no_s (it_f h z)
  have h := it_t h hc3
  obtain ⟨o4, ho5, h⟩ := bd_s h
  refine cl_i (W1 := fun (_ : Unit) => w_Rn g (K 0) (fun j => K (j + 1) 0) s0 ++ (w_Rs g (K 10) (fun k => K (16 + 2 * k)) (fun k => K (17 + 2 * k)) s1 ++ (rest))) (va_runV (As := []) (rest := [.int x2]) ⟨hx, hb, hml, hown, ht⟩ (c_Bs_count (l := l) (D := D) (A := A) (g := g) (rest := rem_B g (K 10) (fun k => K (16 + 2 * k)) (fun k => K (17 + 2 * k)) s1 x1.toNatClampNeg ++ (w_Rn g (K 0) (fun j => K (j + 1) 0) s0 ++ (rest))) (a0 := K (17 + 2 * x1.toNatClampNeg)) ho5) (cwV 0 ht (gd_V m_302 m_303 m_304 m_2 m_305) rfl rfl rfl (by decide +kernel) ⟨(Nat.le_of_ble_eq_true rfl), (Nat.le_of_ble_eq_true rfl)⟩) (prV (ci := 0) (q0 := 0) hKK hI (((pmn (rest := rest) [w_Rn g (K 0) (fun j => K (j + 1) 0) s0, w_Rs g (K 10) (fun k => K (16 + 2 * k)) (fun k => K (17 + 2 * k)) s1] [w_Rs g (K 10) (fun k => K (16 + 2 * k)) (fun k => K (17 + 2 * k)) s1, w_Rn g (K 0) (fun j => K (j + 1) 0) s0] [1, 0] 2 rfl rfl (by decide))).trans ((fa (foc_B hc3)).trans (pmn (rest := rest) [w_Bs g (K (17 + 2 * x1.toNatClampNeg)) (Rs_bytes s1 x1.toNatClampNeg), rem_B g (K 10) (fun k => K (16 + 2 * k)) (fun k => K (17 + 2 * k)) s1 x1.toNatClampNeg, w_Rn g (K 0) (fun j => K (j + 1) 0) s0] [w_Bs g (K (17 + 2 * x1.toNatClampNeg)) (Rs_bytes s1 x1.toNatClampNeg), rem_B g (K 10) (fun k => K (16 + 2 * k)) (fun k => K (17 + 2 * k)) s1 x1.toNatClampNeg, w_Rn g (K 0) (fun j => K (j + 1) 0) s0] [0, 1, 2] 3 rfl rfl (by decide)))) rfl rfl rfl) rfl rfl hl.1 rfl (lv_room (Nat.le_of_ble_eq_true rfl)) d_Rn_record_29 ⟨(Nat.le_of_ble_eq_true rfl), (Nat.le_of_ble_eq_true rfl)⟩) hS (fun _ => (((pmn (rest := rest) [w_Rn g (K 0) (fun j => K (j + 1) 0) s0, w_Rs g (K 10) (fun k => K (16 + 2 * k)) (fun k => K (17 + 2 * k)) s1] [w_Rs g (K 10) (fun k => K (16 + 2 * k)) (fun k => K (17 + 2 * k)) s1, w_Rn g (K 0) (fun j => K (j + 1) 0) s0] [1, 0] 2 rfl rfl (by decide))).trans ((fa (foc_B hc3)).trans (pmn (rest := rest) [w_Bs g (K (17 + 2 * x1.toNatClampNeg)) (Rs_bytes s1 x1.toNatClampNeg), rem_B g (K 10) (fun k => K (16 + 2 * k)) (fun k => K (17 + 2 * k)) s1 x1.toNatClampNeg, w_Rn g (K 0) (fun j => K (j + 1) 0) s0] [w_Bs g (K (17 + 2 * x1.toNatClampNeg)) (Rs_bytes s1 x1.toNatClampNeg), rem_B g (K 10) (fun k => K (16 + 2 * k)) (fun k => K (17 + 2 * k)) s1 x1.toNatClampNeg, w_Rn g (K 0) (fun j => K (j + 1) 0) s0] [0, 1, 2] 3 rfl rfl (by decide)))).symm) (fun _ H locs hI hS => ?_)
  have hI : Iw D A (w_Rn g (K 0) (fun j => K (j + 1) 0) s0 ++ (w_Rs g (K 10) (fun k => K (16 + 2 * k)) (fun k => K (17 + 2 * k)) s1 ++ (rest))) H := hI
  refine lv_icmp_lt (tgt := 43) hx hb d_Rn_record_32 (by decide) (fun hc => ?_) (fun hc => ?_)
  · have h := it_t h hc
    exact t_Rn_record_43 X (lv_sub hl [0, 1, 2] rfl) hI hS h
  · have h := it_f h hc
    exact t_Rn_record_35 X (lv_sub hl [] rfl) hI hS h
set_option maxRecDepth 100000 in
set_option maxHeartbeats 4000000 in
theorem t_Rn_record_15 {p : Program} {l : Launch} {e : Env} {s : State} {m : MethodId} {args : Array Value} {below : List Frame} {meth : Method} {c : Code} {D : va_G} {A : Nat → Prop} {g : Nat → ClassId} {rest : va_W} {K : Nat → Nat → Nat} {ls : Array Slot} {H : Heap} {locs : List Loc} {s0 : S_Rn} {s1 : S_Rs} {x1 : Int32} {x2 : Int32} {out : Int32} (X : Cx p s m args meth c prog_1_method_15_code 3 ws_Rn_record R_Rn (some .int) D g) (hl : lv_has ls 3 [(0, .ref (K 0 0)), (1, .int x1), (2, .int x2)]) (hI : Iw D A (w_Rn g (K 0) (fun j => K (j + 1) 0) s0 ++ (w_Rs g (K 10) (fun k => K (16 + 2 * k)) (fun k => K (17 + 2 * k)) s1 ++ (rest))) H) (hS : va_S A s.heap H locs) (h : B_Rn_record_15  s0 s1 x1 x2 = some out) : W p l e (headSpec ws_Rn_record { frames := 1, cells := 0, slots := 0, locals := 21 }).room s m args below meth c H locs 0 0 (MQ below (QcI D A g out (fun (_ : Unit) => w_Rn g (K 0) (fun j => K (j + 1) 0) s0 ++ (w_Rs g (K 10) (fun k => K (16 + 2 * k)) (fun k => K (17 + 2 * k)) s1 ++ (rest)))) args s 0 0 A) (F0 m 15 ls []) := by
  have X1 := X
  obtain ⟨hx, hb, hml, hown, hts, hr, hlocks, hKK⟩ := X1
  have ht : ∀ w ∈ TB, w.before args s = true := fun w h => hts w (List.mem_cons_of_mem _ h)
  have hK := hKK.1
  unfold B_Rn_record_15 at h
  refine lv_iload_n hx hb d_Rn_record_15 rfl (lv_at hl 2 rfl) ?_
  refine lv_iconst (v := (-1)) hx hb d_Rn_record_16 (by decide) ?_
  refine lv_icmp_lt (tgt := 35) hx hb d_Rn_record_17 (by decide) (fun hc => ?_) (fun hc => ?_)
  · have h := it_t h hc
    exact t_Rn_record_35 X (lv_sub hl [] rfl) hI hS h
  · have h := it_f h hc
    exact t_Rn_record_20 X (lv_sub hl [0, 1, 2] rfl) hI hS h
set_option maxRecDepth 100000 in
set_option maxHeartbeats 4000000 in
theorem t_Rn_record_4 {p : Program} {l : Launch} {e : Env} {s : State} {m : MethodId} {args : Array Value} {below : List Frame} {meth : Method} {c : Code} {D : va_G} {A : Nat → Prop} {g : Nat → ClassId} {rest : va_W} {K : Nat → Nat → Nat} {ls : Array Slot} {H : Heap} {locs : List Loc} {s0 : S_Rn} {s1 : S_Rs} {x1 : Int32} {x2 : Int32} {out : Int32} (X : Cx p s m args meth c prog_1_method_15_code 3 ws_Rn_record R_Rn (some .int) D g) (hl : lv_has ls 3 [(0, .ref (K 0 0)), (1, .int x1), (2, .int x2)]) (hI : Iw D A (w_Rn g (K 0) (fun j => K (j + 1) 0) s0 ++ (w_Rs g (K 10) (fun k => K (16 + 2 * k)) (fun k => K (17 + 2 * k)) s1 ++ (rest))) H) (hS : va_S A s.heap H locs) (h : B_Rn_record_4  s0 s1 x1 x2 = some out) : W p l e (headSpec ws_Rn_record { frames := 1, cells := 0, slots := 0, locals := 21 }).room s m args below meth c H locs 0 0 (MQ below (QcI D A g out (fun (_ : Unit) => w_Rn g (K 0) (fun j => K (j + 1) 0) s0 ++ (w_Rs g (K 10) (fun k => K (16 + 2 * k)) (fun k => K (17 + 2 * k)) s1 ++ (rest)))) args s 0 0 A) (F0 m 4 ls []) := by
  have X1 := X
  obtain ⟨hx, hb, hml, hown, hts, hr, hlocks, hKK⟩ := X1
  have ht : ∀ w ∈ TB, w.before args s = true := fun w h => hts w (List.mem_cons_of_mem _ h)
  have hK := hKK.1
  unfold B_Rn_record_4 at h
  refine lv_iload_n hx hb d_Rn_record_4 rfl (lv_at hl 1 rfl) ?_
  refine lv_aload_n hx hb d_Rn_record_5 rfl (lv_at hl 0 rfl) ?_
  refine va_get (D := D) (ci := 8) (v := .ref (K 10 0)) (C := R_Rn) (T := T_Rn) (N := 16) hx hb ht in_Rn hown hK hI.1 0 rfl rfl 9 (by decide) (ht _ m_212) (fun _ h9 => h9) rfl d_Rn_record_6 ?_
  obtain ⟨o1, ho2, h⟩ := bd_s h
  refine cl_i (W1 := fun (_ : Unit) => w_Rn g (K 0) (fun j => K (j + 1) 0) s0 ++ (w_Rs g (K 10) (fun k => K (16 + 2 * k)) (fun k => K (17 + 2 * k)) s1 ++ (rest))) (va_runV (As := []) (rest := [.int x1]) ⟨hx, hb, hml, hown, ht⟩ (c_Rs_count (l := l) (D := D) (A := A) (g := g) (rest := w_Rn g (K 0) (fun j => K (j + 1) 0) s0 ++ (rest)) (a0 := K 10) (N := (fun k => K (16 + 2 * k))) (B := (fun k => K (17 + 2 * k))) ho2) (cwV 0 ht (gd_V m_610 m_611 m_612 m_6 m_613) rfl rfl rfl (by decide +kernel) ⟨(Nat.le_of_ble_eq_true rfl), (Nat.le_of_ble_eq_true rfl)⟩) (prV (ci := 6) (q0 := 0) hKK hI (pmn (rest := rest) [w_Rn g (K 0) (fun j => K (j + 1) 0) s0, w_Rs g (K 10) (fun k => K (16 + 2 * k)) (fun k => K (17 + 2 * k)) s1] [w_Rs g (K 10) (fun k => K (16 + 2 * k)) (fun k => K (17 + 2 * k)) s1, w_Rn g (K 0) (fun j => K (j + 1) 0) s0] [1, 0] 2 rfl rfl (by decide)) rfl rfl rfl) rfl rfl hl.1 rfl (lv_room (Nat.le_of_ble_eq_true rfl)) d_Rn_record_9 ⟨(Nat.le_of_ble_eq_true rfl), (Nat.le_of_ble_eq_true rfl)⟩) hS (fun _ => (pmn (rest := rest) [w_Rs g (K 10) (fun k => K (16 + 2 * k)) (fun k => K (17 + 2 * k)) s1, w_Rn g (K 0) (fun j => K (j + 1) 0) s0] [w_Rn g (K 0) (fun j => K (j + 1) 0) s0, w_Rs g (K 10) (fun k => K (16 + 2 * k)) (fun k => K (17 + 2 * k)) s1] [1, 0] 2 rfl rfl (by decide))) (fun _ H locs hI hS => ?_)
  have hI : Iw D A (w_Rn g (K 0) (fun j => K (j + 1) 0) s0 ++ (w_Rs g (K 10) (fun k => K (16 + 2 * k)) (fun k => K (17 + 2 * k)) s1 ++ (rest))) H := hI
  refine lv_icmp_ge (tgt := 35) hx hb d_Rn_record_12 (by decide) (fun hc => ?_) (fun hc => ?_)
  · have h := it_t h hc
    exact t_Rn_record_35 X (lv_sub hl [] rfl) hI hS h
  · have h := it_f h hc
    exact t_Rn_record_15 X (lv_sub hl [0, 1, 2] rfl) hI hS h
set_option maxRecDepth 100000 in
set_option maxHeartbeats 4000000 in
theorem t_Rn_record_0 {p : Program} {l : Launch} {e : Env} {s : State} {m : MethodId} {args : Array Value} {below : List Frame} {meth : Method} {c : Code} {D : va_G} {A : Nat → Prop} {g : Nat → ClassId} {rest : va_W} {K : Nat → Nat → Nat} {ls : Array Slot} {H : Heap} {locs : List Loc} {s0 : S_Rn} {s1 : S_Rs} {x1 : Int32} {x2 : Int32} {out : Int32} (X : Cx p s m args meth c prog_1_method_15_code 3 ws_Rn_record R_Rn (some .int) D g) (hl : lv_has ls 3 [(0, .ref (K 0 0)), (1, .int x1), (2, .int x2)]) (hI : Iw D A (w_Rn g (K 0) (fun j => K (j + 1) 0) s0 ++ (w_Rs g (K 10) (fun k => K (16 + 2 * k)) (fun k => K (17 + 2 * k)) s1 ++ (rest))) H) (hS : va_S A s.heap H locs) (h : B_Rn_record_0  s0 s1 x1 x2 = some out) : W p l e (headSpec ws_Rn_record { frames := 1, cells := 0, slots := 0, locals := 21 }).room s m args below meth c H locs 0 0 (MQ below (QcI D A g out (fun (_ : Unit) => w_Rn g (K 0) (fun j => K (j + 1) 0) s0 ++ (w_Rs g (K 10) (fun k => K (16 + 2 * k)) (fun k => K (17 + 2 * k)) s1 ++ (rest)))) args s 0 0 A) (F0 m 0 ls []) := by
  have X1 := X
  obtain ⟨hx, hb, hml, hown, hts, hr, hlocks, hKK⟩ := X1
  have ht : ∀ w ∈ TB, w.before args s = true := fun w h => hts w (List.mem_cons_of_mem _ h)
  have hK := hKK.1
  unfold B_Rn_record_0 at h
  refine lv_iload_n hx hb d_Rn_record_0 rfl (lv_at hl 1 rfl) ?_
  refine lv_if_lt (tgt := 35) hx hb d_Rn_record_1 (by decide) (fun hc => ?_) (fun hc => ?_)
  · have h := it_t h hc
    exact t_Rn_record_35 X (lv_sub hl [] rfl) hI hS h
  · have h := it_f h hc
    exact t_Rn_record_4 X (lv_sub hl [0, 1, 2] rfl) hI hS h
set_option maxRecDepth 100000 in
set_option maxHeartbeats 4000000 in
theorem c_Rn_record {l : Launch} {D : va_G} {A : Nat → Prop} {g : Nat → ClassId} {rest : va_W} {K : Nat → Nat → Nat} {s0 : S_Rn} {s1 : S_Rs} {x1 : Int32} {x2 : Int32} {out : Int32} (h : F_Rn_record s0 s1 x1 x2 = some out) : Met l y_Rn_record ws_Rn_record { frames := 1, cells := 0, slots := 0, locals := 21 } (PcW D A g [.ref (K 0 0), .int x1, .int x2] (w_Rn g (K 0) (fun j => K (j + 1) 0) s0 ++ (w_Rs g (K 10) (fun k => K (16 + 2 * k)) (fun k => K (17 + 2 * k)) s1 ++ (rest)))) (QcI D A g out (fun (_ : Unit) => w_Rn g (K 0) (fun j => K (j + 1) 0) s0 ++ (w_Rs g (K 10) (fun k => K (16 + 2 * k)) (fun k => K (17 + 2 * k)) s1 ++ (rest)))) 0 0 A := by
  refine Met.ofW (cc := prog_1_method_15_code) (maxL := 3) (ret := (some .int)) (by decide) rfl ?_
  intro p e s m args below meth c s₁ B hml hv
  obtain ⟨rfl, hI, hK⟩ := hv
  have hl := lv_entry [.ref (K 0 0), .int x1, .int x2] (n := 3) (Nat.le_of_ble_eq_true rfl)
  rw [lg_entry_eq]
  generalize (lg_sl [.ref (K 0 0), .int x1, .int x2] ++ List.replicate (3 - (lg_sl [.ref (K 0 0), .int x1, .int x2]).length) Slot.unset).toArray = ls at hl ⊢
  have hl : lv_has ls 3 [(0, .ref (K 0 0)), (1, .int x1), (2, .int x2)] := hl
  exact t_Rn_record_0 ⟨B.exec, B.bytes, hml, findClass_of_methodNamed B.named, atoms_spec (ws := ws_Rn_record) B.pre, B.returns, B.notSynchronized, hK⟩ (lv_sub hl [0, 1, 2] rfl) hI va_S.rf h
