/-! Worlds with a rest: the cells that a method works on stand ahead, what else there is stands behind them and stays. -/
/-- the cells ws lie in the heap H, apart, within A -/
def Iw (D : va_G) (A : Nat → Prop) (ws : va_W) (H : Heap) : Prop := va_P D vwCl ws H ∧ va_D A ws
theorem va_D_iff {A : Nat → Prop} {ws : va_W} : va_D A ws ↔ ws.Pairwise (fun p q => p.1 ≠ q.1) ∧ ∀ q ∈ ws, A q.1 := by
  unfold va_D
  rw [List.pairwise_iff_getElem]
  constructor
  · rintro ⟨h1, h2⟩
    refine ⟨fun i j hi hj hij he => ?_, fun q hq => ?_⟩
    · have := h1 i j ws[i] ws[j] (List.getElem?_eq_getElem hi) (List.getElem?_eq_getElem hj) he
      omega
    · obtain ⟨k, hk⟩ := List.getElem?_of_mem hq
      exact h2 k q hk
  · rintro ⟨h1, h2⟩
    refine ⟨fun i j p q hi hj hpq => ?_, fun k q hk => h2 q (List.mem_of_getElem? hk)⟩
    obtain ⟨hi', rfl⟩ := List.getElem?_eq_some_iff.mp hi
    obtain ⟨hj', rfl⟩ := List.getElem?_eq_some_iff.mp hj
    rcases Nat.lt_trichotomy i j with h | h | h
    · exact absurd hpq (h1 i j hi' hj' h)
    · exact h
    · exact absurd hpq.symm (h1 j i hj' hi' h)
theorem Iw.pm {D : va_G} {A : Nat → Prop} {ws ws' : va_W} {H : Heap} (h : Iw D A ws H) (hp : ws.Perm ws') : Iw D A ws' H := by
  refine ⟨fun k q hk => ?_, ?_⟩
  · obtain ⟨i, hi⟩ := List.getElem?_of_mem (hp.mem_iff.mpr (List.mem_of_getElem? hk))
    exact h.1 i q hi
  · have h2 := va_D_iff.mp h.2
    exact va_D_iff.mpr ⟨(hp.pairwise_iff (fun h => Ne.symm h)).mp h2.1, fun q hq => h2.2 q (hp.mem_iff.mpr hq)⟩
/-! bringing a part of a world ahead -/
theorem mv_1 {a b r : va_W} : (a ++ (b ++ r)).Perm (b ++ (a ++ r)) := by
  rw [← List.append_assoc, ← List.append_assoc]
  exact List.perm_append_comm.append_right r
theorem mv_2 {a0 a1 b r : va_W} : (a0 ++ (a1 ++ (b ++ r))).Perm (b ++ (a0 ++ (a1 ++ (r)))) := (mv_1.append_left a0).trans mv_1
theorem mv_3 {a0 a1 a2 b r : va_W} : (a0 ++ (a1 ++ (a2 ++ (b ++ r)))).Perm (b ++ (a0 ++ (a1 ++ (a2 ++ (r))))) := (mv_2.append_left a0).trans mv_1
theorem mv_4 {a0 a1 a2 a3 b r : va_W} : (a0 ++ (a1 ++ (a2 ++ (a3 ++ (b ++ r))))).Perm (b ++ (a0 ++ (a1 ++ (a2 ++ (a3 ++ (r)))))) := (mv_3.append_left a0).trans mv_1
theorem mv_5 {a0 a1 a2 a3 a4 b r : va_W} : (a0 ++ (a1 ++ (a2 ++ (a3 ++ (a4 ++ (b ++ r)))))).Perm (b ++ (a0 ++ (a1 ++ (a2 ++ (a3 ++ (a4 ++ (r))))))) := (mv_4.append_left a0).trans mv_1
theorem mv_6 {a0 a1 a2 a3 a4 a5 b r : va_W} : (a0 ++ (a1 ++ (a2 ++ (a3 ++ (a4 ++ (a5 ++ (b ++ r))))))).Perm (b ++ (a0 ++ (a1 ++ (a2 ++ (a3 ++ (a4 ++ (a5 ++ (r)))))))) := (mv_5.append_left a0).trans mv_1
theorem mv_7 {a0 a1 a2 a3 a4 a5 a6 b r : va_W} : (a0 ++ (a1 ++ (a2 ++ (a3 ++ (a4 ++ (a5 ++ (a6 ++ (b ++ r)))))))).Perm (b ++ (a0 ++ (a1 ++ (a2 ++ (a3 ++ (a4 ++ (a5 ++ (a6 ++ (r))))))))) := (mv_6.append_left a0).trans mv_1
theorem mv_8 {a0 a1 a2 a3 a4 a5 a6 a7 b r : va_W} : (a0 ++ (a1 ++ (a2 ++ (a3 ++ (a4 ++ (a5 ++ (a6 ++ (a7 ++ (b ++ r))))))))).Perm (b ++ (a0 ++ (a1 ++ (a2 ++ (a3 ++ (a4 ++ (a5 ++ (a6 ++ (a7 ++ (r)))))))))) := (mv_7.append_left a0).trans mv_1
theorem mv_9 {a0 a1 a2 a3 a4 a5 a6 a7 a8 b r : va_W} : (a0 ++ (a1 ++ (a2 ++ (a3 ++ (a4 ++ (a5 ++ (a6 ++ (a7 ++ (a8 ++ (b ++ r)))))))))).Perm (b ++ (a0 ++ (a1 ++ (a2 ++ (a3 ++ (a4 ++ (a5 ++ (a6 ++ (a7 ++ (a8 ++ (r))))))))))) := (mv_8.append_left a0).trans mv_1
theorem mv_10 {a0 a1 a2 a3 a4 a5 a6 a7 a8 a9 b r : va_W} : (a0 ++ (a1 ++ (a2 ++ (a3 ++ (a4 ++ (a5 ++ (a6 ++ (a7 ++ (a8 ++ (a9 ++ (b ++ r))))))))))).Perm (b ++ (a0 ++ (a1 ++ (a2 ++ (a3 ++ (a4 ++ (a5 ++ (a6 ++ (a7 ++ (a8 ++ (a9 ++ (r)))))))))))) := (mv_9.append_left a0).trans mv_1
theorem mv_11 {a0 a1 a2 a3 a4 a5 a6 a7 a8 a9 a10 b r : va_W} : (a0 ++ (a1 ++ (a2 ++ (a3 ++ (a4 ++ (a5 ++ (a6 ++ (a7 ++ (a8 ++ (a9 ++ (a10 ++ (b ++ r)))))))))))).Perm (b ++ (a0 ++ (a1 ++ (a2 ++ (a3 ++ (a4 ++ (a5 ++ (a6 ++ (a7 ++ (a8 ++ (a9 ++ (a10 ++ (r))))))))))))) := (mv_10.append_left a0).trans mv_1
theorem mv_12 {a0 a1 a2 a3 a4 a5 a6 a7 a8 a9 a10 a11 b r : va_W} : (a0 ++ (a1 ++ (a2 ++ (a3 ++ (a4 ++ (a5 ++ (a6 ++ (a7 ++ (a8 ++ (a9 ++ (a10 ++ (a11 ++ (b ++ r))))))))))))).Perm (b ++ (a0 ++ (a1 ++ (a2 ++ (a3 ++ (a4 ++ (a5 ++ (a6 ++ (a7 ++ (a8 ++ (a9 ++ (a10 ++ (a11 ++ (r)))))))))))))) := (mv_11.append_left a0).trans mv_1
theorem mv_13 {a0 a1 a2 a3 a4 a5 a6 a7 a8 a9 a10 a11 a12 b r : va_W} : (a0 ++ (a1 ++ (a2 ++ (a3 ++ (a4 ++ (a5 ++ (a6 ++ (a7 ++ (a8 ++ (a9 ++ (a10 ++ (a11 ++ (a12 ++ (b ++ r)))))))))))))).Perm (b ++ (a0 ++ (a1 ++ (a2 ++ (a3 ++ (a4 ++ (a5 ++ (a6 ++ (a7 ++ (a8 ++ (a9 ++ (a10 ++ (a11 ++ (a12 ++ (r))))))))))))))) := (mv_12.append_left a0).trans mv_1
theorem mv_14 {a0 a1 a2 a3 a4 a5 a6 a7 a8 a9 a10 a11 a12 a13 b r : va_W} : (a0 ++ (a1 ++ (a2 ++ (a3 ++ (a4 ++ (a5 ++ (a6 ++ (a7 ++ (a8 ++ (a9 ++ (a10 ++ (a11 ++ (a12 ++ (a13 ++ (b ++ r))))))))))))))).Perm (b ++ (a0 ++ (a1 ++ (a2 ++ (a3 ++ (a4 ++ (a5 ++ (a6 ++ (a7 ++ (a8 ++ (a9 ++ (a10 ++ (a11 ++ (a12 ++ (a13 ++ (r)))))))))))))))) := (mv_13.append_left a0).trans mv_1
theorem mv_15 {a0 a1 a2 a3 a4 a5 a6 a7 a8 a9 a10 a11 a12 a13 a14 b r : va_W} : (a0 ++ (a1 ++ (a2 ++ (a3 ++ (a4 ++ (a5 ++ (a6 ++ (a7 ++ (a8 ++ (a9 ++ (a10 ++ (a11 ++ (a12 ++ (a13 ++ (a14 ++ (b ++ r)))))))))))))))).Perm (b ++ (a0 ++ (a1 ++ (a2 ++ (a3 ++ (a4 ++ (a5 ++ (a6 ++ (a7 ++ (a8 ++ (a9 ++ (a10 ++ (a11 ++ (a12 ++ (a13 ++ (a14 ++ (r))))))))))))))))) := (mv_14.append_left a0).trans mv_1
theorem mv_16 {a0 a1 a2 a3 a4 a5 a6 a7 a8 a9 a10 a11 a12 a13 a14 a15 b r : va_W} : (a0 ++ (a1 ++ (a2 ++ (a3 ++ (a4 ++ (a5 ++ (a6 ++ (a7 ++ (a8 ++ (a9 ++ (a10 ++ (a11 ++ (a12 ++ (a13 ++ (a14 ++ (a15 ++ (b ++ r))))))))))))))))).Perm (b ++ (a0 ++ (a1 ++ (a2 ++ (a3 ++ (a4 ++ (a5 ++ (a6 ++ (a7 ++ (a8 ++ (a9 ++ (a10 ++ (a11 ++ (a12 ++ (a13 ++ (a14 ++ (a15 ++ (r)))))))))))))))))) := (mv_15.append_left a0).trans mv_1
theorem mv_17 {a0 a1 a2 a3 a4 a5 a6 a7 a8 a9 a10 a11 a12 a13 a14 a15 a16 b r : va_W} : (a0 ++ (a1 ++ (a2 ++ (a3 ++ (a4 ++ (a5 ++ (a6 ++ (a7 ++ (a8 ++ (a9 ++ (a10 ++ (a11 ++ (a12 ++ (a13 ++ (a14 ++ (a15 ++ (a16 ++ (b ++ r)))))))))))))))))).Perm (b ++ (a0 ++ (a1 ++ (a2 ++ (a3 ++ (a4 ++ (a5 ++ (a6 ++ (a7 ++ (a8 ++ (a9 ++ (a10 ++ (a11 ++ (a12 ++ (a13 ++ (a14 ++ (a15 ++ (a16 ++ (r))))))))))))))))))) := (mv_16.append_left a0).trans mv_1
theorem mv_18 {a0 a1 a2 a3 a4 a5 a6 a7 a8 a9 a10 a11 a12 a13 a14 a15 a16 a17 b r : va_W} : (a0 ++ (a1 ++ (a2 ++ (a3 ++ (a4 ++ (a5 ++ (a6 ++ (a7 ++ (a8 ++ (a9 ++ (a10 ++ (a11 ++ (a12 ++ (a13 ++ (a14 ++ (a15 ++ (a16 ++ (a17 ++ (b ++ r))))))))))))))))))).Perm (b ++ (a0 ++ (a1 ++ (a2 ++ (a3 ++ (a4 ++ (a5 ++ (a6 ++ (a7 ++ (a8 ++ (a9 ++ (a10 ++ (a11 ++ (a12 ++ (a13 ++ (a14 ++ (a15 ++ (a16 ++ (a17 ++ (r)))))))))))))))))))) := (mv_17.append_left a0).trans mv_1
theorem mv_19 {a0 a1 a2 a3 a4 a5 a6 a7 a8 a9 a10 a11 a12 a13 a14 a15 a16 a17 a18 b r : va_W} : (a0 ++ (a1 ++ (a2 ++ (a3 ++ (a4 ++ (a5 ++ (a6 ++ (a7 ++ (a8 ++ (a9 ++ (a10 ++ (a11 ++ (a12 ++ (a13 ++ (a14 ++ (a15 ++ (a16 ++ (a17 ++ (a18 ++ (b ++ r)))))))))))))))))))).Perm (b ++ (a0 ++ (a1 ++ (a2 ++ (a3 ++ (a4 ++ (a5 ++ (a6 ++ (a7 ++ (a8 ++ (a9 ++ (a10 ++ (a11 ++ (a12 ++ (a13 ++ (a14 ++ (a15 ++ (a16 ++ (a17 ++ (a18 ++ (r))))))))))))))))))))) := (mv_18.append_left a0).trans mv_1
/-! one of the records' rows ahead -/
theorem fa {a b c r : va_W} (h : a.Perm (b ++ c)) : (a ++ r).Perm (b ++ (c ++ r)) := by
  rw [← List.append_assoc]; exact h.append_right r
theorem pl_congr {g : Nat → ClassId} {N B : Nat → Nat → Nat} {s s' : S_Rs} (ks : List Nat) (h : ∀ k ∈ ks, Rs_names s k = Rs_names s' k ∧ Rs_bytes s k = Rs_bytes s' k) : w_Pl g N B ks s = w_Pl g N B ks s' := by
  induction ks with
  | nil => rfl
  | cons k ks ih =>
    have h1 := h k List.mem_cons_self
    have h2 := ih (fun j hj => h j (List.mem_cons_of_mem _ hj))
    unfold w_Pl at h2 ⊢
    rw [List.flatMap_cons, List.flatMap_cons, h1.1, h1.2, h2]
theorem pl_take {g : Nat → ClassId} {N B : Nat → Nat → Nat} {s : S_Rs} {e : Nat} (h : e < Rs_n s) : (w_Pl g N B (List.range (Rs_n s)) s).Perm ((w_Bs g (N e) (Rs_names s e) ++ w_Bs g (B e) (Rs_bytes s e)) ++ w_Pl g N B ((List.range (Rs_n s)).erase e) s) := by
  unfold w_Pl
  have hp : (List.range (Rs_n s)).Perm (e :: (List.range (Rs_n s)).erase e) := List.perm_cons_erase (List.mem_range.mpr h)
  have := hp.flatMap_right (fun k => w_Bs g (N k) (Rs_names s k) ++ w_Bs g (B k) (Rs_bytes s k))
  rw [List.flatMap_cons] at this
  exact this
theorem foc_B {g : Nat → ClassId} {ad : Nat → Nat} {N B : Nat → Nat → Nat} {s : S_Rs} {e : Nat} (h : e < Rs_n s) : (w_Rs g ad N B s).Perm (w_Bs g (B e) (Rs_bytes s e) ++ rem_B g ad N B s e) := by
  unfold w_Rs rem_B
  refine ((pl_take h).append_left _).trans ?_
  rw [List.append_assoc]
  exact mv_2
theorem foc_N {g : Nat → ClassId} {ad : Nat → Nat} {N B : Nat → Nat → Nat} {s : S_Rs} {e : Nat} (h : e < Rs_n s) : (w_Rs g ad N B s).Perm (w_Bs g (N e) (Rs_names s e) ++ rem_N g ad N B s e) := by
  unfold w_Rs rem_N
  refine ((pl_take h).append_left _).trans ?_
  rw [List.append_assoc]
  exact mv_1
theorem fop_B {g : Nat → ClassId} {ad : Nat → Nat} {N B : Nat → Nat → Nat} {s : S_Rs} {e : Nat} {b : S_Bs} (h : e < Rs_n s) : (w_Rs g ad N B (Rs_putB s e b)).Perm (w_Bs g (B e) b ++ rem_B g ad N B s e) := by
  have h1 := foc_B (g := g) (ad := ad) (N := N) (B := B) (s := Rs_putB s e b) (e := e) h
  have h2 : Rs_bytes (Rs_putB s e b) e = b := if_pos rfl
  have h3 : rem_B g ad N B (Rs_putB s e b) e = rem_B g ad N B s e := by
    unfold rem_B
    rw [show w_Pl g N B ((List.range (Rs_n (Rs_putB s e b))).erase e) (Rs_putB s e b) = w_Pl g N B ((List.range (Rs_n s)).erase e) s from
      pl_congr _ (fun k hk => ⟨rfl, if_neg (fun z => List.Nodup.not_mem_erase List.nodup_range (z ▸ hk))⟩)]
    rfl
  rw [h2, h3] at h1
  exact h1
theorem fop_N {g : Nat → ClassId} {ad : Nat → Nat} {N B : Nat → Nat → Nat} {s : S_Rs} {e : Nat} {b : S_Bs} (h : e < Rs_n s) : (w_Rs g ad N B (Rs_putN s e b)).Perm (w_Bs g (N e) b ++ rem_N g ad N B s e) := by
  have h1 := foc_N (g := g) (ad := ad) (N := N) (B := B) (s := Rs_putN s e b) (e := e) h
  have h2 : Rs_names (Rs_putN s e b) e = b := if_pos rfl
  have h3 : rem_N g ad N B (Rs_putN s e b) e = rem_N g ad N B s e := by
    unfold rem_N
    rw [show w_Pl g N B ((List.range (Rs_n (Rs_putN s e b))).erase e) (Rs_putN s e b) = w_Pl g N B ((List.range (Rs_n s)).erase e) s from
      pl_congr _ (fun k hk => ⟨if_neg (fun z => List.Nodup.not_mem_erase List.nodup_range (z ▸ hk)), rfl⟩)]
    rfl
  rw [h2, h3] at h1
  exact h1
/-! Steps of a decompiled body. -/
theorem it_t {α : Sort _} {c : Prop} {dc : Decidable c} {a b z : α} (h : (@ite α c dc a b) = z) (hc : c) : a = z := by
  rw [if_pos hc] at h; exact h
theorem it_f {α : Sort _} {c : Prop} {dc : Decidable c} {a b z : α} (h : (@ite α c dc a b) = z) (hc : ¬ c) : b = z := by
  rw [if_neg hc] at h; exact h
theorem bd_s {α β : Type} {o : Option α} {f : α → Option β} {z : β} (h : o.bind f = some z) : ∃ x, o = some x ∧ f x = some z := Option.bind_eq_some_iff.mp h
theorem no_s {α : Type} {z : α} {P : Prop} (h : (none : Option α) = some z) : P := by cases h
/-- a loop with so many turns at most -/
def lp {α β : Type} (body : (α → Option β) → α → Option β) : Nat → α → Option β
  | 0, _ => none
  | n + 1, a => body (lp body n) a
def FU : Nat := 100000
theorem lp_ind {α β : Type} {body : (α → Option β) → α → Option β} {z : β} {P : α → Prop} (hs : ∀ (k : α → Option β) (v : α), (∀ v', k v' = some z → P v') → body k v = some z → P v) : ∀ (n : Nat) (v : α), lp body n v = some z → P v := by
  intro n
  induction n with
  | zero => intro v h; exact no_s h
  | succ n ih => intro v h; exact hs (lp body n) v ih h
def tw (x y : Nat) : Nat → Nat := fun j => match j with
  | 0 => x
  | _ => y
/-! What a body stands on. -/
/-- the four links between nest mates: words that aren't among TB, but stay -/
def NW (U : State) : Prop := va_Nw (.methodLinkNest R_Rd 99 y_Rn_kindOf R_Rn) U ∧ va_Nw (.methodLinkNest R_Tr 63 y_Rn_kindOf R_Rn) U ∧ va_Nw (.methodLinkNest R_Rn 282 y_Mr_matches R_Rn) U ∧ va_Nw (.methodLinkNest R_Mr 32 y_Rn_kindOf R_Rn) U ∧ va_AO "RecordNode$Bytes" U
def KK (D : va_G) (g : Nat → ClassId) (U : State) : Prop := va_K D vwCl (TY g) U ∧ NW U
theorem KK.moved {D : va_G} {g : Nat → ClassId} {s U : State} (h : KK D g s) (hW : s.WarmedH U.vm) : KK D g U := ⟨va_K.moved hW.alike h.1, va_Nw.warmM hW h.2.1, va_Nw.warmM hW h.2.2.1, va_Nw.warmM hW h.2.2.2.1, va_Nw.warmM hW h.2.2.2.2.1, va_AO.moved hW.alike h.2.2.2.2.2⟩
theorem KK.same {D : va_G} {g : Nat → ClassId} {u U : State} (h : KK D g u) (e : u.vm = U.vm) : KK D g U := ⟨va_K.moved (by rw [e]; exact Vm.Alike.refl U.vm) h.1, va_Nw.same rfl e h.2.1, va_Nw.same rfl e h.2.2.1, va_Nw.same rfl e h.2.2.2.1, va_Nw.same rfl e h.2.2.2.2.1, va_AO.moved (by rw [e]; exact Vm.Alike.refl U.vm) h.2.2.2.2.2⟩
def Cx (p : Program) (s : State) (m : MethodId) (args : Array Value) (meth : Method) (c : Code) (cc : ByteArray) (nL : Nat) (Ts : List Cond) (own : String) (ret : Option FieldType) (D : va_G) (g : Nat → ClassId) : Prop :=
  p.tables.exec = Jvm.exec ∧ c.code = cc ∧ c.maxLocals = nL ∧ s.vm.findClass own = some m.cls ∧ (∀ w ∈ Ts, w.before args s = true) ∧ meth.sig.returnType = ret ∧ meth.locks = false ∧ KK D g s
abbrev PcW (D : va_G) (A : Nat → Prop) (g : Nat → ClassId) (av : List Value) (ws : va_W) : Array Value → State → Prop := va_Pc av (fun U => Iw D A ws U.heap ∧ KK D g U)
abbrev QcI {S : Type} (D : va_G) (A : Nat → Prop) (g : Nat → ClassId) (r : Int32) (ws : S → va_W) : Array Value → State → Outcome → State → Prop := va_Qi (fun (x : Int32) (_ : S) => x = r) (fun u t => Iw D A (ws u) t.heap ∧ KK D g t) A
abbrev QcV {S : Type} (D : va_G) (A : Nat → Prop) (g : Nat → ClassId) (ws : S → va_W) : Array Value → State → Outcome → State → Prop := va_Qv (fun (_ : S) => True) (fun u t => Iw D A (ws u) t.heap ∧ KK D g t) A
abbrev QcA {S : Type} (D : va_G) (A : Nat → Prop) (g : Nat → ClassId) (a : Nat) (ws : S → va_W) : Array Value → State → Outcome → State → Prop := va_Qr (fun (_ : S) => True) (fun u x t => x = a ∧ Iw D A (ws u) t.heap ∧ KK D g t) A
theorem PcW.blind {D : va_G} {A : Nat → Prop} {g : Nat → ClassId} {av : List Value} {ws : va_W} : FrameBlind (PcW D A g av ws) := fun a U gg mk q => by
  obtain ⟨q0, q1, qK⟩ := q
  exact ⟨q0, q1, qK.same rfl⟩
section CLW
variable {p : Program} {l : Launch} {e : Env} {R : Room} {s : State} {m : MethodId} {args : Array Value} {below : List Frame} {meth : Method} {c : Code} {H H0 : Heap} {locs : List Loc} {cells slots : Nat} {Q : State → Prop}
variable {pc : Nat} {ls : Array Slot} {rest : List Value} {D : va_G} {A : Nat → Prop} {g : Nat → ClassId} {ret : Option FieldType} {cc bytes : ByteArray} {nL maxL n index ci q0 : Nat} {Ts ws : List Cond} {own C host : String} {y : MethodName} {rm : Room} {b r' : Nat} {As : List Value} {W0 V : va_W} {S : Type} {V' W1 : S → va_W} {q : vw_C} {fs : List Value} {r : Int32}
/-- behind a call's run: the world has turned to V', seen as W1 -/
theorem cl_i {a : Array Value} {st0 : List Value} (hr : va_Run p l e R s m args below meth c H locs cells slots 0 0 (F0 m pc ls st0) rest (QcI D A g r V' a) A) (hS : va_S A H0 H locs) (hp' : ∀ u, (V' u).Perm (W1 u))
    (kk : ∀ (u : S) (H1 : Heap) (locs1 : List Loc), Iw D A (W1 u) H1 → va_S A H0 H1 locs1 → W p l e R s m args below meth c H1 locs1 cells slots Q (F0 m (pc + 3) ls (.int r :: rest))) : W p l e R s m args below meth c H locs cells slots Q (F0 m pc ls st0) := by
  refine va_calli hr hS (fun q _ h => h) (fun q h => h) (fun x u t H1 locs1 ht hvm h5 hB hz1 hk1 hS => ?_)
  obtain ⟨hI, hK1⟩ := hB
  subst h5
  rw [ht] at hI
  exact kk u H1 locs1 (hI.pm (hp' u)) hS
theorem cl_v {a : Array Value} {st0 : List Value} (hr : va_Run p l e R s m args below meth c H locs cells slots 0 0 (F0 m pc ls st0) rest (QcV D A g V' a) A) (hS : va_S A H0 H locs) (hp' : ∀ u, (V' u).Perm (W1 u))
    (kk : ∀ (u : S) (H1 : Heap) (locs1 : List Loc), Iw D A (W1 u) H1 → va_S A H0 H1 locs1 → W p l e R s m args below meth c H1 locs1 cells slots Q (F0 m (pc + 3) ls rest)) : W p l e R s m args below meth c H locs cells slots Q (F0 m pc ls st0) := by
  refine va_callv hr hS (fun q _ h => h) (fun q h => h) (fun u t H1 locs1 ht hvm h5 hB hz1 hk1 hS => ?_)
  obtain ⟨hI, hK1⟩ := hB
  rw [ht] at hI
  exact kk u H1 locs1 (hI.pm (hp' u)) hS
theorem cl_a {a : Array Value} {st0 : List Value} (hr : va_Run p l e R s m args below meth c H locs cells slots 0 0 (F0 m pc ls st0) rest (QcA D A g r' V' a) A) (hS : va_S A H0 H locs) (hp' : ∀ u, (V' u).Perm (W1 u))
    (kk : ∀ (u : S) (H1 : Heap) (locs1 : List Loc), Iw D A (W1 u) H1 → va_S A H0 H1 locs1 → W p l e R s m args below meth c H1 locs1 cells slots Q (F0 m (pc + 3) ls (.ref r' :: rest))) : W p l e R s m args below meth c H locs cells slots Q (F0 m pc ls st0) := by
  refine va_callr hr hS (fun q _ h => h) (fun q h => h) (fun u ra t H1 locs1 ht hvm h5 hB hz1 hk1 hS => ?_)
  obtain ⟨hra, hI, hK1⟩ := hB
  subst hra
  rw [ht] at hI
  exact kk u H1 locs1 (hI.pm (hp' u)) hS
theorem prV (hK : KK D g s) (hI : Iw D A W0 H) (hp : W0.Perm V) (hc : vwCl[ci]? = some q) (he : V[q0]? = some (b, .inr (ci, fs))) (hC : q.1 = C) : PreV s H C b (PcW D A g (.ref b :: As) V) As := by
  subst hC
  exact ⟨PcW.blind, va_recv hK.1 (hI.pm hp).1 hc he, fun U hU hW => ⟨rfl, by rw [hU]; exact hI.pm hp, hK.moved hW⟩⟩
theorem prS (hK : KK D g s) (hI : Iw D A W0 H) (hp : W0.Perm V) : PreS s H (PcW D A g As V) As :=
  ⟨PcW.blind, fun U hU hW => ⟨rfl, by rw [hU]; exact hI.pm hp, hK.moved hW⟩⟩
end CLW
