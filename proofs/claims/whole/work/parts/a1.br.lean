/-! PURE: how an association ends, class and model side by side -/
/-- what they share, the input aside -/
def Rp (s0 : S_Rn) (C : S_Cs) (M : S_Mg) (O : S_Ou) (P : S_Bs) (R : S_Rs) (s : S_Mo) : Prop := ∃ ph tm, ph ≤ 3 ∧ tm ≤ 5 ∧ s0 = (nI ph, nI tm, s.1 18) ∧ s.1 7 = nI ph ∧ s.1 8 = nI tm ∧ rO O s ∧ rR R s ∧ rM ph C M P s
theorem rp_l {s0 : S_Rn} {C : S_Cs} {I : S_Bs} {M : S_Mg} {O : S_Ou} {P : S_Bs} {R : S_Rs} {s : S_Mo} (h : Rp s0 C M O P R s) (hI : rI I s) : Rl s0 C I M O P R s := by
  obtain ⟨ph, tm, a1, a2, a3, a4, a5, a6, a7, a8⟩ := h
  exact ⟨ph, tm, a1, a2, a3, a4, a5, hI, a6, a7, a8⟩
theorem rl_p {s0 : S_Rn} {C : S_Cs} {I : S_Bs} {M : S_Mg} {O : S_Ou} {P : S_Bs} {R : S_Rs} {s : S_Mo} (h : Rl s0 C I M O P R s) : Rp s0 C M O P R s ∧ rI I s := by
  obtain ⟨ph, tm, a1, a2, a3, a4, a5, hI, a6, a7, a8⟩ := h
  exact ⟨⟨ph, tm, a1, a2, a3, a4, a5, a6, a7, a8⟩, hI⟩
theorem m_comesTo (s : S_Mo) (x : Nat) (hx : x = 1 ∨ x = 2 ∨ x = 3) : ∃ s', F_Mo_comesTo s (nI x) = some s' ∧ s'.1 7 = nI x ∧ s'.1 8 = nI (if x = 2 then 0 else 5) ∧ s'.1 12 = nI 0 ∧ s'.1 13 = nI 0 ∧ s'.1 14 = nI 0 ∧ s'.1 15 = mI ∧ (∀ i, i ≠ 7 → i ≠ 8 → i ≠ 12 → i ≠ 13 → i ≠ 14 → i ≠ 15 → s'.1 i = s.1 i) ∧ s'.2 = s.2 := by
  obtain ⟨s', e, f1, f2, f3, f4, f5, f6⟩ := m_forget (Mo_set_timer (Mo_set_line s (nI x)) (nI (if x = 2 then 0 else 5)))
  refine ⟨s', ?_, ?_, ?_, f1, f2, f3, f4, fun i h7 h8 h12 h13 h14 h15 => ?_, f6⟩
  · unfold F_Mo_comesTo B_Mo_comesTo_0
    have fin : ∀ y, y = nI (if x = 2 then 0 else 5) → B_Mo_comesTo_16 (Mo_set_line s (nI x)) y = some s' := by
      intro y hy
      unfold B_Mo_comesTo_16
      rw [hy, e, Option.bind_some]
    by_cases c : x = 2
    · rw [if_pos (by rw [c]; rfl)]
      exact fin 0 (by rw [if_pos c]; rfl)
    · rw [if_neg (by rw [show (2 : Int32) = nI 2 from rfl, z_eq (by omega) (by omega)]; exact c)]
      exact fin 5 (by rw [if_neg c]; rfl)
  · rw [f5 7 (by omega) (by omega) (by omega) (by omega)]
    show upd (upd s.1 7 (nI x)) 8 (nI (if x = 2 then 0 else 5)) 7 = _
    rw [pk_un (by omega), pk_us]
  · rw [f5 8 (by omega) (by omega) (by omega) (by omega)]
    show upd (upd s.1 7 (nI x)) 8 (nI (if x = 2 then 0 else 5)) 8 = _
    rw [pk_us]
  · rw [f5 i h12 h13 h14 h15]
    show upd (upd s.1 7 (nI x)) 8 (nI (if x = 2 then 0 else 5)) i = _
    rw [pk_un h8, pk_un h7]
section XBR
variable {s0 : S_Rn} {b I P : S_Bs} {C : S_Cs} {M : S_Mg} {O : S_Ou} {R : S_Rs} {s : S_Mo} {l : List Nat} {t : Nat}
theorem rp_closed {s0' : S_Rn} {I' P' : S_Bs} {M' : S_Mg} {O' : S_Ou} {s' : S_Mo} (h : pO s0 s0' I I' M M' P P' s s' false) (h0 : Rn_answered s0 = s.1 18) (hO : rO O' s') (hR : rR R s) : Rp s0' C M' O' P' R s' ∧ rn I' 202 [] ∧ s'.1 9 = nI 0 ∧ mD s s' := by
  obtain ⟨z1, z2, z3, z4, z5⟩ := h
  have := rl_closed (s0 := s0') (C := C) (M := M') (I := I') (P := P') (O := O') (s := s) (s' := s') (by rw [z1, h0]) z2 ⟨by rw [z3]; rfl, by rw [z3]; rfl⟩ z4 hO hR z5
  exact ⟨(rl_p this).1, z2, z5.2.2.1, mD_C z5⟩
/-- a last piece goes out, and the line ends -/
theorem x_sendEnd (h0 : Rn_answered s0 = s.1 18) (hb : rn b 200 l) (hM : mM s l) (hI : ∃ li, rn I 202 li) (h9 : s.1 9 = nI 0) (hP : ∃ lp, rn P 200 lp) (hst : Mg_stage M = nI 0 ∨ Mg_stage M = nI 2) (hO : rO O s) (hR : rR R s) : ∃ s0' I' M' O' P' s', ((F_Rn_put s0 b I M O P (nI t)).bind fun o => if o.1 = 0 then some (o.2.1, b, o.2.2.1, o.2.2.2.1, o.2.2.2.2.1, o.2.2.2.2.2) else (F_Rn_begin o.2.1 (3 : Int32)).bind fun o1 => some (o1, b, o.2.2.1, o.2.2.2.1, o.2.2.2.2.1, o.2.2.2.2.2)) = some (s0', b, I', M', O', P') ∧ ((F_Mo_sends s (nI t)).bind fun o => if o.1 = 0 then some o.2 else (F_Mo_comesTo o.2 (3 : Int32)).bind fun x => some x) = some s' ∧ (∃ li, rn I' 202 li) ∧ s'.1 9 = nI 0 ∧ Rp s0' C M' O' P' R s' ∧ mD s s' ∧ (Mg_stage M' = nI 0 ∨ Mg_stage M' = nI 2) ∧ (rn I 202 [] → rn I' 202 []) := by
  obtain ⟨f, s0', I', M', O', P', s1, e1, e2, e3, e4, e5⟩ := x_put (t := t) (s0 := s0) (M := M) hb hI hP hO hM
  rw [e1, e2, Option.bind_some, Option.bind_some]
  cases f with
  | false =>
    obtain ⟨y1, y2, y3, y4⟩ := rp_closed (C := C) e4 h0 e3 hR
    exact ⟨s0', I', M', O', P', s1, if_pos rfl, if_pos rfl, ⟨_, y2⟩, y3, y1, y4, by rw [e4.2.2.1]; exact .inl rfl, fun _ => y2⟩
  | true =>
    obtain ⟨z1, z2, z3, z4, z5⟩ := e4
    subst z1 z2 z3 z4
    obtain ⟨s', g1, g2, g3, g4, g5, g6, g7, g8, g9⟩ := m_comesTo s1 3 (by omega)
    rw [if_neg (by omega)] at g3
    have k : ∀ i, i ≠ 3 → i ≠ 4 → i ≠ 5 → i ≠ 6 → i ≠ 10 → i ≠ 7 → i ≠ 8 → i ≠ 12 → i ≠ 13 → i ≠ 14 → i ≠ 15 → s'.1 i = s.1 i := fun i a b c d e f g h i' j k => (g8 i f g h i' j k).trans (z5.1 i a b c d e)
    refine ⟨(nI 3, nI 5, Rn_answered s0'), I', M', O', P', s', ?_, ?_, hI, ?_, ⟨3, 5, by omega, by omega, ?_, g2, g3, ?_, ?_, fun _ => ⟨g4, g5, g6, fun _ => g7, hP, hst, fun h => by omega⟩, fun h => by omega⟩, ⟨?_, ?_, ?_⟩, hst, fun h => h⟩
    · exact if_neg (show ¬ (if true = true then (1 : Int32) else 0) = 0 by decide)
    · show (if (if true = true then (1 : Int32) else 0) = 0 then _ else _) = _
      rw [if_neg (by decide), show F_Mo_comesTo (1, s1).2 (3 : Int32) = _ from g1]
      rfl
    · rw [k 9 (by omega) (by omega) (by omega) (by omega) (by omega) (by omega) (by omega) (by omega) (by omega) (by omega) (by omega)]; exact h9
    · rw [k 18 (by omega) (by omega) (by omega) (by omega) (by omega) (by omega) (by omega) (by omega) (by omega) (by omega) (by omega), h0]
    · exact rO_k e3 (g8 10 (by omega) (by omega) (by omega) (by omega) (by omega) (by omega)) (by rw [g9])
    · exact rR_k (rR_F hR z5) (g8 0 (by omega) (by omega) (by omega) (by omega) (by omega) (by omega)) (g8 19 (by omega) (by omega) (by omega) (by omega) (by omega) (by omega)) (by rw [g9]) (by rw [g9])
    · exact k 1 (by omega) (by omega) (by omega) (by omega) (by omega) (by omega) (by omega) (by omega) (by omega) (by omega) (by omega)
    · exact k 2 (by omega) (by omega) (by omega) (by omega) (by omega) (by omega) (by omega) (by omega) (by omega) (by omega) (by omega)
    · rw [g9]; exact z5.2 0 (by omega) (by omega)
theorem mk_0 (s : S_Mo) : mM (Mo_set_makes s 0) [] ∧ mOM s (Mo_set_makes s 0) := ⟨⟨by simp, pk_us (f := s.1) (k := 6) (x := 0), fun i hi => by simp at hi⟩, fun i hi => pk_un (f := s.1) (k := 6) (x := 0) hi, fun _ _ => rfl⟩
theorem x_breakOff (h0 : Rn_answered s0 = s.1 18) (hb : ∃ l, rn b 200 l) (hI : ∃ li, rn I 202 li) (h9 : s.1 9 = nI 0) (hP : ∃ lp, rn P 200 lp) (hst : Mg_stage M = nI 0 ∨ Mg_stage M = nI 2) (hO : rO O s) (hR : rR R s) : ∃ s0' b' I' M' O' P' s', F_Rn_breakOff s0 b I M O P = some (s0', b', I', M', O', P') ∧ F_Mo_breakOff s = some s' ∧ (∃ l, rn b' 200 l) ∧ (∃ li, rn I' 202 li) ∧ s'.1 9 = nI 0 ∧ Rp s0' C M' O' P' R s' ∧ mD s s' ∧ (Mg_stage M' = nI 0 ∨ Mg_stage M' = nI 2) ∧ (rn I 202 [] → rn I' 202 []) := by
  obtain ⟨lb, hb⟩ := hb
  obtain ⟨b', e1, r1⟩ := rn_reset hb
  obtain ⟨m1, o1⟩ := mk_0 s
  have k1 := mK_M o1
  have f1 := mF1_k k1
  obtain ⟨s0', I', M', O', P', s', a1, a2, a3, a4, a5, a6, a7⟩ := x_sendEnd (C := C) (t := 7) (s0 := s0) (M := M) (s := Mo_set_makes s 0) h0 r1 m1 hI h9 hP hst (rO_K hO k1) (rR_F hR f1)
  refine ⟨s0', b', I', M', O', P', s', ?_, ?_, ⟨_, r1⟩, a3, a4, a5, mD_t (mD_F f1) a6, a7⟩
  · unfold F_Rn_breakOff B_Rn_breakOff_0
    rw [e1, Option.bind_some]
    exact a1
  · unfold F_Mo_breakOff B_Mo_breakOff_0
    exact a2
end XBR
