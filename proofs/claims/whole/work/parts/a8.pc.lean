/-! PURE: a piece, class and model side by side -/
section XPC
variable {s0 : S_Rn} {b I P : S_Bs} {C : S_Cs} {M : S_Mg} {O : S_Ou} {R : S_Rs} {s : S_Mo} {q l : List Nat} {m : Nat}
/-- what is left when a piece was dealt with, the input aside -/
def pcO (R : S_Rs) (s : S_Mo) (o : Option (S_Rn × S_Bs × S_Cs × S_Bs × S_Mg × S_Ou × S_Bs)) (mo : Option S_Mo) : Prop := ∃ s0' b' C' I' M' O' P' s', o = some (s0', b', C', I', M', O', P') ∧ mo = some s' ∧ (∃ l, rn b' 200 l) ∧ (∃ li, rn I' 202 li) ∧ s'.1 9 = nI 0 ∧ Rp s0' C' M' O' P' R s' ∧ mD s s' ∧ (Mg_stage M' = nI 0 ∨ Mg_stage M' = nI 2)
theorem pc_break (h0 : Rn_answered s0 = s.1 18) (hb : ∃ l, rn b 200 l) (hI : ∃ li, rn I 202 li) (h9 : s.1 9 = nI 0) (hP : ∃ lp, rn P 200 lp) (hst : Mg_stage M = nI 0 ∨ Mg_stage M = nI 2) (hO : rO O s) (hR : rR R s) : pcO R s ((F_Rn_breakOff s0 b I M O P).bind fun o1 => some (o1.1, o1.2.1, C, o1.2.2.1, o1.2.2.2.1, o1.2.2.2.2.1, o1.2.2.2.2.2)) ((F_Mo_breakOff s).bind fun o1 => some o1) := by
  obtain ⟨s0', b', I', M', O', P', s', a1, a2, a3, a4, a5, a6, a7, a8, a9⟩ := x_breakOff (C := C) h0 hb hI h9 hP hst hO hR
  exact ⟨s0', b', C, I', M', O', P', s', by rw [a1]; rfl, by rw [a2]; rfl, a3, a4, a5, a6, a7, a8⟩
theorem pc_release (h0 : Rn_answered s0 = s.1 18) (hb : ∃ l, rn b 200 l) (hI : ∃ li, rn I 202 li) (h9 : s.1 9 = nI 0) (hP : ∃ lp, rn P 200 lp) (hst : Mg_stage M = nI 0 ∨ Mg_stage M = nI 2) (hO : rO O s) (hR : rR R s) : pcO R s ((F_Rn_release s0 b I M O P).bind fun o1 => some (o1.1, o1.2.1, C, o1.2.2.1, o1.2.2.2.1, o1.2.2.2.2.1, o1.2.2.2.2.2)) (B_Mo_piece_62 s) := by
  obtain ⟨lb, hb⟩ := hb
  obtain ⟨b', e1, r1⟩ := rn_reset hb
  obtain ⟨m1, o1⟩ := mk_0 s
  have k1 := mK_M o1
  have f1 := mF1_k k1
  obtain ⟨s0', I', M', O', P', s', a1, a2, a3, a4, a5, a6, a7, a8⟩ := x_sendEnd (C := C) (t := 6) (s0 := s0) (M := M) (s := Mo_set_makes s 0) h0 r1 m1 hI h9 hP hst (rO_K hO k1) (rR_F hR f1)
  refine ⟨s0', b', C, I', M', O', P', s', ?_, ?_, ⟨_, r1⟩, a3, a4, a5, mD_t (mD_F f1) a6, a7⟩
  · rw [show F_Rn_release s0 b I M O P = some (s0', b', I', M', O', P') by
      unfold F_Rn_release B_Rn_release_0
      rw [e1, Option.bind_some]
      exact a1]
    rfl
  · unfold B_Mo_piece_62
    exact a2
theorem pc_refuse {x : Nat} (hx : x < 256) (h0 : Rn_answered s0 = s.1 18) (hb : ∃ l, rn b 200 l) (hI : ∃ li, rn I 202 li) (h9 : s.1 9 = nI 0) (hP : ∃ lp, rn P 200 lp) (hst : Mg_stage M = nI 0 ∨ Mg_stage M = nI 2) (hO : rO O s) (hR : rR R s) : pcO R s ((F_Rn_refuse s0 b I M O P (nI x)).bind fun o1 => some (o1.1, o1.2.1, C, o1.2.2.1, o1.2.2.2.1, o1.2.2.2.2.1, o1.2.2.2.2.2)) (B_Mo_request_43 (Mo_set_makes s 0) (nI x)) := by
  obtain ⟨lb, hb⟩ := hb
  obtain ⟨b1, e1, r1⟩ := rn_reset hb
  obtain ⟨b', e2, r2⟩ := rn_append' r1 (by simp) hx
  obtain ⟨m1, o1⟩ := mk_0 s
  obtain ⟨s1, e3, m3, o3⟩ := m_make (x := x) m1 (by simp)
  have oo := mOM_t o1 o3
  have k1 := mK_M oo
  have f1 := mF1_k k1
  obtain ⟨s0', I', M', O', P', s', a1, a2, a3, a4, a5, a6, a7, a8⟩ := x_sendEnd (C := C) (t := 3) (s0 := s0) (M := M) (s := s1) (by rw [oo.1 18 (by omega)]; exact h0) r2 m3 hI (by rw [oo.1 9 (by omega)]; exact h9) hP hst (rO_K hO k1) (rR_F hR f1)
  refine ⟨s0', b', C, I', M', O', P', s', ?_, ?_, ⟨_, r2⟩, a3, a4, a5, mD_t (mD_F f1) a6, a7⟩
  · rw [show F_Rn_refuse s0 b I M O P (nI x) = some (s0', b', I', M', O', P') by
      unfold F_Rn_refuse B_Rn_refuse_0
      rw [e1, Option.bind_some, e2, Option.bind_some]
      exact a1]
    rfl
  · unfold B_Mo_request_43
    rw [e3, Option.bind_some]
    exact a2
theorem pc_accept {a : Nat} (hq : rn I 202 q) (hqm : q.length = 3 * a + 4) (ha : a ≤ 4) (hC : csC C a q) (h21 : ∀ i, i < q.length → s.2 21 i = nI (q.getD i 0)) (h0 : Rn_answered s0 = s.1 18) (hb : ∃ l, rn b 200 l) (h9 : s.1 9 = nI 0) (hP : rn P 200 []) (hst : Mg_stage M = nI 0) (hct : Mg_context M = mI) (hO : rO O s) (hR : rR R s) : pcO R s ((F_Rn_accept s0 b C I M O P).bind fun o1 => some (o1.1, o1.2.1, C, o1.2.2.1, o1.2.2.2.1, o1.2.2.2.2.1, o1.2.2.2.2.2)) (L_Mo_request_71 (Mo_set_contexts (Mo_set_makes s 0) (nI a), 0)) := by
  obtain ⟨lb, hb⟩ := hb
  obtain ⟨b1, e1, r1⟩ := rn_reset hb
  obtain ⟨b', e2, r2⟩ := c_acLoop (s0 := s0) (I := I) (P := P) (M := M) (O := O) hq.2 hC ha a 0 FU b1 [] (by omega) (by unfold FU; omega) r1 (by simp; omega)
  rw [List.nil_append] at r2
  obtain ⟨m1, o1⟩ := mk_0 s
  obtain ⟨s1, hs1⟩ : ∃ s1, s1 = Mo_set_contexts (Mo_set_makes s 0) (nI a) := ⟨_, rfl⟩
  have w11 : s1.1 11 = nI a := by rw [hs1]; exact pk_us (f := (Mo_set_makes s 0).1) (k := 11)
  have w1 : ∀ i, i ≠ 6 → i ≠ 11 → s1.1 i = s.1 i := fun i h6 h11 => by
    rw [hs1]
    show upd (Mo_set_makes s 0).1 11 _ i = _
    rw [pk_un h11, o1.1 i h6]
  have w6 : s1.1 6 = (Mo_set_makes s 0).1 6 := by rw [hs1]; exact pk_un (f := (Mo_set_makes s 0).1) (k := 11) (j := 6) (x := nI a) (by omega)
  have w2 : s1.2 = s.2 := by rw [hs1]; rfl
  obtain ⟨s2, e3, g1, g2, g3, g4⟩ := m_rqLoop hq.2 hqm ha a 0 FU s1 [] (by omega) (by unfold FU; omega) (fun i hi => by rw [w2]; exact h21 i hi) w11 ⟨m1.1, by rw [w6]; exact m1.2.1, fun i hi => by simp at hi⟩ (by simp; omega) (fun k hk => by omega)
  rw [List.nil_append] at g1
  have u : ∀ i, i ≠ 6 → i ≠ 11 → s2.1 i = s.1 i := fun i h6 h11 => (g2 i h6).trans (w1 i h6 h11)
  have u2 : ∀ j, j ≠ 20 → j ≠ 23 → j ≠ 24 → j ≠ 25 → s2.2 j = s.2 j := fun j a b c d => (g4 j a b c d).trans (by rw [w2])
  have hO2 : rO O s2 := rO_k hO (u 10 (by omega) (by omega)) (u2 22 (by omega) (by omega) (by omega) (by omega))
  have hR2 : rR R s2 := rR_k hR (u 0 (by omega) (by omega)) (u 19 (by omega) (by omega)) (u2 28 (by omega) (by omega) (by omega) (by omega)) (u2 29 (by omega) (by omega) (by omega) (by omega))
  have hD2 : mD s s2 := ⟨u 1 (by omega) (by omega), u 2 (by omega) (by omega), u2 0 (by omega) (by omega) (by omega) (by omega)⟩
  obtain ⟨f, s0', I', M', O', P', s3, p1, p2, p3, p4, p5⟩ := x_put (t := 2) (s0 := s0) (M := M) r2 ⟨_, hq⟩ ⟨_, hP⟩ hO2 g1
  have cl : F_Rn_accept s0 b C I M O P = B_Rn_accept_56 C s0 b' I M O P := by
    unfold F_Rn_accept B_Rn_accept_0
    rw [e1, Option.bind_some]
    exact e2
  have mo : L_Mo_request_71 (Mo_set_contexts (Mo_set_makes s 0) (nI a), 0) = B_Mo_request_198 s2 := by
    rw [← hs1]
    exact e3
  rw [cl, mo]
  unfold B_Rn_accept_56 B_Mo_request_198
  rw [show F_Rn_put s0 b' I M O P (2 : Int32) = _ from p1, Option.bind_some, show F_Mo_sends s2 (2 : Int32) = _ from p2, Option.bind_some]
  cases f with
  | false =>
    obtain ⟨y1, y2, y3, y4⟩ := rp_closed (C := C) p4 (by rw [u 18 (by omega) (by omega)]; exact h0) p3 hR2
    exact ⟨s0', b', C, I', M', O', P', s3, rfl, rfl, ⟨_, r2⟩, ⟨_, y2⟩, y3, y1, mD_t hD2 y4, by rw [p4.2.2.1]; exact .inl rfl⟩
  | true =>
    obtain ⟨z1, z2, z3, z4, z5⟩ := p4
    subst z1 z2 z3 z4
    obtain ⟨s', k1, k2, k3, k4, k5, k6, k7, k8, k9⟩ := m_comesTo s3 2 (by omega)
    rw [if_pos rfl] at k3
    have k : ∀ i, i ≠ 3 → i ≠ 4 → i ≠ 5 → i ≠ 6 → i ≠ 10 → i ≠ 11 → i ≠ 7 → i ≠ 8 → i ≠ 12 → i ≠ 13 → i ≠ 14 → i ≠ 15 → s'.1 i = s.1 i := fun i a b c d e e' f g h i' j k => ((k8 i f g h i' j k).trans (z5.1 i a b c d e)).trans (u i d e')
    refine ⟨(nI 2, nI 0, Rn_answered s0'), b', C, I', M', O', P', s', ?_, ?_, ⟨_, r2⟩, ⟨_, hq⟩, ?_, ⟨2, 0, by omega, by omega, ?_, k2, k3, ?_, ?_, fun h => absurd rfl h, fun _ => ⟨a, qI q, qS q, qR q, [], ⟨ha, hC.1, ?_, fun i hi => ?_⟩, hP, by rw [k7]; exact hct, .inl k7, .inl ⟨hst, k4, k5, fun i hi => by simp at hi, k6⟩⟩⟩, ⟨?_, ?_, ?_⟩, .inl hst⟩
    · rfl
    · show (if (if true = true then (1 : Int32) else 0) = 0 then _ else B_Mo_request_206 s3) = _
      rw [if_neg (by decide)]
      unfold B_Mo_request_206
      rw [show F_Mo_comesTo s3 (2 : Int32) = _ from k1]
      rfl
    · rw [k 9 (by omega) (by omega) (by omega) (by omega) (by omega) (by omega) (by omega) (by omega) (by omega) (by omega) (by omega) (by omega)]; exact h9
    · rw [k 18 (by omega) (by omega) (by omega) (by omega) (by omega) (by omega) (by omega) (by omega) (by omega) (by omega) (by omega) (by omega), h0]
    · exact rO_k p3 (k8 10 (by omega) (by omega) (by omega) (by omega) (by omega) (by omega)) (by rw [k9])
    · exact rR_k (rR_F hR2 z5) (k8 0 (by omega) (by omega) (by omega) (by omega) (by omega) (by omega)) (k8 19 (by omega) (by omega) (by omega) (by omega) (by omega) (by omega)) (by rw [k9]) (by rw [k9])
    · rw [k8 11 (by omega) (by omega) (by omega) (by omega) (by omega) (by omega), z5.1 11 (by omega) (by omega) (by omega) (by omega) (by omega), g2 11 (by omega)]; exact w11
    · rw [k9, z5.2 23 (by omega) (by omega), z5.2 24 (by omega) (by omega), z5.2 25 (by omega) (by omega)]
      have t := g3 i hi
      have t2 := hC.2 i hi
      exact ⟨hq.2 _, hq.2 _, reO_le _ _, t2.1, t.1, t2.2.1, t.2.1, t2.2.2, t.2.2⟩
    · exact k 1 (by omega) (by omega) (by omega) (by omega) (by omega) (by omega) (by omega) (by omega) (by omega) (by omega) (by omega) (by omega)
    · exact k 2 (by omega) (by omega) (by omega) (by omega) (by omega) (by omega) (by omega) (by omega) (by omega) (by omega) (by omega) (by omega)
    · rw [k9]; exact (z5.2 0 (by omega) (by omega)).trans (u2 0 (by omega) (by omega) (by omega) (by omega))
end XPC
