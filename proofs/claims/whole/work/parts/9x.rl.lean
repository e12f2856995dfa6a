/-! PURE: what class and model share at rest -/
/-- the same records are kept -/
def rR (R : S_Rs) (s : S_Mo) : Prop := ∃ (room n : Nat) (Nm B : Nat → List Nat) (N : Nat → List Nd), 1 ≤ room ∧ cRs R room n Nm B ∧ mRec s n B N ∧ s.1 0 = nI room ∧ ∀ k, k < n → ∃ e, nmO (N k) = some e ∧ Nm k = nX (N k) e
theorem rR_k {R : S_Rs} {s s' : S_Mo} (h : rR R s) (h0 : s'.1 0 = s.1 0) (h19 : s'.1 19 = s.1 19) (h28 : s'.2 28 = s.2 28) (h29 : s'.2 29 = s.2 29) : rR R s' := by
  obtain ⟨room, n, Nm, B, N, a1, a2, a3, a4, a5⟩ := h
  refine ⟨room, n, Nm, B, N, a1, a2, ?_, h0.trans a4, a5⟩
  unfold mRec at a3 ⊢
  rw [h19, h28, h29]
  exact a3
theorem rR_F {R : S_Rs} {s s' : S_Mo} (h : rR R s) (k : mF1 s s') : rR R s' := rR_k h (k.1 0 (by omega) (by omega) (by omega) (by omega) (by omega)) (k.1 19 (by omega) (by omega) (by omega) (by omega) (by omega)) (k.2 28 (by omega) (by omega)) (k.2 29 (by omega) (by omega))
theorem rR_C {R : S_Rs} {s s' : S_Mo} (h : rR R s) (k : mCl s s') : rR R s' := rR_k h (k.2.2.2.2.2.2.2.1 0 (by omega) (by omega) (by omega) (by omega) (by omega) (by omega) (by omega) (by omega) (by omega) (by omega) (by omega) (by omega)) (k.2.2.2.2.2.2.2.1 19 (by omega) (by omega) (by omega) (by omega) (by omega) (by omega) (by omega) (by omega) (by omega) (by omega) (by omega) (by omega)) (k.2.2.2.2.2.2.2.2 28 (by omega) (by omega)) (k.2.2.2.2.2.2.2.2 29 (by omega) (by omega))
theorem x_store {s0 : S_Rn} {s1 s2 : S_Bs} {s3 : S_Rd} {T : S_Tr} {R : S_Rs} {nd : List Nd} {l1 l2 : List Nat} {s : S_Mo} (hT : tR T nd) (hX : ∀ x ∈ nd, okX x) (hr : nG nd 0 = (0, 254, 0, [])) (h1 : rn s1 301 l1) (h2 : rn s2 16 l2) (hR : rR R s) (hm : mtr s.2 0 nd) : ∃ st s1' s2' R' s', F_Rn_store s0 s1 s2 s3 T R = some (st, s1', s2', R') ∧ F_Mo_store s 1 = B_Mo_store_227 s' st ∧ (∃ l, rn s1' 301 l) ∧ (∃ l, rn s2' 16 l) ∧ rR R' s' ∧ mSF s s' := by
  obtain ⟨room, n, Nm, B, N, a1, a2, a3, a4, a5⟩ := hR
  have b1 := a2.2.1
  have b2 := a2.2.2.1
  obtain ⟨s1', s2', d1, d2, cs⟩ := c_store (s0 := s0) (s3 := s3) hT hX hr h1 (by omega) h2 a2
  have ms := m_store hT.1 hX hr hm a3 a4 b2 b1
  rcases cs with ⟨c1, c2⟩ | ⟨c1, c2, c3⟩ | ⟨e, c1, c2, c3⟩
  · rcases ms with ⟨_, s', e1, e2, e3⟩ | ⟨k, _⟩ | ⟨e, k, _⟩
    · exact ⟨3, s1', s2', R, s', c2, e1, d1, d2, ⟨room, n, Nm, B, N, a1, a2, e3, by rw [e2.1 0 (by omega) (by omega) (by omega) (by omega) (by omega)]; exact a4, a5⟩, e2⟩
    · exact absurd k c1
    · exact absurd ⟨k.2.2.2.1, k.2.2.2.2.2⟩ c1
  · rcases ms with ⟨k, _⟩ | ⟨_, _, s', e1, e2, e3⟩ | ⟨e, _, k, _⟩
    · exact absurd c1 k
    · exact ⟨4, s1', s2', R, s', c3, e1, d1, d2, ⟨room, n, Nm, B, N, a1, a2, e3, by rw [e2.1 0 (by omega) (by omega) (by omega) (by omega) (by omega)]; exact a4, a5⟩, e2⟩
    · rw [c2] at k; cases k
  · rcases ms with ⟨k, _⟩ | ⟨_, k, _⟩ | ⟨e', _, k, ms⟩
    · exact absurd ⟨c1.2.2.2.1, c1.2.2.2.2.2⟩ k
    · rw [c2] at k; cases k
    · rw [c2] at k
      cases k
      have hpl : plF N (nX nd e) n 0 = plN Nm (nX nd e) n 0 := pl_FN n 0 (fun i _ hi => by
        obtain ⟨e2, g1, g2⟩ := a5 i (by omega)
        rw [hasN_O (a3.2.2 i (by omega)).1.1 g1, g2])
      rw [hpl] at ms
      rcases c3 with ⟨p1, p2⟩ | ⟨p1, R', p2, p3⟩
      · rcases ms with ⟨_, s', e1, e2, e3⟩ | ⟨k, _⟩
        · exact ⟨5, s1', s2', R, s', p2, e1, d1, d2, ⟨room, n, Nm, B, N, a1, a2, e3, by rw [e2.1 0 (by omega) (by omega) (by omega) (by omega) (by omega)]; exact a4, a5⟩, e2⟩
        · exact absurd p1 k
      · rcases ms with ⟨k, _⟩ | ⟨_, s', e1, e2, e3⟩
        · exact absurd k p1
        · refine ⟨0, s1', s2', R', s', p2, e1, d1, d2, ⟨room, _, _, _, _, a1, p3, e3, by rw [e2.1 0 (by omega) (by omega) (by omega) (by omega) (by omega)]; exact a4, fun k hk => ?_⟩, e2⟩
          have hple := (plN_le (Nm := Nm) (x := nX nd e) n 0).2.1
          by_cases ck : k = plN Nm (nX nd e) n 0
          · rw [if_pos ck, if_pos ck]
            exact ⟨e, c2, rfl⟩
          · rw [if_neg ck, if_neg ck]
            exact a5 k (by split at hk <;> omega)
/-- the same bytes of a piece are there -/
def rI (I : S_Bs) (s : S_Mo) : Prop := ∃ l, rn I 202 l ∧ s.1 9 = nI l.length ∧ (∀ i, i < l.length → s.2 21 i = nI (l.getD i 0)) ∧ (2 ≤ l.length → l.getD 1 0 ≤ 200 ∧ l.length < 2 + l.getD 1 0)
theorem rI_0 {I : S_Bs} {s : S_Mo} (h : rn I 202 []) (h9 : s.1 9 = nI 0) : rI I s := ⟨[], h, h9, fun i hi => by simp at hi, fun h => by simp at h⟩
/-- how far a message has come -/
def rM (ph : Nat) (C : S_Cs) (M : S_Mg) (P : S_Bs) (s : S_Mo) : Prop :=
  (ph ≠ 2 → s.1 12 = nI 0 ∧ s.1 13 = nI 0 ∧ s.1 14 = nI 0 ∧ (ph ≠ 0 → s.1 15 = mI) ∧ (∃ l, rn P 200 l) ∧ (Mg_stage M = nI 0 ∨ Mg_stage M = nI 2) ∧ (ph ≤ 1 → Mg_stage M = nI 0 ∧ Mg_context M = mI ∧ rn P 200 [])) ∧
  (ph = 2 → ∃ n id sv re l, cxR C s n id sv re ∧ rn P 200 l ∧ Mg_context M = s.1 15 ∧ (s.1 15 = mI ∨ ∃ c, c < n ∧ re c ≤ 1 ∧ s.1 15 = nI c) ∧
    ((Mg_stage M = nI 0 ∧ s.1 12 = nI 0 ∧ s.1 13 = nI l.length ∧ (∀ i, i < l.length → s.2 26 i = nI (l.getD i 0)) ∧ s.1 14 = nI 0) ∨ (Mg_stage M = nI 2 ∧ s.1 12 = nI 1 ∧ s.1 14 = nI l.length ∧ (∀ i, i < l.length → s.2 27 i = nI (l.getD i 0)) ∧ Mg_hasSet M = nI 1 ∧ Mg_kind M = s.1 16 ∧ Mg_number M = s.1 17 ∧ s.1 15 ≠ mI)))
def Rl (s0 : S_Rn) (C : S_Cs) (I : S_Bs) (M : S_Mg) (O : S_Ou) (P : S_Bs) (R : S_Rs) (s : S_Mo) : Prop := ∃ ph tm, ph ≤ 3 ∧ tm ≤ 5 ∧ s0 = (nI ph, nI tm, s.1 18) ∧ s.1 7 = nI ph ∧ s.1 8 = nI tm ∧ rI I s ∧ rO O s ∧ rR R s ∧ rM ph C M P s
/-- code and draft stay -/
def mD (s s' : S_Mo) : Prop := s'.1 1 = s.1 1 ∧ s'.1 2 = s.1 2 ∧ s'.2 0 = s.2 0
theorem mD_t {a b c : S_Mo} (h : mD a b) (k : mD b c) : mD a c := ⟨k.1.trans h.1, k.2.1.trans h.2.1, k.2.2.trans h.2.2⟩
theorem mD_F {a b : S_Mo} (h : mF1 a b) : mD a b := ⟨h.1 1 (by omega) (by omega) (by omega) (by omega) (by omega), h.1 2 (by omega) (by omega) (by omega) (by omega) (by omega), h.2 0 (by omega) (by omega)⟩
theorem mD_C {a b : S_Mo} (k : mCl a b) : mD a b := ⟨k.2.2.2.2.2.2.2.1 1 (by omega) (by omega) (by omega) (by omega) (by omega) (by omega) (by omega) (by omega) (by omega) (by omega) (by omega) (by omega), k.2.2.2.2.2.2.2.1 2 (by omega) (by omega) (by omega) (by omega) (by omega) (by omega) (by omega) (by omega) (by omega) (by omega) (by omega) (by omega), k.2.2.2.2.2.2.2.2 0 (by omega) (by omega)⟩
theorem rl_closed {s0 : S_Rn} {C : S_Cs} {I : S_Bs} {M : S_Mg} {O : S_Ou} {P : S_Bs} {R : S_Rs} {s s' : S_Mo} (h0 : s0 = (0, 0, s.1 18)) (hI : rn I 202 []) (hM : Mg_stage M = nI 0 ∧ Mg_context M = mI) (hP : rn P 200 []) (hO : rO O s') (hR : rR R s) (k : mCl s s') : Rl s0 C I M O P R s' :=
  ⟨0, 0, by omega, by omega, by rw [h0, k.2.2.2.2.2.2.2.1 18 (by omega) (by omega) (by omega) (by omega) (by omega) (by omega) (by omega) (by omega) (by omega) (by omega) (by omega) (by omega)]; rfl, k.1, k.2.1, rI_0 hI k.2.2.1, hO, rR_C hR k, fun _ => ⟨k.2.2.2.1, k.2.2.2.2.1, k.2.2.2.2.2.1, fun _ => k.2.2.2.2.2.2.1, ⟨_, hP⟩, Or.inl hM.1, fun _ => ⟨hM.1, hM.2, hP⟩⟩, fun h => by omega⟩
/-- the model forgets the message -/
theorem m_forget (s : S_Mo) : ∃ s', F_Mo_forget s = some s' ∧ s'.1 12 = nI 0 ∧ s'.1 13 = nI 0 ∧ s'.1 14 = nI 0 ∧ s'.1 15 = mI ∧ (∀ i, i ≠ 12 → i ≠ 13 → i ≠ 14 → i ≠ 15 → s'.1 i = s.1 i) ∧ s'.2 = s.2 := by
  refine ⟨_, rfl, rfl, rfl, rfl, rfl, fun i h12 h13 h14 h15 => ?_, rfl⟩
  show upd (upd (upd (upd s.1 12 0) 13 0) 14 0) 15 (-1) i = s.1 i
  rw [pk_un h15, pk_un h14, pk_un h13, pk_un h12]
theorem x_end {s0 s0' : S_Rn} {C : S_Cs} {I I' : S_Bs} {M M' : S_Mg} {O' : S_Ou} {P P' : S_Bs} {R : S_Rs} {s t : S_Mo} {f : Bool} {n tm : Nat} {id sv re : Nat → Nat} (h : pO s0 s0' I I' M M' P P' s t f) (h0 : s0 = (nI 2, nI tm, s.1 18)) (htm : tm ≤ 5) (h7 : s.1 7 = nI 2) (h8 : s.1 8 = nI tm) (hI : rn I 202 []) (h9 : s.1 9 = nI 0) (hP : ∃ l, rn P 200 l) (hO : rO O' t) (hR : rR R s) (hx : cxR C s n id sv re) : ∃ M'' P'' t', (∀ b can mr nm rd T rd1 T1 R, B_Rn_answer_133 C s0' b can I' mr M' nm O' P' rd T rd1 T1 R = some (s0', b, can, I', mr, M'', nm, O', P'', rd, T, rd1, T1, R)) ∧ B_Mo_answer_148 t = some t' ∧ Rl s0' C I' M'' O' P'' R t' ∧ mD s t' := by
  obtain ⟨t', e1, f1, f2, f3, f4, f5, f6⟩ := m_forget t
  have hP2 : ∃ l, rn P' 200 l := by
    cases f with
    | true => rw [h.2.2.2.1]; exact hP
    | false => exact ⟨_, h.2.2.2.1⟩
  obtain ⟨lq, hP2⟩ := hP2
  obtain ⟨P'', e2, r2⟩ := rn_reset hP2
  have hO2 : rO O' t' := rO_k hO (f5 10 (by omega) (by omega) (by omega) (by omega)) (by rw [f6])
  have hD2 : mD t t' := ⟨f5 1 (by omega) (by omega) (by omega) (by omega), f5 2 (by omega) (by omega) (by omega) (by omega), by rw [f6]⟩
  refine ⟨(0, mI, Mg_kind M', Mg_number M', 0), P'', t', fun b can mr nm rd T rd1 T1 R => ?_, ?_, ?_⟩
  · unfold B_Rn_answer_133
    rw [e2, Option.bind_some, show F_Mg_reset M' = some (0, mI, Mg_kind M', Mg_number M', 0) from rfl, Option.bind_some]
  · unfold B_Mo_answer_148
    rw [e1, Option.bind_some]
  · cases f with
    | false =>
      obtain ⟨z1, z2, z3, z4, z5⟩ := h
      refine ⟨?_, mD_t (mD_C z5) hD2⟩
      have z6 : mCl s t' := ⟨(f5 7 (by omega) (by omega) (by omega) (by omega)).trans z5.1, (f5 8 (by omega) (by omega) (by omega) (by omega)).trans z5.2.1, (f5 9 (by omega) (by omega) (by omega) (by omega)).trans z5.2.2.1, f1, f2, f3, f4, fun i h3 h4 h5 h6 h7 h8 h9 h10 h12 h13 h14 h15 => (f5 i h12 h13 h14 h15).trans (z5.2.2.2.2.2.2.2.1 i h3 h4 h5 h6 h7 h8 h9 h10 h12 h13 h14 h15), fun j hj h22 => by rw [f6]; exact z5.2.2.2.2.2.2.2.2 j hj h22⟩
      exact rl_closed (by rw [z1, h0]; rfl) z2 ⟨rfl, rfl⟩ r2 hO2 hR z6
    | true =>
      obtain ⟨z1, z2, z3, z4, z5⟩ := h
      subst z1 z2 z3 z4
      refine ⟨⟨2, tm, by omega, htm, ?_, ?_, ?_, rI_0 hI ?_, hO2, ?_, fun h => absurd rfl h, fun _ => ⟨n, id, sv, re, [], ?_, r2, f4.symm, Or.inl f4, Or.inl ⟨rfl, f1, f2, fun i hi => by simp at hi, f3⟩⟩⟩, mD_t (mD_F z5) hD2⟩
      · rw [h0, f5 18 (by omega) (by omega) (by omega) (by omega), z5.1 18 (by omega) (by omega) (by omega) (by omega) (by omega)]
      · rw [f5 7 (by omega) (by omega) (by omega) (by omega), z5.1 7 (by omega) (by omega) (by omega) (by omega) (by omega)]; exact h7
      · rw [f5 8 (by omega) (by omega) (by omega) (by omega), z5.1 8 (by omega) (by omega) (by omega) (by omega) (by omega)]; exact h8
      · rw [f5 9 (by omega) (by omega) (by omega) (by omega), z5.1 9 (by omega) (by omega) (by omega) (by omega) (by omega)]; exact h9
      · exact rR_k (rR_F hR z5) (f5 0 (by omega) (by omega) (by omega) (by omega)) (f5 19 (by omega) (by omega) (by omega) (by omega)) (by rw [f6]) (by rw [f6])
      · have := cxR_F hx z5
        unfold cxR at this ⊢
        rw [f6, f5 11 (by omega) (by omega) (by omega) (by omega)]
        exact this
