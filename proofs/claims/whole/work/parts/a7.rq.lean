/-! PURE: a request is answered -/
def acB (q : List Nat) (i j : Nat) : List Nat := (List.range' i j).flatMap (fun k => [qI q k, qR q k])
theorem acB_s {q : List Nat} {i j : Nat} : acB q i (j + 1) = [qI q i, qR q i] ++ acB q (i + 1) j := by
  unfold acB
  rw [List.range'_succ, List.flatMap_cons]
theorem acB_len {q : List Nat} : ∀ (j i : Nat), (acB q i j).length = 2 * j
  | 0, i => rfl
  | j + 1, i => by
    rw [acB_s, List.length_append, acB_len j (i + 1)]
    simp
    omega
section CAC
variable {s0 : S_Rn} {I P : S_Bs} {C : S_Cs} {M : S_Mg} {O : S_Ou} {q : List Nat} {n : Nat}
theorem c_acLoop (h8 : ∀ i, q.getD i 0 < 256) (hC : csC C n q) (hn : n ≤ 4) : ∀ (j i fu : Nat) (b : S_Bs) (l : List Nat), i + j = n → j < fu → rn b 200 l → l.length + 2 * j ≤ 200 → ∃ b', lp (fun k9 v => B_Rn_accept_9  k9 C v.1 v.2.1 v.2.2.1 v.2.2.2.1 v.2.2.2.2.1 v.2.2.2.2.2.1 v.2.2.2.2.2.2) fu (s0, b, I, M, O, P, nI i) = B_Rn_accept_56 C s0 b' I M O P ∧ rn b' 200 (l ++ acB q i j) := by
  have hx := csC_x h8 hC hn
  intro j
  induction j with
  | zero =>
    intro i fu b l hi hf hb hl
    obtain ⟨fu', rfl⟩ : ∃ fu', fu = fu' + 1 := ⟨fu - 1, by omega⟩
    refine ⟨b, ?_, by rw [show acB q i 0 = [] from rfl, List.append_nil]; exact hb⟩
    rw [lp_s]
    show B_Rn_accept_9 _ C s0 b I M O P (nI i) = _
    unfold B_Rn_accept_9
    rw [show F_Cs_count C = some (nI n) by show some (Cs_count C) = _; rw [hC.1], Option.bind_some, if_pos (by rw [z_le (by omega) (by omega)]; omega)]
  | succ j ih =>
    intro i fu b l hi hf hb hl
    obtain ⟨fu', rfl⟩ : ∃ fu', fu = fu' + 1 := ⟨fu - 1, by omega⟩
    obtain ⟨b1, e1, r1⟩ := rn_append' hb (by omega) (show qI q i < 256 from h8 _)
    obtain ⟨b2, e2, r2⟩ := rn_append' r1 (by simp; omega) (show qR q i < 256 by have := reO_le (qS q i) (q.getD (6 + 3 * i) 0); unfold qR; omega)
    obtain ⟨b', e', r'⟩ := ih (i + 1) fu' b2 _ (by omega) (by omega) r2 (by simp; omega)
    refine ⟨b', ?_, by rw [acB_s]; simpa using r'⟩
    rw [lp_s]
    show B_Rn_accept_9 (lp (fun k9 v => B_Rn_accept_9  k9 C v.1 v.2.1 v.2.2.1 v.2.2.2.1 v.2.2.2.2.1 v.2.2.2.2.2.1 v.2.2.2.2.2.2) fu') C s0 b I M O P (nI i) = _
    generalize lp (fun k9 v => B_Rn_accept_9  k9 C v.1 v.2.1 v.2.2.1 v.2.2.2.1 v.2.2.2.2.1 v.2.2.2.2.2.1 v.2.2.2.2.2.2) fu' = K at e' ⊢
    unfold B_Rn_accept_9
    rw [show F_Cs_count C = some (nI n) by show some (Cs_count C) = _; rw [hC.1], Option.bind_some, if_neg (by rw [z_le (by omega) (by omega)]; omega)]
    unfold B_Rn_accept_20
    rw [cs_id hx (by omega), Option.bind_some, e1, Option.bind_some, cs_result hx (by omega), Option.bind_some, e2, Option.bind_some, nI_1]
    exact e'
end CAC
section MRQ
variable {s : S_Mo} {q l : List Nat} {a i : Nat}
theorem m_rqStep (h8 : ∀ i, q.getD i 0 < 256) (h21 : ∀ i, i < q.length → s.2 21 i = nI (q.getD i 0)) (hq : q.length = 3 * a + 4) (ha : a ≤ 4) (hi : i < a) (h11 : s.1 11 = nI a) (hM : mM s l) (hl : l.length ≤ 20) : ∃ s', (∀ K, B_Mo_request_71 K s (nI i) = K (s', nI (i + 1))) ∧ mM s' (l ++ [qI q i, qR q i]) ∧ (∀ j, j ≠ 6 → s'.1 j = s.1 j) ∧ s'.2 23 = upd (s.2 23) i (nI (qI q i)) ∧ s'.2 24 = upd (s.2 24) i (nI (qS q i)) ∧ s'.2 25 = upd (s.2 25) i (nI (qR q i)) ∧ ∀ j, j ≠ 20 → j ≠ 23 → j ≠ 24 → j ≠ 25 → s'.2 j = s.2 j := by
  obtain ⟨s1, hs1⟩ : ∃ s1, s1 = Mo_set_services (Mo_set_ids s (upd (Mo_ids s) i (nI (qI q i)))) (upd (Mo_services (Mo_set_ids s (upd (Mo_ids s) i (nI (qI q i))))) i (nI (qS q i))) := ⟨_, rfl⟩
  have w1 : s1.1 = s.1 := by rw [hs1]; rfl
  have w23 : s1.2 23 = upd (s.2 23) i (nI (qI q i)) := by rw [hs1]; rfl
  have w24 : s1.2 24 = upd (s.2 24) i (nI (qS q i)) := by rw [hs1]; rfl
  have w2 : ∀ j, j ≠ 23 → j ≠ 24 → s1.2 j = s.2 j := fun j h3 h4 => by
    rw [hs1]
    show ua (ua s.2 23 _) 24 _ j = _
    rw [ua_n h4, ua_n h3]
  obtain ⟨s2, hs2⟩ : ∃ s2, s2 = Mo_set_results s1 (upd (Mo_results s1) i (nI (qR q i))) := ⟨_, rfl⟩
  have v1 : s2.1 = s.1 := by rw [hs2]; exact w1
  have v25 : s2.2 25 = upd (s.2 25) i (nI (qR q i)) := by rw [hs2]; show upd (s1.2 25) i _ = _; rw [w2 25 (by omega) (by omega)]
  have v2 : ∀ j, j ≠ 25 → s2.2 j = s1.2 j := fun j h5 => by rw [hs2]; exact ua_n h5
  have hM2 : mM s2 l := ⟨hM.1, by rw [v1]; exact hM.2.1, fun k hk => by rw [v2 20 (by omega), w2 20 (by omega) (by omega)]; exact hM.2.2 k hk⟩
  obtain ⟨s3, e3, m3, o3⟩ := m_make (x := qI q i) hM2 (by omega)
  obtain ⟨s4, e4, m4, o4⟩ := m_make (x := qR q i) m3 (by simp; omega)
  have oo := mOM_t o3 o4
  refine ⟨s4, fun K => ?_, by simpa using m4, fun j h6 => by rw [oo.1 j h6, v1], by rw [oo.2 23 (by omega), v2 23 (by omega), w23], by rw [oo.2 24 (by omega), v2 24 (by omega), w24], by rw [oo.2 25 (by omega), v25], fun j h20 h23 h24 h25 => by rw [oo.2 j h20, v2 j h25, w2 j h23 h24]⟩
  have i0 : ¬ (nI i < 0 ∨ 4 ≤ (nI i).toNatClampNeg) := by rw [z_cl (by omega), show (0 : Int32) = nI 0 from rfl, z_lt (by omega) (by omega)]; omega
  have e171 : B_Mo_request_171 K s1 (nI i) (nI (qR q i)) (nI i) = K (s4, nI (i + 1)) := by
    unfold B_Mo_request_171
    rw [if_neg i0, if_neg i0, z_cl (by omega), ← hs2, show Mo_ids s2 i = nI (qI q i) by show s2.2 23 i = _; rw [v2 23 (by omega), w23, pk_us], e3, Option.bind_some, if_neg (by rw [show (0 : Int32) = nI 0 from rfl, z_lt (by omega) (by omega)]; omega), show Mo_results s3 i = nI (qR q i) by show s3.2 25 i = _; rw [o3.2 25 (by omega), v25, pk_us], e4, Option.bind_some, nI_1]
  have a4 : (4 : Int32) + (3 : Int32) * nI i = nI (4 + 3 * i) := by rw [show (3 : Int32) * nI i = nI (3 * i) from z_mu 3 i]; exact z_ad 4 _
  have a5 : (5 : Int32) + (3 : Int32) * nI i = nI (5 + 3 * i) := by rw [show (3 : Int32) * nI i = nI (3 * i) from z_mu 3 i]; exact z_ad 5 _
  have a6 : (6 : Int32) + (3 : Int32) * nI i = nI (6 + 3 * i) := by rw [show (3 : Int32) * nI i = nI (3 * i) from z_mu 3 i]; exact z_ad 6 _
  unfold B_Mo_request_71
  rw [show Mo_contexts s = nI a from h11, if_neg (by rw [z_le (by omega) (by omega)]; omega)]
  unfold B_Mo_request_79
  rw [a4, a5, a6, if_neg (by rw [z_cl (by omega), show (0 : Int32) = nI 0 from rfl, z_lt (by omega) (by omega)]; omega), if_neg i0, if_neg (by rw [z_cl (by omega), show (0 : Int32) = nI 0 from rfl, z_lt (by omega) (by omega)]; omega), if_neg i0, if_neg (by rw [z_cl (by omega), show (0 : Int32) = nI 0 from rfl, z_lt (by omega) (by omega)]; omega), if_neg i0]
  rw [show (nI (4 + 3 * i)).toNatClampNeg = 4 + 3 * i from z_cl (by omega), show (nI (5 + 3 * i)).toNatClampNeg = 5 + 3 * i from z_cl (by omega), show (nI (6 + 3 * i)).toNatClampNeg = 6 + 3 * i from z_cl (by omega), show (nI i).toNatClampNeg = i from z_cl (by omega)]
  rw [show Mo_input s (4 + 3 * i) = nI (qI q i) from h21 _ (by omega)]
  rw [show Mo_input (Mo_set_ids s (upd (Mo_ids s) i (nI (qI q i)))) (5 + 3 * i) = nI (qS q i) from h21 _ (by omega), ← hs1]
  rw [show Mo_services s1 i = nI (qS q i) by show s1.2 24 i = _; rw [w24, pk_us], show Mo_input s1 (6 + 3 * i) = nI (q.getD (6 + 3 * i) 0) by show s1.2 21 _ = _; rw [w2 21 (by omega) (by omega)]; exact h21 _ (by omega)]
  have b5 : qS q i < 256 := h8 _
  have b6 := h8 (6 + 3 * i)
  rw [show F_Mo_in (nI (qS q i)) (1 : Int32) (3 : Int32) = _ from m_in (x := qS q i) (a := 1) (b := 3) (by omega) (by omega) (by omega), Option.bind_some]
  by_cases c : 1 ≤ qS q i ∧ qS q i ≤ 3
  · rw [if_pos c, if_neg (by decide)]
    unfold B_Mo_request_146
    rw [show (nI (q.getD (6 + 3 * i) 0) - nI (q.getD (6 + 3 * i) 0) / (2 : Int32) * (2 : Int32)) = nI (q.getD (6 + 3 * i) 0 % 2) from z_m2 _ b6]
    by_cases c1 : q.getD (6 + 3 * i) 0 % 2 = 1
    · rw [if_pos (by rw [c1]; rfl)]
      have : qR q i = 0 := by unfold qR reO; rw [if_pos c, if_pos c1]
      rw [this] at e171
      exact e171
    · rw [if_neg (by rw [show q.getD (6 + 3 * i) 0 % 2 = 0 by omega]; decide)]
      unfold B_Mo_request_157
      rw [show nI (q.getD (6 + 3 * i) 0) / (2 : Int32) = nI (q.getD (6 + 3 * i) 0 / 2) from z_dv (d := 2) (by omega) (by omega) (by omega), show (nI (q.getD (6 + 3 * i) 0 / 2) - nI (q.getD (6 + 3 * i) 0 / 2) / (2 : Int32) * (2 : Int32)) = nI (q.getD (6 + 3 * i) 0 / 2 % 2) from z_m2 _ (by omega)]
      by_cases c2 : q.getD (6 + 3 * i) 0 / 2 % 2 = 1
      · rw [if_pos (by rw [c2]; rfl)]
        have : qR q i = 1 := by unfold qR reO; rw [if_pos c, if_neg c1, if_pos c2]
        rw [this] at e171
        exact e171
      · rw [if_neg (by rw [show q.getD (6 + 3 * i) 0 / 2 % 2 = 0 by omega]; decide)]
        have : qR q i = 3 := by unfold qR reO; rw [if_pos c, if_neg c1, if_neg c2]
        rw [this] at e171
        exact e171
  · rw [if_neg c, if_pos (show nI 0 = (0 : Int32) from rfl)]
    have : qR q i = 2 := by unfold qR reO; rw [if_neg c]
    rw [this] at e171
    exact e171
theorem m_rqLoop (h8 : ∀ i, q.getD i 0 < 256) (hq : q.length = 3 * a + 4) (ha : a ≤ 4) : ∀ (d i fu : Nat) (s : S_Mo) (l : List Nat), i + d = a → d < fu → (∀ i, i < q.length → s.2 21 i = nI (q.getD i 0)) → s.1 11 = nI a → mM s l → l.length + 2 * d ≤ 20 → (∀ k, k < i → s.2 23 k = nI (qI q k) ∧ s.2 24 k = nI (qS q k) ∧ s.2 25 k = nI (qR q k)) → ∃ s', lp (fun k71 v => B_Mo_request_71  k71  v.1 v.2) fu (s, nI i) = B_Mo_request_198 s' ∧ mM s' (l ++ acB q i d) ∧ (∀ j, j ≠ 6 → s'.1 j = s.1 j) ∧ (∀ k, k < a → s'.2 23 k = nI (qI q k) ∧ s'.2 24 k = nI (qS q k) ∧ s'.2 25 k = nI (qR q k)) ∧ ∀ j, j ≠ 20 → j ≠ 23 → j ≠ 24 → j ≠ 25 → s'.2 j = s.2 j := by
  intro d
  induction d with
  | zero =>
    intro i fu s l hi hf h21 h11 hM hl hk
    obtain ⟨fu', rfl⟩ : ∃ fu', fu = fu' + 1 := ⟨fu - 1, by omega⟩
    refine ⟨s, ?_, by rw [show acB q i 0 = [] from rfl, List.append_nil]; exact hM, fun _ _ => rfl, fun k h => hk k (by omega), fun _ _ _ _ _ => rfl⟩
    rw [lp_s]
    show B_Mo_request_71 _ s (nI i) = _
    unfold B_Mo_request_71
    rw [show Mo_contexts s = nI a from h11, if_pos (by rw [z_le (by omega) (by omega)]; omega)]
  | succ d ih =>
    intro i fu s l hi hf h21 h11 hM hl hk
    obtain ⟨fu', rfl⟩ : ∃ fu', fu = fu' + 1 := ⟨fu - 1, by omega⟩
    obtain ⟨s1, e1, m1, f1, f23, f24, f25, f2⟩ := m_rqStep h8 h21 hq ha (i := i) (by omega) h11 hM (by omega)
    obtain ⟨s', e', g1, g2, g3, g4⟩ := ih (i + 1) fu' s1 _ (by omega) (by omega) (fun k hk => by rw [f2 21 (by omega) (by omega) (by omega) (by omega)]; exact h21 k hk) (by rw [f1 11 (by omega)]; exact h11) m1 (by simp; omega) (fun k h => by
      rw [f23, f24, f25]
      by_cases c : k = i
      · subst c
        exact ⟨pk_us, pk_us, pk_us⟩
      · rw [pk_un c, pk_un c, pk_un c]
        exact hk k (by omega))
    refine ⟨s', ?_, by rw [acB_s]; simpa using g1, fun j hj => (g2 j hj).trans (f1 j hj), g3, fun j a b c d => (g4 j a b c d).trans (f2 j a b c d)⟩
    rw [lp_s]
    exact (e1 _).trans e'
end MRQ
