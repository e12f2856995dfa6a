/-! PURE: the place of a name among the records -/
def mRec (s : S_Mo) (n : Nat) (B : Nat → List Nat) (N : Nat → List Nd) : Prop := s.1 19 = nI n ∧ n ≤ 8 ∧ ∀ k, k < n → kep (B k) (N k) ∧ s.2 29 k = nI (B k).length ∧ ∀ i, i < (B k).length → s.2 28 (200 * k + i) = nI ((B k).getD i 0)
def plF (N : Nat → List Nd) (x : List Nat) : Nat → Nat → Nat
  | 0, k => k
  | m + 1, k => if hasN (N k) x = true then k else plF N x m (k + 1)
theorem plF_le {N : Nat → List Nd} {x : List Nat} : ∀ (m k : Nat), k ≤ plF N x m k ∧ plF N x m k ≤ k + m
  | 0, k => ⟨Nat.le_refl _, Nat.le_refl _⟩
  | m + 1, k => by
    have := plF_le (N := N) (x := x) m (k + 1)
    unfold plF
    split <;> omega
theorem mLd_r (s : S_Mo) : mLd s s := ⟨fun _ _ _ _ => rfl, fun _ _ => rfl, fun _ _ _ h => h⟩
theorem mLd_t {s s' s'' : S_Mo} (h : mLd s s') (h' : mLd s' s'') : mLd s s'' := ⟨fun i a b c => (h'.1 i a b c).trans (h.1 i a b c), fun j hj => (h'.2.1 j hj).trans (h.2.1 j hj), fun pd a b c => h'.2.2 pd a b (h.2.2 pd a b c)⟩
theorem mRec_l {s s' : S_Mo} {n : Nat} {B : Nat → List Nat} {N : Nat → List Nd} (h : mLd s s') (hr : mRec s n B N) : mRec s' n B N := by
  obtain ⟨r1, r2, r3⟩ := hr
  refine ⟨(h.1 19 (by omega) (by omega) (by omega)).trans r1, r2, fun k hk => ?_⟩
  obtain ⟨a, b, c⟩ := r3 k hk
  exact ⟨a, by rw [h.2.1 29 (by omega)]; exact b, fun i hi => by rw [h.2.1 28 (by omega)]; exact c i hi⟩
section MPO
variable {pd : List Nd} {q n : Nat} {B : Nat → List Nat} {N : Nat → List Nd}
theorem m_placeOf (w1 : wfT pd) (hq : q < pd.length) (h2 : kd (nT pd q) = 2) : ∀ (m r fu : Nat) (s : S_Mo), r + m = n → m < fu → mtr s.2 0 pd → mRec s n B N → ∃ s', lp (fun k2 v => B_Mo_placeOf_2 k2 v.1 v.2.1 v.2.2) fu (s, nI (130 * 0 + q), nI r) = some (nI (plF N (nX pd q) m r), s') ∧ mLd s s' := by
  intro m
  induction m with
  | zero =>
    intro r fu s hr hf hm hR
    obtain ⟨fu', rfl⟩ : ∃ fu', fu = fu' + 1 := ⟨fu - 1, by omega⟩
    refine ⟨s, ?_, mLd_r s⟩
    rw [lp_s]
    show B_Mo_placeOf_2 _ s (nI (130 * 0 + q)) (nI r) = _
    unfold B_Mo_placeOf_2
    obtain ⟨r1, r2, _⟩ := hR
    rw [if_pos (by first | omega | (simp (disch := omega) only [z_lt, z_le, z_eq, z_cl, z_ad, z_mu, z_sb, z_n1, z_em, z_me, z_lm, z_ml, z_mle, z_lme, z_ma, z_am, z_m2, not_false_eq_true, z_l0, z_l1, z_l2, z_l3, z_l4, z_l5, z_l6, z_l7, z_l8, z_l10, z_l14, z_l15, z_l16, z_l32, z_l80, z_l101, z_l120, z_l126, z_l127, z_l130, z_l160, z_l198, z_l200, z_l202, z_l240, z_l252, z_l253, z_l254, z_l255, z_l260, z_l480, z_l900, Mo_room, Mo_code, Mo_draft, Mo_drafted, Mo_source, Mo_fault, Mo_count, Mo_kind, Mo_tag, Mo_value, Mo_letters, Mo_parent, Mo_first, Mo_next, Mo_last, Mo_many, Mo_size, Mo_number, Mo_chars, Mo_held, Mo_fits, Mo_depth, Mo_node, Mo_end, Mo_loose, Mo_at, Mo_made, Mo_makes, Mo_line, Mo_timer, Mo_input, Mo_inputs, Mo_output, Mo_outputs, Mo_contexts, Mo_ids, Mo_services, Mo_results, Mo_wanted, Mo_command, Mo_commands, Mo_body, Mo_bodies, Mo_speaker, Mo_what, Mo_message, Mo_answered, Mo_records, Mo_kept, Mo_lengths, Mo_set_room, Mo_set_code, Mo_set_draft, Mo_set_drafted, Mo_set_source, Mo_set_fault, Mo_set_count, Mo_set_kind, Mo_set_tag, Mo_set_value, Mo_set_letters, Mo_set_parent, Mo_set_first, Mo_set_next, Mo_set_last, Mo_set_many, Mo_set_size, Mo_set_number, Mo_set_chars, Mo_set_held, Mo_set_fits, Mo_set_depth, Mo_set_node, Mo_set_end, Mo_set_loose, Mo_set_at, Mo_set_made, Mo_set_makes, Mo_set_line, Mo_set_timer, Mo_set_input, Mo_set_inputs, Mo_set_output, Mo_set_outputs, Mo_set_contexts, Mo_set_ids, Mo_set_services, Mo_set_results, Mo_set_wanted, Mo_set_command, Mo_set_commands, Mo_set_body, Mo_set_bodies, Mo_set_speaker, Mo_set_what, Mo_set_message, Mo_set_answered, Mo_set_records, Mo_set_kept, Mo_set_lengths, ua_s, ua_n, pk_us, pk_un, r1] <;> omega))]
    unfold B_Mo_placeOf_147
    rw [show Mo_records s = nI n from r1, show plF N (nX pd q) 0 r = r from rfl, show r = n by omega]
  | succ m ih =>
    intro r fu s hr hf hm hR
    obtain ⟨fu', rfl⟩ : ∃ fu', fu = fu' + 1 := ⟨fu - 1, by omega⟩
    obtain ⟨r1, r2, r3⟩ := hR
    obtain ⟨a, b, c⟩ := r3 r (by omega)
    obtain ⟨s1, e1, t1, o1⟩ := m_load (r := r) (by omega) a b c
    have w2 := a.1
    have g2 := w2.2.2.2.1
    have b0 := wf_b0 w2
    have hm1 := o1.2.2 pd w1.2.2.2.2.1 w1.2.2.2.2.2.1 hm
    have a8 := (t1.2.2.1 0 g2).2.2.2.2.2.2.1
    have one := m_plOne (k2 := lp (fun k2 v => B_Mo_placeOf_2 k2 v.1 v.2.1 v.2.2) fu') (xr := nI r) w1 w2 hm1 t1 hq h2 (N r).length (0 + 1) FU (by omega) (by omega) g2 (fun h => by
      have hn0 := (w2.2.2.1 0 g2).1.2.2.2.2 (by omega)
      have hn1 := (w2.2.2.1 (0 + 1) (by omega)).1.2.1 (by omega)
      omega) (by have := w2.2.2.2.2.1; unfold FU; omega)
    rw [show (kdsF (N r) (N r).length (N r).length (0 + 1)) = kds (N r) 0 by unfold kds; rw [b0.1], show (kds (N r) 0).any (fun e => decide (nT (N r) e = 80 ∧ nX (N r) e = nX pd q)) = hasN (N r) (nX pd q) from rfl] at one
    have e2K : ∀ K, B_Mo_placeOf_2 K s (nI (130 * 0 + q)) (nI r) = L_Mo_placeOf_24 K (s1, nI (130 * 0 + q), nI r, (if 0 + 1 < (N r).length then nI (130 * 1 + (0 + 1)) else mI)) := fun K => by
      unfold B_Mo_placeOf_2
      rw [if_neg (by first | omega | (simp (disch := omega) only [z_lt, z_le, z_eq, z_cl, z_ad, z_mu, z_sb, z_n1, z_em, z_me, z_lm, z_ml, z_mle, z_lme, z_ma, z_am, z_m2, not_false_eq_true, z_l0, z_l1, z_l2, z_l3, z_l4, z_l5, z_l6, z_l7, z_l8, z_l10, z_l14, z_l15, z_l16, z_l32, z_l80, z_l101, z_l120, z_l126, z_l127, z_l130, z_l160, z_l198, z_l200, z_l202, z_l240, z_l252, z_l253, z_l254, z_l255, z_l260, z_l480, z_l900, Mo_room, Mo_code, Mo_draft, Mo_drafted, Mo_source, Mo_fault, Mo_count, Mo_kind, Mo_tag, Mo_value, Mo_letters, Mo_parent, Mo_first, Mo_next, Mo_last, Mo_many, Mo_size, Mo_number, Mo_chars, Mo_held, Mo_fits, Mo_depth, Mo_node, Mo_end, Mo_loose, Mo_at, Mo_made, Mo_makes, Mo_line, Mo_timer, Mo_input, Mo_inputs, Mo_output, Mo_outputs, Mo_contexts, Mo_ids, Mo_services, Mo_results, Mo_wanted, Mo_command, Mo_commands, Mo_body, Mo_bodies, Mo_speaker, Mo_what, Mo_message, Mo_answered, Mo_records, Mo_kept, Mo_lengths, Mo_set_room, Mo_set_code, Mo_set_draft, Mo_set_drafted, Mo_set_source, Mo_set_fault, Mo_set_count, Mo_set_kind, Mo_set_tag, Mo_set_value, Mo_set_letters, Mo_set_parent, Mo_set_first, Mo_set_next, Mo_set_last, Mo_set_many, Mo_set_size, Mo_set_number, Mo_set_chars, Mo_set_held, Mo_set_fits, Mo_set_depth, Mo_set_node, Mo_set_end, Mo_set_loose, Mo_set_at, Mo_set_made, Mo_set_makes, Mo_set_line, Mo_set_timer, Mo_set_input, Mo_set_inputs, Mo_set_output, Mo_set_outputs, Mo_set_contexts, Mo_set_ids, Mo_set_services, Mo_set_results, Mo_set_wanted, Mo_set_command, Mo_set_commands, Mo_set_body, Mo_set_bodies, Mo_set_speaker, Mo_set_what, Mo_set_message, Mo_set_answered, Mo_set_records, Mo_set_kept, Mo_set_lengths, ua_s, ua_n, pk_us, pk_un, r1] <;> omega))]
      unfold B_Mo_placeOf_10
      rw [e1, Option.bind_some, if_neg (by decide +kernel), show (Mo_first s1) (130 : Int32).toNatClampNeg = fiI 1 (N r) 0 from a8, fiI_kid g2, b0.1]
    have e10 : ∀ s', (if hasN (N r) (nX pd q) = true then some (nI r, s1) else B_Mo_placeOf_141 (lp (fun k2 v => B_Mo_placeOf_2 k2 v.1 v.2.1 v.2.2) fu') s1 (nI (130 * 0 + q)) (nI r)) = some s' → lp (fun k2 v => B_Mo_placeOf_2 k2 v.1 v.2.1 v.2.2) (fu' + 1) (s, nI (130 * 0 + q), nI r) = some s' := by
      intro s' h
      rw [lp_s]
      show B_Mo_placeOf_2 _ s (nI (130 * 0 + q)) (nI r) = _
      rw [e2K]
      unfold L_Mo_placeOf_24
      rw [one]
      exact h
    rw [show plF N (nX pd q) (m + 1) r = if hasN (N r) (nX pd q) = true then r else plF N (nX pd q) m (r + 1) from rfl]
    by_cases c : hasN (N r) (nX pd q) = true
    · rw [if_pos c] at e10 ⊢
      exact ⟨s1, e10 _ rfl, o1⟩
    · rw [if_neg c] at e10 ⊢
      obtain ⟨s2, e2, o2⟩ := ih (r + 1) fu' s1 (by omega) (by omega) hm1 (mRec_l o1 ⟨r1, r2, r3⟩)
      refine ⟨s2, e10 _ ?_, mLd_t o1 o2⟩
      unfold B_Mo_placeOf_141
      rw [show nI r + 1 = nI (r + 1) by simp (disch := omega) only [z_lt, z_le, z_eq, z_cl, z_ad, z_mu, z_sb, z_n1, z_em, z_me, z_lm, z_ml, z_mle, z_lme, z_ma, z_am, z_m2, not_false_eq_true, z_l0, z_l1, z_l2, z_l3, z_l4, z_l5, z_l6, z_l7, z_l8, z_l10, z_l14, z_l15, z_l16, z_l32, z_l80, z_l101, z_l120, z_l126, z_l127, z_l130, z_l160, z_l198, z_l200, z_l202, z_l240, z_l252, z_l253, z_l254, z_l255, z_l260, z_l480, z_l900, Mo_room, Mo_code, Mo_draft, Mo_drafted, Mo_source, Mo_fault, Mo_count, Mo_kind, Mo_tag, Mo_value, Mo_letters, Mo_parent, Mo_first, Mo_next, Mo_last, Mo_many, Mo_size, Mo_number, Mo_chars, Mo_held, Mo_fits, Mo_depth, Mo_node, Mo_end, Mo_loose, Mo_at, Mo_made, Mo_makes, Mo_line, Mo_timer, Mo_input, Mo_inputs, Mo_output, Mo_outputs, Mo_contexts, Mo_ids, Mo_services, Mo_results, Mo_wanted, Mo_command, Mo_commands, Mo_body, Mo_bodies, Mo_speaker, Mo_what, Mo_message, Mo_answered, Mo_records, Mo_kept, Mo_lengths, Mo_set_room, Mo_set_code, Mo_set_draft, Mo_set_drafted, Mo_set_source, Mo_set_fault, Mo_set_count, Mo_set_kind, Mo_set_tag, Mo_set_value, Mo_set_letters, Mo_set_parent, Mo_set_first, Mo_set_next, Mo_set_last, Mo_set_many, Mo_set_size, Mo_set_number, Mo_set_chars, Mo_set_held, Mo_set_fits, Mo_set_depth, Mo_set_node, Mo_set_end, Mo_set_loose, Mo_set_at, Mo_set_made, Mo_set_makes, Mo_set_line, Mo_set_timer, Mo_set_input, Mo_set_inputs, Mo_set_output, Mo_set_outputs, Mo_set_contexts, Mo_set_ids, Mo_set_services, Mo_set_results, Mo_set_wanted, Mo_set_command, Mo_set_commands, Mo_set_body, Mo_set_bodies, Mo_set_speaker, Mo_set_what, Mo_set_message, Mo_set_answered, Mo_set_records, Mo_set_kept, Mo_set_lengths, ua_s, ua_n, pk_us, pk_un]]
      exact e2
end MPO
