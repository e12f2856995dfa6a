/-! PURE: the model's matches -/
theorem m_matches {s : S_Mo} {nd md : List Nd} (w1 : wfT nd) (w2 : wfT md) (hm : mtr s.2 0 nd) (hm' : mtr s.2 1 md) : ∃ s', F_Mo_matches s = some ((if mt nd md 3 0 0 = true then 1 else 0), s') ∧ mOX s s' := by
  have l1 := w1.2.2.2.2.1
  have l2 := w2.2.2.2.2.1
  have g1 := w1.2.2.2.1
  have g2 := w2.2.2.2.1
  obtain ⟨x1, s1, e1, u1, v1, n1, k1⟩ := m_sets (s := s) (t := 0) (by omega) l1 hm
  have hm1' : mtr s1.2 1 md := mtr_c hm' (fun j hj => v1 j (by omega))
  obtain ⟨x2, s2, e2, u2, v2, n2, k2⟩ := m_sets (s := s1) (t := 1) (by omega) l2 hm1'
  have hN : mNb s2 0 nd := fun i hi => by
    rw [k2 (130 * 0 + i) (by omega)]
    exact n1 i hi
  have hm2 : mtr s2.2 0 nd := mtr_c hm (fun j hj => by rw [v2 j (by omega), v1 j (by omega)])
  have hm2' : mtr s2.2 1 md := mtr_c hm1' (fun j hj => v2 j (by omega))
  unfold F_Mo_matches B_Mo_matches_0
  rw [show (0 : Int32) = nI 0 from rfl, e1, Option.bind_some, show (1 : Int32) = nI 1 from rfl, e2, Option.bind_some]
  rw [if_neg (by first | omega | (simp (disch := omega) only [z_lt, z_le, z_eq, z_cl, z_ad, z_mu, z_sb, z_n1, z_em, z_me, z_lm, z_ml, z_mle, z_lme, z_ma, z_am, z_m2, not_false_eq_true, z_l0, z_l1, z_l2, z_l3, z_l4, z_l5, z_l6, z_l7, z_l8, z_l10, z_l14, z_l15, z_l16, z_l32, z_l80, z_l101, z_l120, z_l126, z_l127, z_l130, z_l160, z_l198, z_l200, z_l202, z_l240, z_l252, z_l253, z_l254, z_l255, z_l260, z_l480, z_l900, Mo_room, Mo_code, Mo_draft, Mo_drafted, Mo_source, Mo_fault, Mo_count, Mo_kind, Mo_tag, Mo_value, Mo_letters, Mo_parent, Mo_first, Mo_next, Mo_last, Mo_many, Mo_size, Mo_number, Mo_chars, Mo_held, Mo_fits, Mo_depth, Mo_node, Mo_end, Mo_loose, Mo_at, Mo_made, Mo_makes, Mo_line, Mo_timer, Mo_input, Mo_inputs, Mo_output, Mo_outputs, Mo_contexts, Mo_ids, Mo_services, Mo_results, Mo_wanted, Mo_command, Mo_commands, Mo_body, Mo_bodies, Mo_speaker, Mo_what, Mo_message, Mo_answered, Mo_records, Mo_kept, Mo_lengths, Mo_set_room, Mo_set_code, Mo_set_draft, Mo_set_drafted, Mo_set_source, Mo_set_fault, Mo_set_count, Mo_set_kind, Mo_set_tag, Mo_set_value, Mo_set_letters, Mo_set_parent, Mo_set_first, Mo_set_next, Mo_set_last, Mo_set_many, Mo_set_size, Mo_set_number, Mo_set_chars, Mo_set_held, Mo_set_fits, Mo_set_depth, Mo_set_node, Mo_set_end, Mo_set_loose, Mo_set_at, Mo_set_made, Mo_set_makes, Mo_set_line, Mo_set_timer, Mo_set_input, Mo_set_inputs, Mo_set_output, Mo_set_outputs, Mo_set_contexts, Mo_set_ids, Mo_set_services, Mo_set_results, Mo_set_wanted, Mo_set_command, Mo_set_commands, Mo_set_body, Mo_set_bodies, Mo_set_speaker, Mo_set_what, Mo_set_message, Mo_set_answered, Mo_set_records, Mo_set_kept, Mo_set_lengths, ua_s, ua_n, pk_us, pk_un] <;> omega))]
  have hc := hm2.1
  rw [show (Mo_count s2) (nI 0).toNatClampNeg - nI 1 = dI (130 * 0 + nd.length) by
    unfold dI
    rw [if_neg (by omega)]
    simp (disch := omega) only [z_lt, z_le, z_eq, z_cl, z_ad, z_mu, z_sb, z_n1, z_em, z_me, z_lm, z_ml, z_mle, z_lme, z_ma, z_am, z_m2, not_false_eq_true, z_l0, z_l1, z_l2, z_l3, z_l4, z_l5, z_l6, z_l7, z_l8, z_l10, z_l14, z_l15, z_l16, z_l32, z_l80, z_l101, z_l120, z_l126, z_l127, z_l130, z_l160, z_l198, z_l200, z_l202, z_l240, z_l252, z_l253, z_l254, z_l255, z_l260, z_l480, z_l900, Mo_room, Mo_code, Mo_draft, Mo_drafted, Mo_source, Mo_fault, Mo_count, Mo_kind, Mo_tag, Mo_value, Mo_letters, Mo_parent, Mo_first, Mo_next, Mo_last, Mo_many, Mo_size, Mo_number, Mo_chars, Mo_held, Mo_fits, Mo_depth, Mo_node, Mo_end, Mo_loose, Mo_at, Mo_made, Mo_makes, Mo_line, Mo_timer, Mo_input, Mo_inputs, Mo_output, Mo_outputs, Mo_contexts, Mo_ids, Mo_services, Mo_results, Mo_wanted, Mo_command, Mo_commands, Mo_body, Mo_bodies, Mo_speaker, Mo_what, Mo_message, Mo_answered, Mo_records, Mo_kept, Mo_lengths, Mo_set_room, Mo_set_code, Mo_set_draft, Mo_set_drafted, Mo_set_source, Mo_set_fault, Mo_set_count, Mo_set_kind, Mo_set_tag, Mo_set_value, Mo_set_letters, Mo_set_parent, Mo_set_first, Mo_set_next, Mo_set_last, Mo_set_many, Mo_set_size, Mo_set_number, Mo_set_chars, Mo_set_held, Mo_set_fits, Mo_set_depth, Mo_set_node, Mo_set_end, Mo_set_loose, Mo_set_at, Mo_set_made, Mo_set_makes, Mo_set_line, Mo_set_timer, Mo_set_input, Mo_set_inputs, Mo_set_output, Mo_set_outputs, Mo_set_contexts, Mo_set_ids, Mo_set_services, Mo_set_results, Mo_set_wanted, Mo_set_command, Mo_set_commands, Mo_set_body, Mo_set_bodies, Mo_set_speaker, Mo_set_what, Mo_set_message, Mo_set_answered, Mo_set_records, Mo_set_kept, Mo_set_lengths, ua_s, ua_n, pk_us, pk_un, hc]
    congr 1
    omega]
  unfold L_Mo_matches_21
  have loop : ∀ (k fu : Nat) (S : S_Mo), k ≤ nd.length → k < fu → mtr S.2 0 nd → mtr S.2 1 md → mNb S 0 nd → mNb S 1 md → mTb S nd md k 0 → ∃ s', lp (fun k21 v => B_Mo_matches_21 k21 v.1 v.2) fu (S, dI (130 * 0 + k)) = some ((if mt nd md 3 0 0 = true then 1 else 0), s') ∧ mOX S s' := by
    intro k
    induction k with
    | zero =>
      intro fu S hk hf q1 q2 q3 q4 q5
      obtain ⟨fu', rfl⟩ : ∃ fu', fu = fu' + 1 := ⟨fu - 1, by omega⟩
      have h0 := (w1.2.2.1 0 g1).1
      have h0' := (w2.2.2.1 0 g2).1
      have hent := q5 0 0 g1 g2 (h0.2.2.2.1.mpr (by rw [h0.1 rfl])) (h0'.2.2.2.1.mpr (by rw [h0'.1 rfl])) (.inr ⟨rfl, Nat.le_refl _⟩)
      rw [h0.1 rfl] at hent
      have hent : S.2 16 0 = if mt nd md 3 0 0 = true then 1 else 0 := hent
      refine ⟨S, ?_, rfl, fun _ _ _ => rfl⟩
      rw [lp_s]
      show B_Mo_matches_21 _ S (dI (130 * 0 + 0)) = _
      unfold B_Mo_matches_21
      rw [if_pos (by decide +kernel)]
      unfold B_Mo_matches_102
      rw [if_neg (by decide +kernel), show (0 : Int32).toNatClampNeg = 0 by decide +kernel, show Mo_fits S 0 = (if mt nd md 3 0 0 = true then 1 else 0) from hent, if_pos (by
        split
        · exact .inr rfl
        · exact .inl rfl)]
    | succ k ih =>
      intro fu S hk hf q1 q2 q3 q4 q5
      obtain ⟨fu', rfl⟩ : ∃ fu', fu = fu' + 1 := ⟨fu - 1, by omega⟩
      obtain ⟨s', t1, t2, t3, t4, t5⟩ := m_row (k := k) w1 w2 (by omega) (lp (fun k21 v => B_Mo_matches_21 k21 v.1 v.2) fu') md.length FU S (Nat.le_refl _) (by unfold FU; omega) q1 q2 q3 q4 (fun q r' hq hr' a b hor => by
        rcases hor with h | ⟨h, h'⟩
        · by_cases c : q = k + 1
          · exact q5 q r' hq hr' a b (.inr ⟨c.symm, Nat.zero_le _⟩)
          · exact q5 q r' hq hr' a b (.inl (by omega))
        · omega)
      obtain ⟨s'', t6, t7⟩ := ih fu' s' (by omega) (by omega) (mtr_c q1 (fun j hj => t2.2 j (by omega) (by omega))) (mtr_c q2 (fun j hj => t2.2 j (by omega) (by omega))) t3 t4 t5
      refine ⟨s'', ?_, t7.1.trans t2.1, fun j h13 h16 => (t7.2 j h13 h16).trans (t2.2 j h13 h16)⟩
      have hc' := q2.1
      rw [lp_s, show dI (130 * 0 + (k + 1)) = nI (130 * 0 + k) from dI_s _]
      show B_Mo_matches_21 _ S (nI (130 * 0 + k)) = _
      have e21 : ∀ K, B_Mo_matches_21 K S (nI (130 * 0 + k)) = B_Mo_matches_25 K S (nI (130 * 0 + k)) := fun K => by
        unfold B_Mo_matches_21
        rw [if_neg (by first | omega | (simp (disch := omega) only [z_lt, z_le, z_eq, z_cl, z_ad, z_mu, z_sb, z_n1, z_em, z_me, z_lm, z_ml, z_mle, z_lme, z_ma, z_am, z_m2, not_false_eq_true, z_l0, z_l1, z_l2, z_l3, z_l4, z_l5, z_l6, z_l7, z_l8, z_l10, z_l14, z_l15, z_l16, z_l32, z_l80, z_l101, z_l120, z_l126, z_l127, z_l130, z_l160, z_l198, z_l200, z_l202, z_l240, z_l252, z_l253, z_l254, z_l255, z_l260, z_l480, z_l900, Mo_room, Mo_code, Mo_draft, Mo_drafted, Mo_source, Mo_fault, Mo_count, Mo_kind, Mo_tag, Mo_value, Mo_letters, Mo_parent, Mo_first, Mo_next, Mo_last, Mo_many, Mo_size, Mo_number, Mo_chars, Mo_held, Mo_fits, Mo_depth, Mo_node, Mo_end, Mo_loose, Mo_at, Mo_made, Mo_makes, Mo_line, Mo_timer, Mo_input, Mo_inputs, Mo_output, Mo_outputs, Mo_contexts, Mo_ids, Mo_services, Mo_results, Mo_wanted, Mo_command, Mo_commands, Mo_body, Mo_bodies, Mo_speaker, Mo_what, Mo_message, Mo_answered, Mo_records, Mo_kept, Mo_lengths, Mo_set_room, Mo_set_code, Mo_set_draft, Mo_set_drafted, Mo_set_source, Mo_set_fault, Mo_set_count, Mo_set_kind, Mo_set_tag, Mo_set_value, Mo_set_letters, Mo_set_parent, Mo_set_first, Mo_set_next, Mo_set_last, Mo_set_many, Mo_set_size, Mo_set_number, Mo_set_chars, Mo_set_held, Mo_set_fits, Mo_set_depth, Mo_set_node, Mo_set_end, Mo_set_loose, Mo_set_at, Mo_set_made, Mo_set_makes, Mo_set_line, Mo_set_timer, Mo_set_input, Mo_set_inputs, Mo_set_output, Mo_set_outputs, Mo_set_contexts, Mo_set_ids, Mo_set_services, Mo_set_results, Mo_set_wanted, Mo_set_command, Mo_set_commands, Mo_set_body, Mo_set_bodies, Mo_set_speaker, Mo_set_what, Mo_set_message, Mo_set_answered, Mo_set_records, Mo_set_kept, Mo_set_lengths, ua_s, ua_n, pk_us, pk_un] <;> omega))]
      rw [e21]
      unfold B_Mo_matches_25
      rw [if_neg (by decide +kernel), show (1 : Int32).toNatClampNeg = 1 by decide +kernel, show (130 : Int32) + (Mo_count S) 1 - (1 : Int32) = nI (129 + md.length) by
        rw [show (Mo_count S) 1 = nI md.length from hc', show (130 : Int32) = nI 130 from rfl, show (1 : Int32) = nI 1 from rfl, z_ad, z_sb (by omega)]
        congr 1
        omega]
      unfold L_Mo_matches_38
      rw [t1]
      exact t6
  obtain ⟨s', t1, t2⟩ := loop nd.length FU s2 (Nat.le_refl _) (by unfold FU; omega) hm2 hm2' hN n2 (fun q r' hq hr' a b hor => by omega)
  refine ⟨s', t1, t2.1.trans (u2.trans u1), fun j h13 h16 => (t2.2 j h13 h16).trans ((v2 j h13).trans (v1 j h13))⟩
