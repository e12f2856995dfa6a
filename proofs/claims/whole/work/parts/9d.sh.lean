/-! PURE: the model shows the chosen elements of a record -/
theorem sB_ap {syn : Nat} {nd : List Nd} {k : Nat} : ∀ (m a : Nat), sB syn nd a (m + k) = sB syn nd a m ++ sB syn nd (a + m) k
  | 0, a => by
    rw [Nat.zero_add, Nat.add_zero]
    rfl
  | m + 1, a => by
    rw [show m + 1 + k = (m + k) + 1 by omega, sB_s, sB_ap m (a + 1), sB_s, List.append_assoc, show a + 1 + m = a + (m + 1) by omega]
theorem sg_len {syn : Nat} {pd nd : List Nd} : ∀ (m j : Nat), j ≤ nd.length → ((kdsF nd nd.length m j).flatMap (sgB syn pd nd)).length ≤ (sB syn nd j (nd.length - j)).length
  | 0, j, h => by
    show (0 : Nat) ≤ _
    omega
  | m + 1, j, h => by
    show ((if j < nd.length then j :: kdsF nd nd.length m (bhf nd j) else []).flatMap (sgB syn pd nd)).length ≤ _
    by_cases c : j < nd.length
    · rw [if_pos c, List.flatMap_cons, List.length_append]
      have hb := bhf_lt c
      have ih := sg_len (syn := syn) (pd := pd) m (bhf nd j) hb.2
      rw [show nd.length - j = (bhf nd j - j) + (nd.length - bhf nd j) by omega, sB_ap, List.length_append, show j + (bhf nd j - j) = bhf nd j by omega]
      have : (sgB syn pd nd j).length ≤ (sB syn nd j (bhf nd j - j)).length := by
        unfold sgB
        split
        · exact Nat.le_refl _
        · exact Nat.zero_le _
      omega
    · rw [if_neg c]
      exact Nat.zero_le _
theorem wf_b0 {nd : List Nd} (w : wfT nd) : bhf nd 0 = nd.length ∧ nL nd 0 = 0 := by
  have g1 := w.2.2.2.1
  have hn0 := (w.2.2.1 0 g1).1
  refine ⟨isB_uniq (bhf_isB g1) ⟨g1, Nat.le_refl _, fun j a b => ?_, fun e => by omega⟩, hn0.1 rfl⟩
  rw [hn0.1 rfl]
  have := (w.2.2.1 j b).1.2.1 a
  omega
theorem any_has {pd : List Nd} {g : Nat} : (kds pd 0).any (fun f => decide (nT pd f = g)) = hasT pd g := by
  unfold hasT fnd
  rw [Bool.eq_iff_iff, List.find?_isSome, List.any_eq_true]
section MSH
variable {s : S_Mo} {pd nd : List Nd} {syn : Nat} {l : List Nat}
theorem m_asked (w1 : wfT pd) (w2 : wfT nd) (hm : mtr s.2 0 pd) (hm' : mtr s.2 1 nd) (K : S_Mo × Int32 × Int32 → Option (Int32 × S_Mo)) {c : Nat} (hc : c < nd.length) (hc3 : kd (nT nd c) ≤ 3) : ∀ (m j fu : Nat) (b : Bool), bhf pd 0 ≤ j + m → 0 < j → j ≤ bhf pd 0 → (j < bhf pd 0 → nL pd j = nL pd 0 + 1) → m < fu → lp (fun k53 v => B_Mo_shows_53 K k53 v.1 v.2.1 v.2.2.1 v.2.2.2.1 v.2.2.2.2) fu (s, nI syn, nI (130 * 1 + c), (if b = true then 1 else 0), (if j < bhf pd 0 then nI (130 * 0 + j) else mI)) = B_Mo_shows_96 K s (nI syn) (nI (130 * 1 + c)) (if (b || (kdsF pd (bhf pd 0) m j).any (fun f => decide (nT pd f = nT nd c))) = true then 1 else 0) := by
  have l1 := w1.2.2.2.2.1
  have l2 := w2.2.2.2.2.1
  have g1 := w1.2.2.2.1
  have hb0 := bhf_lt g1
  have fin : ∀ (b : Bool) (K2 : S_Mo × Int32 × Int32 × Int32 × Int32 → Option (Int32 × S_Mo)), B_Mo_shows_53 K K2 s (nI syn) (nI (130 * 1 + c)) (if b = true then 1 else 0) mI = B_Mo_shows_96 K s (nI syn) (nI (130 * 1 + c)) (if b = true then 1 else 0) := by
    intro b K2
    unfold B_Mo_shows_53
    rw [if_pos (by decide +kernel : mI < 0)]
  intro m
  induction m with
  | zero =>
    intro j fu b q1 q2 q3 q4 q6
    obtain ⟨fu', rfl⟩ : ∃ fu', fu = fu' + 1 := ⟨fu - 1, by omega⟩
    rw [lp_s, if_neg (by omega : ¬ j < bhf pd 0)]
    show B_Mo_shows_53 K _ s (nI syn) (nI (130 * 1 + c)) (if b = true then 1 else 0) mI = _
    rw [fin, show kdsF pd (bhf pd 0) 0 j = [] from rfl, List.any_nil, Bool.or_false]
  | succ m ih =>
    intro j fu b q1 q2 q3 q4 q6
    obtain ⟨fu', rfl⟩ : ∃ fu', fu = fu' + 1 := ⟨fu - 1, by omega⟩
    rw [lp_s]
    show B_Mo_shows_53 K _ s (nI syn) (nI (130 * 1 + c)) (if b = true then 1 else 0) (if j < bhf pd 0 then nI (130 * 0 + j) else mI) = _
    rw [show kdsF pd (bhf pd 0) (m + 1) j = if j < bhf pd 0 then j :: kdsF pd (bhf pd 0) m (bhf pd j) else [] from rfl]
    by_cases d : j < bhf pd 0
    · rw [if_pos d, if_pos d]
      have hj : j < pd.length := by omega
      have hbj := bhf_lt hj
      obtain ⟨n1, n2, n3⟩ := nxI_kid (t := 0) g1 q2 d (q4 d)
      obtain ⟨c3, c4, c5, c6, c7, c7', c8, c9, c11⟩ := hm.2.2.1 j hj
      rw [n2] at c9
      have hj3 := kid_3 w1 g1 (by rw [(wf_b0 w1).2]) hj (q4 d)
      have d4 := (hm'.2.2.1 c hc).2.1
      rw [show mtg (nT pd j) = nT pd j by unfold mtg; rw [if_neg (by omega)]] at c4
      rw [show mtg (nT nd c) = nT nd c by unfold mtg; rw [if_neg (by omega)]] at d4
      have hg1 := nT_lt w1.1 j
      have hg2 := nT_lt w2.1 c
      have e83 : ∀ b : Bool, B_Mo_shows_83 K (lp (fun k53 v => B_Mo_shows_53 K k53 v.1 v.2.1 v.2.2.1 v.2.2.2.1 v.2.2.2.2) fu') s (nI syn) (nI (130 * 1 + c)) (nI (130 * 0 + j)) (if b = true then 1 else 0) = B_Mo_shows_96 K s (nI syn) (nI (130 * 1 + c)) (if (b || (kdsF pd (bhf pd 0) m (bhf pd j)).any (fun f => decide (nT pd f = nT nd c))) = true then 1 else 0) := by
        intro b
        unfold B_Mo_shows_83
        rw [if_neg (by first | omega | (simp (disch := omega) only [z_lt, z_le, z_eq, z_cl, z_ad, z_mu, z_sb, z_n1, z_em, z_me, z_lm, z_ml, z_mle, z_lme, z_ma, z_am, z_m2, not_false_eq_true, z_l0, z_l1, z_l2, z_l3, z_l4, z_l5, z_l6, z_l7, z_l8, z_l10, z_l14, z_l15, z_l16, z_l32, z_l80, z_l101, z_l120, z_l126, z_l127, z_l130, z_l160, z_l198, z_l200, z_l202, z_l240, z_l252, z_l253, z_l254, z_l255, z_l260, z_l480, z_l900, Mo_room, Mo_code, Mo_draft, Mo_drafted, Mo_source, Mo_fault, Mo_count, Mo_kind, Mo_tag, Mo_value, Mo_letters, Mo_parent, Mo_first, Mo_next, Mo_last, Mo_many, Mo_size, Mo_number, Mo_chars, Mo_held, Mo_fits, Mo_depth, Mo_node, Mo_end, Mo_loose, Mo_at, Mo_made, Mo_makes, Mo_line, Mo_timer, Mo_input, Mo_inputs, Mo_output, Mo_outputs, Mo_contexts, Mo_ids, Mo_services, Mo_results, Mo_wanted, Mo_command, Mo_commands, Mo_body, Mo_bodies, Mo_speaker, Mo_what, Mo_message, Mo_answered, Mo_records, Mo_kept, Mo_lengths, Mo_set_room, Mo_set_code, Mo_set_draft, Mo_set_drafted, Mo_set_source, Mo_set_fault, Mo_set_count, Mo_set_kind, Mo_set_tag, Mo_set_value, Mo_set_letters, Mo_set_parent, Mo_set_first, Mo_set_next, Mo_set_last, Mo_set_many, Mo_set_size, Mo_set_number, Mo_set_chars, Mo_set_held, Mo_set_fits, Mo_set_depth, Mo_set_node, Mo_set_end, Mo_set_loose, Mo_set_at, Mo_set_made, Mo_set_makes, Mo_set_line, Mo_set_timer, Mo_set_input, Mo_set_inputs, Mo_set_output, Mo_set_outputs, Mo_set_contexts, Mo_set_ids, Mo_set_services, Mo_set_results, Mo_set_wanted, Mo_set_command, Mo_set_commands, Mo_set_body, Mo_set_bodies, Mo_set_speaker, Mo_set_what, Mo_set_message, Mo_set_answered, Mo_set_records, Mo_set_kept, Mo_set_lengths, ua_s, ua_n, pk_us, pk_un] <;> omega))]
        rw [show (Mo_next s) (nI (130 * 0 + j)).toNatClampNeg = (if bhf pd j < bhf pd 0 then nI (130 * 0 + bhf pd j) else mI) by
          rw [z_cl (by omega)]
          exact c9]
        exact ih (bhf pd j) fu' b (by omega) (by omega) n1 n3 (by omega)
      rw [List.any_cons]
      have e53 : ∀ K2, B_Mo_shows_53 K K2 s (nI syn) (nI (130 * 1 + c)) (if b = true then 1 else 0) (nI (130 * 0 + j)) = B_Mo_shows_58 K K2 s (nI syn) (nI (130 * 1 + c)) (if b = true then 1 else 0) (nI (130 * 0 + j)) := fun K2 => by
        unfold B_Mo_shows_53
        rw [if_neg (by first | omega | (simp (disch := omega) only [z_lt, z_le, z_eq, z_cl, z_ad, z_mu, z_sb, z_n1, z_em, z_me, z_lm, z_ml, z_mle, z_lme, z_ma, z_am, z_m2, not_false_eq_true, z_l0, z_l1, z_l2, z_l3, z_l4, z_l5, z_l6, z_l7, z_l8, z_l10, z_l14, z_l15, z_l16, z_l32, z_l80, z_l101, z_l120, z_l126, z_l127, z_l130, z_l160, z_l198, z_l200, z_l202, z_l240, z_l252, z_l253, z_l254, z_l255, z_l260, z_l480, z_l900, Mo_room, Mo_code, Mo_draft, Mo_drafted, Mo_source, Mo_fault, Mo_count, Mo_kind, Mo_tag, Mo_value, Mo_letters, Mo_parent, Mo_first, Mo_next, Mo_last, Mo_many, Mo_size, Mo_number, Mo_chars, Mo_held, Mo_fits, Mo_depth, Mo_node, Mo_end, Mo_loose, Mo_at, Mo_made, Mo_makes, Mo_line, Mo_timer, Mo_input, Mo_inputs, Mo_output, Mo_outputs, Mo_contexts, Mo_ids, Mo_services, Mo_results, Mo_wanted, Mo_command, Mo_commands, Mo_body, Mo_bodies, Mo_speaker, Mo_what, Mo_message, Mo_answered, Mo_records, Mo_kept, Mo_lengths, Mo_set_room, Mo_set_code, Mo_set_draft, Mo_set_drafted, Mo_set_source, Mo_set_fault, Mo_set_count, Mo_set_kind, Mo_set_tag, Mo_set_value, Mo_set_letters, Mo_set_parent, Mo_set_first, Mo_set_next, Mo_set_last, Mo_set_many, Mo_set_size, Mo_set_number, Mo_set_chars, Mo_set_held, Mo_set_fits, Mo_set_depth, Mo_set_node, Mo_set_end, Mo_set_loose, Mo_set_at, Mo_set_made, Mo_set_makes, Mo_set_line, Mo_set_timer, Mo_set_input, Mo_set_inputs, Mo_set_output, Mo_set_outputs, Mo_set_contexts, Mo_set_ids, Mo_set_services, Mo_set_results, Mo_set_wanted, Mo_set_command, Mo_set_commands, Mo_set_body, Mo_set_bodies, Mo_set_speaker, Mo_set_what, Mo_set_message, Mo_set_answered, Mo_set_records, Mo_set_kept, Mo_set_lengths, ua_s, ua_n, pk_us, pk_un] <;> omega))]
      rw [e53]
      unfold B_Mo_shows_58
      cases b with
      | true =>
        rw [if_pos (rfl : true = true), if_neg (by decide : ¬ (1 : Int32) = 0)]
        unfold B_Mo_shows_78
        have := e83 true
        rw [Bool.true_or] at this ⊢
        exact this
      | false =>
        rw [if_neg (by decide : ¬ false = true), if_pos rfl, Bool.false_or]
        unfold B_Mo_shows_62
        rw [if_neg (by first | omega | (simp (disch := omega) only [z_lt, z_le, z_eq, z_cl, z_ad, z_mu, z_sb, z_n1, z_em, z_me, z_lm, z_ml, z_mle, z_lme, z_ma, z_am, z_m2, not_false_eq_true, z_l0, z_l1, z_l2, z_l3, z_l4, z_l5, z_l6, z_l7, z_l8, z_l10, z_l14, z_l15, z_l16, z_l32, z_l80, z_l101, z_l120, z_l126, z_l127, z_l130, z_l160, z_l198, z_l200, z_l202, z_l240, z_l252, z_l253, z_l254, z_l255, z_l260, z_l480, z_l900, Mo_room, Mo_code, Mo_draft, Mo_drafted, Mo_source, Mo_fault, Mo_count, Mo_kind, Mo_tag, Mo_value, Mo_letters, Mo_parent, Mo_first, Mo_next, Mo_last, Mo_many, Mo_size, Mo_number, Mo_chars, Mo_held, Mo_fits, Mo_depth, Mo_node, Mo_end, Mo_loose, Mo_at, Mo_made, Mo_makes, Mo_line, Mo_timer, Mo_input, Mo_inputs, Mo_output, Mo_outputs, Mo_contexts, Mo_ids, Mo_services, Mo_results, Mo_wanted, Mo_command, Mo_commands, Mo_body, Mo_bodies, Mo_speaker, Mo_what, Mo_message, Mo_answered, Mo_records, Mo_kept, Mo_lengths, Mo_set_room, Mo_set_code, Mo_set_draft, Mo_set_drafted, Mo_set_source, Mo_set_fault, Mo_set_count, Mo_set_kind, Mo_set_tag, Mo_set_value, Mo_set_letters, Mo_set_parent, Mo_set_first, Mo_set_next, Mo_set_last, Mo_set_many, Mo_set_size, Mo_set_number, Mo_set_chars, Mo_set_held, Mo_set_fits, Mo_set_depth, Mo_set_node, Mo_set_end, Mo_set_loose, Mo_set_at, Mo_set_made, Mo_set_makes, Mo_set_line, Mo_set_timer, Mo_set_input, Mo_set_inputs, Mo_set_output, Mo_set_outputs, Mo_set_contexts, Mo_set_ids, Mo_set_services, Mo_set_results, Mo_set_wanted, Mo_set_command, Mo_set_commands, Mo_set_body, Mo_set_bodies, Mo_set_speaker, Mo_set_what, Mo_set_message, Mo_set_answered, Mo_set_records, Mo_set_kept, Mo_set_lengths, ua_s, ua_n, pk_us, pk_un] <;> omega))]
        rw [if_neg (by first | omega | (simp (disch := omega) only [z_lt, z_le, z_eq, z_cl, z_ad, z_mu, z_sb, z_n1, z_em, z_me, z_lm, z_ml, z_mle, z_lme, z_ma, z_am, z_m2, not_false_eq_true, z_l0, z_l1, z_l2, z_l3, z_l4, z_l5, z_l6, z_l7, z_l8, z_l10, z_l14, z_l15, z_l16, z_l32, z_l80, z_l101, z_l120, z_l126, z_l127, z_l130, z_l160, z_l198, z_l200, z_l202, z_l240, z_l252, z_l253, z_l254, z_l255, z_l260, z_l480, z_l900, Mo_room, Mo_code, Mo_draft, Mo_drafted, Mo_source, Mo_fault, Mo_count, Mo_kind, Mo_tag, Mo_value, Mo_letters, Mo_parent, Mo_first, Mo_next, Mo_last, Mo_many, Mo_size, Mo_number, Mo_chars, Mo_held, Mo_fits, Mo_depth, Mo_node, Mo_end, Mo_loose, Mo_at, Mo_made, Mo_makes, Mo_line, Mo_timer, Mo_input, Mo_inputs, Mo_output, Mo_outputs, Mo_contexts, Mo_ids, Mo_services, Mo_results, Mo_wanted, Mo_command, Mo_commands, Mo_body, Mo_bodies, Mo_speaker, Mo_what, Mo_message, Mo_answered, Mo_records, Mo_kept, Mo_lengths, Mo_set_room, Mo_set_code, Mo_set_draft, Mo_set_drafted, Mo_set_source, Mo_set_fault, Mo_set_count, Mo_set_kind, Mo_set_tag, Mo_set_value, Mo_set_letters, Mo_set_parent, Mo_set_first, Mo_set_next, Mo_set_last, Mo_set_many, Mo_set_size, Mo_set_number, Mo_set_chars, Mo_set_held, Mo_set_fits, Mo_set_depth, Mo_set_node, Mo_set_end, Mo_set_loose, Mo_set_at, Mo_set_made, Mo_set_makes, Mo_set_line, Mo_set_timer, Mo_set_input, Mo_set_inputs, Mo_set_output, Mo_set_outputs, Mo_set_contexts, Mo_set_ids, Mo_set_services, Mo_set_results, Mo_set_wanted, Mo_set_command, Mo_set_commands, Mo_set_body, Mo_set_bodies, Mo_set_speaker, Mo_set_what, Mo_set_message, Mo_set_answered, Mo_set_records, Mo_set_kept, Mo_set_lengths, ua_s, ua_n, pk_us, pk_un] <;> omega))]
        by_cases ct : nT pd j = nT nd c
        · rw [if_pos (by first | omega | (simp (disch := omega) only [z_lt, z_le, z_eq, z_cl, z_ad, z_mu, z_sb, z_n1, z_em, z_me, z_lm, z_ml, z_mle, z_lme, z_ma, z_am, z_m2, not_false_eq_true, z_l0, z_l1, z_l2, z_l3, z_l4, z_l5, z_l6, z_l7, z_l8, z_l10, z_l14, z_l15, z_l16, z_l32, z_l80, z_l101, z_l120, z_l126, z_l127, z_l130, z_l160, z_l198, z_l200, z_l202, z_l240, z_l252, z_l253, z_l254, z_l255, z_l260, z_l480, z_l900, Mo_room, Mo_code, Mo_draft, Mo_drafted, Mo_source, Mo_fault, Mo_count, Mo_kind, Mo_tag, Mo_value, Mo_letters, Mo_parent, Mo_first, Mo_next, Mo_last, Mo_many, Mo_size, Mo_number, Mo_chars, Mo_held, Mo_fits, Mo_depth, Mo_node, Mo_end, Mo_loose, Mo_at, Mo_made, Mo_makes, Mo_line, Mo_timer, Mo_input, Mo_inputs, Mo_output, Mo_outputs, Mo_contexts, Mo_ids, Mo_services, Mo_results, Mo_wanted, Mo_command, Mo_commands, Mo_body, Mo_bodies, Mo_speaker, Mo_what, Mo_message, Mo_answered, Mo_records, Mo_kept, Mo_lengths, Mo_set_room, Mo_set_code, Mo_set_draft, Mo_set_drafted, Mo_set_source, Mo_set_fault, Mo_set_count, Mo_set_kind, Mo_set_tag, Mo_set_value, Mo_set_letters, Mo_set_parent, Mo_set_first, Mo_set_next, Mo_set_last, Mo_set_many, Mo_set_size, Mo_set_number, Mo_set_chars, Mo_set_held, Mo_set_fits, Mo_set_depth, Mo_set_node, Mo_set_end, Mo_set_loose, Mo_set_at, Mo_set_made, Mo_set_makes, Mo_set_line, Mo_set_timer, Mo_set_input, Mo_set_inputs, Mo_set_output, Mo_set_outputs, Mo_set_contexts, Mo_set_ids, Mo_set_services, Mo_set_results, Mo_set_wanted, Mo_set_command, Mo_set_commands, Mo_set_body, Mo_set_bodies, Mo_set_speaker, Mo_set_what, Mo_set_message, Mo_set_answered, Mo_set_records, Mo_set_kept, Mo_set_lengths, ua_s, ua_n, pk_us, pk_un, c4, d4, ct] <;> omega))]
          rw [decide_eq_true ct]
          exact e83 true
        · rw [if_neg (by first | omega | (simp (disch := omega) only [z_lt, z_le, z_eq, z_cl, z_ad, z_mu, z_sb, z_n1, z_em, z_me, z_lm, z_ml, z_mle, z_lme, z_ma, z_am, z_m2, not_false_eq_true, z_l0, z_l1, z_l2, z_l3, z_l4, z_l5, z_l6, z_l7, z_l8, z_l10, z_l14, z_l15, z_l16, z_l32, z_l80, z_l101, z_l120, z_l126, z_l127, z_l130, z_l160, z_l198, z_l200, z_l202, z_l240, z_l252, z_l253, z_l254, z_l255, z_l260, z_l480, z_l900, Mo_room, Mo_code, Mo_draft, Mo_drafted, Mo_source, Mo_fault, Mo_count, Mo_kind, Mo_tag, Mo_value, Mo_letters, Mo_parent, Mo_first, Mo_next, Mo_last, Mo_many, Mo_size, Mo_number, Mo_chars, Mo_held, Mo_fits, Mo_depth, Mo_node, Mo_end, Mo_loose, Mo_at, Mo_made, Mo_makes, Mo_line, Mo_timer, Mo_input, Mo_inputs, Mo_output, Mo_outputs, Mo_contexts, Mo_ids, Mo_services, Mo_results, Mo_wanted, Mo_command, Mo_commands, Mo_body, Mo_bodies, Mo_speaker, Mo_what, Mo_message, Mo_answered, Mo_records, Mo_kept, Mo_lengths, Mo_set_room, Mo_set_code, Mo_set_draft, Mo_set_drafted, Mo_set_source, Mo_set_fault, Mo_set_count, Mo_set_kind, Mo_set_tag, Mo_set_value, Mo_set_letters, Mo_set_parent, Mo_set_first, Mo_set_next, Mo_set_last, Mo_set_many, Mo_set_size, Mo_set_number, Mo_set_chars, Mo_set_held, Mo_set_fits, Mo_set_depth, Mo_set_node, Mo_set_end, Mo_set_loose, Mo_set_at, Mo_set_made, Mo_set_makes, Mo_set_line, Mo_set_timer, Mo_set_input, Mo_set_inputs, Mo_set_output, Mo_set_outputs, Mo_set_contexts, Mo_set_ids, Mo_set_services, Mo_set_results, Mo_set_wanted, Mo_set_command, Mo_set_commands, Mo_set_body, Mo_set_bodies, Mo_set_speaker, Mo_set_what, Mo_set_message, Mo_set_answered, Mo_set_records, Mo_set_kept, Mo_set_lengths, ua_s, ua_n, pk_us, pk_un, c4, d4, ct] <;> omega))]
          rw [decide_eq_false ct]
          exact e83 false
    · rw [if_neg d, if_neg d, fin, List.any_nil, Bool.or_false]
theorem m_showLoop (hsy : syn ≤ 1) (w1 : wfT pd) (w2 : wfT nd) : ∀ (m j fu : Nat) (s : S_Mo) (l : List Nat), mtr s.2 0 pd → mTS s 1 syn nd → mM s l → nd.length ≤ j + m → 0 < j → j ≤ nd.length → (j < nd.length → nL nd j = nL nd 0 + 1) → m < fu → l.length + (sB syn nd j (nd.length - j)).length ≤ 900 → ∃ s', lp (fun k39 v => B_Mo_shows_39 k39 v.1 v.2.1 v.2.2) fu (s, nI syn, (if j < nd.length then nI (130 * 1 + j) else mI)) = B_Mo_shows_144 s' ∧ mM s' (l ++ (kdsF nd nd.length m j).flatMap (sgB syn pd nd)) ∧ mOM s s' := by
  have l1 := w1.2.2.2.2.1
  have l2 := w2.2.2.2.2.1
  have g1 := w1.2.2.2.1
  have g2 := w2.2.2.2.1
  have hb2 := (wf_b0 w2).1
  have fin : ∀ (s : S_Mo) (K), B_Mo_shows_39 K s (nI syn) mI = B_Mo_shows_144 s := by
    intro s K
    unfold B_Mo_shows_39
    rw [if_pos (by decide +kernel : mI < 0)]
  intro m
  induction m with
  | zero =>
    intro j fu s l hm hT hM q1 q2 q3 q4 q6 q7
    obtain ⟨fu', rfl⟩ : ∃ fu', fu = fu' + 1 := ⟨fu - 1, by omega⟩
    refine ⟨s, ?_, by rw [show kdsF nd nd.length 0 j = [] from rfl]; simpa using hM, mOM_r s⟩
    rw [lp_s, if_neg (by omega : ¬ j < nd.length)]
    exact fin s _
  | succ m ih =>
    intro j fu s l hm hT hM q1 q2 q3 q4 q6 q7
    obtain ⟨fu', rfl⟩ : ∃ fu', fu = fu' + 1 := ⟨fu - 1, by omega⟩
    rw [lp_s, show kdsF nd nd.length (m + 1) j = if j < nd.length then j :: kdsF nd nd.length m (bhf nd j) else [] from rfl]
    by_cases d : j < nd.length
    · rw [if_pos d, if_pos d, List.flatMap_cons, ← List.append_assoc]
      have hbj := bhf_lt d
      obtain ⟨n1, n2, n3⟩ := nxI_kid (t := 1) g2 q2 (by omega) (q4 d)
      rw [hb2] at n1 n2 n3
      obtain ⟨c3, c4, c5, c6, c7, c7', c8, c9, c11⟩ := hT.1.2.2.1 j d
      rw [n2] at c9
      have hj3 := kid_3 w2 g2 (by rw [(wf_b0 w2).2]) d (q4 d)
      have hsp : (sB syn nd j (nd.length - j)).length = (sB syn nd j (bhf nd j - j)).length + (sB syn nd (bhf nd j) (nd.length - bhf nd j)).length := by
        rw [show nd.length - j = (bhf nd j - j) + (nd.length - bhf nd j) by omega, sB_ap, List.length_append, show j + (bhf nd j - j) = bhf nd j by omega]
      -- on, with the next element
      have on : ∀ (s1 : S_Mo) (l1 : List Nat), mOM s s1 → mM s1 l1 → l1.length + (sB syn nd (bhf nd j) (nd.length - bhf nd j)).length ≤ 900 → ∃ s', B_Mo_shows_134 (lp (fun k39 v => B_Mo_shows_39 k39 v.1 v.2.1 v.2.2) fu') s1 (nI syn) (nI (130 * 1 + j)) = B_Mo_shows_144 s' ∧ mM s' (l1 ++ (kdsF nd nd.length m (bhf nd j)).flatMap (sgB syn pd nd)) ∧ mOM s s' := by
        intro s1 l1' o1 m1 hl1
        obtain ⟨s', e', m', o'⟩ := ih (bhf nd j) fu' s1 l1' (mtr_c hm (fun j hj => o1.2 j (by omega))) (mTS_o hT o1) m1 (by omega) (by omega) n1 n3 (by omega) hl1
        refine ⟨s', ?_, m', mOM_t o1 o'⟩
        unfold B_Mo_shows_134
        rw [if_neg (by first | omega | (simp (disch := omega) only [z_lt, z_le, z_eq, z_cl, z_ad, z_mu, z_sb, z_n1, z_em, z_me, z_lm, z_ml, z_mle, z_lme, z_ma, z_am, z_m2, not_false_eq_true, z_l0, z_l1, z_l2, z_l3, z_l4, z_l5, z_l6, z_l7, z_l8, z_l10, z_l14, z_l15, z_l16, z_l32, z_l80, z_l101, z_l120, z_l126, z_l127, z_l130, z_l160, z_l198, z_l200, z_l202, z_l240, z_l252, z_l253, z_l254, z_l255, z_l260, z_l480, z_l900, Mo_room, Mo_code, Mo_draft, Mo_drafted, Mo_source, Mo_fault, Mo_count, Mo_kind, Mo_tag, Mo_value, Mo_letters, Mo_parent, Mo_first, Mo_next, Mo_last, Mo_many, Mo_size, Mo_number, Mo_chars, Mo_held, Mo_fits, Mo_depth, Mo_node, Mo_end, Mo_loose, Mo_at, Mo_made, Mo_makes, Mo_line, Mo_timer, Mo_input, Mo_inputs, Mo_output, Mo_outputs, Mo_contexts, Mo_ids, Mo_services, Mo_results, Mo_wanted, Mo_command, Mo_commands, Mo_body, Mo_bodies, Mo_speaker, Mo_what, Mo_message, Mo_answered, Mo_records, Mo_kept, Mo_lengths, Mo_set_room, Mo_set_code, Mo_set_draft, Mo_set_drafted, Mo_set_source, Mo_set_fault, Mo_set_count, Mo_set_kind, Mo_set_tag, Mo_set_value, Mo_set_letters, Mo_set_parent, Mo_set_first, Mo_set_next, Mo_set_last, Mo_set_many, Mo_set_size, Mo_set_number, Mo_set_chars, Mo_set_held, Mo_set_fits, Mo_set_depth, Mo_set_node, Mo_set_end, Mo_set_loose, Mo_set_at, Mo_set_made, Mo_set_makes, Mo_set_line, Mo_set_timer, Mo_set_input, Mo_set_inputs, Mo_set_output, Mo_set_outputs, Mo_set_contexts, Mo_set_ids, Mo_set_services, Mo_set_results, Mo_set_wanted, Mo_set_command, Mo_set_commands, Mo_set_body, Mo_set_bodies, Mo_set_speaker, Mo_set_what, Mo_set_message, Mo_set_answered, Mo_set_records, Mo_set_kept, Mo_set_lengths, ua_s, ua_n, pk_us, pk_un] <;> omega))]
        rw [show (Mo_next s1) (nI (130 * 1 + j)).toNatClampNeg = (if bhf nd j < nd.length then nI (130 * 1 + bhf nd j) else mI) by
          rw [z_cl (by omega)]
          show s1.2 9 (130 * 1 + j) = _
          rw [o1.2 9 (by omega)]
          exact c9]
        exact e'
      have e39 : ∀ K, B_Mo_shows_39 K s (nI syn) (nI (130 * 1 + j)) = B_Mo_shows_96 K s (nI syn) (nI (130 * 1 + j)) (if hasT pd (nT nd j) = true then 1 else 0) := fun K => by
        unfold B_Mo_shows_39
        rw [if_neg (by first | omega | (simp (disch := omega) only [z_lt, z_le, z_eq, z_cl, z_ad, z_mu, z_sb, z_n1, z_em, z_me, z_lm, z_ml, z_mle, z_lme, z_ma, z_am, z_m2, not_false_eq_true, z_l0, z_l1, z_l2, z_l3, z_l4, z_l5, z_l6, z_l7, z_l8, z_l10, z_l14, z_l15, z_l16, z_l32, z_l80, z_l101, z_l120, z_l126, z_l127, z_l130, z_l160, z_l198, z_l200, z_l202, z_l240, z_l252, z_l253, z_l254, z_l255, z_l260, z_l480, z_l900, Mo_room, Mo_code, Mo_draft, Mo_drafted, Mo_source, Mo_fault, Mo_count, Mo_kind, Mo_tag, Mo_value, Mo_letters, Mo_parent, Mo_first, Mo_next, Mo_last, Mo_many, Mo_size, Mo_number, Mo_chars, Mo_held, Mo_fits, Mo_depth, Mo_node, Mo_end, Mo_loose, Mo_at, Mo_made, Mo_makes, Mo_line, Mo_timer, Mo_input, Mo_inputs, Mo_output, Mo_outputs, Mo_contexts, Mo_ids, Mo_services, Mo_results, Mo_wanted, Mo_command, Mo_commands, Mo_body, Mo_bodies, Mo_speaker, Mo_what, Mo_message, Mo_answered, Mo_records, Mo_kept, Mo_lengths, Mo_set_room, Mo_set_code, Mo_set_draft, Mo_set_drafted, Mo_set_source, Mo_set_fault, Mo_set_count, Mo_set_kind, Mo_set_tag, Mo_set_value, Mo_set_letters, Mo_set_parent, Mo_set_first, Mo_set_next, Mo_set_last, Mo_set_many, Mo_set_size, Mo_set_number, Mo_set_chars, Mo_set_held, Mo_set_fits, Mo_set_depth, Mo_set_node, Mo_set_end, Mo_set_loose, Mo_set_at, Mo_set_made, Mo_set_makes, Mo_set_line, Mo_set_timer, Mo_set_input, Mo_set_inputs, Mo_set_output, Mo_set_outputs, Mo_set_contexts, Mo_set_ids, Mo_set_services, Mo_set_results, Mo_set_wanted, Mo_set_command, Mo_set_commands, Mo_set_body, Mo_set_bodies, Mo_set_speaker, Mo_set_what, Mo_set_message, Mo_set_answered, Mo_set_records, Mo_set_kept, Mo_set_lengths, ua_s, ua_n, pk_us, pk_un] <;> omega))]
        unfold B_Mo_shows_43
        rw [if_neg (by first | omega | (simp (disch := omega) only [z_lt, z_le, z_eq, z_cl, z_ad, z_mu, z_sb, z_n1, z_em, z_me, z_lm, z_ml, z_mle, z_lme, z_ma, z_am, z_m2, not_false_eq_true, z_l0, z_l1, z_l2, z_l3, z_l4, z_l5, z_l6, z_l7, z_l8, z_l10, z_l14, z_l15, z_l16, z_l32, z_l80, z_l101, z_l120, z_l126, z_l127, z_l130, z_l160, z_l198, z_l200, z_l202, z_l240, z_l252, z_l253, z_l254, z_l255, z_l260, z_l480, z_l900, Mo_room, Mo_code, Mo_draft, Mo_drafted, Mo_source, Mo_fault, Mo_count, Mo_kind, Mo_tag, Mo_value, Mo_letters, Mo_parent, Mo_first, Mo_next, Mo_last, Mo_many, Mo_size, Mo_number, Mo_chars, Mo_held, Mo_fits, Mo_depth, Mo_node, Mo_end, Mo_loose, Mo_at, Mo_made, Mo_makes, Mo_line, Mo_timer, Mo_input, Mo_inputs, Mo_output, Mo_outputs, Mo_contexts, Mo_ids, Mo_services, Mo_results, Mo_wanted, Mo_command, Mo_commands, Mo_body, Mo_bodies, Mo_speaker, Mo_what, Mo_message, Mo_answered, Mo_records, Mo_kept, Mo_lengths, Mo_set_room, Mo_set_code, Mo_set_draft, Mo_set_drafted, Mo_set_source, Mo_set_fault, Mo_set_count, Mo_set_kind, Mo_set_tag, Mo_set_value, Mo_set_letters, Mo_set_parent, Mo_set_first, Mo_set_next, Mo_set_last, Mo_set_many, Mo_set_size, Mo_set_number, Mo_set_chars, Mo_set_held, Mo_set_fits, Mo_set_depth, Mo_set_node, Mo_set_end, Mo_set_loose, Mo_set_at, Mo_set_made, Mo_set_makes, Mo_set_line, Mo_set_timer, Mo_set_input, Mo_set_inputs, Mo_set_output, Mo_set_outputs, Mo_set_contexts, Mo_set_ids, Mo_set_services, Mo_set_results, Mo_set_wanted, Mo_set_command, Mo_set_commands, Mo_set_body, Mo_set_bodies, Mo_set_speaker, Mo_set_what, Mo_set_message, Mo_set_answered, Mo_set_records, Mo_set_kept, Mo_set_lengths, ua_s, ua_n, pk_us, pk_un] <;> omega))]
        have a8 := (hm.2.2.1 0 g1).2.2.2.2.2.2.1
        rw [show (Mo_first s) (0 : Int32).toNatClampNeg = fiI 0 pd 0 from a8, fiI_kid g1]
        have := m_asked (syn := syn) w1 w2 hm hT.1 K d hj3 pd.length (0 + 1) FU false (by have := bhf_lt g1; omega) (by omega) (by have := bhf_lt g1; omega) (fun h => by
          have hn0 := (w1.2.2.1 0 g1).1.2.2.2.2 (by have := bhf_lt g1; omega)
          have hn1 := (w1.2.2.1 (0 + 1) (by have := bhf_lt g1; omega)).1.2.1 (by omega)
          have := (wf_b0 w1).2
          omega) (by unfold FU; omega)
        rw [Bool.false_or, show kdsF pd (bhf pd 0) pd.length (0 + 1) = kds pd 0 from rfl, any_has] at this
        exact this
      show ∃ s', B_Mo_shows_39 _ s (nI syn) (nI (130 * 1 + j)) = _ ∧ _
      rw [e39]
      unfold B_Mo_shows_96 sgB
      cases ha : hasT pd (nT nd j) with
      | false =>
        rw [if_neg (by decide : ¬ false = true), if_neg (by decide : ¬ false = true), if_pos rfl, List.append_nil]
        exact on s l (mOM_r s) hM (by omega)
      | true =>
        rw [if_pos (rfl : true = true), if_pos (rfl : true = true), if_neg (by decide : ¬ (1 : Int32) = 0)]
        obtain ⟨s1, e1, m1, o1⟩ := m_write (t := 1) (syn := syn) (by omega) hsy w2.2.1 w2.1 l2 w2.2.2.2.2.2.1 (fun i hi => (w2.2.2.1 i hi).1) (b := bhf nd j) hbj.2 (bhf nd j - j) j FU s l (by omega) (by unfold FU; omega) hT hM (by omega)
        have e130 : ∀ K, B_Mo_shows_130 K s (nI syn) (nI (130 * 1 + j)) (nI (130 * 1 + bhf nd j)) (nI (130 * 1 + j)) = B_Mo_shows_134 K s1 (nI syn) (nI (130 * 1 + j)) := fun K => by
          unfold B_Mo_shows_130 F_Mo_write B_Mo_write_0 L_Mo_write_3
          rw [e1, Option.bind_some]
        have hnx : (Mo_next s) (nI (130 * 1 + j)).toNatClampNeg = (if bhf nd j < nd.length then nI (130 * 1 + bhf nd j) else mI) := by
          rw [z_cl (by omega)]
          exact c9
        have e100 : ∀ K, B_Mo_shows_100 K s (nI syn) (nI (130 * 1 + j)) = B_Mo_shows_134 K s1 (nI syn) (nI (130 * 1 + j)) := fun K => by
          rw [← e130 K]
          unfold B_Mo_shows_100
          rw [if_neg (by first | omega | (simp (disch := omega) only [z_lt, z_le, z_eq, z_cl, z_ad, z_mu, z_sb, z_n1, z_em, z_me, z_lm, z_ml, z_mle, z_lme, z_ma, z_am, z_m2, not_false_eq_true, z_l0, z_l1, z_l2, z_l3, z_l4, z_l5, z_l6, z_l7, z_l8, z_l10, z_l14, z_l15, z_l16, z_l32, z_l80, z_l101, z_l120, z_l126, z_l127, z_l130, z_l160, z_l198, z_l200, z_l202, z_l240, z_l252, z_l253, z_l254, z_l255, z_l260, z_l480, z_l900, Mo_room, Mo_code, Mo_draft, Mo_drafted, Mo_source, Mo_fault, Mo_count, Mo_kind, Mo_tag, Mo_value, Mo_letters, Mo_parent, Mo_first, Mo_next, Mo_last, Mo_many, Mo_size, Mo_number, Mo_chars, Mo_held, Mo_fits, Mo_depth, Mo_node, Mo_end, Mo_loose, Mo_at, Mo_made, Mo_makes, Mo_line, Mo_timer, Mo_input, Mo_inputs, Mo_output, Mo_outputs, Mo_contexts, Mo_ids, Mo_services, Mo_results, Mo_wanted, Mo_command, Mo_commands, Mo_body, Mo_bodies, Mo_speaker, Mo_what, Mo_message, Mo_answered, Mo_records, Mo_kept, Mo_lengths, Mo_set_room, Mo_set_code, Mo_set_draft, Mo_set_drafted, Mo_set_source, Mo_set_fault, Mo_set_count, Mo_set_kind, Mo_set_tag, Mo_set_value, Mo_set_letters, Mo_set_parent, Mo_set_first, Mo_set_next, Mo_set_last, Mo_set_many, Mo_set_size, Mo_set_number, Mo_set_chars, Mo_set_held, Mo_set_fits, Mo_set_depth, Mo_set_node, Mo_set_end, Mo_set_loose, Mo_set_at, Mo_set_made, Mo_set_makes, Mo_set_line, Mo_set_timer, Mo_set_input, Mo_set_inputs, Mo_set_output, Mo_set_outputs, Mo_set_contexts, Mo_set_ids, Mo_set_services, Mo_set_results, Mo_set_wanted, Mo_set_command, Mo_set_commands, Mo_set_body, Mo_set_bodies, Mo_set_speaker, Mo_set_what, Mo_set_message, Mo_set_answered, Mo_set_records, Mo_set_kept, Mo_set_lengths, ua_s, ua_n, pk_us, pk_un] <;> omega))]
          rw [hnx]
          by_cases x : bhf nd j < nd.length
          · rw [if_pos x]
            rw [if_pos (by first | omega | (simp (disch := omega) only [z_lt, z_le, z_eq, z_cl, z_ad, z_mu, z_sb, z_n1, z_em, z_me, z_lm, z_ml, z_mle, z_lme, z_ma, z_am, z_m2, not_false_eq_true, z_l0, z_l1, z_l2, z_l3, z_l4, z_l5, z_l6, z_l7, z_l8, z_l10, z_l14, z_l15, z_l16, z_l32, z_l80, z_l101, z_l120, z_l126, z_l127, z_l130, z_l160, z_l198, z_l200, z_l202, z_l240, z_l252, z_l253, z_l254, z_l255, z_l260, z_l480, z_l900, Mo_room, Mo_code, Mo_draft, Mo_drafted, Mo_source, Mo_fault, Mo_count, Mo_kind, Mo_tag, Mo_value, Mo_letters, Mo_parent, Mo_first, Mo_next, Mo_last, Mo_many, Mo_size, Mo_number, Mo_chars, Mo_held, Mo_fits, Mo_depth, Mo_node, Mo_end, Mo_loose, Mo_at, Mo_made, Mo_makes, Mo_line, Mo_timer, Mo_input, Mo_inputs, Mo_output, Mo_outputs, Mo_contexts, Mo_ids, Mo_services, Mo_results, Mo_wanted, Mo_command, Mo_commands, Mo_body, Mo_bodies, Mo_speaker, Mo_what, Mo_message, Mo_answered, Mo_records, Mo_kept, Mo_lengths, Mo_set_room, Mo_set_code, Mo_set_draft, Mo_set_drafted, Mo_set_source, Mo_set_fault, Mo_set_count, Mo_set_kind, Mo_set_tag, Mo_set_value, Mo_set_letters, Mo_set_parent, Mo_set_first, Mo_set_next, Mo_set_last, Mo_set_many, Mo_set_size, Mo_set_number, Mo_set_chars, Mo_set_held, Mo_set_fits, Mo_set_depth, Mo_set_node, Mo_set_end, Mo_set_loose, Mo_set_at, Mo_set_made, Mo_set_makes, Mo_set_line, Mo_set_timer, Mo_set_input, Mo_set_inputs, Mo_set_output, Mo_set_outputs, Mo_set_contexts, Mo_set_ids, Mo_set_services, Mo_set_results, Mo_set_wanted, Mo_set_command, Mo_set_commands, Mo_set_body, Mo_set_bodies, Mo_set_speaker, Mo_set_what, Mo_set_message, Mo_set_answered, Mo_set_records, Mo_set_kept, Mo_set_lengths, ua_s, ua_n, pk_us, pk_un] <;> omega))]
            unfold B_Mo_shows_124
            rw [if_neg (by first | omega | (simp (disch := omega) only [z_lt, z_le, z_eq, z_cl, z_ad, z_mu, z_sb, z_n1, z_em, z_me, z_lm, z_ml, z_mle, z_lme, z_ma, z_am, z_m2, not_false_eq_true, z_l0, z_l1, z_l2, z_l3, z_l4, z_l5, z_l6, z_l7, z_l8, z_l10, z_l14, z_l15, z_l16, z_l32, z_l80, z_l101, z_l120, z_l126, z_l127, z_l130, z_l160, z_l198, z_l200, z_l202, z_l240, z_l252, z_l253, z_l254, z_l255, z_l260, z_l480, z_l900, Mo_room, Mo_code, Mo_draft, Mo_drafted, Mo_source, Mo_fault, Mo_count, Mo_kind, Mo_tag, Mo_value, Mo_letters, Mo_parent, Mo_first, Mo_next, Mo_last, Mo_many, Mo_size, Mo_number, Mo_chars, Mo_held, Mo_fits, Mo_depth, Mo_node, Mo_end, Mo_loose, Mo_at, Mo_made, Mo_makes, Mo_line, Mo_timer, Mo_input, Mo_inputs, Mo_output, Mo_outputs, Mo_contexts, Mo_ids, Mo_services, Mo_results, Mo_wanted, Mo_command, Mo_commands, Mo_body, Mo_bodies, Mo_speaker, Mo_what, Mo_message, Mo_answered, Mo_records, Mo_kept, Mo_lengths, Mo_set_room, Mo_set_code, Mo_set_draft, Mo_set_drafted, Mo_set_source, Mo_set_fault, Mo_set_count, Mo_set_kind, Mo_set_tag, Mo_set_value, Mo_set_letters, Mo_set_parent, Mo_set_first, Mo_set_next, Mo_set_last, Mo_set_many, Mo_set_size, Mo_set_number, Mo_set_chars, Mo_set_held, Mo_set_fits, Mo_set_depth, Mo_set_node, Mo_set_end, Mo_set_loose, Mo_set_at, Mo_set_made, Mo_set_makes, Mo_set_line, Mo_set_timer, Mo_set_input, Mo_set_inputs, Mo_set_output, Mo_set_outputs, Mo_set_contexts, Mo_set_ids, Mo_set_services, Mo_set_results, Mo_set_wanted, Mo_set_command, Mo_set_commands, Mo_set_body, Mo_set_bodies, Mo_set_speaker, Mo_set_what, Mo_set_message, Mo_set_answered, Mo_set_records, Mo_set_kept, Mo_set_lengths, ua_s, ua_n, pk_us, pk_un] <;> omega))]
            rw [hnx, if_pos x]
          · rw [if_neg x, if_neg (by decide +kernel : ¬ (0 : Int32) ≤ mI)]
            unfold B_Mo_shows_111
            rw [if_neg (by decide +kernel)]
            rw [show (130 : Int32) + (Mo_count s) (1 : Int32).toNatClampNeg = nI (130 * 1 + bhf nd j) by
              rw [show (Mo_count s) (1 : Int32).toNatClampNeg = nI nd.length from hT.1.1, show bhf nd j = nd.length by omega]
              simp (disch := omega) only [z_lt, z_le, z_eq, z_cl, z_ad, z_mu, z_sb, z_n1, z_em, z_me, z_lm, z_ml, z_mle, z_lme, z_ma, z_am, z_m2, not_false_eq_true, z_l0, z_l1, z_l2, z_l3, z_l4, z_l5, z_l6, z_l7, z_l8, z_l10, z_l14, z_l15, z_l16, z_l32, z_l80, z_l101, z_l120, z_l126, z_l127, z_l130, z_l160, z_l198, z_l200, z_l202, z_l240, z_l252, z_l253, z_l254, z_l255, z_l260, z_l480, z_l900, Mo_room, Mo_code, Mo_draft, Mo_drafted, Mo_source, Mo_fault, Mo_count, Mo_kind, Mo_tag, Mo_value, Mo_letters, Mo_parent, Mo_first, Mo_next, Mo_last, Mo_many, Mo_size, Mo_number, Mo_chars, Mo_held, Mo_fits, Mo_depth, Mo_node, Mo_end, Mo_loose, Mo_at, Mo_made, Mo_makes, Mo_line, Mo_timer, Mo_input, Mo_inputs, Mo_output, Mo_outputs, Mo_contexts, Mo_ids, Mo_services, Mo_results, Mo_wanted, Mo_command, Mo_commands, Mo_body, Mo_bodies, Mo_speaker, Mo_what, Mo_message, Mo_answered, Mo_records, Mo_kept, Mo_lengths, Mo_set_room, Mo_set_code, Mo_set_draft, Mo_set_drafted, Mo_set_source, Mo_set_fault, Mo_set_count, Mo_set_kind, Mo_set_tag, Mo_set_value, Mo_set_letters, Mo_set_parent, Mo_set_first, Mo_set_next, Mo_set_last, Mo_set_many, Mo_set_size, Mo_set_number, Mo_set_chars, Mo_set_held, Mo_set_fits, Mo_set_depth, Mo_set_node, Mo_set_end, Mo_set_loose, Mo_set_at, Mo_set_made, Mo_set_makes, Mo_set_line, Mo_set_timer, Mo_set_input, Mo_set_inputs, Mo_set_output, Mo_set_outputs, Mo_set_contexts, Mo_set_ids, Mo_set_services, Mo_set_results, Mo_set_wanted, Mo_set_command, Mo_set_commands, Mo_set_body, Mo_set_bodies, Mo_set_speaker, Mo_set_what, Mo_set_message, Mo_set_answered, Mo_set_records, Mo_set_kept, Mo_set_lengths, ua_s, ua_n, pk_us, pk_un]]
        rw [e100]
        exact on s1 _ o1 m1 (by rw [List.length_append]; omega)
    · rw [if_neg d, if_neg d]
      refine ⟨s, fin s _, by simpa using hM, mOM_r s⟩
theorem m_shows {c id : Nat} (hsy : syn ≤ 1) (w1 : wfT pd) (w2 : wfT nd) (hm : mtr s.2 0 pd) (hm' : mtr s.2 1 nd) (hc : c < 4) (hsp : s.1 15 = nI c) (hid : s.2 23 c = nI id) : ∃ s', F_Mo_shows s (nI syn) = B_Mo_shows_144 s' ∧ mM s' ([id, 2] ++ chB syn pd nd) ∧ mOC s s' := by
  have l2 := w2.2.2.2.2.1
  have g2 := w2.2.2.2.1
  obtain ⟨s1, e1, z1, z2, z3⟩ := m_measure (s := s) (t := 1) (syn := syn) (by omega) hsy w2.1 l2 g2 (fun i hi hi2 => (w2.2.2.1 i hi).1.2.2.2.2 hi2) hm'
  unfold F_Mo_shows B_Mo_shows_0
  rw [show (1 : Int32) = nI 1 from rfl, e1, Option.bind_some]
  have hM : mM (Mo_set_makes s1 0) [] := ⟨by simp, pk_us (f := s1.1) (k := 6) (x := 0), fun i hi => by simp at hi⟩
  have f1 : Mo_speaker (Mo_set_makes s1 (0 : Int32)) = nI c := by
    show (Mo_set_makes s1 0).1 15 = _
    rw [show (Mo_set_makes s1 0).1 15 = s1.1 15 from pk_un (f := s1.1) (k := 6) (j := 15) (x := 0) (by omega), z1, hsp]
  have f2 : Mo_ids (Mo_set_makes s1 (0 : Int32)) c = nI id := by
    show s1.2 23 c = _
    rw [z2 23 (by omega), hid]
  dsimp only
  rw [f1]
  rw [if_neg (by first | omega | (simp (disch := omega) only [z_lt, z_le, z_eq, z_cl, z_ad, z_mu, z_sb, z_n1, z_em, z_me, z_lm, z_ml, z_mle, z_lme, z_ma, z_am, z_m2, not_false_eq_true, z_l0, z_l1, z_l2, z_l3, z_l4, z_l5, z_l6, z_l7, z_l8, z_l10, z_l14, z_l15, z_l16, z_l32, z_l80, z_l101, z_l120, z_l126, z_l127, z_l130, z_l160, z_l198, z_l200, z_l202, z_l240, z_l252, z_l253, z_l254, z_l255, z_l260, z_l480, z_l900, Mo_room, Mo_code, Mo_draft, Mo_drafted, Mo_source, Mo_fault, Mo_count, Mo_kind, Mo_tag, Mo_value, Mo_letters, Mo_parent, Mo_first, Mo_next, Mo_last, Mo_many, Mo_size, Mo_number, Mo_chars, Mo_held, Mo_fits, Mo_depth, Mo_node, Mo_end, Mo_loose, Mo_at, Mo_made, Mo_makes, Mo_line, Mo_timer, Mo_input, Mo_inputs, Mo_output, Mo_outputs, Mo_contexts, Mo_ids, Mo_services, Mo_results, Mo_wanted, Mo_command, Mo_commands, Mo_body, Mo_bodies, Mo_speaker, Mo_what, Mo_message, Mo_answered, Mo_records, Mo_kept, Mo_lengths, Mo_set_room, Mo_set_code, Mo_set_draft, Mo_set_drafted, Mo_set_source, Mo_set_fault, Mo_set_count, Mo_set_kind, Mo_set_tag, Mo_set_value, Mo_set_letters, Mo_set_parent, Mo_set_first, Mo_set_next, Mo_set_last, Mo_set_many, Mo_set_size, Mo_set_number, Mo_set_chars, Mo_set_held, Mo_set_fits, Mo_set_depth, Mo_set_node, Mo_set_end, Mo_set_loose, Mo_set_at, Mo_set_made, Mo_set_makes, Mo_set_line, Mo_set_timer, Mo_set_input, Mo_set_inputs, Mo_set_output, Mo_set_outputs, Mo_set_contexts, Mo_set_ids, Mo_set_services, Mo_set_results, Mo_set_wanted, Mo_set_command, Mo_set_commands, Mo_set_body, Mo_set_bodies, Mo_set_speaker, Mo_set_what, Mo_set_message, Mo_set_answered, Mo_set_records, Mo_set_kept, Mo_set_lengths, ua_s, ua_n, pk_us, pk_un] <;> omega))]
  rw [z_cl (by omega), f2]
  obtain ⟨s2, e2, m2, o2⟩ := m_make (x := id) hM (by simp)
  rw [e2, Option.bind_some]
  obtain ⟨s3, e3, m3, o3⟩ := m_make (x := 2) m2 (by simp)
  rw [show (2 : Int32) = nI 2 from rfl, e3, Option.bind_some]
  rw [if_neg (by decide +kernel)]
  have o13 : mOM (Mo_set_makes s1 0) s3 := mOM_t o2 o3
  have hT : mTS s3 1 syn nd := mTS_o (s := Mo_set_makes s1 0) ⟨mtr_c hm' (fun j hj => z2 j (by omega)), fun i hi => z3 i (Nat.zero_le _) hi⟩ o13
  have hm3 : mtr s3.2 0 pd := mtr_c hm (fun j hj => (o13.2 j (by omega)).trans (z2 j (by omega)))
  have b0 := wf_b0 w2
  have a8 := (hT.1.2.2.1 0 g2).2.2.2.2.2.2.1
  rw [show (Mo_first s3) (130 : Int32).toNatClampNeg = fiI 1 nd 0 from a8, fiI_kid g2, b0.1]
  have hle := wS_any (syn := syn) hsy w2.2.2.2.2.2.2.1 (by omega)
  rw [← cB_len, sB_cB] at hle
  obtain ⟨s4, e4, m4, o4⟩ := m_showLoop hsy w1 w2 nd.length (0 + 1) FU s3 _ hm3 hT m3 (by omega) (by omega) g2 (fun h => by
    have hn0 := (w2.2.2.1 0 g2).1.2.2.2.2 (by omega)
    have hn1 := (w2.2.2.1 (0 + 1) (by omega)).1.2.1 (by omega)
    omega) (by unfold FU; omega) (by
      show 2 + (sB syn nd 1 (nd.length - 1)).length ≤ 900
      omega)
  refine ⟨s4, e4, ?_, fun i hi => ?_, fun j h12 h20 => ?_⟩
  · unfold chB kds
    rw [b0.1]
    exact m4
  · rw [o4.1 i hi, o13.1 i hi, show (Mo_set_makes s1 0).1 i = s1.1 i from pk_un (f := s1.1) (k := 6) (x := 0) hi, z1]
  · rw [o4.2 j h20, o13.2 j h20]
    exact z2 j h12
end MSH
