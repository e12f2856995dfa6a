/-! PURE: the model compares sets -/
section MFS
variable {s : S_Mo} {nd md : List Nd} {q r : Nat} {M : Nat → Nat → Bool}
theorem kid_3 {k j : Nat} (w : wfT nd) (hk : k < nd.length) (hev : nL nd k % 2 = 0) (hj : j < nd.length) (hl : nL nd j = nL nd k + 1) : kd (nT nd j) ≤ 3 := by
  have p3 := (w.2.2.1 j hj).1.2.2.2.1
  have hk4 := kd_le (nT nd j)
  have : kd (nT nd j) ≠ 4 := fun e9 => by have := p3.mp e9; omega
  omega
theorem m_fitsSet (w1 : wfT nd) (w2 : wfT md) (hm : mtr s.2 0 nd) (hm' : mtr s.2 1 md) (hN : mNb s 0 nd) (hN' : mNb s 1 md) (hq : q < nd.length) (hr : r < md.length) (hqe : nL nd q % 2 = 0) (hre : nL md r % 2 = 0) (hM : ∀ e ∈ kds nd q, kds nd e ≠ [] → ∀ f ∈ kds md r, ∀ i ∈ kds md f, s.2 16 (90 * cS nd (e + 1) + cS md i) = if M (e + 1) i = true then 1 else 0) : F_Mo_fitsSet s (nI (130 * 0 + q)) (nI (130 * 1 + r)) = some (if mtS nd md M q r = true then 1 else 0) := by
  have l1 := w1.2.2.2.2.1
  have l2 := w2.2.2.2.2.1
  have hbq := bhf_lt hq
  have hbr := bhf_lt hr
  have b8 := (hm'.2.2.1 r hr).2.2.2.2.2.2.1
  have a8 := (hm.2.2.1 q hq).2.2.2.2.2.2.1
  have hpw : (kds md r).Pairwise (fun i j => nT md i < nT md j) := by
    rw [kds_wf w2 hr]
    exact (w2.2.2.1 r hr).2.2.2 hre
  -- one element against all of the other set
  have inner : ∀ (e : Nat), e ∈ kds nd q → e < nd.length → kd (nT nd e) ≤ 3 → ∀ (K : Int32 × Int32 × Int32 → Option Int32) (m j fu : Nat) (b : Bool), bhf md r ≤ j + m → r < j → j ≤ bhf md r → (j < bhf md r → nL md j = nL md r + 1) → (∀ x ∈ kdsF md (bhf md r) m j, x ∈ kds md r) → m < fu → lp (fun k30 v => B_Mo_fitsSet_30 K k30 s v.1 v.2.1 v.2.2.1 v.2.2.2) fu (nI (130 * 1 + r), nI (130 * 0 + e), (if b = true then 1 else 0), (if j < bhf md r then nI (130 * 1 + j) else mI)) = B_Mo_fitsSet_87 K s (nI (130 * 1 + r)) (nI (130 * 0 + e)) (if (b || (kdsF md (bhf md r) m j).any (fun f => decide (nT md f = nT nd e) && mtE nd md M e f)) = true then 1 else 0) := by
    intro e hek he he3 K m
    have fin : ∀ (b : Bool) (K2 : Int32 × Int32 × Int32 × Int32 → Option Int32), B_Mo_fitsSet_30 K K2 s (nI (130 * 1 + r)) (nI (130 * 0 + e)) (if b = true then 1 else 0) mI = B_Mo_fitsSet_87 K s (nI (130 * 1 + r)) (nI (130 * 0 + e)) (if b = true then 1 else 0) := by
      intro b K2
      unfold B_Mo_fitsSet_30
      rw [if_pos (by decide +kernel : mI < 0)]
    induction m with
    | zero =>
      intro j fu b q1 q2 q3 q4 q5 q6
      obtain ⟨fu', rfl⟩ : ∃ fu', fu = fu' + 1 := ⟨fu - 1, by omega⟩
      rw [lp_s, if_neg (by omega : ¬ j < bhf md r)]
      show B_Mo_fitsSet_30 K _ s (nI (130 * 1 + r)) (nI (130 * 0 + e)) (if b = true then 1 else 0) mI = _
      rw [fin, show kdsF md (bhf md r) 0 j = [] from rfl, List.any_nil, Bool.or_false]
    | succ m ih =>
      intro j fu b q1 q2 q3 q4 q5 q6
      obtain ⟨fu', rfl⟩ : ∃ fu', fu = fu' + 1 := ⟨fu - 1, by omega⟩
      rw [lp_s]
      show B_Mo_fitsSet_30 K _ s (nI (130 * 1 + r)) (nI (130 * 0 + e)) (if b = true then 1 else 0) (if j < bhf md r then nI (130 * 1 + j) else mI) = _
      unfold kdsF at q5 ⊢
      by_cases c : j < bhf md r
      · rw [if_pos c] at q5 ⊢
        rw [if_pos c]
        have hj : j < md.length := by omega
        have hbj := bhf_lt hj
        obtain ⟨n1, n2, n3⟩ := nxI_kid (t := 1) hr q2 c (q4 c)
        have hjm := q5 j List.mem_cons_self
        obtain ⟨c3, c4, c5, c6, c7, c7', c8, c9, c11⟩ := hm'.2.2.1 j hj
        rw [n2] at c9
        have hj3 := kid_3 w2 hr hre hj (q4 c)
        have d4 := (hm.2.2.1 e he).2.1
        rw [show mtg (nT md j) = nT md j by unfold mtg; rw [if_neg (by omega)]] at c4
        rw [show mtg (nT nd e) = nT nd e by unfold mtg; rw [if_neg (by omega)]] at d4
        have hg1 := nT_lt w2.1 j
        have hg2 := nT_lt w1.1 e
        have e73 : ∀ b : Bool, B_Mo_fitsSet_73 K (lp (fun k30 v => B_Mo_fitsSet_30 K k30 s v.1 v.2.1 v.2.2.1 v.2.2.2) fu') s (nI (130 * 1 + r)) (nI (130 * 0 + e)) (nI (130 * 1 + j)) (if b = true then 1 else 0) = B_Mo_fitsSet_87 K s (nI (130 * 1 + r)) (nI (130 * 0 + e)) (if (b || (kdsF md (bhf md r) m (bhf md j)).any (fun f => decide (nT md f = nT nd e) && mtE nd md M e f)) = true then 1 else 0) := by
          intro b
          unfold B_Mo_fitsSet_73
          rw [if_neg (by first | omega | (simp (disch := omega) only [z_lt, z_le, z_eq, z_cl, z_ad, z_mu, z_sb, z_n1, z_em, z_me, z_lm, z_ml, z_mle, z_lme, z_ma, z_am, z_m2, not_false_eq_true, z_l0, z_l1, z_l2, z_l3, z_l4, z_l5, z_l6, z_l7, z_l8, z_l10, z_l14, z_l15, z_l16, z_l32, z_l80, z_l101, z_l120, z_l126, z_l127, z_l130, z_l160, z_l198, z_l200, z_l202, z_l240, z_l252, z_l253, z_l254, z_l255, z_l260, z_l480, z_l900, Mo_room, Mo_code, Mo_draft, Mo_drafted, Mo_source, Mo_fault, Mo_count, Mo_kind, Mo_tag, Mo_value, Mo_letters, Mo_parent, Mo_first, Mo_next, Mo_last, Mo_many, Mo_size, Mo_number, Mo_chars, Mo_held, Mo_fits, Mo_depth, Mo_node, Mo_end, Mo_loose, Mo_at, Mo_made, Mo_makes, Mo_line, Mo_timer, Mo_input, Mo_inputs, Mo_output, Mo_outputs, Mo_contexts, Mo_ids, Mo_services, Mo_results, Mo_wanted, Mo_command, Mo_commands, Mo_body, Mo_bodies, Mo_speaker, Mo_what, Mo_message, Mo_answered, Mo_records, Mo_kept, Mo_lengths, Mo_set_room, Mo_set_code, Mo_set_draft, Mo_set_drafted, Mo_set_source, Mo_set_fault, Mo_set_count, Mo_set_kind, Mo_set_tag, Mo_set_value, Mo_set_letters, Mo_set_parent, Mo_set_first, Mo_set_next, Mo_set_last, Mo_set_many, Mo_set_size, Mo_set_number, Mo_set_chars, Mo_set_held, Mo_set_fits, Mo_set_depth, Mo_set_node, Mo_set_end, Mo_set_loose, Mo_set_at, Mo_set_made, Mo_set_makes, Mo_set_line, Mo_set_timer, Mo_set_input, Mo_set_inputs, Mo_set_output, Mo_set_outputs, Mo_set_contexts, Mo_set_ids, Mo_set_services, Mo_set_results, Mo_set_wanted, Mo_set_command, Mo_set_commands, Mo_set_body, Mo_set_bodies, Mo_set_speaker, Mo_set_what, Mo_set_message, Mo_set_answered, Mo_set_records, Mo_set_kept, Mo_set_lengths, ua_s, ua_n, pk_us, pk_un] <;> omega))]
          rw [show (Mo_next s) (nI (130 * 1 + j)).toNatClampNeg = (if bhf md j < bhf md r then nI (130 * 1 + bhf md j) else mI) by
            rw [z_cl (by omega)]
            exact c9]
          exact ih (bhf md j) fu' b (by omega) (by omega) n1 n3 (fun x hx => q5 x (List.mem_cons_of_mem _ hx)) (by omega)
        rw [List.any_cons]
        have e30 : ∀ K2, B_Mo_fitsSet_30 K K2 s (nI (130 * 1 + r)) (nI (130 * 0 + e)) (if b = true then 1 else 0) (nI (130 * 1 + j)) = B_Mo_fitsSet_35 K K2 s (nI (130 * 1 + r)) (nI (130 * 0 + e)) (if b = true then 1 else 0) (nI (130 * 1 + j)) := fun K2 => by
          unfold B_Mo_fitsSet_30
          rw [if_neg (by first | omega | (simp (disch := omega) only [z_lt, z_le, z_eq, z_cl, z_ad, z_mu, z_sb, z_n1, z_em, z_me, z_lm, z_ml, z_mle, z_lme, z_ma, z_am, z_m2, not_false_eq_true, z_l0, z_l1, z_l2, z_l3, z_l4, z_l5, z_l6, z_l7, z_l8, z_l10, z_l14, z_l15, z_l16, z_l32, z_l80, z_l101, z_l120, z_l126, z_l127, z_l130, z_l160, z_l198, z_l200, z_l202, z_l240, z_l252, z_l253, z_l254, z_l255, z_l260, z_l480, z_l900, Mo_room, Mo_code, Mo_draft, Mo_drafted, Mo_source, Mo_fault, Mo_count, Mo_kind, Mo_tag, Mo_value, Mo_letters, Mo_parent, Mo_first, Mo_next, Mo_last, Mo_many, Mo_size, Mo_number, Mo_chars, Mo_held, Mo_fits, Mo_depth, Mo_node, Mo_end, Mo_loose, Mo_at, Mo_made, Mo_makes, Mo_line, Mo_timer, Mo_input, Mo_inputs, Mo_output, Mo_outputs, Mo_contexts, Mo_ids, Mo_services, Mo_results, Mo_wanted, Mo_command, Mo_commands, Mo_body, Mo_bodies, Mo_speaker, Mo_what, Mo_message, Mo_answered, Mo_records, Mo_kept, Mo_lengths, Mo_set_room, Mo_set_code, Mo_set_draft, Mo_set_drafted, Mo_set_source, Mo_set_fault, Mo_set_count, Mo_set_kind, Mo_set_tag, Mo_set_value, Mo_set_letters, Mo_set_parent, Mo_set_first, Mo_set_next, Mo_set_last, Mo_set_many, Mo_set_size, Mo_set_number, Mo_set_chars, Mo_set_held, Mo_set_fits, Mo_set_depth, Mo_set_node, Mo_set_end, Mo_set_loose, Mo_set_at, Mo_set_made, Mo_set_makes, Mo_set_line, Mo_set_timer, Mo_set_input, Mo_set_inputs, Mo_set_output, Mo_set_outputs, Mo_set_contexts, Mo_set_ids, Mo_set_services, Mo_set_results, Mo_set_wanted, Mo_set_command, Mo_set_commands, Mo_set_body, Mo_set_bodies, Mo_set_speaker, Mo_set_what, Mo_set_message, Mo_set_answered, Mo_set_records, Mo_set_kept, Mo_set_lengths, ua_s, ua_n, pk_us, pk_un] <;> omega))]
        rw [e30]
        unfold B_Mo_fitsSet_35
        cases b with
        | true =>
          rw [if_pos (rfl : true = true), if_neg (by decide : ¬ (1 : Int32) = 0)]
          unfold B_Mo_fitsSet_68
          have := e73 true
          rw [Bool.true_or] at this ⊢
          exact this
        | false =>
          rw [if_neg (by decide : ¬ false = true), if_pos rfl, Bool.false_or]
          unfold B_Mo_fitsSet_40
          rw [if_neg (by first | omega | (simp (disch := omega) only [z_lt, z_le, z_eq, z_cl, z_ad, z_mu, z_sb, z_n1, z_em, z_me, z_lm, z_ml, z_mle, z_lme, z_ma, z_am, z_m2, not_false_eq_true, z_l0, z_l1, z_l2, z_l3, z_l4, z_l5, z_l6, z_l7, z_l8, z_l10, z_l14, z_l15, z_l16, z_l32, z_l80, z_l101, z_l120, z_l126, z_l127, z_l130, z_l160, z_l198, z_l200, z_l202, z_l240, z_l252, z_l253, z_l254, z_l255, z_l260, z_l480, z_l900, Mo_room, Mo_code, Mo_draft, Mo_drafted, Mo_source, Mo_fault, Mo_count, Mo_kind, Mo_tag, Mo_value, Mo_letters, Mo_parent, Mo_first, Mo_next, Mo_last, Mo_many, Mo_size, Mo_number, Mo_chars, Mo_held, Mo_fits, Mo_depth, Mo_node, Mo_end, Mo_loose, Mo_at, Mo_made, Mo_makes, Mo_line, Mo_timer, Mo_input, Mo_inputs, Mo_output, Mo_outputs, Mo_contexts, Mo_ids, Mo_services, Mo_results, Mo_wanted, Mo_command, Mo_commands, Mo_body, Mo_bodies, Mo_speaker, Mo_what, Mo_message, Mo_answered, Mo_records, Mo_kept, Mo_lengths, Mo_set_room, Mo_set_code, Mo_set_draft, Mo_set_drafted, Mo_set_source, Mo_set_fault, Mo_set_count, Mo_set_kind, Mo_set_tag, Mo_set_value, Mo_set_letters, Mo_set_parent, Mo_set_first, Mo_set_next, Mo_set_last, Mo_set_many, Mo_set_size, Mo_set_number, Mo_set_chars, Mo_set_held, Mo_set_fits, Mo_set_depth, Mo_set_node, Mo_set_end, Mo_set_loose, Mo_set_at, Mo_set_made, Mo_set_makes, Mo_set_line, Mo_set_timer, Mo_set_input, Mo_set_inputs, Mo_set_output, Mo_set_outputs, Mo_set_contexts, Mo_set_ids, Mo_set_services, Mo_set_results, Mo_set_wanted, Mo_set_command, Mo_set_commands, Mo_set_body, Mo_set_bodies, Mo_set_speaker, Mo_set_what, Mo_set_message, Mo_set_answered, Mo_set_records, Mo_set_kept, Mo_set_lengths, ua_s, ua_n, pk_us, pk_un] <;> omega))]
          rw [if_neg (by first | omega | (simp (disch := omega) only [z_lt, z_le, z_eq, z_cl, z_ad, z_mu, z_sb, z_n1, z_em, z_me, z_lm, z_ml, z_mle, z_lme, z_ma, z_am, z_m2, not_false_eq_true, z_l0, z_l1, z_l2, z_l3, z_l4, z_l5, z_l6, z_l7, z_l8, z_l10, z_l14, z_l15, z_l16, z_l32, z_l80, z_l101, z_l120, z_l126, z_l127, z_l130, z_l160, z_l198, z_l200, z_l202, z_l240, z_l252, z_l253, z_l254, z_l255, z_l260, z_l480, z_l900, Mo_room, Mo_code, Mo_draft, Mo_drafted, Mo_source, Mo_fault, Mo_count, Mo_kind, Mo_tag, Mo_value, Mo_letters, Mo_parent, Mo_first, Mo_next, Mo_last, Mo_many, Mo_size, Mo_number, Mo_chars, Mo_held, Mo_fits, Mo_depth, Mo_node, Mo_end, Mo_loose, Mo_at, Mo_made, Mo_makes, Mo_line, Mo_timer, Mo_input, Mo_inputs, Mo_output, Mo_outputs, Mo_contexts, Mo_ids, Mo_services, Mo_results, Mo_wanted, Mo_command, Mo_commands, Mo_body, Mo_bodies, Mo_speaker, Mo_what, Mo_message, Mo_answered, Mo_records, Mo_kept, Mo_lengths, Mo_set_room, Mo_set_code, Mo_set_draft, Mo_set_drafted, Mo_set_source, Mo_set_fault, Mo_set_count, Mo_set_kind, Mo_set_tag, Mo_set_value, Mo_set_letters, Mo_set_parent, Mo_set_first, Mo_set_next, Mo_set_last, Mo_set_many, Mo_set_size, Mo_set_number, Mo_set_chars, Mo_set_held, Mo_set_fits, Mo_set_depth, Mo_set_node, Mo_set_end, Mo_set_loose, Mo_set_at, Mo_set_made, Mo_set_makes, Mo_set_line, Mo_set_timer, Mo_set_input, Mo_set_inputs, Mo_set_output, Mo_set_outputs, Mo_set_contexts, Mo_set_ids, Mo_set_services, Mo_set_results, Mo_set_wanted, Mo_set_command, Mo_set_commands, Mo_set_body, Mo_set_bodies, Mo_set_speaker, Mo_set_what, Mo_set_message, Mo_set_answered, Mo_set_records, Mo_set_kept, Mo_set_lengths, ua_s, ua_n, pk_us, pk_un] <;> omega))]
          have e72 : B_Mo_fitsSet_72 K (lp (fun k30 v => B_Mo_fitsSet_30 K k30 s v.1 v.2.1 v.2.2.1 v.2.2.2) fu') s (nI (130 * 1 + r)) (nI (130 * 0 + e)) (nI (130 * 1 + j)) = B_Mo_fitsSet_87 K s (nI (130 * 1 + r)) (nI (130 * 0 + e)) (if (false || (kdsF md (bhf md r) m (bhf md j)).any (fun f => decide (nT md f = nT nd e) && mtE nd md M e f)) = true then 1 else 0) := e73 false
          by_cases ct : nT md j = nT nd e
          · rw [if_pos (by first | omega | (simp (disch := omega) only [z_lt, z_le, z_eq, z_cl, z_ad, z_mu, z_sb, z_n1, z_em, z_me, z_lm, z_ml, z_mle, z_lme, z_ma, z_am, z_m2, not_false_eq_true, z_l0, z_l1, z_l2, z_l3, z_l4, z_l5, z_l6, z_l7, z_l8, z_l10, z_l14, z_l15, z_l16, z_l32, z_l80, z_l101, z_l120, z_l126, z_l127, z_l130, z_l160, z_l198, z_l200, z_l202, z_l240, z_l252, z_l253, z_l254, z_l255, z_l260, z_l480, z_l900, Mo_room, Mo_code, Mo_draft, Mo_drafted, Mo_source, Mo_fault, Mo_count, Mo_kind, Mo_tag, Mo_value, Mo_letters, Mo_parent, Mo_first, Mo_next, Mo_last, Mo_many, Mo_size, Mo_number, Mo_chars, Mo_held, Mo_fits, Mo_depth, Mo_node, Mo_end, Mo_loose, Mo_at, Mo_made, Mo_makes, Mo_line, Mo_timer, Mo_input, Mo_inputs, Mo_output, Mo_outputs, Mo_contexts, Mo_ids, Mo_services, Mo_results, Mo_wanted, Mo_command, Mo_commands, Mo_body, Mo_bodies, Mo_speaker, Mo_what, Mo_message, Mo_answered, Mo_records, Mo_kept, Mo_lengths, Mo_set_room, Mo_set_code, Mo_set_draft, Mo_set_drafted, Mo_set_source, Mo_set_fault, Mo_set_count, Mo_set_kind, Mo_set_tag, Mo_set_value, Mo_set_letters, Mo_set_parent, Mo_set_first, Mo_set_next, Mo_set_last, Mo_set_many, Mo_set_size, Mo_set_number, Mo_set_chars, Mo_set_held, Mo_set_fits, Mo_set_depth, Mo_set_node, Mo_set_end, Mo_set_loose, Mo_set_at, Mo_set_made, Mo_set_makes, Mo_set_line, Mo_set_timer, Mo_set_input, Mo_set_inputs, Mo_set_output, Mo_set_outputs, Mo_set_contexts, Mo_set_ids, Mo_set_services, Mo_set_results, Mo_set_wanted, Mo_set_command, Mo_set_commands, Mo_set_body, Mo_set_bodies, Mo_set_speaker, Mo_set_what, Mo_set_message, Mo_set_answered, Mo_set_records, Mo_set_kept, Mo_set_lengths, ua_s, ua_n, pk_us, pk_un, c4, d4, ct] <;> omega))]
            unfold B_Mo_fitsSet_57
            rw [m_fitsElement (M := M) w1 w2 hm hm' hN hN' he hj ct.symm he3 (fun hne i hi => hM e hek hne j hjm i hi), Option.bind_some, decide_eq_true ct, Bool.true_and]
            cases hE : mtE nd md M e j with
            | true =>
              rw [if_pos (rfl : true = true), if_neg (by decide : ¬ (1 : Int32) = 0)]
              unfold B_Mo_fitsSet_68
              exact e73 true
            | false =>
              rw [if_neg (by decide : ¬ false = true), if_pos rfl]
              exact e72
          · rw [if_neg (by first | omega | (simp (disch := omega) only [z_lt, z_le, z_eq, z_cl, z_ad, z_mu, z_sb, z_n1, z_em, z_me, z_lm, z_ml, z_mle, z_lme, z_ma, z_am, z_m2, not_false_eq_true, z_l0, z_l1, z_l2, z_l3, z_l4, z_l5, z_l6, z_l7, z_l8, z_l10, z_l14, z_l15, z_l16, z_l32, z_l80, z_l101, z_l120, z_l126, z_l127, z_l130, z_l160, z_l198, z_l200, z_l202, z_l240, z_l252, z_l253, z_l254, z_l255, z_l260, z_l480, z_l900, Mo_room, Mo_code, Mo_draft, Mo_drafted, Mo_source, Mo_fault, Mo_count, Mo_kind, Mo_tag, Mo_value, Mo_letters, Mo_parent, Mo_first, Mo_next, Mo_last, Mo_many, Mo_size, Mo_number, Mo_chars, Mo_held, Mo_fits, Mo_depth, Mo_node, Mo_end, Mo_loose, Mo_at, Mo_made, Mo_makes, Mo_line, Mo_timer, Mo_input, Mo_inputs, Mo_output, Mo_outputs, Mo_contexts, Mo_ids, Mo_services, Mo_results, Mo_wanted, Mo_command, Mo_commands, Mo_body, Mo_bodies, Mo_speaker, Mo_what, Mo_message, Mo_answered, Mo_records, Mo_kept, Mo_lengths, Mo_set_room, Mo_set_code, Mo_set_draft, Mo_set_drafted, Mo_set_source, Mo_set_fault, Mo_set_count, Mo_set_kind, Mo_set_tag, Mo_set_value, Mo_set_letters, Mo_set_parent, Mo_set_first, Mo_set_next, Mo_set_last, Mo_set_many, Mo_set_size, Mo_set_number, Mo_set_chars, Mo_set_held, Mo_set_fits, Mo_set_depth, Mo_set_node, Mo_set_end, Mo_set_loose, Mo_set_at, Mo_set_made, Mo_set_makes, Mo_set_line, Mo_set_timer, Mo_set_input, Mo_set_inputs, Mo_set_output, Mo_set_outputs, Mo_set_contexts, Mo_set_ids, Mo_set_services, Mo_set_results, Mo_set_wanted, Mo_set_command, Mo_set_commands, Mo_set_body, Mo_set_bodies, Mo_set_speaker, Mo_set_what, Mo_set_message, Mo_set_answered, Mo_set_records, Mo_set_kept, Mo_set_lengths, ua_s, ua_n, pk_us, pk_un, c4, d4, ct] <;> omega))]
            rw [decide_eq_false ct, Bool.false_and]
            exact e72
      · rw [if_neg c, if_neg c, fin, List.any_nil, Bool.or_false]
  have hall : ∀ e ∈ kds nd q, (kds md r).any (fun f => decide (nT md f = nT nd e) && mtE nd md M e f) = mtF nd md M r e := by
    intro e _
    rw [any_fnd hpw]
    rfl
  unfold F_Mo_fitsSet B_Mo_fitsSet_0
  rw [if_neg (by first | omega | (simp (disch := omega) only [z_lt, z_le, z_eq, z_cl, z_ad, z_mu, z_sb, z_n1, z_em, z_me, z_lm, z_ml, z_mle, z_lme, z_ma, z_am, z_m2, not_false_eq_true, z_l0, z_l1, z_l2, z_l3, z_l4, z_l5, z_l6, z_l7, z_l8, z_l10, z_l14, z_l15, z_l16, z_l32, z_l80, z_l101, z_l120, z_l126, z_l127, z_l130, z_l160, z_l198, z_l200, z_l202, z_l240, z_l252, z_l253, z_l254, z_l255, z_l260, z_l480, z_l900, Mo_room, Mo_code, Mo_draft, Mo_drafted, Mo_source, Mo_fault, Mo_count, Mo_kind, Mo_tag, Mo_value, Mo_letters, Mo_parent, Mo_first, Mo_next, Mo_last, Mo_many, Mo_size, Mo_number, Mo_chars, Mo_held, Mo_fits, Mo_depth, Mo_node, Mo_end, Mo_loose, Mo_at, Mo_made, Mo_makes, Mo_line, Mo_timer, Mo_input, Mo_inputs, Mo_output, Mo_outputs, Mo_contexts, Mo_ids, Mo_services, Mo_results, Mo_wanted, Mo_command, Mo_commands, Mo_body, Mo_bodies, Mo_speaker, Mo_what, Mo_message, Mo_answered, Mo_records, Mo_kept, Mo_lengths, Mo_set_room, Mo_set_code, Mo_set_draft, Mo_set_drafted, Mo_set_source, Mo_set_fault, Mo_set_count, Mo_set_kind, Mo_set_tag, Mo_set_value, Mo_set_letters, Mo_set_parent, Mo_set_first, Mo_set_next, Mo_set_last, Mo_set_many, Mo_set_size, Mo_set_number, Mo_set_chars, Mo_set_held, Mo_set_fits, Mo_set_depth, Mo_set_node, Mo_set_end, Mo_set_loose, Mo_set_at, Mo_set_made, Mo_set_makes, Mo_set_line, Mo_set_timer, Mo_set_input, Mo_set_inputs, Mo_set_output, Mo_set_outputs, Mo_set_contexts, Mo_set_ids, Mo_set_services, Mo_set_results, Mo_set_wanted, Mo_set_command, Mo_set_commands, Mo_set_body, Mo_set_bodies, Mo_set_speaker, Mo_set_what, Mo_set_message, Mo_set_answered, Mo_set_records, Mo_set_kept, Mo_set_lengths, ua_s, ua_n, pk_us, pk_un] <;> omega))]
  rw [show (Mo_first s) (nI (130 * 0 + q)).toNatClampNeg = fiI 0 nd q by simp (disch := omega) only [z_lt, z_le, z_eq, z_cl, z_ad, z_mu, z_sb, z_n1, z_em, z_me, z_lm, z_ml, z_mle, z_lme, z_ma, z_am, z_m2, not_false_eq_true, z_l0, z_l1, z_l2, z_l3, z_l4, z_l5, z_l6, z_l7, z_l8, z_l10, z_l14, z_l15, z_l16, z_l32, z_l80, z_l101, z_l120, z_l126, z_l127, z_l130, z_l160, z_l198, z_l200, z_l202, z_l240, z_l252, z_l253, z_l254, z_l255, z_l260, z_l480, z_l900, Mo_room, Mo_code, Mo_draft, Mo_drafted, Mo_source, Mo_fault, Mo_count, Mo_kind, Mo_tag, Mo_value, Mo_letters, Mo_parent, Mo_first, Mo_next, Mo_last, Mo_many, Mo_size, Mo_number, Mo_chars, Mo_held, Mo_fits, Mo_depth, Mo_node, Mo_end, Mo_loose, Mo_at, Mo_made, Mo_makes, Mo_line, Mo_timer, Mo_input, Mo_inputs, Mo_output, Mo_outputs, Mo_contexts, Mo_ids, Mo_services, Mo_results, Mo_wanted, Mo_command, Mo_commands, Mo_body, Mo_bodies, Mo_speaker, Mo_what, Mo_message, Mo_answered, Mo_records, Mo_kept, Mo_lengths, Mo_set_room, Mo_set_code, Mo_set_draft, Mo_set_drafted, Mo_set_source, Mo_set_fault, Mo_set_count, Mo_set_kind, Mo_set_tag, Mo_set_value, Mo_set_letters, Mo_set_parent, Mo_set_first, Mo_set_next, Mo_set_last, Mo_set_many, Mo_set_size, Mo_set_number, Mo_set_chars, Mo_set_held, Mo_set_fits, Mo_set_depth, Mo_set_node, Mo_set_end, Mo_set_loose, Mo_set_at, Mo_set_made, Mo_set_makes, Mo_set_line, Mo_set_timer, Mo_set_input, Mo_set_inputs, Mo_set_output, Mo_set_outputs, Mo_set_contexts, Mo_set_ids, Mo_set_services, Mo_set_results, Mo_set_wanted, Mo_set_command, Mo_set_commands, Mo_set_body, Mo_set_bodies, Mo_set_speaker, Mo_set_what, Mo_set_message, Mo_set_answered, Mo_set_records, Mo_set_kept, Mo_set_lengths, ua_s, ua_n, pk_us, pk_un, a8], fiI_kid hq]
  unfold L_Mo_fitsSet_10
  have fin : ∀ (b : Bool) (K : Int32 × Int32 × Int32 → Option Int32) (x : Int32), (x = mI ∨ b = false) → B_Mo_fitsSet_10 K s (nI (130 * 1 + r)) (if b = true then 1 else 0) x = some (if b = true then 1 else 0) := by
    intro b K x hor
    have e102 : B_Mo_fitsSet_102 s (if b = true then 1 else 0) = some (if b = true then 1 else 0) := by
      unfold B_Mo_fitsSet_102
      rw [if_pos (by
        split
        · exact .inr rfl
        · exact .inl rfl)]
    unfold B_Mo_fitsSet_10
    by_cases c : x < 0
    · rw [if_pos c]; exact e102
    · rw [if_neg c]
      have hb1 : b = false := by
        rcases hor with h | h
        · exact absurd (by rw [h]; decide +kernel) c
        · exact h
      unfold B_Mo_fitsSet_15
      rw [hb1] at e102 ⊢
      rw [if_neg (by decide : ¬ false = true)] at e102 ⊢
      rw [if_pos rfl]
      exact e102
  have loop : ∀ (m j fu : Nat) (b : Bool), bhf nd q ≤ j + m → q < j → j ≤ bhf nd q → (j < bhf nd q → nL nd j = nL nd q + 1) → (∀ x ∈ kdsF nd (bhf nd q) m j, x ∈ kds nd q) → m < fu → lp (fun k10 v => B_Mo_fitsSet_10 k10 s v.1 v.2.1 v.2.2) fu (nI (130 * 1 + r), (if b = true then 1 else 0), (if j < bhf nd q then nI (130 * 0 + j) else mI)) = some (if (b && (kdsF nd (bhf nd q) m j).all (mtF nd md M r)) = true then 1 else 0) := by
    intro m
    induction m with
    | zero =>
      intro j fu b q1 q2 q3 q4 q5 q6
      obtain ⟨fu', rfl⟩ : ∃ fu', fu = fu' + 1 := ⟨fu - 1, by omega⟩
      rw [lp_s, if_neg (by omega : ¬ j < bhf nd q)]
      show B_Mo_fitsSet_10 _ s (nI (130 * 1 + r)) (if b = true then 1 else 0) mI = _
      rw [fin b _ mI (.inl rfl), show kdsF nd (bhf nd q) 0 j = [] from rfl, List.all_nil, Bool.and_true]
    | succ m ih =>
      intro j fu b q1 q2 q3 q4 q5 q6
      obtain ⟨fu', rfl⟩ : ∃ fu', fu = fu' + 1 := ⟨fu - 1, by omega⟩
      rw [lp_s]
      show B_Mo_fitsSet_10 _ s (nI (130 * 1 + r)) (if b = true then 1 else 0) (if j < bhf nd q then nI (130 * 0 + j) else mI) = _
      cases b with
      | false =>
        rw [fin false _ _ (.inr rfl), Bool.false_and]
      | true =>
        unfold kdsF at q5 ⊢
        by_cases c : j < bhf nd q
        · rw [if_pos c] at q5 ⊢
          rw [if_pos c]
          have hj : j < nd.length := by omega
          have hbj := bhf_lt hj
          obtain ⟨n1, n2, n3⟩ := nxI_kid (t := 0) hq q2 c (q4 c)
          have hjm := q5 j List.mem_cons_self
          have c9 := (hm.2.2.1 j hj).2.2.2.2.2.2.2.1
          rw [n2] at c9
          have hj3 := kid_3 w1 hq hqe hj (q4 c)
          have hB := bhf_isB hr
          have e10 : ∀ K, B_Mo_fitsSet_10 K s (nI (130 * 1 + r)) (if true = true then 1 else 0) (nI (130 * 0 + j)) = B_Mo_fitsSet_19 K s (nI (130 * 1 + r)) (nI (130 * 0 + j)) := fun K => by
            unfold B_Mo_fitsSet_10
            rw [if_neg (by first | omega | (simp (disch := omega) only [z_lt, z_le, z_eq, z_cl, z_ad, z_mu, z_sb, z_n1, z_em, z_me, z_lm, z_ml, z_mle, z_lme, z_ma, z_am, z_m2, not_false_eq_true, z_l0, z_l1, z_l2, z_l3, z_l4, z_l5, z_l6, z_l7, z_l8, z_l10, z_l14, z_l15, z_l16, z_l32, z_l80, z_l101, z_l120, z_l126, z_l127, z_l130, z_l160, z_l198, z_l200, z_l202, z_l240, z_l252, z_l253, z_l254, z_l255, z_l260, z_l480, z_l900, Mo_room, Mo_code, Mo_draft, Mo_drafted, Mo_source, Mo_fault, Mo_count, Mo_kind, Mo_tag, Mo_value, Mo_letters, Mo_parent, Mo_first, Mo_next, Mo_last, Mo_many, Mo_size, Mo_number, Mo_chars, Mo_held, Mo_fits, Mo_depth, Mo_node, Mo_end, Mo_loose, Mo_at, Mo_made, Mo_makes, Mo_line, Mo_timer, Mo_input, Mo_inputs, Mo_output, Mo_outputs, Mo_contexts, Mo_ids, Mo_services, Mo_results, Mo_wanted, Mo_command, Mo_commands, Mo_body, Mo_bodies, Mo_speaker, Mo_what, Mo_message, Mo_answered, Mo_records, Mo_kept, Mo_lengths, Mo_set_room, Mo_set_code, Mo_set_draft, Mo_set_drafted, Mo_set_source, Mo_set_fault, Mo_set_count, Mo_set_kind, Mo_set_tag, Mo_set_value, Mo_set_letters, Mo_set_parent, Mo_set_first, Mo_set_next, Mo_set_last, Mo_set_many, Mo_set_size, Mo_set_number, Mo_set_chars, Mo_set_held, Mo_set_fits, Mo_set_depth, Mo_set_node, Mo_set_end, Mo_set_loose, Mo_set_at, Mo_set_made, Mo_set_makes, Mo_set_line, Mo_set_timer, Mo_set_input, Mo_set_inputs, Mo_set_output, Mo_set_outputs, Mo_set_contexts, Mo_set_ids, Mo_set_services, Mo_set_results, Mo_set_wanted, Mo_set_command, Mo_set_commands, Mo_set_body, Mo_set_bodies, Mo_set_speaker, Mo_set_what, Mo_set_message, Mo_set_answered, Mo_set_records, Mo_set_kept, Mo_set_lengths, ua_s, ua_n, pk_us, pk_un] <;> omega))]
            unfold B_Mo_fitsSet_15
            rw [if_pos (rfl : true = true), if_neg (by decide : ¬ (1 : Int32) = 0)]
          rw [e10]
          unfold B_Mo_fitsSet_19
          rw [if_neg (by first | omega | (simp (disch := omega) only [z_lt, z_le, z_eq, z_cl, z_ad, z_mu, z_sb, z_n1, z_em, z_me, z_lm, z_ml, z_mle, z_lme, z_ma, z_am, z_m2, not_false_eq_true, z_l0, z_l1, z_l2, z_l3, z_l4, z_l5, z_l6, z_l7, z_l8, z_l10, z_l14, z_l15, z_l16, z_l32, z_l80, z_l101, z_l120, z_l126, z_l127, z_l130, z_l160, z_l198, z_l200, z_l202, z_l240, z_l252, z_l253, z_l254, z_l255, z_l260, z_l480, z_l900, Mo_room, Mo_code, Mo_draft, Mo_drafted, Mo_source, Mo_fault, Mo_count, Mo_kind, Mo_tag, Mo_value, Mo_letters, Mo_parent, Mo_first, Mo_next, Mo_last, Mo_many, Mo_size, Mo_number, Mo_chars, Mo_held, Mo_fits, Mo_depth, Mo_node, Mo_end, Mo_loose, Mo_at, Mo_made, Mo_makes, Mo_line, Mo_timer, Mo_input, Mo_inputs, Mo_output, Mo_outputs, Mo_contexts, Mo_ids, Mo_services, Mo_results, Mo_wanted, Mo_command, Mo_commands, Mo_body, Mo_bodies, Mo_speaker, Mo_what, Mo_message, Mo_answered, Mo_records, Mo_kept, Mo_lengths, Mo_set_room, Mo_set_code, Mo_set_draft, Mo_set_drafted, Mo_set_source, Mo_set_fault, Mo_set_count, Mo_set_kind, Mo_set_tag, Mo_set_value, Mo_set_letters, Mo_set_parent, Mo_set_first, Mo_set_next, Mo_set_last, Mo_set_many, Mo_set_size, Mo_set_number, Mo_set_chars, Mo_set_held, Mo_set_fits, Mo_set_depth, Mo_set_node, Mo_set_end, Mo_set_loose, Mo_set_at, Mo_set_made, Mo_set_makes, Mo_set_line, Mo_set_timer, Mo_set_input, Mo_set_inputs, Mo_set_output, Mo_set_outputs, Mo_set_contexts, Mo_set_ids, Mo_set_services, Mo_set_results, Mo_set_wanted, Mo_set_command, Mo_set_commands, Mo_set_body, Mo_set_bodies, Mo_set_speaker, Mo_set_what, Mo_set_message, Mo_set_answered, Mo_set_records, Mo_set_kept, Mo_set_lengths, ua_s, ua_n, pk_us, pk_un] <;> omega))]
          rw [show (Mo_first s) (nI (130 * 1 + r)).toNatClampNeg = fiI 1 md r by simp (disch := omega) only [z_lt, z_le, z_eq, z_cl, z_ad, z_mu, z_sb, z_n1, z_em, z_me, z_lm, z_ml, z_mle, z_lme, z_ma, z_am, z_m2, not_false_eq_true, z_l0, z_l1, z_l2, z_l3, z_l4, z_l5, z_l6, z_l7, z_l8, z_l10, z_l14, z_l15, z_l16, z_l32, z_l80, z_l101, z_l120, z_l126, z_l127, z_l130, z_l160, z_l198, z_l200, z_l202, z_l240, z_l252, z_l253, z_l254, z_l255, z_l260, z_l480, z_l900, Mo_room, Mo_code, Mo_draft, Mo_drafted, Mo_source, Mo_fault, Mo_count, Mo_kind, Mo_tag, Mo_value, Mo_letters, Mo_parent, Mo_first, Mo_next, Mo_last, Mo_many, Mo_size, Mo_number, Mo_chars, Mo_held, Mo_fits, Mo_depth, Mo_node, Mo_end, Mo_loose, Mo_at, Mo_made, Mo_makes, Mo_line, Mo_timer, Mo_input, Mo_inputs, Mo_output, Mo_outputs, Mo_contexts, Mo_ids, Mo_services, Mo_results, Mo_wanted, Mo_command, Mo_commands, Mo_body, Mo_bodies, Mo_speaker, Mo_what, Mo_message, Mo_answered, Mo_records, Mo_kept, Mo_lengths, Mo_set_room, Mo_set_code, Mo_set_draft, Mo_set_drafted, Mo_set_source, Mo_set_fault, Mo_set_count, Mo_set_kind, Mo_set_tag, Mo_set_value, Mo_set_letters, Mo_set_parent, Mo_set_first, Mo_set_next, Mo_set_last, Mo_set_many, Mo_set_size, Mo_set_number, Mo_set_chars, Mo_set_held, Mo_set_fits, Mo_set_depth, Mo_set_node, Mo_set_end, Mo_set_loose, Mo_set_at, Mo_set_made, Mo_set_makes, Mo_set_line, Mo_set_timer, Mo_set_input, Mo_set_inputs, Mo_set_output, Mo_set_outputs, Mo_set_contexts, Mo_set_ids, Mo_set_services, Mo_set_results, Mo_set_wanted, Mo_set_command, Mo_set_commands, Mo_set_body, Mo_set_bodies, Mo_set_speaker, Mo_set_what, Mo_set_message, Mo_set_answered, Mo_set_records, Mo_set_kept, Mo_set_lengths, ua_s, ua_n, pk_us, pk_un, b8], fiI_kid hr]
          unfold L_Mo_fitsSet_30
          have hin := inner j hjm hj hj3 (lp (fun k10 v => B_Mo_fitsSet_10 k10 s v.1 v.2.1 v.2.2) fu') md.length (r + 1) FU false (by omega) (by omega) (by omega) (fun c => by
            have p1 := hB.2.2.1 (r + 1) (by omega) c
            have p2 := (w2.2.2.1 r hr).1.2.2.2.2 (by omega)
            omega) (fun x hx => hx) (by unfold FU; omega)
          rw [if_neg (by decide : ¬ false = true)] at hin
          rw [hin, Bool.false_or, show kdsF md (bhf md r) md.length (r + 1) = kds md r from rfl, hall j hjm]
          unfold B_Mo_fitsSet_87
          rw [if_neg (by first | omega | (simp (disch := omega) only [z_lt, z_le, z_eq, z_cl, z_ad, z_mu, z_sb, z_n1, z_em, z_me, z_lm, z_ml, z_mle, z_lme, z_ma, z_am, z_m2, not_false_eq_true, z_l0, z_l1, z_l2, z_l3, z_l4, z_l5, z_l6, z_l7, z_l8, z_l10, z_l14, z_l15, z_l16, z_l32, z_l80, z_l101, z_l120, z_l126, z_l127, z_l130, z_l160, z_l198, z_l200, z_l202, z_l240, z_l252, z_l253, z_l254, z_l255, z_l260, z_l480, z_l900, Mo_room, Mo_code, Mo_draft, Mo_drafted, Mo_source, Mo_fault, Mo_count, Mo_kind, Mo_tag, Mo_value, Mo_letters, Mo_parent, Mo_first, Mo_next, Mo_last, Mo_many, Mo_size, Mo_number, Mo_chars, Mo_held, Mo_fits, Mo_depth, Mo_node, Mo_end, Mo_loose, Mo_at, Mo_made, Mo_makes, Mo_line, Mo_timer, Mo_input, Mo_inputs, Mo_output, Mo_outputs, Mo_contexts, Mo_ids, Mo_services, Mo_results, Mo_wanted, Mo_command, Mo_commands, Mo_body, Mo_bodies, Mo_speaker, Mo_what, Mo_message, Mo_answered, Mo_records, Mo_kept, Mo_lengths, Mo_set_room, Mo_set_code, Mo_set_draft, Mo_set_drafted, Mo_set_source, Mo_set_fault, Mo_set_count, Mo_set_kind, Mo_set_tag, Mo_set_value, Mo_set_letters, Mo_set_parent, Mo_set_first, Mo_set_next, Mo_set_last, Mo_set_many, Mo_set_size, Mo_set_number, Mo_set_chars, Mo_set_held, Mo_set_fits, Mo_set_depth, Mo_set_node, Mo_set_end, Mo_set_loose, Mo_set_at, Mo_set_made, Mo_set_makes, Mo_set_line, Mo_set_timer, Mo_set_input, Mo_set_inputs, Mo_set_output, Mo_set_outputs, Mo_set_contexts, Mo_set_ids, Mo_set_services, Mo_set_results, Mo_set_wanted, Mo_set_command, Mo_set_commands, Mo_set_body, Mo_set_bodies, Mo_set_speaker, Mo_set_what, Mo_set_message, Mo_set_answered, Mo_set_records, Mo_set_kept, Mo_set_lengths, ua_s, ua_n, pk_us, pk_un] <;> omega))]
          rw [show (Mo_next s) (nI (130 * 0 + j)).toNatClampNeg = (if bhf nd j < bhf nd q then nI (130 * 0 + bhf nd j) else mI) by
            rw [z_cl (by omega)]
            exact c9]
          rw [List.all_cons, Bool.true_and]
          exact ih (bhf nd j) fu' (mtF nd md M r j) (by omega) (by omega) n1 n3 (fun x hx => q5 x (List.mem_cons_of_mem _ hx)) (by omega)
        · rw [if_neg c, if_neg c, fin true _ mI (.inl rfl), List.all_nil]
          rfl
  have hB := bhf_isB hq
  have := loop nd.length (q + 1) FU true (by omega) (by omega) (by omega) (fun c => by
    have p1 := hB.2.2.1 (q + 1) (by omega) c
    have p2 := (w1.2.2.1 q hq).1.2.2.2.2 (by omega)
    omega) (fun x hx => hx) (by unfold FU; omega)
  rw [if_pos (rfl : true = true), Bool.true_and] at this
  exact this
end MFS
