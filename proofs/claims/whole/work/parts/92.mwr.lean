/-! PURE: the model's canonical bytes -/
theorem sB_s {syn : Nat} {nd : List Nd} {a m : Nat} : sB syn nd a (m + 1) = nB0 syn nd a ++ sB syn nd (a + 1) m := by
  unfold sB
  rw [List.range'_succ, List.flatMap_cons]
theorem sB_cB {syn : Nat} {nd : List Nd} : ∀ m, cB syn nd m = sB syn nd 1 m
  | 0 => rfl
  | m + 1 => by
    show cB syn nd m ++ nB syn nd (m + 1) = _
    unfold sB
    rw [List.range'_concat, List.flatMap_append, sB_cB m]
    unfold sB
    simp [nB0, Nat.add_comm 1 m]
theorem wS_0 {nd : List Nd} (a : Nat) : ∀ m, wS 0 nd a m ≤ wS 1 nd a m + m
  | 0 => Nat.le_refl _
  | m + 1 => by
    have := wS_0 (nd := nd) a m
    rw [wS_s, wS_s]
    have h1 := hd_le 0 (nT nd (a + m))
    have h2 := hd_le 1 (nT nd (a + m))
    omega
theorem wS_any {syn : Nat} {nd : List Nd} {m : Nat} (hsy : syn ≤ 1) (h : wS 1 nd 1 m ≤ 200) (hm : m ≤ 100) : wS syn nd 1 m ≤ 300 := by
  have := wS_0 (nd := nd) 1 m
  obtain rfl | rfl : syn = 0 ∨ syn = 1 := by omega
  · omega
  · omega
section MCA
variable {t syn : Nat} {s : S_Mo} {nd : List Nd} {l : List Nat}
theorem m_write (ht : t < 2) (hsy : syn ≤ 1) (hL : wfL nd) (hw : wfA nd) (hl : nd.length ≤ 101) (hcl : (ch nd).length ≤ 200) (hno : ∀ i, i < nd.length → nok nd i) {b : Nat} (hb : b ≤ nd.length) : ∀ (j a f : Nat) (s : S_Mo) (l : List Nat), a + j = b → j < f → mTS s t syn nd → mM s l → l.length + (sB syn nd a j).length ≤ 960 → ∃ s', lp (fun k3 v => B_Mo_write_3 k3 v.1 v.2.1 v.2.2.1 v.2.2.2) f (s, nI (130 * t + b), nI syn, nI (130 * t + a)) = some s' ∧ mM s' (l ++ sB syn nd a j) ∧ mOM s s' := by
  intro j
  induction j with
  | zero =>
    intro a f s l ha hf hT hM hll
    obtain ⟨f', rfl⟩ : ∃ f', f = f' + 1 := ⟨f - 1, by omega⟩
    have : a = b := by omega
    subst this
    refine ⟨s, ?_, by simpa [sB] using hM, mOM_r s⟩
    rw [lp_s]
    show B_Mo_write_3 _ s (nI (130 * t + a)) (nI syn) (nI (130 * t + a)) = _
    unfold B_Mo_write_3
    rw [if_pos (by first | omega | (simp (disch := omega) only [z_lt, z_le, z_eq, z_cl, z_ad, z_mu, z_sb, z_n1, z_em, z_me, z_lm, z_ml, z_mle, z_lme, z_ma, z_am, z_m2, not_false_eq_true, z_l0, z_l1, z_l2, z_l3, z_l4, z_l5, z_l6, z_l7, z_l8, z_l10, z_l14, z_l15, z_l16, z_l32, z_l80, z_l101, z_l120, z_l126, z_l127, z_l130, z_l160, z_l198, z_l200, z_l202, z_l240, z_l252, z_l253, z_l254, z_l255, z_l260, z_l480, z_l900, Mo_room, Mo_code, Mo_draft, Mo_drafted, Mo_source, Mo_fault, Mo_count, Mo_kind, Mo_tag, Mo_value, Mo_letters, Mo_parent, Mo_first, Mo_next, Mo_last, Mo_many, Mo_size, Mo_number, Mo_chars, Mo_held, Mo_fits, Mo_depth, Mo_node, Mo_end, Mo_loose, Mo_at, Mo_made, Mo_makes, Mo_line, Mo_timer, Mo_input, Mo_inputs, Mo_output, Mo_outputs, Mo_contexts, Mo_ids, Mo_services, Mo_results, Mo_wanted, Mo_command, Mo_commands, Mo_body, Mo_bodies, Mo_speaker, Mo_what, Mo_message, Mo_answered, Mo_records, Mo_kept, Mo_lengths, Mo_set_room, Mo_set_code, Mo_set_draft, Mo_set_drafted, Mo_set_source, Mo_set_fault, Mo_set_count, Mo_set_kind, Mo_set_tag, Mo_set_value, Mo_set_letters, Mo_set_parent, Mo_set_first, Mo_set_next, Mo_set_last, Mo_set_many, Mo_set_size, Mo_set_number, Mo_set_chars, Mo_set_held, Mo_set_fits, Mo_set_depth, Mo_set_node, Mo_set_end, Mo_set_loose, Mo_set_at, Mo_set_made, Mo_set_makes, Mo_set_line, Mo_set_timer, Mo_set_input, Mo_set_inputs, Mo_set_output, Mo_set_outputs, Mo_set_contexts, Mo_set_ids, Mo_set_services, Mo_set_results, Mo_set_wanted, Mo_set_command, Mo_set_commands, Mo_set_body, Mo_set_bodies, Mo_set_speaker, Mo_set_what, Mo_set_message, Mo_set_answered, Mo_set_records, Mo_set_kept, Mo_set_lengths, ua_s, ua_n, pk_us, pk_un] <;> omega))]
    rfl
  | succ j ih =>
    intro a f s l ha hf hT hM hll
    obtain ⟨f', rfl⟩ : ∃ f', f = f' + 1 := ⟨f - 1, by omega⟩
    rw [sB_s, List.length_append] at hll
    obtain ⟨s1, e1, m1, o1⟩ := m_node (lp (fun k3 v => B_Mo_write_3 k3 v.1 v.2.1 v.2.2.1 v.2.2.2) f') (x2 := nI (130 * t + b)) ht hsy hL hw hl hcl hno (k := a) (by omega) hT hM (by omega)
    obtain ⟨s2, e2, m2, o2⟩ := ih (a + 1) f' s1 _ (by omega) (by omega) (mTS_o hT o1) m1 (by rw [List.length_append]; omega)
    refine ⟨s2, ?_, by rw [sB_s, ← List.append_assoc]; exact m2, mOM_t o1 o2⟩
    rw [lp_s]
    have e3 : ∀ K, B_Mo_write_3 K s (nI (130 * t + b)) (nI syn) (nI (130 * t + a)) = B_Mo_write_9 K s (nI (130 * t + b)) (nI syn) (nI (130 * t + a)) := fun K => by
      unfold B_Mo_write_3
      rw [if_neg (by first | omega | (simp (disch := omega) only [z_lt, z_le, z_eq, z_cl, z_ad, z_mu, z_sb, z_n1, z_em, z_me, z_lm, z_ml, z_mle, z_lme, z_ma, z_am, z_m2, not_false_eq_true, z_l0, z_l1, z_l2, z_l3, z_l4, z_l5, z_l6, z_l7, z_l8, z_l10, z_l14, z_l15, z_l16, z_l32, z_l80, z_l101, z_l120, z_l126, z_l127, z_l130, z_l160, z_l198, z_l200, z_l202, z_l240, z_l252, z_l253, z_l254, z_l255, z_l260, z_l480, z_l900, Mo_room, Mo_code, Mo_draft, Mo_drafted, Mo_source, Mo_fault, Mo_count, Mo_kind, Mo_tag, Mo_value, Mo_letters, Mo_parent, Mo_first, Mo_next, Mo_last, Mo_many, Mo_size, Mo_number, Mo_chars, Mo_held, Mo_fits, Mo_depth, Mo_node, Mo_end, Mo_loose, Mo_at, Mo_made, Mo_makes, Mo_line, Mo_timer, Mo_input, Mo_inputs, Mo_output, Mo_outputs, Mo_contexts, Mo_ids, Mo_services, Mo_results, Mo_wanted, Mo_command, Mo_commands, Mo_body, Mo_bodies, Mo_speaker, Mo_what, Mo_message, Mo_answered, Mo_records, Mo_kept, Mo_lengths, Mo_set_room, Mo_set_code, Mo_set_draft, Mo_set_drafted, Mo_set_source, Mo_set_fault, Mo_set_count, Mo_set_kind, Mo_set_tag, Mo_set_value, Mo_set_letters, Mo_set_parent, Mo_set_first, Mo_set_next, Mo_set_last, Mo_set_many, Mo_set_size, Mo_set_number, Mo_set_chars, Mo_set_held, Mo_set_fits, Mo_set_depth, Mo_set_node, Mo_set_end, Mo_set_loose, Mo_set_at, Mo_set_made, Mo_set_makes, Mo_set_line, Mo_set_timer, Mo_set_input, Mo_set_inputs, Mo_set_output, Mo_set_outputs, Mo_set_contexts, Mo_set_ids, Mo_set_services, Mo_set_results, Mo_set_wanted, Mo_set_command, Mo_set_commands, Mo_set_body, Mo_set_bodies, Mo_set_speaker, Mo_set_what, Mo_set_message, Mo_set_answered, Mo_set_records, Mo_set_kept, Mo_set_lengths, ua_s, ua_n, pk_us, pk_un] <;> omega))]
    show B_Mo_write_3 _ s (nI (130 * t + b)) (nI syn) (nI (130 * t + a)) = _
    rw [e3, e1, Nat.add_assoc]
    exact e2
/-- all but what canonical works with -/
def mOC (s s' : S_Mo) : Prop := (∀ i, i ≠ 6 → s'.1 i = s.1 i) ∧ ∀ j, j ≠ 12 → j ≠ 20 → s'.2 j = s.2 j
theorem vln_root (hwf : wfT nd) : vln syn nd 0 = wS syn nd 1 (nd.length - 1) := by
  obtain ⟨w1, w2, w3, w4, w5, w6, w7, w8⟩ := hwf
  have hn := (w3 0 w4).1
  have hb : bhf nd 0 = nd.length := by
    refine isB_uniq (bhf_isB w4) ⟨w4, Nat.le_refl _, fun j a b => ?_, fun e => by omega⟩
    rw [hn.1 rfl]
    have := (w3 j b).1.2.1 a
    omega
  have hk : kd (nT nd 0) = 4 := hn.2.2.2.1.mpr (by rw [hn.1 rfl])
  unfold vln
  rw [hb, show ow nd 0 = 0 by unfold ow xl; rw [if_neg (by omega), if_neg (by omega), if_neg (by omega)], Nat.zero_add]
theorem m_canonical (ht : t < 2) (hsy : syn ≤ 1) (hwf : wfT nd) (hm : mtr s.2 t nd) : ∃ s', F_Mo_canonical s (nI t) (nI syn) = some ((if fitA syn nd (nd.length - 1) = true then 1 else 0), s') ∧ mOC s s' ∧ (fitA syn nd (nd.length - 1) = true → mM s' (cB syn nd (nd.length - 1))) := by
  have hwf0 := hwf
  obtain ⟨w1, w2, w3, w4, w5, w6, w7, w8⟩ := hwf
  have hs0 : mtr (Mo_set_makes s 0).2 t nd := hm
  obtain ⟨s1, e1, z1, z2, z3⟩ := m_measure (s := Mo_set_makes s 0) (syn := syn) ht hsy w1 w5 w4 (fun i hi hi2 => (w3 i hi).1.2.2.2.2 hi2) hs0
  rw [fA_fit w2 w1 w5 w4] at e1
  have hro := vln_root (syn := syn) hwf0
  have hany := wS_any (syn := syn) hsy w7 (by omega)
  unfold F_Mo_canonical B_Mo_canonical_0
  rw [e1, Option.bind_some]
  have o1 : mOC s s1 := ⟨fun i hi => by rw [z1]; exact pk_un hi, fun j h12 h20 => z2 j h12⟩
  have hm1 : mtr s1.2 t nd := mtr_c hm (fun j hj => z2 j (by omega))
  cases hf : fitA syn nd (nd.length - 1) with
  | false =>
    rw [if_neg (by decide : ¬ false = true), if_pos (by exact rfl)]
    exact ⟨s1, rfl, o1, fun e => by cases e⟩
  | true =>
    rw [if_pos (rfl : true = true), if_neg (by exact (by decide : ¬ (1 : Int32) = 0))]
    have hz0 := z3 0 (Nat.le_refl _) w4
    rw [hro, Nat.add_zero] at hz0
    unfold B_Mo_canonical_16
    rw [show (130 : Int32) * nI t = nI (130 * t) by simp (disch := omega) only [z_lt, z_le, z_eq, z_cl, z_ad, z_mu, z_sb, z_n1, z_em, z_me, z_lm, z_ml, z_mle, z_lme, z_ma, z_am, z_m2, not_false_eq_true, z_l0, z_l1, z_l2, z_l3, z_l4, z_l5, z_l6, z_l7, z_l8, z_l10, z_l14, z_l15, z_l16, z_l32, z_l80, z_l101, z_l120, z_l126, z_l127, z_l130, z_l160, z_l198, z_l200, z_l202, z_l240, z_l252, z_l253, z_l254, z_l255, z_l260, z_l480, z_l900, Mo_room, Mo_code, Mo_draft, Mo_drafted, Mo_source, Mo_fault, Mo_count, Mo_kind, Mo_tag, Mo_value, Mo_letters, Mo_parent, Mo_first, Mo_next, Mo_last, Mo_many, Mo_size, Mo_number, Mo_chars, Mo_held, Mo_fits, Mo_depth, Mo_node, Mo_end, Mo_loose, Mo_at, Mo_made, Mo_makes, Mo_line, Mo_timer, Mo_input, Mo_inputs, Mo_output, Mo_outputs, Mo_contexts, Mo_ids, Mo_services, Mo_results, Mo_wanted, Mo_command, Mo_commands, Mo_body, Mo_bodies, Mo_speaker, Mo_what, Mo_message, Mo_answered, Mo_records, Mo_kept, Mo_lengths, Mo_set_room, Mo_set_code, Mo_set_draft, Mo_set_drafted, Mo_set_source, Mo_set_fault, Mo_set_count, Mo_set_kind, Mo_set_tag, Mo_set_value, Mo_set_letters, Mo_set_parent, Mo_set_first, Mo_set_next, Mo_set_last, Mo_set_many, Mo_set_size, Mo_set_number, Mo_set_chars, Mo_set_held, Mo_set_fits, Mo_set_depth, Mo_set_node, Mo_set_end, Mo_set_loose, Mo_set_at, Mo_set_made, Mo_set_makes, Mo_set_line, Mo_set_timer, Mo_set_input, Mo_set_inputs, Mo_set_output, Mo_set_outputs, Mo_set_contexts, Mo_set_ids, Mo_set_services, Mo_set_results, Mo_set_wanted, Mo_set_command, Mo_set_commands, Mo_set_body, Mo_set_bodies, Mo_set_speaker, Mo_set_what, Mo_set_message, Mo_set_answered, Mo_set_records, Mo_set_kept, Mo_set_lengths, ua_s, ua_n, pk_us, pk_un]]
    rw [if_neg (by first | omega | (simp (disch := omega) only [z_lt, z_le, z_eq, z_cl, z_ad, z_mu, z_sb, z_n1, z_em, z_me, z_lm, z_ml, z_mle, z_lme, z_ma, z_am, z_m2, not_false_eq_true, z_l0, z_l1, z_l2, z_l3, z_l4, z_l5, z_l6, z_l7, z_l8, z_l10, z_l14, z_l15, z_l16, z_l32, z_l80, z_l101, z_l120, z_l126, z_l127, z_l130, z_l160, z_l198, z_l200, z_l202, z_l240, z_l252, z_l253, z_l254, z_l255, z_l260, z_l480, z_l900, Mo_room, Mo_code, Mo_draft, Mo_drafted, Mo_source, Mo_fault, Mo_count, Mo_kind, Mo_tag, Mo_value, Mo_letters, Mo_parent, Mo_first, Mo_next, Mo_last, Mo_many, Mo_size, Mo_number, Mo_chars, Mo_held, Mo_fits, Mo_depth, Mo_node, Mo_end, Mo_loose, Mo_at, Mo_made, Mo_makes, Mo_line, Mo_timer, Mo_input, Mo_inputs, Mo_output, Mo_outputs, Mo_contexts, Mo_ids, Mo_services, Mo_results, Mo_wanted, Mo_command, Mo_commands, Mo_body, Mo_bodies, Mo_speaker, Mo_what, Mo_message, Mo_answered, Mo_records, Mo_kept, Mo_lengths, Mo_set_room, Mo_set_code, Mo_set_draft, Mo_set_drafted, Mo_set_source, Mo_set_fault, Mo_set_count, Mo_set_kind, Mo_set_tag, Mo_set_value, Mo_set_letters, Mo_set_parent, Mo_set_first, Mo_set_next, Mo_set_last, Mo_set_many, Mo_set_size, Mo_set_number, Mo_set_chars, Mo_set_held, Mo_set_fits, Mo_set_depth, Mo_set_node, Mo_set_end, Mo_set_loose, Mo_set_at, Mo_set_made, Mo_set_makes, Mo_set_line, Mo_set_timer, Mo_set_input, Mo_set_inputs, Mo_set_output, Mo_set_outputs, Mo_set_contexts, Mo_set_ids, Mo_set_services, Mo_set_results, Mo_set_wanted, Mo_set_command, Mo_set_commands, Mo_set_body, Mo_set_bodies, Mo_set_speaker, Mo_set_what, Mo_set_message, Mo_set_answered, Mo_set_records, Mo_set_kept, Mo_set_lengths, ua_s, ua_n, pk_us, pk_un] <;> omega))]
    rw [if_neg (by first | omega | (simp (disch := omega) only [z_lt, z_le, z_eq, z_cl, z_ad, z_mu, z_sb, z_n1, z_em, z_me, z_lm, z_ml, z_mle, z_lme, z_ma, z_am, z_m2, not_false_eq_true, z_l0, z_l1, z_l2, z_l3, z_l4, z_l5, z_l6, z_l7, z_l8, z_l10, z_l14, z_l15, z_l16, z_l32, z_l80, z_l101, z_l120, z_l126, z_l127, z_l130, z_l160, z_l198, z_l200, z_l202, z_l240, z_l252, z_l253, z_l254, z_l255, z_l260, z_l480, z_l900, Mo_room, Mo_code, Mo_draft, Mo_drafted, Mo_source, Mo_fault, Mo_count, Mo_kind, Mo_tag, Mo_value, Mo_letters, Mo_parent, Mo_first, Mo_next, Mo_last, Mo_many, Mo_size, Mo_number, Mo_chars, Mo_held, Mo_fits, Mo_depth, Mo_node, Mo_end, Mo_loose, Mo_at, Mo_made, Mo_makes, Mo_line, Mo_timer, Mo_input, Mo_inputs, Mo_output, Mo_outputs, Mo_contexts, Mo_ids, Mo_services, Mo_results, Mo_wanted, Mo_command, Mo_commands, Mo_body, Mo_bodies, Mo_speaker, Mo_what, Mo_message, Mo_answered, Mo_records, Mo_kept, Mo_lengths, Mo_set_room, Mo_set_code, Mo_set_draft, Mo_set_drafted, Mo_set_source, Mo_set_fault, Mo_set_count, Mo_set_kind, Mo_set_tag, Mo_set_value, Mo_set_letters, Mo_set_parent, Mo_set_first, Mo_set_next, Mo_set_last, Mo_set_many, Mo_set_size, Mo_set_number, Mo_set_chars, Mo_set_held, Mo_set_fits, Mo_set_depth, Mo_set_node, Mo_set_end, Mo_set_loose, Mo_set_at, Mo_set_made, Mo_set_makes, Mo_set_line, Mo_set_timer, Mo_set_input, Mo_set_inputs, Mo_set_output, Mo_set_outputs, Mo_set_contexts, Mo_set_ids, Mo_set_services, Mo_set_results, Mo_set_wanted, Mo_set_command, Mo_set_commands, Mo_set_body, Mo_set_bodies, Mo_set_speaker, Mo_set_what, Mo_set_message, Mo_set_answered, Mo_set_records, Mo_set_kept, Mo_set_lengths, ua_s, ua_n, pk_us, pk_un, hz0] <;> omega))]
    unfold B_Mo_canonical_34
    rw [if_neg (by first | omega | (simp (disch := omega) only [z_lt, z_le, z_eq, z_cl, z_ad, z_mu, z_sb, z_n1, z_em, z_me, z_lm, z_ml, z_mle, z_lme, z_ma, z_am, z_m2, not_false_eq_true, z_l0, z_l1, z_l2, z_l3, z_l4, z_l5, z_l6, z_l7, z_l8, z_l10, z_l14, z_l15, z_l16, z_l32, z_l80, z_l101, z_l120, z_l126, z_l127, z_l130, z_l160, z_l198, z_l200, z_l202, z_l240, z_l252, z_l253, z_l254, z_l255, z_l260, z_l480, z_l900, Mo_room, Mo_code, Mo_draft, Mo_drafted, Mo_source, Mo_fault, Mo_count, Mo_kind, Mo_tag, Mo_value, Mo_letters, Mo_parent, Mo_first, Mo_next, Mo_last, Mo_many, Mo_size, Mo_number, Mo_chars, Mo_held, Mo_fits, Mo_depth, Mo_node, Mo_end, Mo_loose, Mo_at, Mo_made, Mo_makes, Mo_line, Mo_timer, Mo_input, Mo_inputs, Mo_output, Mo_outputs, Mo_contexts, Mo_ids, Mo_services, Mo_results, Mo_wanted, Mo_command, Mo_commands, Mo_body, Mo_bodies, Mo_speaker, Mo_what, Mo_message, Mo_answered, Mo_records, Mo_kept, Mo_lengths, Mo_set_room, Mo_set_code, Mo_set_draft, Mo_set_drafted, Mo_set_source, Mo_set_fault, Mo_set_count, Mo_set_kind, Mo_set_tag, Mo_set_value, Mo_set_letters, Mo_set_parent, Mo_set_first, Mo_set_next, Mo_set_last, Mo_set_many, Mo_set_size, Mo_set_number, Mo_set_chars, Mo_set_held, Mo_set_fits, Mo_set_depth, Mo_set_node, Mo_set_end, Mo_set_loose, Mo_set_at, Mo_set_made, Mo_set_makes, Mo_set_line, Mo_set_timer, Mo_set_input, Mo_set_inputs, Mo_set_output, Mo_set_outputs, Mo_set_contexts, Mo_set_ids, Mo_set_services, Mo_set_results, Mo_set_wanted, Mo_set_command, Mo_set_commands, Mo_set_body, Mo_set_bodies, Mo_set_speaker, Mo_set_what, Mo_set_message, Mo_set_answered, Mo_set_records, Mo_set_kept, Mo_set_lengths, ua_s, ua_n, pk_us, pk_un] <;> omega))]
    have hc := hm1.1
    have hT : mTS s1 t syn nd := ⟨hm1, fun i hi => z3 i (Nat.zero_le _) hi⟩
    have hM : mM s1 [] := ⟨by simp, by rw [z1]; exact pk_us (f := s.1) (k := 6) (x := 0), fun i hi => by simp at hi⟩
    have hsl : (sB syn nd 0 nd.length).length ≤ 300 := by
      rw [show nd.length = (nd.length - 1) + 1 by omega, sB_s, show nB0 syn nd 0 = [] from rfl, List.nil_append, ← sB_cB, cB_len]
      exact hany
    obtain ⟨s2, e2, m2, o2⟩ := m_write ht hsy w2 w1 w5 w6 (fun i hi => (w3 i hi).1) (b := nd.length) (Nat.le_refl _) nd.length 0 FU s1 [] (by omega) (by unfold FU; omega) hT hM (by simp; omega)
    rw [show nI (130 * t) + (Mo_count s1) (nI t).toNatClampNeg = nI (130 * t + nd.length) by simp (disch := omega) only [z_lt, z_le, z_eq, z_cl, z_ad, z_mu, z_sb, z_n1, z_em, z_me, z_lm, z_ml, z_mle, z_lme, z_ma, z_am, z_m2, not_false_eq_true, z_l0, z_l1, z_l2, z_l3, z_l4, z_l5, z_l6, z_l7, z_l8, z_l10, z_l14, z_l15, z_l16, z_l32, z_l80, z_l101, z_l120, z_l126, z_l127, z_l130, z_l160, z_l198, z_l200, z_l202, z_l240, z_l252, z_l253, z_l254, z_l255, z_l260, z_l480, z_l900, Mo_room, Mo_code, Mo_draft, Mo_drafted, Mo_source, Mo_fault, Mo_count, Mo_kind, Mo_tag, Mo_value, Mo_letters, Mo_parent, Mo_first, Mo_next, Mo_last, Mo_many, Mo_size, Mo_number, Mo_chars, Mo_held, Mo_fits, Mo_depth, Mo_node, Mo_end, Mo_loose, Mo_at, Mo_made, Mo_makes, Mo_line, Mo_timer, Mo_input, Mo_inputs, Mo_output, Mo_outputs, Mo_contexts, Mo_ids, Mo_services, Mo_results, Mo_wanted, Mo_command, Mo_commands, Mo_body, Mo_bodies, Mo_speaker, Mo_what, Mo_message, Mo_answered, Mo_records, Mo_kept, Mo_lengths, Mo_set_room, Mo_set_code, Mo_set_draft, Mo_set_drafted, Mo_set_source, Mo_set_fault, Mo_set_count, Mo_set_kind, Mo_set_tag, Mo_set_value, Mo_set_letters, Mo_set_parent, Mo_set_first, Mo_set_next, Mo_set_last, Mo_set_many, Mo_set_size, Mo_set_number, Mo_set_chars, Mo_set_held, Mo_set_fits, Mo_set_depth, Mo_set_node, Mo_set_end, Mo_set_loose, Mo_set_at, Mo_set_made, Mo_set_makes, Mo_set_line, Mo_set_timer, Mo_set_input, Mo_set_inputs, Mo_set_output, Mo_set_outputs, Mo_set_contexts, Mo_set_ids, Mo_set_services, Mo_set_results, Mo_set_wanted, Mo_set_command, Mo_set_commands, Mo_set_body, Mo_set_bodies, Mo_set_speaker, Mo_set_what, Mo_set_message, Mo_set_answered, Mo_set_records, Mo_set_kept, Mo_set_lengths, ua_s, ua_n, pk_us, pk_un, hc]]
    unfold F_Mo_write B_Mo_write_0 L_Mo_write_3
    rw [show 130 * t = 130 * t + 0 from rfl, show 130 * t + 0 + nd.length = 130 * t + nd.length from rfl, e2, Option.bind_some]
    refine ⟨s2, rfl, ⟨fun i hi => (o2.1 i hi).trans (o1.1 i hi), fun j h12 h20 => (o2.2 j h20).trans (o1.2 j h12 h20)⟩, fun _ => ?_⟩
    rw [List.nil_append, show nd.length = (nd.length - 1) + 1 by omega, sB_s, show nB0 syn nd 0 = [] from rfl, List.nil_append, ← sB_cB] at m2
    exact m2
end MCA
