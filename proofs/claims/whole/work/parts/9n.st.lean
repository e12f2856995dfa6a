/-! PURE: the model's store, when the set is fine and named and there is room -/
section MPT
variable {l : List Nat} {p n : Nat} {x3 : Int32} {B : Nat → List Nat} {N : Nat → List Nd} {nd : List Nd}
theorem m_store190 {s : S_Mo} (hp : p < 8) (hn : n ≤ 8) (h19 : s.1 19 = nI n) (h6 : s.1 6 = nI l.length) : ∃ s', B_Mo_store_190 s x3 (nI p) = B_Mo_store_227 s' x3 ∧ s'.1 19 = nI (if p = n then n + 1 else n) ∧ (∀ i, i ≠ 19 → s'.1 i = s.1 i) ∧ (∀ j, j ≠ 29 → s'.2 j = s.2 j) ∧ s'.2 29 p = nI l.length ∧ ∀ k, k ≠ p → s'.2 29 k = s.2 29 k := by
  have fr : ∀ y : Int32, (∀ i, i ≠ 19 → (upd s.1 19 y) i = s.1 i) ∧ (∀ j, j ≠ 29 → (ua s.2 29 (upd (s.2 29) p (nI l.length))) j = s.2 j) ∧ (ua s.2 29 (upd (s.2 29) p (nI l.length))) 29 p = nI l.length ∧ ∀ k, k ≠ p → (ua s.2 29 (upd (s.2 29) p (nI l.length))) 29 k = s.2 29 k := fun y => ⟨fun i hi => pk_un hi, fun j hj => ua_n hj, by rw [ua_s, pk_us], fun k hk => by rw [ua_s, pk_un hk]⟩
  unfold B_Mo_store_190
  rw [if_neg (by first | omega | (simp (disch := omega) only [z_lt, z_le, z_eq, z_cl, z_ad, z_mu, z_sb, z_n1, z_em, z_me, z_lm, z_ml, z_mle, z_lme, z_ma, z_am, z_m2, not_false_eq_true, z_l0, z_l1, z_l2, z_l3, z_l4, z_l5, z_l6, z_l7, z_l8, z_l10, z_l14, z_l15, z_l16, z_l32, z_l80, z_l101, z_l120, z_l126, z_l127, z_l130, z_l160, z_l198, z_l200, z_l202, z_l240, z_l252, z_l253, z_l254, z_l255, z_l260, z_l480, z_l900, Mo_room, Mo_code, Mo_draft, Mo_drafted, Mo_source, Mo_fault, Mo_count, Mo_kind, Mo_tag, Mo_value, Mo_letters, Mo_parent, Mo_first, Mo_next, Mo_last, Mo_many, Mo_size, Mo_number, Mo_chars, Mo_held, Mo_fits, Mo_depth, Mo_node, Mo_end, Mo_loose, Mo_at, Mo_made, Mo_makes, Mo_line, Mo_timer, Mo_input, Mo_inputs, Mo_output, Mo_outputs, Mo_contexts, Mo_ids, Mo_services, Mo_results, Mo_wanted, Mo_command, Mo_commands, Mo_body, Mo_bodies, Mo_speaker, Mo_what, Mo_message, Mo_answered, Mo_records, Mo_kept, Mo_lengths, Mo_set_room, Mo_set_code, Mo_set_draft, Mo_set_drafted, Mo_set_source, Mo_set_fault, Mo_set_count, Mo_set_kind, Mo_set_tag, Mo_set_value, Mo_set_letters, Mo_set_parent, Mo_set_first, Mo_set_next, Mo_set_last, Mo_set_many, Mo_set_size, Mo_set_number, Mo_set_chars, Mo_set_held, Mo_set_fits, Mo_set_depth, Mo_set_node, Mo_set_end, Mo_set_loose, Mo_set_at, Mo_set_made, Mo_set_makes, Mo_set_line, Mo_set_timer, Mo_set_input, Mo_set_inputs, Mo_set_output, Mo_set_outputs, Mo_set_contexts, Mo_set_ids, Mo_set_services, Mo_set_results, Mo_set_wanted, Mo_set_command, Mo_set_commands, Mo_set_body, Mo_set_bodies, Mo_set_speaker, Mo_set_what, Mo_set_message, Mo_set_answered, Mo_set_records, Mo_set_kept, Mo_set_lengths, ua_s, ua_n, pk_us, pk_un] <;> omega))]
  have hc : (nI p = Mo_records (Mo_set_lengths s (upd (Mo_lengths s) (nI p).toNatClampNeg (Mo_makes s)))) ↔ p = n := by
    show nI p = s.1 19 ↔ _
    rw [h19]
    simp (disch := omega) only [z_lt, z_le, z_eq, z_cl, z_ad, z_mu, z_sb, z_n1, z_em, z_me, z_lm, z_ml, z_mle, z_lme, z_ma, z_am, z_m2, not_false_eq_true, z_l0, z_l1, z_l2, z_l3, z_l4, z_l5, z_l6, z_l7, z_l8, z_l10, z_l14, z_l15, z_l16, z_l32, z_l80, z_l101, z_l120, z_l126, z_l127, z_l130, z_l160, z_l198, z_l200, z_l202, z_l240, z_l252, z_l253, z_l254, z_l255, z_l260, z_l480, z_l900, Rd_nodes, Rd_ends, Rd_isOpen, Rd_counts, Rd_lastTags, Rd_syntax, Rd_position, Rd_level, Rd_result, Rd_set_nodes, Rd_set_ends, Rd_set_isOpen, Rd_set_counts, Rd_set_lastTags, Rd_set_syntax, Rd_set_position, Rd_set_level, Rd_set_result, Tr_tags, Tr_behind, Tr_values, Tr_lengths, Tr_characters, Tr_count, Tr_characterCount, Tr_set_tags, Tr_set_behind, Tr_set_values, Tr_set_lengths, Tr_set_characters, Tr_set_count, Tr_set_characterCount, Bs_n, Bs_values, Bs_count, Bs_set_n, Bs_set_values, Bs_set_count]
  have hs : Mo_set_lengths s (upd (Mo_lengths s) (nI p).toNatClampNeg (Mo_makes s)) = (s.1, ua s.2 29 (upd (s.2 29) p (nI l.length))) := by
    rw [z_cl (by omega), show Mo_makes s = nI l.length from h6]
    rfl
  by_cases c : p = n
  · rw [if_pos (hc.mpr c), if_pos c, hs]
    refine ⟨(upd s.1 19 (nI (n + 1)), ua s.2 29 (upd (s.2 29) p (nI l.length))), ?_, pk_us (f := s.1) (k := 19) (x := nI (n + 1)), fr _⟩
    unfold B_Mo_store_211 B_Mo_store_224
    rw [show Mo_records (s.1, ua s.2 29 (upd (s.2 29) p (nI l.length))) + 1 = nI (n + 1) by
      show s.1 19 + 1 = _
      rw [h19]
      simp (disch := omega) only [z_lt, z_le, z_eq, z_cl, z_ad, z_mu, z_sb, z_n1, z_em, z_me, z_lm, z_ml, z_mle, z_lme, z_ma, z_am, z_m2, not_false_eq_true, z_l0, z_l1, z_l2, z_l3, z_l4, z_l5, z_l6, z_l7, z_l8, z_l10, z_l14, z_l15, z_l16, z_l32, z_l80, z_l101, z_l120, z_l126, z_l127, z_l130, z_l160, z_l198, z_l200, z_l202, z_l240, z_l252, z_l253, z_l254, z_l255, z_l260, z_l480, z_l900, Rd_nodes, Rd_ends, Rd_isOpen, Rd_counts, Rd_lastTags, Rd_syntax, Rd_position, Rd_level, Rd_result, Rd_set_nodes, Rd_set_ends, Rd_set_isOpen, Rd_set_counts, Rd_set_lastTags, Rd_set_syntax, Rd_set_position, Rd_set_level, Rd_set_result, Tr_tags, Tr_behind, Tr_values, Tr_lengths, Tr_characters, Tr_count, Tr_characterCount, Tr_set_tags, Tr_set_behind, Tr_set_values, Tr_set_lengths, Tr_set_characters, Tr_set_count, Tr_set_characterCount, Bs_n, Bs_values, Bs_count, Bs_set_n, Bs_set_values, Bs_set_count]]
    rfl
  · rw [if_neg (fun h => c (hc.mp h)), if_neg c, hs]
    refine ⟨(upd s.1 19 (nI n), ua s.2 29 (upd (s.2 29) p (nI l.length))), ?_, pk_us (f := s.1) (k := 19) (x := nI n), fr _⟩
    unfold B_Mo_store_220 B_Mo_store_224
    rw [show Mo_records (s.1, ua s.2 29 (upd (s.2 29) p (nI l.length))) = nI n from h19]
    rfl
theorem m_storePut {s : S_Mo} (hm : mtr s.2 0 nd) (hk : kep l nd) (hR : mRec s n B N) (hp : p ≤ n) (hp8 : p < 8) : ∃ s', B_Mo_store_144 s x3 (nI p) = B_Mo_store_227 s' x3 ∧ mRec s' (if p = n then n + 1 else n) (fun k => if k = p then l else B k) (fun k => if k = p then nd else N k) ∧ (∀ i, i ≠ 6 → i ≠ 19 → s'.1 i = s.1 i) ∧ ∀ j, j ≠ 12 → j ≠ 20 → j ≠ 28 → j ≠ 29 → s'.2 j = s.2 j := by
  obtain ⟨r1, r2, r3⟩ := hR
  obtain ⟨s1, e1, o1, m1⟩ := m_canonical (t := 0) (syn := 0) (by omega) (by omega) hk.1 hm
  rw [if_pos hk.2.2.2.1] at e1
  have m1 := m1 hk.2.2.2.1
  rw [← hk.2.2.2.2.1] at m1
  have hl := hk.2.2.2.2.2
  obtain ⟨s2, e2, a1, a2, a3, a4⟩ := m_storeCopy (x3 := x3) hp8 hl l.length 0 FU s1 (by omega) (by unfold FU; omega) m1 (fun k hk => by omega)
  obtain ⟨s3, e3, b1, b2, b3, b4, b5⟩ := m_store190 (s := s2) (l := l) (x3 := x3) hp8 r2 (by rw [a1, o1.1 19 (by omega)]; exact r1) (by rw [a1]; exact m1.2.1)
  refine ⟨s3, ?_, ⟨b1, by split <;> omega, fun k hkn => ?_⟩, fun i h6 h19 => by rw [b2 i h19, a1, o1.1 i h6], fun j h12 h20 h28 h29 => by rw [b3 j h29, a2 j h28, o1.2 j h12 h20]⟩
  · unfold B_Mo_store_144
    rw [show (0 : Int32) = nI 0 from rfl, e1, Option.bind_some]
    unfold L_Mo_store_154
    dsimp only
    rw [e2, e3]
  · by_cases c : k = p
    · dsimp only
      rw [if_pos c, if_pos c, c]
      exact ⟨hk, b4, fun i hi => by rw [b3 28 (by omega)]; exact a3 i hi⟩
    · dsimp only
      rw [if_neg c, if_neg c]
      have hkn' : k < n := by
        split at hkn <;> omega
      obtain ⟨q1, q2, q3⟩ := r3 k hkn'
      have ql := q1.2.2.2.2.2
      refine ⟨q1, ?_, fun i hi => ?_⟩
      · rw [b5 k c, a2 29 (by omega), o1.2 29 (by omega) (by omega)]
        exact q2
      · rw [b3 28 (by omega), a4 _ (by omega), o1.2 28 (by omega) (by omega)]
        exact q3 i hi
end MPT
