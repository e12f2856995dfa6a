/-! PURE: the model's replies, up to what it sends -/
theorem m_replies {s : S_Mo} {c id : Nat} {st : Int32} {f : Bool} (hc : c < 4) (hsp : s.1 15 = nI c) (hid : s.2 23 c = nI id) : ∃ s', F_Mo_replies s st (if f = true then 1 else 0) = B_Mo_shows_144 s' ∧ mM s' ([id, 3] ++ numB 1 1 (Mo_what s + 16) ++ numB 1 2 (Mo_message s) ++ numB 1 3 (if f = true then 1 else 0) ++ numB 1 4 st) ∧ mOM s s' := by
  have nl : ∀ g v, (numB 1 g v).length ≤ 7 := by
    intro g v
    have := nb_le v
    unfold numB
    simp
    omega
  have o0 : mOM s (Mo_set_makes s 0) := ⟨fun i hi => pk_un (f := s.1) (k := 6) (x := 0) hi, fun _ _ => rfl⟩
  have hM : mM (Mo_set_makes s 0) [] := ⟨by simp, pk_us (f := s.1) (k := 6) (x := 0), fun i hi => by simp at hi⟩
  have f1 : Mo_speaker (Mo_set_makes s (0 : Int32)) = nI c := by
    show (Mo_set_makes s 0).1 15 = _
    rw [o0.1 15 (by omega), hsp]
  have f2 : Mo_ids (Mo_set_makes s (0 : Int32)) c = nI id := hid
  obtain ⟨s2, e2, m2, o2⟩ := m_make (x := id) hM (by simp)
  obtain ⟨s3, e3, m3, o3⟩ := m_make (x := 3) m2 (by simp)
  have o03 := mOM_t o0 (mOM_t o2 o3)
  obtain ⟨s4, e4, m4, o4⟩ := m_number (g := 1) (v := Mo_what s3 + 16) m3 (by simp)
  have n4 := nl 1 (Mo_what s3 + 16)
  have o04 := mOM_t o03 o4
  obtain ⟨s5, e5, m5, o5⟩ := m_number (g := 2) (v := Mo_message s4) m4 (by simp; omega)
  have n5 := nl 2 (Mo_message s4)
  obtain ⟨s6, e6, m6, o6⟩ := m_number (g := 3) (v := if f = true then 1 else 0) m5 (by simp; omega)
  have n6 := nl 3 (if f = true then 1 else 0)
  obtain ⟨s7, e7, m7, o7⟩ := m_number (g := 4) (v := st) m6 (by simp; omega)
  have w1 : Mo_what s3 = Mo_what s := o03.1 16 (by omega)
  have w2 : Mo_message s4 = Mo_message s := o04.1 17 (by omega)
  rw [w1] at e4 m7
  rw [w2] at e5 m7
  refine ⟨s7, ?_, by simpa using m7, mOM_t o04 (mOM_t o5 (mOM_t o6 o7))⟩
  unfold F_Mo_replies B_Mo_replies_0
  rw [f1]
  rw [if_neg (by first | omega | (simp (disch := omega) only [z_lt, z_le, z_eq, z_cl, z_ad, z_mu, z_sb, z_n1, z_em, z_me, z_lm, z_ml, z_mle, z_lme, z_ma, z_am, z_m2, not_false_eq_true, z_l0, z_l1, z_l2, z_l3, z_l4, z_l5, z_l6, z_l7, z_l8, z_l10, z_l14, z_l15, z_l16, z_l32, z_l80, z_l101, z_l120, z_l126, z_l127, z_l130, z_l160, z_l198, z_l200, z_l202, z_l240, z_l252, z_l253, z_l254, z_l255, z_l260, z_l480, z_l900, Mo_room, Mo_code, Mo_draft, Mo_drafted, Mo_source, Mo_fault, Mo_count, Mo_kind, Mo_tag, Mo_value, Mo_letters, Mo_parent, Mo_first, Mo_next, Mo_last, Mo_many, Mo_size, Mo_number, Mo_chars, Mo_held, Mo_fits, Mo_depth, Mo_node, Mo_end, Mo_loose, Mo_at, Mo_made, Mo_makes, Mo_line, Mo_timer, Mo_input, Mo_inputs, Mo_output, Mo_outputs, Mo_contexts, Mo_ids, Mo_services, Mo_results, Mo_wanted, Mo_command, Mo_commands, Mo_body, Mo_bodies, Mo_speaker, Mo_what, Mo_message, Mo_answered, Mo_records, Mo_kept, Mo_lengths, Mo_set_room, Mo_set_code, Mo_set_draft, Mo_set_drafted, Mo_set_source, Mo_set_fault, Mo_set_count, Mo_set_kind, Mo_set_tag, Mo_set_value, Mo_set_letters, Mo_set_parent, Mo_set_first, Mo_set_next, Mo_set_last, Mo_set_many, Mo_set_size, Mo_set_number, Mo_set_chars, Mo_set_held, Mo_set_fits, Mo_set_depth, Mo_set_node, Mo_set_end, Mo_set_loose, Mo_set_at, Mo_set_made, Mo_set_makes, Mo_set_line, Mo_set_timer, Mo_set_input, Mo_set_inputs, Mo_set_output, Mo_set_outputs, Mo_set_contexts, Mo_set_ids, Mo_set_services, Mo_set_results, Mo_set_wanted, Mo_set_command, Mo_set_commands, Mo_set_body, Mo_set_bodies, Mo_set_speaker, Mo_set_what, Mo_set_message, Mo_set_answered, Mo_set_records, Mo_set_kept, Mo_set_lengths, ua_s, ua_n, pk_us, pk_un] <;> omega))]
  rw [z_cl (by omega), f2, e2, Option.bind_some, show F_Mo_make s2 3 = _ from e3, Option.bind_some, w1, show F_Mo_number s3 1 (Mo_what s + 16) = _ from e4, Option.bind_some, w2, show F_Mo_number s4 2 (Mo_message s) = _ from e5, Option.bind_some]
  have fin : ∀ y, F_Mo_number s5 3 y = some s6 → B_Mo_replies_55 s5 st y 3 = B_Mo_shows_144 s7 := by
    intro y hy
    unfold B_Mo_replies_55
    rw [hy, Option.bind_some, show F_Mo_number s6 4 st = _ from e7, Option.bind_some]
    rfl
  cases f with
  | true =>
    rw [if_pos (rfl : true = true), if_neg (by decide : ¬ (1 : Int32) = 0)]
    exact fin 1 e6
  | false =>
    rw [if_neg (by decide : ¬ false = true), if_pos rfl]
    exact fin 0 e6
