/-! PURE: a record that is kept, and how the model takes it up -/
theorem rGo_root {syn : Nat} {src : List Nat} {x : Nd} : ∀ (k : Nat) (σ : RS), (∃ t, σ.2.2 = x :: t) → ∃ t, (rGo syn src k σ).2 = x :: t
  | 0, σ, h => h
  | k + 1, (ps, [], nd), h => h
  | k + 1, (ps, f :: st, nd), h => by
    show ∃ t, (match rSt syn src ps f st nd with | .inl e => (e, nd) | .inr τ => rGo syn src k τ).2 = x :: t
    cases e : rSt syn src ps f st nd with
    | inl e => exact h
    | inr τ =>
      refine rGo_root k τ ?_
      obtain ⟨t, ht⟩ := h
      have ht : nd = x :: t := ht
      have ap : ∀ (g p : Nat) (f' : Fr), rLn src g p f' st nd = .inr τ → ∃ t, τ.2.2 = x :: t := by
        intro g p f' e
        subst ht
        unfold rLn at e
        split at e
        · cases e
        · split at e
          · split at e
            · cases e
              exact ⟨_, rfl⟩
            · split at e
              · split at e
                · cases e
                · cases e
                  exact ⟨_, rfl⟩
              · cases e
                exact ⟨_, rfl⟩
          · cases e
      rcases rSt_c syn src ps f st nd with ⟨c1, ⟨c2, c3⟩ | ⟨c2, c3⟩⟩ | ⟨c1, c3⟩ | ⟨c1, hev, c3⟩ | ⟨c1, hodd, c3⟩
      · rw [c3] at e
        cases e
      · rw [c3] at e
        cases e
        exact ⟨t, ht⟩
      · rw [c3] at e
        cases e
        exact ⟨t, ht⟩
      · rw [c3] at e
        unfold rEl at e
        split at e
        · cases e
        · split at e
          · cases e
          · split at e
            · cases e
            · split at e
              · cases e
              · split at e
                · cases e
                · exact ap _ _ _ e
      · rw [c3] at e
        unfold rIt at e
        split at e
        · cases e
        · split at e
          · cases e
          · exact ap _ _ _ e
theorem rD_root {syn : Nat} {src : List Nat} : nG (rD syn src).2 0 = (0, 254, 0, []) := by
  obtain ⟨t, h⟩ := rGo_root (syn := syn) (src := src) (x := (0, 254, 0, [])) (2 * src.length + 2) (0, [(0, src.length, false, 0, 0)], [(0, 254, 0, [])]) ⟨[], rfl⟩
  unfold rD
  rw [h]
  rfl
theorem fitA_all {syn : Nat} {nd : List Nd} : ∀ m, fitA syn nd m = true → ∀ k, 1 ≤ k → k ≤ m → kd (nT nd k) = 1 ∨ vln syn nd k ≤ 240
  | 0, _, k, h1, h2 => by omega
  | m + 1, h, k, h1, h2 => by
    have h : (fitA syn nd m && (decide (kd (nT nd (m + 1)) = 1) || decide (vln syn nd (m + 1) ≤ 240))) = true := h
    rw [Bool.and_eq_true, Bool.or_eq_true, decide_eq_true_eq, decide_eq_true_eq] at h
    by_cases c : k = m + 1
    · rw [c]
      exact h.2
    · exact fitA_all m h.1 k h1 (by omega)
theorem nB_256 {nd : List Nd} {k : Nat} (w : wfA nd) (hv : kd (nT nd k) = 1 ∨ vln 0 nd k ≤ 240) : ∀ x ∈ nB 0 nd k, x < 256 := by
  intro x hx
  have hg := nT_lt w k
  have hk := kd_le (nT nd k)
  unfold nB at hx
  by_cases k1 : kd (nT nd k) = 1
  · rw [if_pos k1] at hx
    unfold numB at hx
    have hn := nb_le (nV nd k)
    simp only [List.mem_append, List.mem_singleton, List.mem_map] at hx
    rcases hx with ((hx | hx) | hx) | ⟨i, _, hx⟩
    · omega
    · rw [if_pos trivial] at hx
      have := List.mem_singleton.mp hx
      omega
    · omega
    · rw [← hx]
      exact (z_byte _).1
  · rw [if_neg k1] at hx
    simp only [List.mem_append, List.mem_singleton] at hx
    rcases hx with ((hx | hx) | hx) | hx
    · omega
    · split at hx
      · have := List.mem_singleton.mp hx
        omega
      · cases hx
    · omega
    · split at hx
      · unfold txB at hx
        obtain ⟨i, _, hx⟩ := List.mem_map.mp hx
        have := nX_lt w k i
        split at hx <;> omega
      · cases hx
theorem cB_256 {nd : List Nd} (w : wfA nd) : ∀ m, (∀ k, 1 ≤ k → k ≤ m → kd (nT nd k) = 1 ∨ vln 0 nd k ≤ 240) → ∀ x ∈ cB 0 nd m, x < 256
  | 0, _, x, hx => by cases hx
  | m + 1, h, x, hx => by
    rcases List.mem_append.mp (show x ∈ cB 0 nd m ++ nB 0 nd (m + 1) from hx) with hx | hx
    · exact cB_256 w m (fun k a b => h k a (by omega)) x hx
    · exact nB_256 w (h (m + 1) (by omega) (by omega)) x hx
/-- l is what is kept of the set nd -/
def kep (l : List Nat) (nd : List Nd) : Prop := wfT nd ∧ (∀ x ∈ nd, okX x) ∧ nG nd 0 = (0, 254, 0, []) ∧ fitA 0 nd (nd.length - 1) = true ∧ l = cB 0 nd (nd.length - 1) ∧ l.length ≤ 198
theorem kep_of {syn : Nat} {src : List Nat} (hs : src.length ≤ 200) (h : (rD syn src).1 = 0) (hf : fitA 0 (rD syn src).2 ((rD syn src).2.length - 1) = true) (hl : (cB 0 (rD syn src).2 ((rD syn src).2.length - 1)).length ≤ 198) : kep (cB 0 (rD syn src).2 ((rD syn src).2.length - 1)) (rD syn src).2 := ⟨rD_wfT hs h, rD_kx, rD_root, hf, rfl, hl⟩
theorem kep_fit {l : List Nat} {nd : List Nd} (h : kep l nd) : ∀ k, 1 ≤ k → k < nd.length → kd (nT nd k) = 1 ∨ vln 0 nd k ≤ 240 := fun k a b => fitA_all _ h.2.2.2.1 k a (by omega)
theorem kep_read {l : List Nat} {nd : List Nd} (h : kep l nd) : rD 0 l = (0, nd) := by
  rw [h.2.2.2.2.1]
  exact rD_back h.1 h.2.1 h.2.2.1 (kep_fit h)
theorem kep_256 {l : List Nat} {nd : List Nd} (h : kep l nd) (i : Nat) : l.getD i 0 < 256 := by
  by_cases hi : i < l.length
  · rw [List.getD, List.getElem?_eq_getElem hi]
    refine cB_256 h.1.1 (nd.length - 1) (fitA_all _ h.2.2.2.1) _ ?_
    rw [← h.2.2.2.2.1]
    exact List.getElem_mem hi
  · rw [List.getD, List.getElem?_eq_none (by omega)]
    decide
section MLD
variable {s : S_Mo} {l : List Nat} {nd pd : List Nd} {r : Nat}
theorem mtr_f {s s' : S_Mo} (h : mfm 1 s s') (hl : pd.length ≤ 101) (hc : (ch pd).length ≤ 200) (hm : mtr s.2 0 pd) : mtr s'.2 0 pd := by
  obtain ⟨f1, f2, f3, f4, f5⟩ := h
  obtain ⟨m1, m2, m3, m4⟩ := hm
  refine ⟨(f4 0 (by omega)).1.trans m1, (f4 0 (by omega)).2.trans m2, fun k hk => ?_, fun i hi => by rw [f5 _ (by omega)]; exact m4 i hi⟩
  have e := m3 k hk
  unfold mtk at e ⊢
  rw [f3 3 _ (by omega) (by omega) (by omega), f3 4 _ (by omega) (by omega) (by omega), f3 5 _ (by omega) (by omega) (by omega), f3 6 _ (by omega) (by omega) (by omega), f3 7 _ (by omega) (by omega) (by omega), f3 8 _ (by omega) (by omega) (by omega), f3 9 _ (by omega) (by omega) (by omega), f3 11 _ (by omega) (by omega) (by omega)]
  exact e
/-- all but what load works with -/
def mLd (s s' : S_Mo) : Prop := (∀ i, i ≠ 3 → i ≠ 4 → i ≠ 5 → s'.1 i = s.1 i) ∧ (∀ j, j = 0 ∨ j = 12 ∨ j = 13 ∨ j = 16 ∨ 20 ≤ j → s'.2 j = s.2 j) ∧ ∀ pd : List Nd, pd.length ≤ 101 → (ch pd).length ≤ 200 → mtr s.2 0 pd → mtr s'.2 0 pd
theorem m_loadLoop (hr : r < 8) (hl : l.length ≤ 200) : ∀ (j i fu : Nat) (s : S_Mo), i + j = l.length → j < fu → s.2 29 r = nI l.length → (∀ i, i < l.length → s.2 28 (200 * r + i) = nI (l.getD i 0)) → (∀ k, k < i → s.2 1 k = nI (l.getD k 0)) → ∃ s', lp (fun k2 v => B_Mo_load_2 k2 v.1 v.2.1 v.2.2) fu (s, nI r, nI i) = B_Mo_load_36 s' (nI r) ∧ s'.1 = s.1 ∧ (∀ j, j ≠ 1 → s'.2 j = s.2 j) ∧ msrc s' l := by
  intro j
  induction j with
  | zero =>
    intro i fu s hi hf h29 h28 h1
    obtain ⟨fu', rfl⟩ : ∃ fu', fu = fu' + 1 := ⟨fu - 1, by omega⟩
    refine ⟨s, ?_, rfl, fun _ _ => rfl, fun k hk => h1 k (by omega)⟩
    rw [lp_s]
    show B_Mo_load_2 _ s (nI r) (nI i) = _
    unfold B_Mo_load_2
    rw [if_neg (by first | omega | (simp (disch := omega) only [z_lt, z_le, z_eq, z_cl, z_ad, z_mu, z_sb, z_n1, z_em, z_me, z_lm, z_ml, z_mle, z_lme, z_ma, z_am, z_m2, not_false_eq_true, z_l0, z_l1, z_l2, z_l3, z_l4, z_l5, z_l6, z_l7, z_l8, z_l10, z_l14, z_l15, z_l16, z_l32, z_l80, z_l101, z_l120, z_l126, z_l127, z_l130, z_l160, z_l198, z_l200, z_l202, z_l240, z_l252, z_l253, z_l254, z_l255, z_l260, z_l480, z_l900, Mo_room, Mo_code, Mo_draft, Mo_drafted, Mo_source, Mo_fault, Mo_count, Mo_kind, Mo_tag, Mo_value, Mo_letters, Mo_parent, Mo_first, Mo_next, Mo_last, Mo_many, Mo_size, Mo_number, Mo_chars, Mo_held, Mo_fits, Mo_depth, Mo_node, Mo_end, Mo_loose, Mo_at, Mo_made, Mo_makes, Mo_line, Mo_timer, Mo_input, Mo_inputs, Mo_output, Mo_outputs, Mo_contexts, Mo_ids, Mo_services, Mo_results, Mo_wanted, Mo_command, Mo_commands, Mo_body, Mo_bodies, Mo_speaker, Mo_what, Mo_message, Mo_answered, Mo_records, Mo_kept, Mo_lengths, Mo_set_room, Mo_set_code, Mo_set_draft, Mo_set_drafted, Mo_set_source, Mo_set_fault, Mo_set_count, Mo_set_kind, Mo_set_tag, Mo_set_value, Mo_set_letters, Mo_set_parent, Mo_set_first, Mo_set_next, Mo_set_last, Mo_set_many, Mo_set_size, Mo_set_number, Mo_set_chars, Mo_set_held, Mo_set_fits, Mo_set_depth, Mo_set_node, Mo_set_end, Mo_set_loose, Mo_set_at, Mo_set_made, Mo_set_makes, Mo_set_line, Mo_set_timer, Mo_set_input, Mo_set_inputs, Mo_set_output, Mo_set_outputs, Mo_set_contexts, Mo_set_ids, Mo_set_services, Mo_set_results, Mo_set_wanted, Mo_set_command, Mo_set_commands, Mo_set_body, Mo_set_bodies, Mo_set_speaker, Mo_set_what, Mo_set_message, Mo_set_answered, Mo_set_records, Mo_set_kept, Mo_set_lengths, ua_s, ua_n, pk_us, pk_un] <;> omega))]
    rw [if_pos (by first | omega | (simp (disch := omega) only [z_lt, z_le, z_eq, z_cl, z_ad, z_mu, z_sb, z_n1, z_em, z_me, z_lm, z_ml, z_mle, z_lme, z_ma, z_am, z_m2, not_false_eq_true, z_l0, z_l1, z_l2, z_l3, z_l4, z_l5, z_l6, z_l7, z_l8, z_l10, z_l14, z_l15, z_l16, z_l32, z_l80, z_l101, z_l120, z_l126, z_l127, z_l130, z_l160, z_l198, z_l200, z_l202, z_l240, z_l252, z_l253, z_l254, z_l255, z_l260, z_l480, z_l900, Mo_room, Mo_code, Mo_draft, Mo_drafted, Mo_source, Mo_fault, Mo_count, Mo_kind, Mo_tag, Mo_value, Mo_letters, Mo_parent, Mo_first, Mo_next, Mo_last, Mo_many, Mo_size, Mo_number, Mo_chars, Mo_held, Mo_fits, Mo_depth, Mo_node, Mo_end, Mo_loose, Mo_at, Mo_made, Mo_makes, Mo_line, Mo_timer, Mo_input, Mo_inputs, Mo_output, Mo_outputs, Mo_contexts, Mo_ids, Mo_services, Mo_results, Mo_wanted, Mo_command, Mo_commands, Mo_body, Mo_bodies, Mo_speaker, Mo_what, Mo_message, Mo_answered, Mo_records, Mo_kept, Mo_lengths, Mo_set_room, Mo_set_code, Mo_set_draft, Mo_set_drafted, Mo_set_source, Mo_set_fault, Mo_set_count, Mo_set_kind, Mo_set_tag, Mo_set_value, Mo_set_letters, Mo_set_parent, Mo_set_first, Mo_set_next, Mo_set_last, Mo_set_many, Mo_set_size, Mo_set_number, Mo_set_chars, Mo_set_held, Mo_set_fits, Mo_set_depth, Mo_set_node, Mo_set_end, Mo_set_loose, Mo_set_at, Mo_set_made, Mo_set_makes, Mo_set_line, Mo_set_timer, Mo_set_input, Mo_set_inputs, Mo_set_output, Mo_set_outputs, Mo_set_contexts, Mo_set_ids, Mo_set_services, Mo_set_results, Mo_set_wanted, Mo_set_command, Mo_set_commands, Mo_set_body, Mo_set_bodies, Mo_set_speaker, Mo_set_what, Mo_set_message, Mo_set_answered, Mo_set_records, Mo_set_kept, Mo_set_lengths, ua_s, ua_n, pk_us, pk_un, h29] <;> omega))]
  | succ j ih =>
    intro i fu s hi hf h29 h28 h1
    obtain ⟨fu', rfl⟩ : ∃ fu', fu = fu' + 1 := ⟨fu - 1, by omega⟩
    have hv := h28 i (by omega)
    obtain ⟨s', e', a1, a2, a3⟩ := ih (i + 1) fu' (s.1, ua s.2 1 (upd (s.2 1) i (nI (l.getD i 0)))) (by omega) (by omega) (by dsimp only; rw [ua_n (by omega)]; exact h29) (fun k hk => by dsimp only; rw [ua_n (by omega)]; exact h28 k hk) (fun k hk => by
      dsimp only
      rw [ua_s]
      by_cases c : k = i
      · rw [c, pk_us]
      · rw [pk_un c]
        exact h1 k (by omega))
    refine ⟨s', ?_, a1, fun j hj => by rw [a2 j hj]; exact ua_n hj, a3⟩
    rw [lp_s]
    show B_Mo_load_2 _ s (nI r) (nI i) = _
    unfold B_Mo_load_2
    rw [if_neg (by first | omega | (simp (disch := omega) only [z_lt, z_le, z_eq, z_cl, z_ad, z_mu, z_sb, z_n1, z_em, z_me, z_lm, z_ml, z_mle, z_lme, z_ma, z_am, z_m2, not_false_eq_true, z_l0, z_l1, z_l2, z_l3, z_l4, z_l5, z_l6, z_l7, z_l8, z_l10, z_l14, z_l15, z_l16, z_l32, z_l80, z_l101, z_l120, z_l126, z_l127, z_l130, z_l160, z_l198, z_l200, z_l202, z_l240, z_l252, z_l253, z_l254, z_l255, z_l260, z_l480, z_l900, Mo_room, Mo_code, Mo_draft, Mo_drafted, Mo_source, Mo_fault, Mo_count, Mo_kind, Mo_tag, Mo_value, Mo_letters, Mo_parent, Mo_first, Mo_next, Mo_last, Mo_many, Mo_size, Mo_number, Mo_chars, Mo_held, Mo_fits, Mo_depth, Mo_node, Mo_end, Mo_loose, Mo_at, Mo_made, Mo_makes, Mo_line, Mo_timer, Mo_input, Mo_inputs, Mo_output, Mo_outputs, Mo_contexts, Mo_ids, Mo_services, Mo_results, Mo_wanted, Mo_command, Mo_commands, Mo_body, Mo_bodies, Mo_speaker, Mo_what, Mo_message, Mo_answered, Mo_records, Mo_kept, Mo_lengths, Mo_set_room, Mo_set_code, Mo_set_draft, Mo_set_drafted, Mo_set_source, Mo_set_fault, Mo_set_count, Mo_set_kind, Mo_set_tag, Mo_set_value, Mo_set_letters, Mo_set_parent, Mo_set_first, Mo_set_next, Mo_set_last, Mo_set_many, Mo_set_size, Mo_set_number, Mo_set_chars, Mo_set_held, Mo_set_fits, Mo_set_depth, Mo_set_node, Mo_set_end, Mo_set_loose, Mo_set_at, Mo_set_made, Mo_set_makes, Mo_set_line, Mo_set_timer, Mo_set_input, Mo_set_inputs, Mo_set_output, Mo_set_outputs, Mo_set_contexts, Mo_set_ids, Mo_set_services, Mo_set_results, Mo_set_wanted, Mo_set_command, Mo_set_commands, Mo_set_body, Mo_set_bodies, Mo_set_speaker, Mo_set_what, Mo_set_message, Mo_set_answered, Mo_set_records, Mo_set_kept, Mo_set_lengths, ua_s, ua_n, pk_us, pk_un] <;> omega))]
    rw [if_neg (by first | omega | (simp (disch := omega) only [z_lt, z_le, z_eq, z_cl, z_ad, z_mu, z_sb, z_n1, z_em, z_me, z_lm, z_ml, z_mle, z_lme, z_ma, z_am, z_m2, not_false_eq_true, z_l0, z_l1, z_l2, z_l3, z_l4, z_l5, z_l6, z_l7, z_l8, z_l10, z_l14, z_l15, z_l16, z_l32, z_l80, z_l101, z_l120, z_l126, z_l127, z_l130, z_l160, z_l198, z_l200, z_l202, z_l240, z_l252, z_l253, z_l254, z_l255, z_l260, z_l480, z_l900, Mo_room, Mo_code, Mo_draft, Mo_drafted, Mo_source, Mo_fault, Mo_count, Mo_kind, Mo_tag, Mo_value, Mo_letters, Mo_parent, Mo_first, Mo_next, Mo_last, Mo_many, Mo_size, Mo_number, Mo_chars, Mo_held, Mo_fits, Mo_depth, Mo_node, Mo_end, Mo_loose, Mo_at, Mo_made, Mo_makes, Mo_line, Mo_timer, Mo_input, Mo_inputs, Mo_output, Mo_outputs, Mo_contexts, Mo_ids, Mo_services, Mo_results, Mo_wanted, Mo_command, Mo_commands, Mo_body, Mo_bodies, Mo_speaker, Mo_what, Mo_message, Mo_answered, Mo_records, Mo_kept, Mo_lengths, Mo_set_room, Mo_set_code, Mo_set_draft, Mo_set_drafted, Mo_set_source, Mo_set_fault, Mo_set_count, Mo_set_kind, Mo_set_tag, Mo_set_value, Mo_set_letters, Mo_set_parent, Mo_set_first, Mo_set_next, Mo_set_last, Mo_set_many, Mo_set_size, Mo_set_number, Mo_set_chars, Mo_set_held, Mo_set_fits, Mo_set_depth, Mo_set_node, Mo_set_end, Mo_set_loose, Mo_set_at, Mo_set_made, Mo_set_makes, Mo_set_line, Mo_set_timer, Mo_set_input, Mo_set_inputs, Mo_set_output, Mo_set_outputs, Mo_set_contexts, Mo_set_ids, Mo_set_services, Mo_set_results, Mo_set_wanted, Mo_set_command, Mo_set_commands, Mo_set_body, Mo_set_bodies, Mo_set_speaker, Mo_set_what, Mo_set_message, Mo_set_answered, Mo_set_records, Mo_set_kept, Mo_set_lengths, ua_s, ua_n, pk_us, pk_un, h29] <;> omega))]
    unfold B_Mo_load_12
    rw [if_neg (by first | omega | (simp (disch := omega) only [z_lt, z_le, z_eq, z_cl, z_ad, z_mu, z_sb, z_n1, z_em, z_me, z_lm, z_ml, z_mle, z_lme, z_ma, z_am, z_m2, not_false_eq_true, z_l0, z_l1, z_l2, z_l3, z_l4, z_l5, z_l6, z_l7, z_l8, z_l10, z_l14, z_l15, z_l16, z_l32, z_l80, z_l101, z_l120, z_l126, z_l127, z_l130, z_l160, z_l198, z_l200, z_l202, z_l240, z_l252, z_l253, z_l254, z_l255, z_l260, z_l480, z_l900, Mo_room, Mo_code, Mo_draft, Mo_drafted, Mo_source, Mo_fault, Mo_count, Mo_kind, Mo_tag, Mo_value, Mo_letters, Mo_parent, Mo_first, Mo_next, Mo_last, Mo_many, Mo_size, Mo_number, Mo_chars, Mo_held, Mo_fits, Mo_depth, Mo_node, Mo_end, Mo_loose, Mo_at, Mo_made, Mo_makes, Mo_line, Mo_timer, Mo_input, Mo_inputs, Mo_output, Mo_outputs, Mo_contexts, Mo_ids, Mo_services, Mo_results, Mo_wanted, Mo_command, Mo_commands, Mo_body, Mo_bodies, Mo_speaker, Mo_what, Mo_message, Mo_answered, Mo_records, Mo_kept, Mo_lengths, Mo_set_room, Mo_set_code, Mo_set_draft, Mo_set_drafted, Mo_set_source, Mo_set_fault, Mo_set_count, Mo_set_kind, Mo_set_tag, Mo_set_value, Mo_set_letters, Mo_set_parent, Mo_set_first, Mo_set_next, Mo_set_last, Mo_set_many, Mo_set_size, Mo_set_number, Mo_set_chars, Mo_set_held, Mo_set_fits, Mo_set_depth, Mo_set_node, Mo_set_end, Mo_set_loose, Mo_set_at, Mo_set_made, Mo_set_makes, Mo_set_line, Mo_set_timer, Mo_set_input, Mo_set_inputs, Mo_set_output, Mo_set_outputs, Mo_set_contexts, Mo_set_ids, Mo_set_services, Mo_set_results, Mo_set_wanted, Mo_set_command, Mo_set_commands, Mo_set_body, Mo_set_bodies, Mo_set_speaker, Mo_set_what, Mo_set_message, Mo_set_answered, Mo_set_records, Mo_set_kept, Mo_set_lengths, ua_s, ua_n, pk_us, pk_un] <;> omega))]
    rw [if_neg (by first | omega | (simp (disch := omega) only [z_lt, z_le, z_eq, z_cl, z_ad, z_mu, z_sb, z_n1, z_em, z_me, z_lm, z_ml, z_mle, z_lme, z_ma, z_am, z_m2, not_false_eq_true, z_l0, z_l1, z_l2, z_l3, z_l4, z_l5, z_l6, z_l7, z_l8, z_l10, z_l14, z_l15, z_l16, z_l32, z_l80, z_l101, z_l120, z_l126, z_l127, z_l130, z_l160, z_l198, z_l200, z_l202, z_l240, z_l252, z_l253, z_l254, z_l255, z_l260, z_l480, z_l900, Mo_room, Mo_code, Mo_draft, Mo_drafted, Mo_source, Mo_fault, Mo_count, Mo_kind, Mo_tag, Mo_value, Mo_letters, Mo_parent, Mo_first, Mo_next, Mo_last, Mo_many, Mo_size, Mo_number, Mo_chars, Mo_held, Mo_fits, Mo_depth, Mo_node, Mo_end, Mo_loose, Mo_at, Mo_made, Mo_makes, Mo_line, Mo_timer, Mo_input, Mo_inputs, Mo_output, Mo_outputs, Mo_contexts, Mo_ids, Mo_services, Mo_results, Mo_wanted, Mo_command, Mo_commands, Mo_body, Mo_bodies, Mo_speaker, Mo_what, Mo_message, Mo_answered, Mo_records, Mo_kept, Mo_lengths, Mo_set_room, Mo_set_code, Mo_set_draft, Mo_set_drafted, Mo_set_source, Mo_set_fault, Mo_set_count, Mo_set_kind, Mo_set_tag, Mo_set_value, Mo_set_letters, Mo_set_parent, Mo_set_first, Mo_set_next, Mo_set_last, Mo_set_many, Mo_set_size, Mo_set_number, Mo_set_chars, Mo_set_held, Mo_set_fits, Mo_set_depth, Mo_set_node, Mo_set_end, Mo_set_loose, Mo_set_at, Mo_set_made, Mo_set_makes, Mo_set_line, Mo_set_timer, Mo_set_input, Mo_set_inputs, Mo_set_output, Mo_set_outputs, Mo_set_contexts, Mo_set_ids, Mo_set_services, Mo_set_results, Mo_set_wanted, Mo_set_command, Mo_set_commands, Mo_set_body, Mo_set_bodies, Mo_set_speaker, Mo_set_what, Mo_set_message, Mo_set_answered, Mo_set_records, Mo_set_kept, Mo_set_lengths, ua_s, ua_n, pk_us, pk_un] <;> omega))]
    rw [← e']
    rw [show (Mo_kept s) (((200 : Int32) * nI r) + nI i).toNatClampNeg = nI (l.getD i 0) by
      rw [show ((200 : Int32) * nI r) + nI i = nI (200 * r + i) by simp (disch := omega) only [z_lt, z_le, z_eq, z_cl, z_ad, z_mu, z_sb, z_n1, z_em, z_me, z_lm, z_ml, z_mle, z_lme, z_ma, z_am, z_m2, not_false_eq_true, z_l0, z_l1, z_l2, z_l3, z_l4, z_l5, z_l6, z_l7, z_l8, z_l10, z_l14, z_l15, z_l16, z_l32, z_l80, z_l101, z_l120, z_l126, z_l127, z_l130, z_l160, z_l198, z_l200, z_l202, z_l240, z_l252, z_l253, z_l254, z_l255, z_l260, z_l480, z_l900, Mo_room, Mo_code, Mo_draft, Mo_drafted, Mo_source, Mo_fault, Mo_count, Mo_kind, Mo_tag, Mo_value, Mo_letters, Mo_parent, Mo_first, Mo_next, Mo_last, Mo_many, Mo_size, Mo_number, Mo_chars, Mo_held, Mo_fits, Mo_depth, Mo_node, Mo_end, Mo_loose, Mo_at, Mo_made, Mo_makes, Mo_line, Mo_timer, Mo_input, Mo_inputs, Mo_output, Mo_outputs, Mo_contexts, Mo_ids, Mo_services, Mo_results, Mo_wanted, Mo_command, Mo_commands, Mo_body, Mo_bodies, Mo_speaker, Mo_what, Mo_message, Mo_answered, Mo_records, Mo_kept, Mo_lengths, Mo_set_room, Mo_set_code, Mo_set_draft, Mo_set_drafted, Mo_set_source, Mo_set_fault, Mo_set_count, Mo_set_kind, Mo_set_tag, Mo_set_value, Mo_set_letters, Mo_set_parent, Mo_set_first, Mo_set_next, Mo_set_last, Mo_set_many, Mo_set_size, Mo_set_number, Mo_set_chars, Mo_set_held, Mo_set_fits, Mo_set_depth, Mo_set_node, Mo_set_end, Mo_set_loose, Mo_set_at, Mo_set_made, Mo_set_makes, Mo_set_line, Mo_set_timer, Mo_set_input, Mo_set_inputs, Mo_set_output, Mo_set_outputs, Mo_set_contexts, Mo_set_ids, Mo_set_services, Mo_set_results, Mo_set_wanted, Mo_set_command, Mo_set_commands, Mo_set_body, Mo_set_bodies, Mo_set_speaker, Mo_set_what, Mo_set_message, Mo_set_answered, Mo_set_records, Mo_set_kept, Mo_set_lengths, ua_s, ua_n, pk_us, pk_un], z_cl (by omega)]
      exact hv]
    rw [z_cl (by omega : i < 2 ^ 31), show nI i + 1 = nI (i + 1) by simp (disch := omega) only [z_lt, z_le, z_eq, z_cl, z_ad, z_mu, z_sb, z_n1, z_em, z_me, z_lm, z_ml, z_mle, z_lme, z_ma, z_am, z_m2, not_false_eq_true, z_l0, z_l1, z_l2, z_l3, z_l4, z_l5, z_l6, z_l7, z_l8, z_l10, z_l14, z_l15, z_l16, z_l32, z_l80, z_l101, z_l120, z_l126, z_l127, z_l130, z_l160, z_l198, z_l200, z_l202, z_l240, z_l252, z_l253, z_l254, z_l255, z_l260, z_l480, z_l900, Mo_room, Mo_code, Mo_draft, Mo_drafted, Mo_source, Mo_fault, Mo_count, Mo_kind, Mo_tag, Mo_value, Mo_letters, Mo_parent, Mo_first, Mo_next, Mo_last, Mo_many, Mo_size, Mo_number, Mo_chars, Mo_held, Mo_fits, Mo_depth, Mo_node, Mo_end, Mo_loose, Mo_at, Mo_made, Mo_makes, Mo_line, Mo_timer, Mo_input, Mo_inputs, Mo_output, Mo_outputs, Mo_contexts, Mo_ids, Mo_services, Mo_results, Mo_wanted, Mo_command, Mo_commands, Mo_body, Mo_bodies, Mo_speaker, Mo_what, Mo_message, Mo_answered, Mo_records, Mo_kept, Mo_lengths, Mo_set_room, Mo_set_code, Mo_set_draft, Mo_set_drafted, Mo_set_source, Mo_set_fault, Mo_set_count, Mo_set_kind, Mo_set_tag, Mo_set_value, Mo_set_letters, Mo_set_parent, Mo_set_first, Mo_set_next, Mo_set_last, Mo_set_many, Mo_set_size, Mo_set_number, Mo_set_chars, Mo_set_held, Mo_set_fits, Mo_set_depth, Mo_set_node, Mo_set_end, Mo_set_loose, Mo_set_at, Mo_set_made, Mo_set_makes, Mo_set_line, Mo_set_timer, Mo_set_input, Mo_set_inputs, Mo_set_output, Mo_set_outputs, Mo_set_contexts, Mo_set_ids, Mo_set_services, Mo_set_results, Mo_set_wanted, Mo_set_command, Mo_set_commands, Mo_set_body, Mo_set_bodies, Mo_set_speaker, Mo_set_what, Mo_set_message, Mo_set_answered, Mo_set_records, Mo_set_kept, Mo_set_lengths, ua_s, ua_n, pk_us, pk_un]]
    rfl
theorem m_load (hr : r < 8) (hk : kep l nd) (h29 : s.2 29 r = nI l.length) (h28 : ∀ i, i < l.length → s.2 28 (200 * r + i) = nI (l.getD i 0)) : ∃ s', F_Mo_load s (nI r) = some s' ∧ mtr s'.2 1 nd ∧ mLd s s' := by
  have hl := hk.2.2.2.2.2
  obtain ⟨s1, e1, a1, a2, a3⟩ := m_loadLoop hr (by omega) l.length 0 FU s (by omega) (by unfold FU; omega) h29 h28 (fun k hk => by omega)
  obtain ⟨x, s2, e2, f1, f2, f3, f4⟩ := m_read (s := s1) (t := 1) (syn := 0) (by omega) (by omega) (kep_256 hk) (by omega) a3
  rw [kep_read hk] at f4
  unfold F_Mo_load B_Mo_load_0 L_Mo_load_2
  refine ⟨s2, ?_, f4 rfl, fun i h3 h4 h5 => by rw [f1.1 i h3 h4 h5, a1], fun j hj => by rw [f1.2.1 j (by omega), a2 j (by omega)], fun pd p1 p2 hm => mtr_f f1 p1 p2 (mtr_c hm (fun j hj => a2 j (by omega)))⟩
  rw [show (0 : Int32) = nI 0 from rfl, e1]
  unfold B_Mo_load_36
  rw [if_neg (by first | omega | (simp (disch := omega) only [z_lt, z_le, z_eq, z_cl, z_ad, z_mu, z_sb, z_n1, z_em, z_me, z_lm, z_ml, z_mle, z_lme, z_ma, z_am, z_m2, not_false_eq_true, z_l0, z_l1, z_l2, z_l3, z_l4, z_l5, z_l6, z_l7, z_l8, z_l10, z_l14, z_l15, z_l16, z_l32, z_l80, z_l101, z_l120, z_l126, z_l127, z_l130, z_l160, z_l198, z_l200, z_l202, z_l240, z_l252, z_l253, z_l254, z_l255, z_l260, z_l480, z_l900, Mo_room, Mo_code, Mo_draft, Mo_drafted, Mo_source, Mo_fault, Mo_count, Mo_kind, Mo_tag, Mo_value, Mo_letters, Mo_parent, Mo_first, Mo_next, Mo_last, Mo_many, Mo_size, Mo_number, Mo_chars, Mo_held, Mo_fits, Mo_depth, Mo_node, Mo_end, Mo_loose, Mo_at, Mo_made, Mo_makes, Mo_line, Mo_timer, Mo_input, Mo_inputs, Mo_output, Mo_outputs, Mo_contexts, Mo_ids, Mo_services, Mo_results, Mo_wanted, Mo_command, Mo_commands, Mo_body, Mo_bodies, Mo_speaker, Mo_what, Mo_message, Mo_answered, Mo_records, Mo_kept, Mo_lengths, Mo_set_room, Mo_set_code, Mo_set_draft, Mo_set_drafted, Mo_set_source, Mo_set_fault, Mo_set_count, Mo_set_kind, Mo_set_tag, Mo_set_value, Mo_set_letters, Mo_set_parent, Mo_set_first, Mo_set_next, Mo_set_last, Mo_set_many, Mo_set_size, Mo_set_number, Mo_set_chars, Mo_set_held, Mo_set_fits, Mo_set_depth, Mo_set_node, Mo_set_end, Mo_set_loose, Mo_set_at, Mo_set_made, Mo_set_makes, Mo_set_line, Mo_set_timer, Mo_set_input, Mo_set_inputs, Mo_set_output, Mo_set_outputs, Mo_set_contexts, Mo_set_ids, Mo_set_services, Mo_set_results, Mo_set_wanted, Mo_set_command, Mo_set_commands, Mo_set_body, Mo_set_bodies, Mo_set_speaker, Mo_set_what, Mo_set_message, Mo_set_answered, Mo_set_records, Mo_set_kept, Mo_set_lengths, ua_s, ua_n, pk_us, pk_un] <;> omega))]
  rw [show (Mo_lengths s1) (nI r).toNatClampNeg = nI l.length by
    rw [z_cl (by omega)]
    show s1.2 29 r = _
    rw [a2 29 (by omega)]
    exact h29, show (1 : Int32) = nI 1 from rfl, show (0 : Int32) = nI 0 from rfl, e2]
  rfl
end MLD
