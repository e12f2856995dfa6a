/-! PURE: what stands behind a length, in the model -/
section MLN
variable {t syn p g : Nat} {src : List Nat} {s0 s : S_Mo} {f f' : Fr} {st : List Fr} {nd : List Nd}
theorem mpr_at {a : Nat → Int32} {p' : Nat} (h : mpr t src s0 s p f st nd) (ha : a = upd s.1 5 (nI p')) : mpr t src s0 (a, s.2) p' f st nd := by
  obtain ⟨h4, h5, h3, h6, h7, h8, h9⟩ := h
  subst ha
  exact ⟨(pk_un (f := s.1) (k := 5) (x := nI p') (by omega)).trans h4, (pk_us (f := s.1) (k := 5) (x := nI p')), (pk_un (f := s.1) (k := 5) (x := nI p') (by omega)).trans h3, h6, h7, h8, mfm_num h9 (fun i h3 h4 h5 => pk_un h5)⟩
theorem arw_tag {r R : Nat → Nat → Int32} {n ab c j k g g' : Nat} (h : arw t r R n ab c j k g) : arw t r (ua R 4 (upd (R 4) (130 * t + n) (nI g'))) n ab c j k g' := by
  obtain ⟨r2, r3, r4, r5, r7, r8, r9, r10, r11, rr⟩ := h
  refine ⟨by rw [ua_n (by omega)]; exact r2, by rw [ua_n (by omega)]; exact r3, by rw [ua_s, r4, upd2], by rw [ua_n (by omega)]; exact r5, by rw [ua_n (by omega)]; exact r7, by rw [ua_n (by omega)]; exact r8, by rw [ua_n (by omega)]; exact r9, by rw [ua_n (by omega)]; exact r10, by rw [ua_n (by omega)]; exact r11, fun i i2 i3 i4 i5 i7 i8 i9 i10 i11 => by rw [ua_n i4]; exact rr i i2 i3 i4 i5 i7 i8 i9 i10 i11⟩
/-- what comes about of a node behind its length -/
def rOk (src : List Nat) (g p : Nat) (f : Fr) (st : List Fr) (nd : List Nd) : Nat ⊕ RS :=
    if kd g = 1 then .inr (p + 1 + src.getD p 0, f :: st, nd ++ [(st.length + 1, g, nu src (p + 1) (src.getD p 0), [])])
    else if kd g = 2 then
      if badT src (p + 1) (src.getD p 0) then .inl (5 + 16 * (p + 1))
      else .inr (p + 1 + src.getD p 0, f :: st, nd ++ [(st.length + 1, g, 0, tx src (p + 1) (kp src (p + 1) (src.getD p 0)))])
    else .inr (p + 1, (nd.length, (if src.getD p 0 = 255 then f.2.1 else p + 1 + src.getD p 0), decide (src.getD p 0 = 255), 0, 0) :: f :: st, nd ++ [(st.length + 1, g, 0, [])])
/-- a sequence or an item is entered -/
theorem m_enter {R : Nat → Nat → Int32} {a : Nat → Int32} {j en : Nat} {o : Bool} {x3 : Int32} (h : mpr t src s0 (a, s.2) p f st nd) (ht : t < 2) (hl : nd.length ≤ 101) (hs4 : st.length < 4) (hc : chn src.length nd (f :: st)) (hf : fok nd (f :: st)) (hj : f.2.2.2.1 ≠ 0 → mlc s.2 t nd f st.length j) (hj2 : j < 130 ∨ f.2.2.2.1 = 0) (hR : arw t s.2 R nd.length f.1 f.2.2.2.1 j (mk g) (mtg g)) (hk : kd g = 3 ∨ kd g = 4) (hf1 : f'.1 = f.1) (hf2 : f'.2.1 = f.2.1) (hf3 : f'.2.2.1 = f.2.2.1) (hf4 : f'.2.2.2.1 = f.2.2.2.1 + 1) (hf5 : st.length % 2 = 0 → g = f'.2.2.2.2) (hx3 : vp_nar .boolean x3 = if o = true then nI 1 else nI 0) : ∃ s', F_Mo_push (a, R) (nI (130 * t + nd.length)) (nI en) x3 = some s' ∧ mrp t src s0 s' (p, (nd.length, en, o, 0, 0) :: f' :: st, nd ++ [(st.length + 1, g, 0, [])]) := by
  obtain ⟨h4, h5, h3, hmt, hmf, hsrc, hm⟩ := h
  have hfm := arw_fm (s := (a, s.2)) hR hm (by omega) (by have := hc.1; omega) hj2
  have hRR := hR
  obtain ⟨r2, r3, r4, r5, r7, r8, r9, r10, r11, rr⟩ := hR
  have a1 := hc.1
  have rr' : ∀ i, i ≠ 2 → i ≠ 3 → i ≠ 4 → i ≠ 5 → i ≠ 7 → i ≠ 8 → i ≠ 9 → i ≠ 10 → i ≠ 11 → i ≠ 17 → i ≠ 18 → i ≠ 19 → (ua (ua (ua R 17 (upd (R 17) (st.length + 1) (nI (130 * t + nd.length)))) 18 (upd (R 18) (st.length + 1) (nI en))) 19 (upd (R 19) (st.length + 1) (vp_nar .boolean x3))) i = s.2 i := by
    intro i i2 i3 i4 i5 i7 i8 i9 i10 i11 i17 i18 i19
    rw [ua_n i19, ua_n i18, ua_n i17]
    exact rr i i2 i3 i4 i5 i7 i8 i9 i10 i11
  refine ⟨_, m_push (d := st.length + 1) h4 (by omega), ?_, ?_, ?_, ?_, ?_, ?_, ?_⟩
  · show upd a 4 (nI (st.length + 1 + 1)) 4 = nI (st.length + 1 + 1)
    exact pk_us
  · exact (pk_un (f := a) (k := 4) (x := nI (st.length + 1 + 1)) (by omega)).trans h5
  · exact (pk_un (f := a) (k := 4) (x := nI (st.length + 1 + 1)) (by omega)).trans h3
  · refine mtr_a (f := f) (st := st) (j := j) hmt hc hf (fun e => (hmf.2.1 e).1) hj rfl ht (by omega) ?_ ?_ ?_ ?_ ?_ ?_ ?_ ?_ ?_ ?_ ?_ ?_ ?_
    · try dsimp only
      rw [ua_n (by omega), ua_n (by omega), ua_n (by omega)]; exact r2
    · try dsimp only
      rw [ua_n (by omega), ua_n (by omega), ua_n (by omega)]; exact r3
    · try dsimp only
      rw [ua_n (by omega), ua_n (by omega), ua_n (by omega)]; exact r4
    · try dsimp only
      rw [ua_n (by omega), ua_n (by omega), ua_n (by omega)]
      try dsimp only
      rw [if_neg (by omega), if_neg (by omega)]
      exact r5
    · intro i hi
      exact congrFun (rr' 6 (by omega) (by omega) (by omega) (by omega) (by omega) (by omega) (by omega) (by omega) (by omega) (by omega) (by omega) (by omega)) i
    · intro h2
      dsimp only at h2
      omega
    · try dsimp only
      rw [ua_n (by omega), ua_n (by omega), ua_n (by omega)]; exact r7
    · try dsimp only
      rw [ua_n (by omega), ua_n (by omega), ua_n (by omega)]; exact r8
    · try dsimp only
      rw [ua_n (by omega), ua_n (by omega), ua_n (by omega)]; exact r9
    · try dsimp only
      rw [ua_n (by omega), ua_n (by omega), ua_n (by omega)]; exact r11
    · intro i hi
      exact congrFun (rr' 14 (by omega) (by omega) (by omega) (by omega) (by omega) (by omega) (by omega) (by omega) (by omega) (by omega) (by omega) (by omega)) _
    · intro i hi
      simp at hi
    · try dsimp only
      rw [congrFun (rr' 15 (by omega) (by omega) (by omega) (by omega) (by omega) (by omega) (by omega) (by omega) (by omega) (by omega) (by omega) (by omega)) t]
      exact hmt.2.1
  · have g17 : R 17 = s.2 17 := rr 17 (by omega) (by omega) (by omega) (by omega) (by omega) (by omega) (by omega) (by omega) (by omega)
    have g18 : R 18 = s.2 18 := rr 18 (by omega) (by omega) (by omega) (by omega) (by omega) (by omega) (by omega) (by omega) (by omega)
    have g19 : R 19 = s.2 19 := rr 19 (by omega) (by omega) (by omega) (by omega) (by omega) (by omega) (by omega) (by omega) (by omega)
    have key := mfr_leaf (j := 0) (r' := ua (ua (ua R 17 (upd (R 17) (st.length + 1) (nI (130 * t + nd.length)))) 18 (upd (R 18) (st.length + 1) (nI en))) 19 (upd (R 19) (st.length + 1) (vp_nar .boolean x3))) (x := (st.length + 1, g, 0, [])) (f' := f') hmf hc rfl ht hf1 hf2 hf3 hf4 hf5 (by rw [ua_n (by omega), ua_n (by omega), ua_n (by omega)]; exact r10) (fun i hi => by rw [ua_n (by omega), ua_n (by omega), ua_s, pk_un (by omega), g17]) (fun i hi => by rw [ua_n (by omega), ua_s, pk_un (by omega), g18]) (fun i hi => by rw [ua_s, pk_un (by omega), g19])
    refine ⟨⟨?_, ?_, ?_, fun e => absurd rfl e⟩, fun _ => ⟨by simp, rfl⟩, key.1, by rw [hf4]; omega, key.2⟩
    · try dsimp only
      rw [ua_n (by omega), ua_n (by omega), ua_s, List.length_cons, pk_us]
    · try dsimp only
      rw [ua_n (by omega), ua_s, List.length_cons, pk_us]
    · try dsimp only
      rw [ua_s, List.length_cons, pk_us, hx3]
  · intro i hi
    try dsimp only
    rw [congrFun (rr' 1 (by omega) (by omega) (by omega) (by omega) (by omega) (by omega) (by omega) (by omega) (by omega) (by omega) (by omega) (by omega)) i]
    exact hsrc i hi
  · have hfm2 : mfm t s0 (a, ua (ua (ua R 17 (upd (R 17) (st.length + 1) (nI (130 * t + nd.length)))) 18 (upd (R 18) (st.length + 1) (nI en))) 19 (upd (R 19) (st.length + 1) (vp_nar .boolean x3))) := mfm_row (s := (a, R)) (r := ua (ua (ua R 17 (upd (R 17) (st.length + 1) (nI (130 * t + nd.length)))) 18 (upd (R 18) (st.length + 1) (nI en))) 19 (upd (R 19) (st.length + 1) (vp_nar .boolean x3))) hfm (fun i hi => by rw [ua_n (by omega), ua_n (by omega), ua_n (by omega)]) (fun i b b3 b11 hb => by rw [ua_n (by omega), ua_n (by omega), ua_n (by omega)]) (fun i hi => ⟨by rw [ua_n (by omega), ua_n (by omega), ua_n (by omega)], by rw [ua_n (by omega), ua_n (by omega), ua_n (by omega)]⟩) (fun i hi => by rw [ua_n (by omega), ua_n (by omega), ua_n (by omega)])
    exact mfm_num hfm2 (fun i h3 h4 h5 => pk_un h4)
theorem me_388 (h : mpr t src s0 s p f st nd) (ht : t < 2) (h8 : ∀ i, src.getD i 0 < 256) (hs : src.length ≤ 200) (hl : nd.length ≤ 101) (hcl : (ch nd).length + 16 ≤ 240) (h5 : st.length < 5) (h4 : kd g = 3 → st.length < 4) (hc : chn src.length nd (f :: st)) (hf : fok nd (f :: st)) (hg : g ≤ 200) (hfe : f.2.1 ≤ src.length) (hp : p < f.2.1) (hok : okL (kd g) (src.getD p 0) = true) (hin : src.getD p 0 = 255 ∨ p + 1 + src.getD p 0 ≤ f.2.1) (hf1 : f'.1 = f.1) (hf2 : f'.2.1 = f.2.1) (hf3 : f'.2.2.1 = f.2.2.1) (hf4 : f'.2.2.2.1 = f.2.2.2.1 + 1) (hf5 : g = f'.2.2.2.2) : ∃ x s', B_Mo_element_388 s (nI t) (nI st.length) (nI (130 * t + f.1)) (nI g) (nI (kd g)) (nI (src.getD p 0)) (if kd g = 3 ∧ src.getD p 0 = 255 then 1 else 0) = some (x, s') ∧ mpo t src s0 (rOk src g p f' st nd) x s' := by
  have hk := kd_le g
  have hk3 : kd g ≤ 3 := kd_big (by omega)
  have hmk : mk g = kd g := by unfold mk; rw [if_neg (by omega)]
  have hmg : mtg g = g := by unfold mtg; rw [if_neg (by omega)]
  have hv := h8 p
  have es : Mo_set_at s (Mo_at s + (1 : Int32)) = (upd s.1 5 (nI (p + 1)), s.2) := by
    have := h.2.1
    simp (disch := omega) only [z_lt, z_le, z_eq, z_cl, z_ad, z_mu, z_sb, z_n1, z_em, z_me, z_lm, z_ml, z_mle, z_lme, z_ma, z_am, z_m2, not_false_eq_true, z_l0, z_l1, z_l2, z_l3, z_l4, z_l5, z_l6, z_l7, z_l8, z_l10, z_l14, z_l15, z_l16, z_l32, z_l80, z_l101, z_l120, z_l126, z_l127, z_l130, z_l160, z_l198, z_l200, z_l202, z_l240, z_l252, z_l253, z_l254, z_l255, z_l260, z_l480, z_l900, Mo_room, Mo_code, Mo_draft, Mo_drafted, Mo_source, Mo_fault, Mo_count, Mo_kind, Mo_tag, Mo_value, Mo_letters, Mo_parent, Mo_first, Mo_next, Mo_last, Mo_many, Mo_size, Mo_number, Mo_chars, Mo_held, Mo_fits, Mo_depth, Mo_node, Mo_end, Mo_loose, Mo_at, Mo_made, Mo_makes, Mo_line, Mo_timer, Mo_input, Mo_inputs, Mo_output, Mo_outputs, Mo_contexts, Mo_ids, Mo_services, Mo_results, Mo_wanted, Mo_command, Mo_commands, Mo_body, Mo_bodies, Mo_speaker, Mo_what, Mo_message, Mo_answered, Mo_records, Mo_kept, Mo_lengths, Mo_set_room, Mo_set_code, Mo_set_draft, Mo_set_drafted, Mo_set_source, Mo_set_fault, Mo_set_count, Mo_set_kind, Mo_set_tag, Mo_set_value, Mo_set_letters, Mo_set_parent, Mo_set_first, Mo_set_next, Mo_set_last, Mo_set_many, Mo_set_size, Mo_set_number, Mo_set_chars, Mo_set_held, Mo_set_fits, Mo_set_depth, Mo_set_node, Mo_set_end, Mo_set_loose, Mo_set_at, Mo_set_made, Mo_set_makes, Mo_set_line, Mo_set_timer, Mo_set_input, Mo_set_inputs, Mo_set_output, Mo_set_outputs, Mo_set_contexts, Mo_set_ids, Mo_set_services, Mo_set_results, Mo_set_wanted, Mo_set_command, Mo_set_commands, Mo_set_body, Mo_set_bodies, Mo_set_speaker, Mo_set_what, Mo_set_message, Mo_set_answered, Mo_set_records, Mo_set_kept, Mo_set_lengths, ua_s, ua_n, pk_us, pk_un, this]
  have h1 := mpr_at (p' := p + 1) h rfl
  obtain ⟨j, R', hj, hj2, e1, hR⟩ := m_new (k := kd g) h1 ht hl hc hf _ rfl
  have hR := arw_tag (g' := g) hR
  have a1 := hc.1
  unfold B_Mo_element_388
  rw [es, e1, Option.bind_some]
  try dsimp only
  rw [if_neg (by first | omega | (simp (disch := omega) only [z_lt, z_le, z_eq, z_cl, z_ad, z_mu, z_sb, z_n1, z_em, z_me, z_lm, z_ml, z_mle, z_lme, z_ma, z_am, z_m2, not_false_eq_true, z_l0, z_l1, z_l2, z_l3, z_l4, z_l5, z_l6, z_l7, z_l8, z_l10, z_l14, z_l15, z_l16, z_l32, z_l80, z_l101, z_l120, z_l126, z_l127, z_l130, z_l160, z_l198, z_l200, z_l202, z_l240, z_l252, z_l253, z_l254, z_l255, z_l260, z_l480, z_l900, Mo_room, Mo_code, Mo_draft, Mo_drafted, Mo_source, Mo_fault, Mo_count, Mo_kind, Mo_tag, Mo_value, Mo_letters, Mo_parent, Mo_first, Mo_next, Mo_last, Mo_many, Mo_size, Mo_number, Mo_chars, Mo_held, Mo_fits, Mo_depth, Mo_node, Mo_end, Mo_loose, Mo_at, Mo_made, Mo_makes, Mo_line, Mo_timer, Mo_input, Mo_inputs, Mo_output, Mo_outputs, Mo_contexts, Mo_ids, Mo_services, Mo_results, Mo_wanted, Mo_command, Mo_commands, Mo_body, Mo_bodies, Mo_speaker, Mo_what, Mo_message, Mo_answered, Mo_records, Mo_kept, Mo_lengths, Mo_set_room, Mo_set_code, Mo_set_draft, Mo_set_drafted, Mo_set_source, Mo_set_fault, Mo_set_count, Mo_set_kind, Mo_set_tag, Mo_set_value, Mo_set_letters, Mo_set_parent, Mo_set_first, Mo_set_next, Mo_set_last, Mo_set_many, Mo_set_size, Mo_set_number, Mo_set_chars, Mo_set_held, Mo_set_fits, Mo_set_depth, Mo_set_node, Mo_set_end, Mo_set_loose, Mo_set_at, Mo_set_made, Mo_set_makes, Mo_set_line, Mo_set_timer, Mo_set_input, Mo_set_inputs, Mo_set_output, Mo_set_outputs, Mo_set_contexts, Mo_set_ids, Mo_set_services, Mo_set_results, Mo_set_wanted, Mo_set_command, Mo_set_commands, Mo_set_body, Mo_set_bodies, Mo_set_speaker, Mo_set_what, Mo_set_message, Mo_set_answered, Mo_set_records, Mo_set_kept, Mo_set_lengths, ua_s, ua_n, pk_us, pk_un] <;> omega))]
  have et : Mo_set_tag (upd s.1 5 (nI (p + 1)), R') (upd (Mo_tag (upd s.1 5 (nI (p + 1)), R')) (nI (130 * t + nd.length)).toNatClampNeg (nI g)) = (upd s.1 5 (nI (p + 1)), ua R' 4 (upd (R' 4) (130 * t + nd.length) (nI g))) := by
    simp (disch := omega) only [z_lt, z_le, z_eq, z_cl, z_ad, z_mu, z_sb, z_n1, z_em, z_me, z_lm, z_ml, z_mle, z_lme, z_ma, z_am, z_m2, not_false_eq_true, z_l0, z_l1, z_l2, z_l3, z_l4, z_l5, z_l6, z_l7, z_l8, z_l10, z_l14, z_l15, z_l16, z_l32, z_l80, z_l101, z_l120, z_l126, z_l127, z_l130, z_l160, z_l198, z_l200, z_l202, z_l240, z_l252, z_l253, z_l254, z_l255, z_l260, z_l480, z_l900, Mo_room, Mo_code, Mo_draft, Mo_drafted, Mo_source, Mo_fault, Mo_count, Mo_kind, Mo_tag, Mo_value, Mo_letters, Mo_parent, Mo_first, Mo_next, Mo_last, Mo_many, Mo_size, Mo_number, Mo_chars, Mo_held, Mo_fits, Mo_depth, Mo_node, Mo_end, Mo_loose, Mo_at, Mo_made, Mo_makes, Mo_line, Mo_timer, Mo_input, Mo_inputs, Mo_output, Mo_outputs, Mo_contexts, Mo_ids, Mo_services, Mo_results, Mo_wanted, Mo_command, Mo_commands, Mo_body, Mo_bodies, Mo_speaker, Mo_what, Mo_message, Mo_answered, Mo_records, Mo_kept, Mo_lengths, Mo_set_room, Mo_set_code, Mo_set_draft, Mo_set_drafted, Mo_set_source, Mo_set_fault, Mo_set_count, Mo_set_kind, Mo_set_tag, Mo_set_value, Mo_set_letters, Mo_set_parent, Mo_set_first, Mo_set_next, Mo_set_last, Mo_set_many, Mo_set_size, Mo_set_number, Mo_set_chars, Mo_set_held, Mo_set_fits, Mo_set_depth, Mo_set_node, Mo_set_end, Mo_set_loose, Mo_set_at, Mo_set_made, Mo_set_makes, Mo_set_line, Mo_set_timer, Mo_set_input, Mo_set_inputs, Mo_set_output, Mo_set_outputs, Mo_set_contexts, Mo_set_ids, Mo_set_services, Mo_set_results, Mo_set_wanted, Mo_set_command, Mo_set_commands, Mo_set_body, Mo_set_bodies, Mo_set_speaker, Mo_set_what, Mo_set_message, Mo_set_answered, Mo_set_records, Mo_set_kept, Mo_set_lengths, ua_s, ua_n, pk_us, pk_un]
  rw [et]
  generalize ua R' 4 (upd (R' 4) (130 * t + nd.length) (nI g)) = R at hR
  have hR0 := hR
  obtain ⟨r2, r3, r4, r5, r7, r8, r9, r10, r11, rr⟩ := hR
  obtain ⟨b4, b5, b3, hmt, hmf, hsrc, hm⟩ := h1
  have hfm := arw_fm (s := (upd s.1 5 (nI (p + 1)), s.2)) hR0 hm (by omega) (by omega) hj2
  have g1 : R 1 = s.2 1 := rr 1 (by omega) (by omega) (by omega) (by omega) (by omega) (by omega) (by omega) (by omega) (by omega)
  have g6 : R 6 = s.2 6 := rr 6 (by omega) (by omega) (by omega) (by omega) (by omega) (by omega) (by omega) (by omega) (by omega)
  have g14 : R 14 = s.2 14 := rr 14 (by omega) (by omega) (by omega) (by omega) (by omega) (by omega) (by omega) (by omega) (by omega)
  have g15 : R 15 = s.2 15 := rr 15 (by omega) (by omega) (by omega) (by omega) (by omega) (by omega) (by omega) (by omega) (by omega)
  have g17 : R 17 = s.2 17 := rr 17 (by omega) (by omega) (by omega) (by omega) (by omega) (by omega) (by omega) (by omega) (by omega)
  have g18 : R 18 = s.2 18 := rr 18 (by omega) (by omega) (by omega) (by omega) (by omega) (by omega) (by omega) (by omega) (by omega)
  have g19 : R 19 = s.2 19 := rr 19 (by omega) (by omega) (by omega) (by omega) (by omega) (by omega) (by omega) (by omega) (by omega)
  have hsrcR : msrc (upd s.1 5 (nI (p + 1)), R) src := fun i hi => by
    show R 1 i = _
    rw [g1]
    exact hsrc i hi
  unfold rOk
  by_cases k3 : kd g = 3
  · rw [if_neg (c := kd g = 1) (by omega), if_neg (c := kd g = 2) (by omega)]
    rw [if_pos (by first | omega | (simp (disch := omega) only [z_lt, z_le, z_eq, z_cl, z_ad, z_mu, z_sb, z_n1, z_em, z_me, z_lm, z_ml, z_mle, z_lme, z_ma, z_am, z_m2, not_false_eq_true, z_l0, z_l1, z_l2, z_l3, z_l4, z_l5, z_l6, z_l7, z_l8, z_l10, z_l14, z_l15, z_l16, z_l32, z_l80, z_l101, z_l120, z_l126, z_l127, z_l130, z_l160, z_l198, z_l200, z_l202, z_l240, z_l252, z_l253, z_l254, z_l255, z_l260, z_l480, z_l900, Mo_room, Mo_code, Mo_draft, Mo_drafted, Mo_source, Mo_fault, Mo_count, Mo_kind, Mo_tag, Mo_value, Mo_letters, Mo_parent, Mo_first, Mo_next, Mo_last, Mo_many, Mo_size, Mo_number, Mo_chars, Mo_held, Mo_fits, Mo_depth, Mo_node, Mo_end, Mo_loose, Mo_at, Mo_made, Mo_makes, Mo_line, Mo_timer, Mo_input, Mo_inputs, Mo_output, Mo_outputs, Mo_contexts, Mo_ids, Mo_services, Mo_results, Mo_wanted, Mo_command, Mo_commands, Mo_body, Mo_bodies, Mo_speaker, Mo_what, Mo_message, Mo_answered, Mo_records, Mo_kept, Mo_lengths, Mo_set_room, Mo_set_code, Mo_set_draft, Mo_set_drafted, Mo_set_source, Mo_set_fault, Mo_set_count, Mo_set_kind, Mo_set_tag, Mo_set_value, Mo_set_letters, Mo_set_parent, Mo_set_first, Mo_set_next, Mo_set_last, Mo_set_many, Mo_set_size, Mo_set_number, Mo_set_chars, Mo_set_held, Mo_set_fits, Mo_set_depth, Mo_set_node, Mo_set_end, Mo_set_loose, Mo_set_at, Mo_set_made, Mo_set_makes, Mo_set_line, Mo_set_timer, Mo_set_input, Mo_set_inputs, Mo_set_output, Mo_set_outputs, Mo_set_contexts, Mo_set_ids, Mo_set_services, Mo_set_results, Mo_set_wanted, Mo_set_command, Mo_set_commands, Mo_set_body, Mo_set_bodies, Mo_set_speaker, Mo_set_what, Mo_set_message, Mo_set_answered, Mo_set_records, Mo_set_kept, Mo_set_lengths, ua_s, ua_n, pk_us, pk_un, k3] <;> omega))]
    unfold B_Mo_element_424
    have h1' : mpr t src s0 (upd s.1 5 (nI (p + 1)), s.2) (p + 1) f st nd := ⟨b4, b5, b3, hmt, hmf, hsrc, hm⟩
    have hR1 : arw t s.2 R nd.length f.1 f.2.2.2.1 j (mk g) (mtg g) := by rw [hmk, hmg]; exact hR0
    by_cases k4 : src.getD p 0 = 255
    · rw [if_pos (c := kd g = 3 ∧ src.getD p 0 = 255) ⟨k3, k4⟩, if_neg (by decide)]
      unfold B_Mo_element_432
      rw [if_neg (by first | omega | (simp (disch := omega) only [z_lt, z_le, z_eq, z_cl, z_ad, z_mu, z_sb, z_n1, z_em, z_me, z_lm, z_ml, z_mle, z_lme, z_ma, z_am, z_m2, not_false_eq_true, z_l0, z_l1, z_l2, z_l3, z_l4, z_l5, z_l6, z_l7, z_l8, z_l10, z_l14, z_l15, z_l16, z_l32, z_l80, z_l101, z_l120, z_l126, z_l127, z_l130, z_l160, z_l198, z_l200, z_l202, z_l240, z_l252, z_l253, z_l254, z_l255, z_l260, z_l480, z_l900, Mo_room, Mo_code, Mo_draft, Mo_drafted, Mo_source, Mo_fault, Mo_count, Mo_kind, Mo_tag, Mo_value, Mo_letters, Mo_parent, Mo_first, Mo_next, Mo_last, Mo_many, Mo_size, Mo_number, Mo_chars, Mo_held, Mo_fits, Mo_depth, Mo_node, Mo_end, Mo_loose, Mo_at, Mo_made, Mo_makes, Mo_line, Mo_timer, Mo_input, Mo_inputs, Mo_output, Mo_outputs, Mo_contexts, Mo_ids, Mo_services, Mo_results, Mo_wanted, Mo_command, Mo_commands, Mo_body, Mo_bodies, Mo_speaker, Mo_what, Mo_message, Mo_answered, Mo_records, Mo_kept, Mo_lengths, Mo_set_room, Mo_set_code, Mo_set_draft, Mo_set_drafted, Mo_set_source, Mo_set_fault, Mo_set_count, Mo_set_kind, Mo_set_tag, Mo_set_value, Mo_set_letters, Mo_set_parent, Mo_set_first, Mo_set_next, Mo_set_last, Mo_set_many, Mo_set_size, Mo_set_number, Mo_set_chars, Mo_set_held, Mo_set_fits, Mo_set_depth, Mo_set_node, Mo_set_end, Mo_set_loose, Mo_set_at, Mo_set_made, Mo_set_makes, Mo_set_line, Mo_set_timer, Mo_set_input, Mo_set_inputs, Mo_set_output, Mo_set_outputs, Mo_set_contexts, Mo_set_ids, Mo_set_services, Mo_set_results, Mo_set_wanted, Mo_set_command, Mo_set_commands, Mo_set_body, Mo_set_bodies, Mo_set_speaker, Mo_set_what, Mo_set_message, Mo_set_answered, Mo_set_records, Mo_set_kept, Mo_set_lengths, ua_s, ua_n, pk_us, pk_un] <;> omega))]
      rw [show (Mo_end (upd s.1 5 (nI (p + 1)), R)) (nI st.length).toNatClampNeg = nI f.2.1 by
        have this : s.2 18 st.length = nI f.2.1 := hmf.1.2.1
        simp (disch := omega) only [z_lt, z_le, z_eq, z_cl, z_ad, z_mu, z_sb, z_n1, z_em, z_me, z_lm, z_ml, z_mle, z_lme, z_ma, z_am, z_m2, not_false_eq_true, z_l0, z_l1, z_l2, z_l3, z_l4, z_l5, z_l6, z_l7, z_l8, z_l10, z_l14, z_l15, z_l16, z_l32, z_l80, z_l101, z_l120, z_l126, z_l127, z_l130, z_l160, z_l198, z_l200, z_l202, z_l240, z_l252, z_l253, z_l254, z_l255, z_l260, z_l480, z_l900, Mo_room, Mo_code, Mo_draft, Mo_drafted, Mo_source, Mo_fault, Mo_count, Mo_kind, Mo_tag, Mo_value, Mo_letters, Mo_parent, Mo_first, Mo_next, Mo_last, Mo_many, Mo_size, Mo_number, Mo_chars, Mo_held, Mo_fits, Mo_depth, Mo_node, Mo_end, Mo_loose, Mo_at, Mo_made, Mo_makes, Mo_line, Mo_timer, Mo_input, Mo_inputs, Mo_output, Mo_outputs, Mo_contexts, Mo_ids, Mo_services, Mo_results, Mo_wanted, Mo_command, Mo_commands, Mo_body, Mo_bodies, Mo_speaker, Mo_what, Mo_message, Mo_answered, Mo_records, Mo_kept, Mo_lengths, Mo_set_room, Mo_set_code, Mo_set_draft, Mo_set_drafted, Mo_set_source, Mo_set_fault, Mo_set_count, Mo_set_kind, Mo_set_tag, Mo_set_value, Mo_set_letters, Mo_set_parent, Mo_set_first, Mo_set_next, Mo_set_last, Mo_set_many, Mo_set_size, Mo_set_number, Mo_set_chars, Mo_set_held, Mo_set_fits, Mo_set_depth, Mo_set_node, Mo_set_end, Mo_set_loose, Mo_set_at, Mo_set_made, Mo_set_makes, Mo_set_line, Mo_set_timer, Mo_set_input, Mo_set_inputs, Mo_set_output, Mo_set_outputs, Mo_set_contexts, Mo_set_ids, Mo_set_services, Mo_set_results, Mo_set_wanted, Mo_set_command, Mo_set_commands, Mo_set_body, Mo_set_bodies, Mo_set_speaker, Mo_set_what, Mo_set_message, Mo_set_answered, Mo_set_records, Mo_set_kept, Mo_set_lengths, ua_s, ua_n, pk_us, pk_un, g18, this]]
      unfold B_Mo_element_448
      obtain ⟨s', e2, e3⟩ := m_enter (f' := f') (g := g) (en := f.2.1) (o := true) (x3 := 1) h1' ht hl (h4 k3) hc hf hj hj2 hR1 (.inl k3) hf1 hf2 hf3 hf4 (fun _ => hf5) nar_1
      rw [e2, Option.bind_some]
      refine ⟨_, _, rfl, rfl, ?_⟩
      rw [decide_eq_true k4, if_pos k4, hf2]
      exact e3
    · rw [if_neg (c := kd g = 3 ∧ src.getD p 0 = 255) (fun e => k4 e.2), if_pos rfl]
      unfold B_Mo_element_441 B_Mo_element_448
      rw [show Mo_at (upd s.1 5 (nI (p + 1)), R) + nI (src.getD p 0) = nI (p + 1 + src.getD p 0) by simp (disch := omega) only [z_lt, z_le, z_eq, z_cl, z_ad, z_mu, z_sb, z_n1, z_em, z_me, z_lm, z_ml, z_mle, z_lme, z_ma, z_am, z_m2, not_false_eq_true, z_l0, z_l1, z_l2, z_l3, z_l4, z_l5, z_l6, z_l7, z_l8, z_l10, z_l14, z_l15, z_l16, z_l32, z_l80, z_l101, z_l120, z_l126, z_l127, z_l130, z_l160, z_l198, z_l200, z_l202, z_l240, z_l252, z_l253, z_l254, z_l255, z_l260, z_l480, z_l900, Mo_room, Mo_code, Mo_draft, Mo_drafted, Mo_source, Mo_fault, Mo_count, Mo_kind, Mo_tag, Mo_value, Mo_letters, Mo_parent, Mo_first, Mo_next, Mo_last, Mo_many, Mo_size, Mo_number, Mo_chars, Mo_held, Mo_fits, Mo_depth, Mo_node, Mo_end, Mo_loose, Mo_at, Mo_made, Mo_makes, Mo_line, Mo_timer, Mo_input, Mo_inputs, Mo_output, Mo_outputs, Mo_contexts, Mo_ids, Mo_services, Mo_results, Mo_wanted, Mo_command, Mo_commands, Mo_body, Mo_bodies, Mo_speaker, Mo_what, Mo_message, Mo_answered, Mo_records, Mo_kept, Mo_lengths, Mo_set_room, Mo_set_code, Mo_set_draft, Mo_set_drafted, Mo_set_source, Mo_set_fault, Mo_set_count, Mo_set_kind, Mo_set_tag, Mo_set_value, Mo_set_letters, Mo_set_parent, Mo_set_first, Mo_set_next, Mo_set_last, Mo_set_many, Mo_set_size, Mo_set_number, Mo_set_chars, Mo_set_held, Mo_set_fits, Mo_set_depth, Mo_set_node, Mo_set_end, Mo_set_loose, Mo_set_at, Mo_set_made, Mo_set_makes, Mo_set_line, Mo_set_timer, Mo_set_input, Mo_set_inputs, Mo_set_output, Mo_set_outputs, Mo_set_contexts, Mo_set_ids, Mo_set_services, Mo_set_results, Mo_set_wanted, Mo_set_command, Mo_set_commands, Mo_set_body, Mo_set_bodies, Mo_set_speaker, Mo_set_what, Mo_set_message, Mo_set_answered, Mo_set_records, Mo_set_kept, Mo_set_lengths, ua_s, ua_n, pk_us, pk_un]]
      obtain ⟨s', e2, e3⟩ := m_enter (f' := f') (g := g) (en := p + 1 + src.getD p 0) (o := false) (x3 := 0) h1' ht hl (h4 k3) hc hf hj hj2 hR1 (.inl k3) hf1 hf2 hf3 hf4 (fun _ => hf5) nar_0
      rw [e2, Option.bind_some]
      refine ⟨_, _, rfl, rfl, ?_⟩
      rw [decide_eq_false k4, if_neg k4]
      exact e3
  · rw [if_neg (by first | omega | (simp (disch := omega) only [z_lt, z_le, z_eq, z_cl, z_ad, z_mu, z_sb, z_n1, z_em, z_me, z_lm, z_ml, z_mle, z_lme, z_ma, z_am, z_m2, not_false_eq_true, z_l0, z_l1, z_l2, z_l3, z_l4, z_l5, z_l6, z_l7, z_l8, z_l10, z_l14, z_l15, z_l16, z_l32, z_l80, z_l101, z_l120, z_l126, z_l127, z_l130, z_l160, z_l198, z_l200, z_l202, z_l240, z_l252, z_l253, z_l254, z_l255, z_l260, z_l480, z_l900, Mo_room, Mo_code, Mo_draft, Mo_drafted, Mo_source, Mo_fault, Mo_count, Mo_kind, Mo_tag, Mo_value, Mo_letters, Mo_parent, Mo_first, Mo_next, Mo_last, Mo_many, Mo_size, Mo_number, Mo_chars, Mo_held, Mo_fits, Mo_depth, Mo_node, Mo_end, Mo_loose, Mo_at, Mo_made, Mo_makes, Mo_line, Mo_timer, Mo_input, Mo_inputs, Mo_output, Mo_outputs, Mo_contexts, Mo_ids, Mo_services, Mo_results, Mo_wanted, Mo_command, Mo_commands, Mo_body, Mo_bodies, Mo_speaker, Mo_what, Mo_message, Mo_answered, Mo_records, Mo_kept, Mo_lengths, Mo_set_room, Mo_set_code, Mo_set_draft, Mo_set_drafted, Mo_set_source, Mo_set_fault, Mo_set_count, Mo_set_kind, Mo_set_tag, Mo_set_value, Mo_set_letters, Mo_set_parent, Mo_set_first, Mo_set_next, Mo_set_last, Mo_set_many, Mo_set_size, Mo_set_number, Mo_set_chars, Mo_set_held, Mo_set_fits, Mo_set_depth, Mo_set_node, Mo_set_end, Mo_set_loose, Mo_set_at, Mo_set_made, Mo_set_makes, Mo_set_line, Mo_set_timer, Mo_set_input, Mo_set_inputs, Mo_set_output, Mo_set_outputs, Mo_set_contexts, Mo_set_ids, Mo_set_services, Mo_set_results, Mo_set_wanted, Mo_set_command, Mo_set_commands, Mo_set_body, Mo_set_bodies, Mo_set_speaker, Mo_set_what, Mo_set_message, Mo_set_answered, Mo_set_records, Mo_set_kept, Mo_set_lengths, ua_s, ua_n, pk_us, pk_un, k3] <;> omega))]
    unfold B_Mo_element_455
    by_cases k1 : kd g = 1
    · rw [if_pos (c := kd g = 1) k1]
      rw [if_pos (by first | omega | (simp (disch := omega) only [z_lt, z_le, z_eq, z_cl, z_ad, z_mu, z_sb, z_n1, z_em, z_me, z_lm, z_ml, z_mle, z_lme, z_ma, z_am, z_m2, not_false_eq_true, z_l0, z_l1, z_l2, z_l3, z_l4, z_l5, z_l6, z_l7, z_l8, z_l10, z_l14, z_l15, z_l16, z_l32, z_l80, z_l101, z_l120, z_l126, z_l127, z_l130, z_l160, z_l198, z_l200, z_l202, z_l240, z_l252, z_l253, z_l254, z_l255, z_l260, z_l480, z_l900, Mo_room, Mo_code, Mo_draft, Mo_drafted, Mo_source, Mo_fault, Mo_count, Mo_kind, Mo_tag, Mo_value, Mo_letters, Mo_parent, Mo_first, Mo_next, Mo_last, Mo_many, Mo_size, Mo_number, Mo_chars, Mo_held, Mo_fits, Mo_depth, Mo_node, Mo_end, Mo_loose, Mo_at, Mo_made, Mo_makes, Mo_line, Mo_timer, Mo_input, Mo_inputs, Mo_output, Mo_outputs, Mo_contexts, Mo_ids, Mo_services, Mo_results, Mo_wanted, Mo_command, Mo_commands, Mo_body, Mo_bodies, Mo_speaker, Mo_what, Mo_message, Mo_answered, Mo_records, Mo_kept, Mo_lengths, Mo_set_room, Mo_set_code, Mo_set_draft, Mo_set_drafted, Mo_set_source, Mo_set_fault, Mo_set_count, Mo_set_kind, Mo_set_tag, Mo_set_value, Mo_set_letters, Mo_set_parent, Mo_set_first, Mo_set_next, Mo_set_last, Mo_set_many, Mo_set_size, Mo_set_number, Mo_set_chars, Mo_set_held, Mo_set_fits, Mo_set_depth, Mo_set_node, Mo_set_end, Mo_set_loose, Mo_set_at, Mo_set_made, Mo_set_makes, Mo_set_line, Mo_set_timer, Mo_set_input, Mo_set_inputs, Mo_set_output, Mo_set_outputs, Mo_set_contexts, Mo_set_ids, Mo_set_services, Mo_set_results, Mo_set_wanted, Mo_set_command, Mo_set_commands, Mo_set_body, Mo_set_bodies, Mo_set_speaker, Mo_set_what, Mo_set_message, Mo_set_answered, Mo_set_records, Mo_set_kept, Mo_set_lengths, ua_s, ua_n, pk_us, pk_un, k1] <;> omega))]
      unfold B_Mo_element_461
      have h6 : 1 ≤ src.getD p 0 ∧ src.getD p 0 ≤ 4 := by
        rw [k1] at hok
        exact of_decide_eq_true hok
      rw [m_whole (s := (upd s.1 5 (nI (p + 1)), R)) (q := p + 1) (n := src.getD p 0) (e := 130 * t + nd.length) hsrcR h8 hs b5 (by omega) (by omega) h6.1 h6.2, Option.bind_some]
      unfold B_Mo_element_481
      rw [if_pos (.inr rfl)]
      refine ⟨1, (upd (upd s.1 5 (nI (p + 1))) 5 (nI (p + 1 + src.getD p 0)), ua R 5 (upd (R 5) (130 * t + nd.length) (nu src (p + 1) (src.getD p 0)))), rfl, rfl, ?_, ?_, ?_, ?_, ?_, ?_, ?_⟩
      · exact (pk_un (f := upd s.1 5 (nI (p + 1))) (k := 5) (j := 4) (x := nI (p + 1 + src.getD p 0)) (by omega)).trans b4
      · exact pk_us (f := upd s.1 5 (nI (p + 1))) (k := 5) (x := nI (p + 1 + src.getD p 0))
      · exact (pk_un (f := upd s.1 5 (nI (p + 1))) (k := 5) (j := 3) (x := nI (p + 1 + src.getD p 0)) (by omega)).trans b3
      · refine mtr_a (f := f) (st := st) (j := j) (r := s.2) hmt hc hf (fun e => (hmf.2.1 e).1) hj rfl ht (by omega) ?_ ?_ ?_ ?_ ?_ ?_ ?_ ?_ ?_ ?_ ?_ ?_ ?_
        · try dsimp only
          rw [ua_n (by omega)]; exact r2
        · rw [show mk ((st.length + 1, g, nu src (p + 1) (src.getD p 0), []) : Nd).2.1 = kd g from hmk]
          try dsimp only
          rw [ua_n (by omega)]; exact r3
        · rw [show mtg ((st.length + 1, g, nu src (p + 1) (src.getD p 0), []) : Nd).2.1 = g from hmg]
          try dsimp only
          rw [ua_n (by omega)]; exact r4
        · try dsimp only
          rw [ua_s, r5, upd2]
          try dsimp only
          rw [if_pos k1]
        · intro i hi
          try dsimp only
          rw [ua_n (by omega), g6]
        · intro h2
          dsimp only at h2
          omega
        · try dsimp only
          rw [ua_n (by omega)]; exact r7
        · try dsimp only
          rw [ua_n (by omega)]; exact r8
        · try dsimp only
          rw [ua_n (by omega)]; exact r9
        · try dsimp only
          rw [ua_n (by omega)]; exact r11
        · intro i hi
          try dsimp only
          rw [ua_n (by omega), g14]
        · intro i hi
          simp at hi
        · try dsimp only
          rw [ua_n (by omega), g15]
          exact hmt.2.1
      · have key := mfr_leaf (j := 0) (r' := ua R 5 (upd (R 5) (130 * t + nd.length) (nu src (p + 1) (src.getD p 0)))) (x := (st.length + 1, g, nu src (p + 1) (src.getD p 0), [])) (f' := f') hmf hc rfl ht hf1 hf2 hf3 hf4 (fun _ => hf5) (by rw [ua_n (by omega)]; exact r10) (fun i hi => by rw [ua_n (by omega), g17]) (fun i hi => by rw [ua_n (by omega), g18]) (fun i hi => by rw [ua_n (by omega), g19])
        exact ⟨key.1, fun e => by rw [hf4] at e; omega, key.2⟩
      · intro i hi
        try dsimp only
        rw [ua_n (by omega), g1]
        exact hsrc i hi
      · have hfm2 : mfm t s0 (upd s.1 5 (nI (p + 1)), ua R 5 (upd (R 5) (130 * t + nd.length) (nu src (p + 1) (src.getD p 0)))) := mfm_row (s := (upd s.1 5 (nI (p + 1)), R)) (r := ua R 5 (upd (R 5) (130 * t + nd.length) (nu src (p + 1) (src.getD p 0)))) hfm (fun i hi => ua_n (by omega)) (fun i b b3 b11 hb => by
          by_cases c5 : i = 5
          · subst c5
            rw [ua_s]
            exact pk_un (by omega)
          · rw [ua_n c5]) (fun i hi => ⟨by rw [ua_n (by omega)], by rw [ua_n (by omega)]⟩) (fun i hi => by rw [ua_n (by omega)])
        exact mfm_num hfm2 (fun i h3 h4 h5 => pk_un h5)
    · have k2 : kd g = 2 := by omega
      rw [if_neg (c := kd g = 1) k1, if_pos (c := kd g = 2) k2]
      rw [if_neg (by first | omega | (simp (disch := omega) only [z_lt, z_le, z_eq, z_cl, z_ad, z_mu, z_sb, z_n1, z_em, z_me, z_lm, z_ml, z_mle, z_lme, z_ma, z_am, z_m2, not_false_eq_true, z_l0, z_l1, z_l2, z_l3, z_l4, z_l5, z_l6, z_l7, z_l8, z_l10, z_l14, z_l15, z_l16, z_l32, z_l80, z_l101, z_l120, z_l126, z_l127, z_l130, z_l160, z_l198, z_l200, z_l202, z_l240, z_l252, z_l253, z_l254, z_l255, z_l260, z_l480, z_l900, Mo_room, Mo_code, Mo_draft, Mo_drafted, Mo_source, Mo_fault, Mo_count, Mo_kind, Mo_tag, Mo_value, Mo_letters, Mo_parent, Mo_first, Mo_next, Mo_last, Mo_many, Mo_size, Mo_number, Mo_chars, Mo_held, Mo_fits, Mo_depth, Mo_node, Mo_end, Mo_loose, Mo_at, Mo_made, Mo_makes, Mo_line, Mo_timer, Mo_input, Mo_inputs, Mo_output, Mo_outputs, Mo_contexts, Mo_ids, Mo_services, Mo_results, Mo_wanted, Mo_command, Mo_commands, Mo_body, Mo_bodies, Mo_speaker, Mo_what, Mo_message, Mo_answered, Mo_records, Mo_kept, Mo_lengths, Mo_set_room, Mo_set_code, Mo_set_draft, Mo_set_drafted, Mo_set_source, Mo_set_fault, Mo_set_count, Mo_set_kind, Mo_set_tag, Mo_set_value, Mo_set_letters, Mo_set_parent, Mo_set_first, Mo_set_next, Mo_set_last, Mo_set_many, Mo_set_size, Mo_set_number, Mo_set_chars, Mo_set_held, Mo_set_fits, Mo_set_depth, Mo_set_node, Mo_set_end, Mo_set_loose, Mo_set_at, Mo_set_made, Mo_set_makes, Mo_set_line, Mo_set_timer, Mo_set_input, Mo_set_inputs, Mo_set_output, Mo_set_outputs, Mo_set_contexts, Mo_set_ids, Mo_set_services, Mo_set_results, Mo_set_wanted, Mo_set_command, Mo_set_commands, Mo_set_body, Mo_set_bodies, Mo_set_speaker, Mo_set_what, Mo_set_message, Mo_set_answered, Mo_set_records, Mo_set_kept, Mo_set_lengths, ua_s, ua_n, pk_us, pk_un, k1] <;> omega))]
      unfold B_Mo_element_472
      have h6 : src.getD p 0 ≤ 16 ∧ src.getD p 0 % 2 = 0 := by
        rw [k2] at hok
        exact of_decide_eq_true hok
      have hB : (upd s.1 5 (nI (p + 1)), R).2 15 t = nI (240 * t + (ch nd).length) := by
        show R 15 t = _
        rw [g15]
        exact hmt.2.1
      have hkp := kp_le (src := src) (q := p + 1) (n := src.getD p 0)
      obtain ⟨sb, sg⟩ := m_spelled (s := (upd s.1 5 (nI (p + 1)), R)) (t := t) (e := 130 * t + nd.length) (q := p + 1) (n := src.getD p 0) hsrcR h8 hs ht (by omega) b5 (by omega) h6.1 h6.2 hB (by omega)
      cases hbad : badT src (p + 1) (src.getD p 0) with
      | true =>
        rw [if_pos rfl, sb hbad, Option.bind_some]
        unfold B_Mo_element_481
        rw [if_pos (.inl rfl)]
        exact ⟨0, (upd (upd s.1 5 (nI (p + 1))) 3 (nI (5 + 16 * (p + 1))), R), rfl, rfl, pk_us (f := upd s.1 5 (nI (p + 1))) (k := 3) (x := nI (5 + 16 * (p + 1))), mfm_num hfm (fun i h3 h4 h5 => pk_un h3)⟩
      | false =>
        obtain ⟨C', c1, c2, c3⟩ := sg hbad
        rw [if_neg (by decide), c1, Option.bind_some]
        unfold B_Mo_element_481
        rw [if_pos (.inr rfl)]
        refine ⟨1, (upd (upd s.1 5 (nI (p + 1))) 5 (nI (p + 1 + src.getD p 0)), ua (ua (ua (ua R 5 (upd (R 5) (130 * t + nd.length) (nI (kp src (p + 1) (src.getD p 0))))) 6 (upd (R 6) (130 * t + nd.length) (nI (240 * t + (ch nd).length)))) 14 C') 15 (upd (R 15) t (nI (240 * t + (ch nd).length + kp src (p + 1) (src.getD p 0))))), rfl, rfl, ?_, ?_, ?_, ?_, ?_, ?_, ?_⟩
        · exact (pk_un (f := upd s.1 5 (nI (p + 1))) (k := 5) (j := 4) (x := nI (p + 1 + src.getD p 0)) (by omega)).trans b4
        · exact pk_us (f := upd s.1 5 (nI (p + 1))) (k := 5) (x := nI (p + 1 + src.getD p 0))
        · exact (pk_un (f := upd s.1 5 (nI (p + 1))) (k := 5) (j := 3) (x := nI (p + 1 + src.getD p 0)) (by omega)).trans b3
        · refine mtr_a (f := f) (st := st) (j := j) (r := s.2) hmt hc hf (fun e => (hmf.2.1 e).1) hj rfl ht (by omega) ?_ ?_ ?_ ?_ ?_ ?_ ?_ ?_ ?_ ?_ ?_ ?_ ?_
          · try dsimp only
            rw [ua_n (by omega), ua_n (by omega), ua_n (by omega), ua_n (by omega)]; exact r2
          · try dsimp only
            rw [ua_n (by omega), ua_n (by omega), ua_n (by omega), ua_n (by omega), r3]
            try dsimp only
            rw [hmk]
          · try dsimp only
            rw [ua_n (by omega), ua_n (by omega), ua_n (by omega), ua_n (by omega), r4]
            try dsimp only
            rw [hmg]
          · try dsimp only
            rw [ua_n (by omega), ua_n (by omega), ua_n (by omega), ua_s, r5, upd2]
            try dsimp only
            rw [if_neg k1, if_pos k2, tx_len]
          · intro i hi
            try dsimp only
            rw [ua_n (by omega), ua_n (by omega), ua_s]
            try dsimp only
            rw [pk_un hi, g6]
          · intro _
            try dsimp only
            rw [ua_n (by omega), ua_n (by omega), ua_s, pk_us]
          · try dsimp only
            rw [ua_n (by omega), ua_n (by omega), ua_n (by omega), ua_n (by omega)]; exact r7
          · try dsimp only
            rw [ua_n (by omega), ua_n (by omega), ua_n (by omega), ua_n (by omega)]; exact r8
          · try dsimp only
            rw [ua_n (by omega), ua_n (by omega), ua_n (by omega), ua_n (by omega)]; exact r9
          · try dsimp only
            rw [ua_n (by omega), ua_n (by omega), ua_n (by omega), ua_n (by omega)]; exact r11
          · intro i hi
            try dsimp only
            rw [ua_n (by omega), ua_s, c2 _ (.inl (by omega))]
            show R 14 _ = _
            rw [g14]
          · intro i hi
            try dsimp only at hi ⊢
            rw [tx_len] at hi
            try dsimp only
            rw [ua_n (by omega), ua_s, c3 i hi, tx_get hi]
          · try dsimp only
            rw [ua_s, pk_us]
            try dsimp only
            rw [tx_len]
        · have key := mfr_leaf (j := 0) (r' := ua (ua (ua (ua R 5 (upd (R 5) (130 * t + nd.length) (nI (kp src (p + 1) (src.getD p 0))))) 6 (upd (R 6) (130 * t + nd.length) (nI (240 * t + (ch nd).length)))) 14 C') 15 (upd (R 15) t (nI (240 * t + (ch nd).length + kp src (p + 1) (src.getD p 0))))) (x := (st.length + 1, g, 0, tx src (p + 1) (kp src (p + 1) (src.getD p 0)))) (f' := f') hmf hc rfl ht hf1 hf2 hf3 hf4 (fun _ => hf5) (by rw [ua_n (by omega), ua_n (by omega), ua_n (by omega), ua_n (by omega)]; exact r10) (fun i hi => by rw [ua_n (by omega), ua_n (by omega), ua_n (by omega), ua_n (by omega), g17]) (fun i hi => by rw [ua_n (by omega), ua_n (by omega), ua_n (by omega), ua_n (by omega), g18]) (fun i hi => by rw [ua_n (by omega), ua_n (by omega), ua_n (by omega), ua_n (by omega), g19])
          exact ⟨key.1, fun e => by rw [hf4] at e; omega, key.2⟩
        · intro i hi
          try dsimp only
          rw [ua_n (by omega), ua_n (by omega), ua_n (by omega), ua_n (by omega)]
          exact hsrcR i hi
        · have hfm2 : mfm t s0 (upd s.1 5 (nI (p + 1)), ua (ua (ua (ua R 5 (upd (R 5) (130 * t + nd.length) (nI (kp src (p + 1) (src.getD p 0))))) 6 (upd (R 6) (130 * t + nd.length) (nI (240 * t + (ch nd).length)))) 14 C') 15 (upd (R 15) t (nI (240 * t + (ch nd).length + kp src (p + 1) (src.getD p 0))))) := mfm_row (s := (upd s.1 5 (nI (p + 1)), R)) (r := ua (ua (ua (ua R 5 (upd (R 5) (130 * t + nd.length) (nI (kp src (p + 1) (src.getD p 0))))) 6 (upd (R 6) (130 * t + nd.length) (nI (240 * t + (ch nd).length)))) 14 C') 15 (upd (R 15) t (nI (240 * t + (ch nd).length + kp src (p + 1) (src.getD p 0))))) hfm (fun i hi => by rw [ua_n (by omega), ua_n (by omega), ua_n (by omega), ua_n (by omega)]) (fun i b b3 b11 hb => by
            rw [ua_n (by omega), ua_n (by omega)]
            by_cases c6 : i = 6
            · subst c6
              rw [ua_s]
              exact pk_un (by omega)
            · rw [ua_n c6]
              by_cases c5 : i = 5
              · subst c5
                rw [ua_s]
                exact pk_un (by omega)
              · rw [ua_n c5]) (fun i hi => ⟨by rw [ua_n (by omega), ua_n (by omega), ua_n (by omega), ua_n (by omega)], by rw [ua_s]; exact pk_un hi⟩) (fun i hi => by
            rw [ua_n (by omega), ua_s]
            exact c2 i (by omega))
          exact mfm_num hfm2 (fun i h3 h4 h5 => pk_un h5)
end MLN
