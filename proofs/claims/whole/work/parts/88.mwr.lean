/-! PURE: the model measures -/
theorem bytesOf_nb (v : Int32) : F_Mo_bytesOf v = some (nI (nb v)) := by
  have hin : ∀ (a b : Int32) (x y : Int), a.toInt = x → b.toInt = y → F_Mo_in v a b = some (if x ≤ v.toInt ∧ v.toInt ≤ y then 1 else 0) := by
    intro a b x y ha hb
    unfold F_Mo_in B_Mo_in_0
    by_cases h1 : v < a
    · rw [if_pos h1, if_neg (by rw [Int32.lt_iff_toInt_lt, ha] at h1; omega)]
      rfl
    · rw [if_neg h1]
      unfold B_Mo_in_5
      by_cases h2 : b < v
      · rw [if_pos h2, if_neg (by rw [Int32.lt_iff_toInt_lt, hb] at h2; omega)]
        rfl
      · rw [if_neg h2, if_pos (by rw [Int32.lt_iff_toInt_lt, ha] at h1; rw [Int32.lt_iff_toInt_lt, hb] at h2; omega)]
        rfl
  unfold F_Mo_bytesOf B_Mo_bytesOf_0
  rw [hin _ _ (-128) 127 (by decide +kernel) (by decide +kernel), Option.bind_some]
  unfold nb
  by_cases h1 : -128 ≤ v.toInt ∧ v.toInt ≤ 127
  · rw [if_pos h1, if_neg (by decide), if_neg (by omega)]
    rfl
  · rw [if_neg h1, if_pos rfl, if_pos (by omega)]
    unfold B_Mo_bytesOf_15
    rw [hin _ _ (-32768) 32767 (by decide +kernel) (by decide +kernel), Option.bind_some]
    by_cases h2 : -32768 ≤ v.toInt ∧ v.toInt ≤ 32767
    · rw [if_pos h2, if_neg (by decide), if_neg (by omega)]
      rfl
    · rw [if_neg h2, if_pos rfl, if_pos (by omega)]
      unfold B_Mo_bytesOf_32
      rw [hin _ _ (-8388608) 8388607 (by decide +kernel) (by decide +kernel), Option.bind_some]
      by_cases h3 : -8388608 ≤ v.toInt ∧ v.toInt ≤ 8388607
      · rw [if_pos h3, if_neg (by decide), if_neg (by omega)]
        rfl
      · rw [if_neg h3, if_pos rfl, if_pos (by omega)]
        rfl
/-- one node and what is inside it -/
theorem wS_node {syn : Nat} {nd : List Nd} {c : Nat} (hc : c < nd.length) : wS syn nd c (bhf nd c - c) = vln syn nd c + hd syn (nT nd c) := by
  have hb := bhf_lt hc
  rw [show bhf nd c - c = 1 + (bhf nd c - (c + 1)) by omega, wS_split]
  unfold vln
  rw [show wS syn nd c 1 = hd syn (nT nd c) + ow nd c by rw [wS_s]; simp [wS]]
  omega
theorem fiI_kid {t : Nat} {nd : List Nd} {k : Nat} (hk : k < nd.length) : fiI t nd k = if k + 1 < bhf nd k then nI (130 * t + (k + 1)) else mI := by
  have hB := bhf_isB hk
  have h2 := hB.2.1
  unfold fiI
  by_cases c : k + 1 < bhf nd k
  · have := hB.2.2.1 (k + 1) (by omega) c
    rw [if_pos ⟨by omega, this⟩, if_pos c]
  · rw [if_neg c, if_neg (fun h => by
      have h1 := hB.1
      have e : bhf nd k = k + 1 := by omega
      have := hB.2.2.2 (by omega)
      rw [e] at this
      omega)]
theorem nxI_kid {t : Nat} {nd : List Nd} {k j : Nat} (hk : k < nd.length) (hkj : k < j) (hje : j < bhf nd k) (hl : nL nd j = nL nd k + 1) : bhf nd j ≤ bhf nd k ∧ nxI t nd j = (if bhf nd j < bhf nd k then nI (130 * t + bhf nd j) else mI) ∧ (bhf nd j < bhf nd k → nL nd (bhf nd j) = nL nd k + 1) := by
  have hB := bhf_isB hk
  have hj : j < nd.length := by have := hB.2.1; omega
  have hJ := bhf_isB hj
  have hle : bhf nd j ≤ bhf nd k := by
    rcases Nat.lt_or_ge (bhf nd k) (bhf nd j) with g | g
    · have := hJ.2.2.1 (bhf nd k) hje g
      have := hB.2.2.2 (by have := hJ.2.1; omega)
      omega
    · exact g
  refine ⟨hle, ?_, fun c => ?_⟩
  · unfold nxI
    by_cases c : bhf nd j < bhf nd k
    · have h1 := hB.2.2.1 (bhf nd j) (by have := hJ.1; omega) c
      have h2 := hJ.2.2.2 (by have := hB.2.1; omega)
      rw [if_pos c, if_pos ⟨by have := hB.2.1; omega, by omega⟩]
    · have e : bhf nd j = bhf nd k := by omega
      rw [if_neg c, if_neg (fun h => by
        have := hB.2.2.2 (by rw [← e]; exact h.1)
        rw [← e] at this
        omega)]
  · have h1 := hB.2.2.1 (bhf nd j) (by have := hJ.1; omega) c
    have h2 := hJ.2.2.2 (by have := hB.2.1; omega)
    omega
/-- the sizes that stand already -/
def msz (s s' : S_Mo) (t syn : Nat) (nd : List Nd) (k : Nat) : Prop := s'.1 = s.1 ∧ (∀ j, j ≠ 12 → s'.2 j = s.2 j) ∧ ∀ i, k ≤ i → i < nd.length → s'.2 12 (130 * t + i) = nI (vln syn nd i)
def gAm (syn : Nat) (nd : List Nd) : Nat → Bool
  | 0 => true
  | m + 1 => gAm syn nd m && (decide (nd.length - (m + 1) = 0) || decide (vln syn nd (nd.length - (m + 1)) ≤ 240))
section MMS
variable {t syn k : Nat} {s s' : S_Mo} {nd : List Nd}
theorem mtr_c {r r' : Nat → Nat → Int32} (h : mtr r t nd) (hr : ∀ j, j = 2 ∨ j = 3 ∨ j = 4 ∨ j = 5 ∨ j = 6 ∨ j = 7 ∨ j = 8 ∨ j = 9 ∨ j = 11 ∨ j = 14 ∨ j = 15 → r' j = r j) : mtr r' t nd := by
  obtain ⟨h1, h2, h3, h4⟩ := h
  refine ⟨by rw [hr 2 (by omega)]; exact h1, by rw [hr 15 (by omega)]; exact h2, fun k hk => ?_, fun i hi => by rw [hr 14 (by omega)]; exact h4 i hi⟩
  obtain ⟨a3, a4, a5, a6, a7, a7', a8, a9, a11⟩ := h3 k hk
  exact ⟨by rw [hr 3 (by omega)]; exact a3, by rw [hr 4 (by omega)]; exact a4, by rw [hr 5 (by omega)]; exact a5, by rw [hr 6 (by omega)]; exact a6, by rw [hr 7 (by omega)]; exact a7, by rw [hr 7 (by omega)]; exact a7', by rw [hr 8 (by omega)]; exact a8, by rw [hr 9 (by omega)]; exact a9, by rw [hr 11 (by omega)]; exact a11⟩
theorem vln_le (hw : wfA nd) (hl : nd.length ≤ 101) (hk : k < nd.length) : vln syn nd k ≤ 3000 := by
  have := wS_le (syn := syn) hw (k + 1) (bhf nd k - (k + 1))
  have := ow_le hw k
  have := bhf_lt hk
  unfold vln
  omega
theorem m_kids (K : S_Mo × Int32 × Int32 × Int32 × Int32 → Option (Int32 × S_Mo)) {x3 : Int32} (ht : t < 2) (hsy : syn ≤ 1) (hw : wfA nd) (hl : nd.length ≤ 101) (hm : mtr s.2 t nd) (hk : k < nd.length) (hz : ∀ i, k < i → i < nd.length → s.2 12 (130 * t + i) = nI (vln syn nd i)) : ∀ (m j S f : Nat), bhf nd k ≤ j + m → k < j → j ≤ bhf nd k → (j < bhf nd k → nL nd j = nL nd k + 1) → m < f → S + wS syn nd j (bhf nd k - j) ≤ 20000 → lp (fun k95 v => B_Mo_measure_95 K k95 v.1 v.2.1 v.2.2.1 v.2.2.2.1 v.2.2.2.2.1 v.2.2.2.2.2.1 v.2.2.2.2.2.2) f (s, nI t, nI syn, x3, nI (130 * t + k), nI S, (if j < bhf nd k then nI (130 * t + j) else mI)) = B_Mo_measure_146 K s (nI t) (nI syn) x3 (nI (130 * t + k)) (nI (S + wS syn nd j (bhf nd k - j))) := by
  have hb := bhf_lt hk
  have fin : ∀ (S j f : Nat), bhf nd k ≤ j → 0 < f → lp (fun k95 v => B_Mo_measure_95 K k95 v.1 v.2.1 v.2.2.1 v.2.2.2.1 v.2.2.2.2.1 v.2.2.2.2.2.1 v.2.2.2.2.2.2) f (s, nI t, nI syn, x3, nI (130 * t + k), nI S, mI) = B_Mo_measure_146 K s (nI t) (nI syn) x3 (nI (130 * t + k)) (nI (S + wS syn nd j (bhf nd k - j))) := by
    intro S j f hj hf
    obtain ⟨f', rfl⟩ : ∃ f', f = f' + 1 := ⟨f - 1, by omega⟩
    rw [show bhf nd k - j = 0 by omega, show wS syn nd j 0 = 0 from rfl, Nat.add_zero, lp_s]
    show B_Mo_measure_95 K _ s (nI t) (nI syn) x3 (nI (130 * t + k)) (nI S) mI = _
    unfold B_Mo_measure_95
    rw [if_pos (by decide +kernel : mI < 0)]
    rfl
  intro m
  induction m with
  | zero =>
    intro j S f h1 h2 h3 h4 hf hS2
    rw [if_neg (by omega)]
    exact fin S j f (by omega) (by omega)
  | succ m ih =>
    intro j S f h1 h2 h3 h4 hf hS2
    by_cases c : j < bhf nd k
    · have hj : j < nd.length := by omega
      have hJ := bhf_lt hj
      obtain ⟨n1, n2, n3⟩ := nxI_kid (t := t) hk h2 c (h4 c)
      obtain ⟨a3, a4, a5, a6, a7, a7', a8, a9, a11⟩ := hm.2.2.1 j hj
      have hzj := hz j h2 hj
      have hn := wS_node (syn := syn) hj
      have hsp := wS_split (syn := syn) (nd := nd) j (bhf nd j - j) (bhf nd k - bhf nd j)
      rw [show j + (bhf nd j - j) = bhf nd j by omega, show bhf nd j - j + (bhf nd k - bhf nd j) = bhf nd k - j by omega] at hsp
      have hv := vln_le (syn := syn) hw hl hj
      have hh := hd_le syn (nT nd j)
      obtain ⟨f', rfl⟩ : ∃ f', f = f' + 1 := ⟨f - 1, by omega⟩
      have ih := ih (bhf nd j) (S + (vln syn nd j + hd syn (nT nd j))) f' (by omega) (by omega) n1 n3 (by omega)
      rw [if_pos c, lp_s]
      show B_Mo_measure_95 K _ s (nI t) (nI syn) x3 (nI (130 * t + k)) (nI S) (nI (130 * t + j)) = _
      unfold B_Mo_measure_95
      rw [if_neg (by first | omega | (simp (disch := omega) only [z_lt, z_le, z_eq, z_cl, z_ad, z_mu, z_sb, z_n1, z_em, z_me, z_lm, z_ml, z_mle, z_lme, z_ma, z_am, z_m2, not_false_eq_true, z_l0, z_l1, z_l2, z_l3, z_l4, z_l5, z_l6, z_l7, z_l8, z_l10, z_l14, z_l15, z_l16, z_l32, z_l80, z_l101, z_l120, z_l126, z_l127, z_l130, z_l160, z_l198, z_l200, z_l202, z_l240, z_l252, z_l253, z_l254, z_l255, z_l260, z_l480, z_l900, Mo_room, Mo_code, Mo_draft, Mo_drafted, Mo_source, Mo_fault, Mo_count, Mo_kind, Mo_tag, Mo_value, Mo_letters, Mo_parent, Mo_first, Mo_next, Mo_last, Mo_many, Mo_size, Mo_number, Mo_chars, Mo_held, Mo_fits, Mo_depth, Mo_node, Mo_end, Mo_loose, Mo_at, Mo_made, Mo_makes, Mo_line, Mo_timer, Mo_input, Mo_inputs, Mo_output, Mo_outputs, Mo_contexts, Mo_ids, Mo_services, Mo_results, Mo_wanted, Mo_command, Mo_commands, Mo_body, Mo_bodies, Mo_speaker, Mo_what, Mo_message, Mo_answered, Mo_records, Mo_kept, Mo_lengths, Mo_set_room, Mo_set_code, Mo_set_draft, Mo_set_drafted, Mo_set_source, Mo_set_fault, Mo_set_count, Mo_set_kind, Mo_set_tag, Mo_set_value, Mo_set_letters, Mo_set_parent, Mo_set_first, Mo_set_next, Mo_set_last, Mo_set_many, Mo_set_size, Mo_set_number, Mo_set_chars, Mo_set_held, Mo_set_fits, Mo_set_depth, Mo_set_node, Mo_set_end, Mo_set_loose, Mo_set_at, Mo_set_made, Mo_set_makes, Mo_set_line, Mo_set_timer, Mo_set_input, Mo_set_inputs, Mo_set_output, Mo_set_outputs, Mo_set_contexts, Mo_set_ids, Mo_set_services, Mo_set_results, Mo_set_wanted, Mo_set_command, Mo_set_commands, Mo_set_body, Mo_set_bodies, Mo_set_speaker, Mo_set_what, Mo_set_message, Mo_set_answered, Mo_set_records, Mo_set_kept, Mo_set_lengths, ua_s, ua_n, pk_us, pk_un] <;> omega))]
      unfold B_Mo_measure_100
      rw [if_neg (by first | omega | (simp (disch := omega) only [z_lt, z_le, z_eq, z_cl, z_ad, z_mu, z_sb, z_n1, z_em, z_me, z_lm, z_ml, z_mle, z_lme, z_ma, z_am, z_m2, not_false_eq_true, z_l0, z_l1, z_l2, z_l3, z_l4, z_l5, z_l6, z_l7, z_l8, z_l10, z_l14, z_l15, z_l16, z_l32, z_l80, z_l101, z_l120, z_l126, z_l127, z_l130, z_l160, z_l198, z_l200, z_l202, z_l240, z_l252, z_l253, z_l254, z_l255, z_l260, z_l480, z_l900, Mo_room, Mo_code, Mo_draft, Mo_drafted, Mo_source, Mo_fault, Mo_count, Mo_kind, Mo_tag, Mo_value, Mo_letters, Mo_parent, Mo_first, Mo_next, Mo_last, Mo_many, Mo_size, Mo_number, Mo_chars, Mo_held, Mo_fits, Mo_depth, Mo_node, Mo_end, Mo_loose, Mo_at, Mo_made, Mo_makes, Mo_line, Mo_timer, Mo_input, Mo_inputs, Mo_output, Mo_outputs, Mo_contexts, Mo_ids, Mo_services, Mo_results, Mo_wanted, Mo_command, Mo_commands, Mo_body, Mo_bodies, Mo_speaker, Mo_what, Mo_message, Mo_answered, Mo_records, Mo_kept, Mo_lengths, Mo_set_room, Mo_set_code, Mo_set_draft, Mo_set_drafted, Mo_set_source, Mo_set_fault, Mo_set_count, Mo_set_kind, Mo_set_tag, Mo_set_value, Mo_set_letters, Mo_set_parent, Mo_set_first, Mo_set_next, Mo_set_last, Mo_set_many, Mo_set_size, Mo_set_number, Mo_set_chars, Mo_set_held, Mo_set_fits, Mo_set_depth, Mo_set_node, Mo_set_end, Mo_set_loose, Mo_set_at, Mo_set_made, Mo_set_makes, Mo_set_line, Mo_set_timer, Mo_set_input, Mo_set_inputs, Mo_set_output, Mo_set_outputs, Mo_set_contexts, Mo_set_ids, Mo_set_services, Mo_set_results, Mo_set_wanted, Mo_set_command, Mo_set_commands, Mo_set_body, Mo_set_bodies, Mo_set_speaker, Mo_set_what, Mo_set_message, Mo_set_answered, Mo_set_records, Mo_set_kept, Mo_set_lengths, ua_s, ua_n, pk_us, pk_un] <;> omega))]
      rw [if_neg (by first | omega | (simp (disch := omega) only [z_lt, z_le, z_eq, z_cl, z_ad, z_mu, z_sb, z_n1, z_em, z_me, z_lm, z_ml, z_mle, z_lme, z_ma, z_am, z_m2, not_false_eq_true, z_l0, z_l1, z_l2, z_l3, z_l4, z_l5, z_l6, z_l7, z_l8, z_l10, z_l14, z_l15, z_l16, z_l32, z_l80, z_l101, z_l120, z_l126, z_l127, z_l130, z_l160, z_l198, z_l200, z_l202, z_l240, z_l252, z_l253, z_l254, z_l255, z_l260, z_l480, z_l900, Mo_room, Mo_code, Mo_draft, Mo_drafted, Mo_source, Mo_fault, Mo_count, Mo_kind, Mo_tag, Mo_value, Mo_letters, Mo_parent, Mo_first, Mo_next, Mo_last, Mo_many, Mo_size, Mo_number, Mo_chars, Mo_held, Mo_fits, Mo_depth, Mo_node, Mo_end, Mo_loose, Mo_at, Mo_made, Mo_makes, Mo_line, Mo_timer, Mo_input, Mo_inputs, Mo_output, Mo_outputs, Mo_contexts, Mo_ids, Mo_services, Mo_results, Mo_wanted, Mo_command, Mo_commands, Mo_body, Mo_bodies, Mo_speaker, Mo_what, Mo_message, Mo_answered, Mo_records, Mo_kept, Mo_lengths, Mo_set_room, Mo_set_code, Mo_set_draft, Mo_set_drafted, Mo_set_source, Mo_set_fault, Mo_set_count, Mo_set_kind, Mo_set_tag, Mo_set_value, Mo_set_letters, Mo_set_parent, Mo_set_first, Mo_set_next, Mo_set_last, Mo_set_many, Mo_set_size, Mo_set_number, Mo_set_chars, Mo_set_held, Mo_set_fits, Mo_set_depth, Mo_set_node, Mo_set_end, Mo_set_loose, Mo_set_at, Mo_set_made, Mo_set_makes, Mo_set_line, Mo_set_timer, Mo_set_input, Mo_set_inputs, Mo_set_output, Mo_set_outputs, Mo_set_contexts, Mo_set_ids, Mo_set_services, Mo_set_results, Mo_set_wanted, Mo_set_command, Mo_set_commands, Mo_set_body, Mo_set_bodies, Mo_set_speaker, Mo_set_what, Mo_set_message, Mo_set_answered, Mo_set_records, Mo_set_kept, Mo_set_lengths, ua_s, ua_n, pk_us, pk_un] <;> omega))]
      rw [show (Mo_size s) (nI (130 * t + j)).toNatClampNeg + (2 : Int32) = nI (vln syn nd j + 2) by simp (disch := omega) only [z_lt, z_le, z_eq, z_cl, z_ad, z_mu, z_sb, z_n1, z_em, z_me, z_lm, z_ml, z_mle, z_lme, z_ma, z_am, z_m2, not_false_eq_true, z_l0, z_l1, z_l2, z_l3, z_l4, z_l5, z_l6, z_l7, z_l8, z_l10, z_l14, z_l15, z_l16, z_l32, z_l80, z_l101, z_l120, z_l126, z_l127, z_l130, z_l160, z_l198, z_l200, z_l202, z_l240, z_l252, z_l253, z_l254, z_l255, z_l260, z_l480, z_l900, Mo_room, Mo_code, Mo_draft, Mo_drafted, Mo_source, Mo_fault, Mo_count, Mo_kind, Mo_tag, Mo_value, Mo_letters, Mo_parent, Mo_first, Mo_next, Mo_last, Mo_many, Mo_size, Mo_number, Mo_chars, Mo_held, Mo_fits, Mo_depth, Mo_node, Mo_end, Mo_loose, Mo_at, Mo_made, Mo_makes, Mo_line, Mo_timer, Mo_input, Mo_inputs, Mo_output, Mo_outputs, Mo_contexts, Mo_ids, Mo_services, Mo_results, Mo_wanted, Mo_command, Mo_commands, Mo_body, Mo_bodies, Mo_speaker, Mo_what, Mo_message, Mo_answered, Mo_records, Mo_kept, Mo_lengths, Mo_set_room, Mo_set_code, Mo_set_draft, Mo_set_drafted, Mo_set_source, Mo_set_fault, Mo_set_count, Mo_set_kind, Mo_set_tag, Mo_set_value, Mo_set_letters, Mo_set_parent, Mo_set_first, Mo_set_next, Mo_set_last, Mo_set_many, Mo_set_size, Mo_set_number, Mo_set_chars, Mo_set_held, Mo_set_fits, Mo_set_depth, Mo_set_node, Mo_set_end, Mo_set_loose, Mo_set_at, Mo_set_made, Mo_set_makes, Mo_set_line, Mo_set_timer, Mo_set_input, Mo_set_inputs, Mo_set_output, Mo_set_outputs, Mo_set_contexts, Mo_set_ids, Mo_set_services, Mo_set_results, Mo_set_wanted, Mo_set_command, Mo_set_commands, Mo_set_body, Mo_set_bodies, Mo_set_speaker, Mo_set_what, Mo_set_message, Mo_set_answered, Mo_set_records, Mo_set_kept, Mo_set_lengths, ua_s, ua_n, pk_us, pk_un, hzj]]
      have e130 : ∀ (y0 : Int32) (u : Nat), y0 = nI u → vln syn nd j + 2 + u = vln syn nd j + hd syn (nT nd j) → B_Mo_measure_130 K (lp (fun k95 v => B_Mo_measure_95 K k95 v.1 v.2.1 v.2.2.1 v.2.2.2.1 v.2.2.2.2.1 v.2.2.2.2.2.1 v.2.2.2.2.2.2) f') s (nI t) (nI syn) x3 (nI (130 * t + k)) (nI (130 * t + j)) y0 (nI (vln syn nd j + 2)) (nI S) = B_Mo_measure_146 K s (nI t) (nI syn) x3 (nI (130 * t + k)) (nI (S + wS syn nd j (bhf nd k - j))) := by
        intro y0 u hy hu
        subst hy
        unfold B_Mo_measure_130
        rw [if_neg (by first | omega | (simp (disch := omega) only [z_lt, z_le, z_eq, z_cl, z_ad, z_mu, z_sb, z_n1, z_em, z_me, z_lm, z_ml, z_mle, z_lme, z_ma, z_am, z_m2, not_false_eq_true, z_l0, z_l1, z_l2, z_l3, z_l4, z_l5, z_l6, z_l7, z_l8, z_l10, z_l14, z_l15, z_l16, z_l32, z_l80, z_l101, z_l120, z_l126, z_l127, z_l130, z_l160, z_l198, z_l200, z_l202, z_l240, z_l252, z_l253, z_l254, z_l255, z_l260, z_l480, z_l900, Mo_room, Mo_code, Mo_draft, Mo_drafted, Mo_source, Mo_fault, Mo_count, Mo_kind, Mo_tag, Mo_value, Mo_letters, Mo_parent, Mo_first, Mo_next, Mo_last, Mo_many, Mo_size, Mo_number, Mo_chars, Mo_held, Mo_fits, Mo_depth, Mo_node, Mo_end, Mo_loose, Mo_at, Mo_made, Mo_makes, Mo_line, Mo_timer, Mo_input, Mo_inputs, Mo_output, Mo_outputs, Mo_contexts, Mo_ids, Mo_services, Mo_results, Mo_wanted, Mo_command, Mo_commands, Mo_body, Mo_bodies, Mo_speaker, Mo_what, Mo_message, Mo_answered, Mo_records, Mo_kept, Mo_lengths, Mo_set_room, Mo_set_code, Mo_set_draft, Mo_set_drafted, Mo_set_source, Mo_set_fault, Mo_set_count, Mo_set_kind, Mo_set_tag, Mo_set_value, Mo_set_letters, Mo_set_parent, Mo_set_first, Mo_set_next, Mo_set_last, Mo_set_many, Mo_set_size, Mo_set_number, Mo_set_chars, Mo_set_held, Mo_set_fits, Mo_set_depth, Mo_set_node, Mo_set_end, Mo_set_loose, Mo_set_at, Mo_set_made, Mo_set_makes, Mo_set_line, Mo_set_timer, Mo_set_input, Mo_set_inputs, Mo_set_output, Mo_set_outputs, Mo_set_contexts, Mo_set_ids, Mo_set_services, Mo_set_results, Mo_set_wanted, Mo_set_command, Mo_set_commands, Mo_set_body, Mo_set_bodies, Mo_set_speaker, Mo_set_what, Mo_set_message, Mo_set_answered, Mo_set_records, Mo_set_kept, Mo_set_lengths, ua_s, ua_n, pk_us, pk_un] <;> omega))]
        rw [show (Mo_next s) (nI (130 * t + j)).toNatClampNeg = nxI t nd j by simp (disch := omega) only [z_lt, z_le, z_eq, z_cl, z_ad, z_mu, z_sb, z_n1, z_em, z_me, z_lm, z_ml, z_mle, z_lme, z_ma, z_am, z_m2, not_false_eq_true, z_l0, z_l1, z_l2, z_l3, z_l4, z_l5, z_l6, z_l7, z_l8, z_l10, z_l14, z_l15, z_l16, z_l32, z_l80, z_l101, z_l120, z_l126, z_l127, z_l130, z_l160, z_l198, z_l200, z_l202, z_l240, z_l252, z_l253, z_l254, z_l255, z_l260, z_l480, z_l900, Mo_room, Mo_code, Mo_draft, Mo_drafted, Mo_source, Mo_fault, Mo_count, Mo_kind, Mo_tag, Mo_value, Mo_letters, Mo_parent, Mo_first, Mo_next, Mo_last, Mo_many, Mo_size, Mo_number, Mo_chars, Mo_held, Mo_fits, Mo_depth, Mo_node, Mo_end, Mo_loose, Mo_at, Mo_made, Mo_makes, Mo_line, Mo_timer, Mo_input, Mo_inputs, Mo_output, Mo_outputs, Mo_contexts, Mo_ids, Mo_services, Mo_results, Mo_wanted, Mo_command, Mo_commands, Mo_body, Mo_bodies, Mo_speaker, Mo_what, Mo_message, Mo_answered, Mo_records, Mo_kept, Mo_lengths, Mo_set_room, Mo_set_code, Mo_set_draft, Mo_set_drafted, Mo_set_source, Mo_set_fault, Mo_set_count, Mo_set_kind, Mo_set_tag, Mo_set_value, Mo_set_letters, Mo_set_parent, Mo_set_first, Mo_set_next, Mo_set_last, Mo_set_many, Mo_set_size, Mo_set_number, Mo_set_chars, Mo_set_held, Mo_set_fits, Mo_set_depth, Mo_set_node, Mo_set_end, Mo_set_loose, Mo_set_at, Mo_set_made, Mo_set_makes, Mo_set_line, Mo_set_timer, Mo_set_input, Mo_set_inputs, Mo_set_output, Mo_set_outputs, Mo_set_contexts, Mo_set_ids, Mo_set_services, Mo_set_results, Mo_set_wanted, Mo_set_command, Mo_set_commands, Mo_set_body, Mo_set_bodies, Mo_set_speaker, Mo_set_what, Mo_set_message, Mo_set_answered, Mo_set_records, Mo_set_kept, Mo_set_lengths, ua_s, ua_n, pk_us, pk_un, a9], n2, z_ad, z_ad, hu, ih (by omega), hsp, hn, Nat.add_assoc]
      by_cases k4 : kd (nT nd j) = 4
      · have hmk : mk (nT nd j) = 0 := by unfold mk; rw [if_pos k4]
        rw [hmk] at a3
        rw [if_pos (by first | omega | (simp (disch := omega) only [z_lt, z_le, z_eq, z_cl, z_ad, z_mu, z_sb, z_n1, z_em, z_me, z_lm, z_ml, z_mle, z_lme, z_ma, z_am, z_m2, not_false_eq_true, z_l0, z_l1, z_l2, z_l3, z_l4, z_l5, z_l6, z_l7, z_l8, z_l10, z_l14, z_l15, z_l16, z_l32, z_l80, z_l101, z_l120, z_l126, z_l127, z_l130, z_l160, z_l198, z_l200, z_l202, z_l240, z_l252, z_l253, z_l254, z_l255, z_l260, z_l480, z_l900, Mo_room, Mo_code, Mo_draft, Mo_drafted, Mo_source, Mo_fault, Mo_count, Mo_kind, Mo_tag, Mo_value, Mo_letters, Mo_parent, Mo_first, Mo_next, Mo_last, Mo_many, Mo_size, Mo_number, Mo_chars, Mo_held, Mo_fits, Mo_depth, Mo_node, Mo_end, Mo_loose, Mo_at, Mo_made, Mo_makes, Mo_line, Mo_timer, Mo_input, Mo_inputs, Mo_output, Mo_outputs, Mo_contexts, Mo_ids, Mo_services, Mo_results, Mo_wanted, Mo_command, Mo_commands, Mo_body, Mo_bodies, Mo_speaker, Mo_what, Mo_message, Mo_answered, Mo_records, Mo_kept, Mo_lengths, Mo_set_room, Mo_set_code, Mo_set_draft, Mo_set_drafted, Mo_set_source, Mo_set_fault, Mo_set_count, Mo_set_kind, Mo_set_tag, Mo_set_value, Mo_set_letters, Mo_set_parent, Mo_set_first, Mo_set_next, Mo_set_last, Mo_set_many, Mo_set_size, Mo_set_number, Mo_set_chars, Mo_set_held, Mo_set_fits, Mo_set_depth, Mo_set_node, Mo_set_end, Mo_set_loose, Mo_set_at, Mo_set_made, Mo_set_makes, Mo_set_line, Mo_set_timer, Mo_set_input, Mo_set_inputs, Mo_set_output, Mo_set_outputs, Mo_set_contexts, Mo_set_ids, Mo_set_services, Mo_set_results, Mo_set_wanted, Mo_set_command, Mo_set_commands, Mo_set_body, Mo_set_bodies, Mo_set_speaker, Mo_set_what, Mo_set_message, Mo_set_answered, Mo_set_records, Mo_set_kept, Mo_set_lengths, ua_s, ua_n, pk_us, pk_un, a3] <;> omega))]
        unfold B_Mo_measure_129
        exact e130 0 0 rfl (by unfold hd; rw [if_neg (fun e => e.2 k4)])
      · have hk4 := kd_le (nT nd j)
        have hmk : mk (nT nd j) = kd (nT nd j) := by unfold mk; rw [if_neg k4]
        rw [hmk] at a3
        rw [if_neg (by first | omega | (simp (disch := omega) only [z_lt, z_le, z_eq, z_cl, z_ad, z_mu, z_sb, z_n1, z_em, z_me, z_lm, z_ml, z_mle, z_lme, z_ma, z_am, z_m2, not_false_eq_true, z_l0, z_l1, z_l2, z_l3, z_l4, z_l5, z_l6, z_l7, z_l8, z_l10, z_l14, z_l15, z_l16, z_l32, z_l80, z_l101, z_l120, z_l126, z_l127, z_l130, z_l160, z_l198, z_l200, z_l202, z_l240, z_l252, z_l253, z_l254, z_l255, z_l260, z_l480, z_l900, Mo_room, Mo_code, Mo_draft, Mo_drafted, Mo_source, Mo_fault, Mo_count, Mo_kind, Mo_tag, Mo_value, Mo_letters, Mo_parent, Mo_first, Mo_next, Mo_last, Mo_many, Mo_size, Mo_number, Mo_chars, Mo_held, Mo_fits, Mo_depth, Mo_node, Mo_end, Mo_loose, Mo_at, Mo_made, Mo_makes, Mo_line, Mo_timer, Mo_input, Mo_inputs, Mo_output, Mo_outputs, Mo_contexts, Mo_ids, Mo_services, Mo_results, Mo_wanted, Mo_command, Mo_commands, Mo_body, Mo_bodies, Mo_speaker, Mo_what, Mo_message, Mo_answered, Mo_records, Mo_kept, Mo_lengths, Mo_set_room, Mo_set_code, Mo_set_draft, Mo_set_drafted, Mo_set_source, Mo_set_fault, Mo_set_count, Mo_set_kind, Mo_set_tag, Mo_set_value, Mo_set_letters, Mo_set_parent, Mo_set_first, Mo_set_next, Mo_set_last, Mo_set_many, Mo_set_size, Mo_set_number, Mo_set_chars, Mo_set_held, Mo_set_fits, Mo_set_depth, Mo_set_node, Mo_set_end, Mo_set_loose, Mo_set_at, Mo_set_made, Mo_set_makes, Mo_set_line, Mo_set_timer, Mo_set_input, Mo_set_inputs, Mo_set_output, Mo_set_outputs, Mo_set_contexts, Mo_set_ids, Mo_set_services, Mo_set_results, Mo_set_wanted, Mo_set_command, Mo_set_commands, Mo_set_body, Mo_set_bodies, Mo_set_speaker, Mo_set_what, Mo_set_message, Mo_set_answered, Mo_set_records, Mo_set_kept, Mo_set_lengths, ua_s, ua_n, pk_us, pk_un, a3] <;> omega))]
        unfold B_Mo_measure_121
        by_cases c0 : syn = 0
        · rw [if_pos (by first | omega | (simp (disch := omega) only [z_lt, z_le, z_eq, z_cl, z_ad, z_mu, z_sb, z_n1, z_em, z_me, z_lm, z_ml, z_mle, z_lme, z_ma, z_am, z_m2, not_false_eq_true, z_l0, z_l1, z_l2, z_l3, z_l4, z_l5, z_l6, z_l7, z_l8, z_l10, z_l14, z_l15, z_l16, z_l32, z_l80, z_l101, z_l120, z_l126, z_l127, z_l130, z_l160, z_l198, z_l200, z_l202, z_l240, z_l252, z_l253, z_l254, z_l255, z_l260, z_l480, z_l900, Mo_room, Mo_code, Mo_draft, Mo_drafted, Mo_source, Mo_fault, Mo_count, Mo_kind, Mo_tag, Mo_value, Mo_letters, Mo_parent, Mo_first, Mo_next, Mo_last, Mo_many, Mo_size, Mo_number, Mo_chars, Mo_held, Mo_fits, Mo_depth, Mo_node, Mo_end, Mo_loose, Mo_at, Mo_made, Mo_makes, Mo_line, Mo_timer, Mo_input, Mo_inputs, Mo_output, Mo_outputs, Mo_contexts, Mo_ids, Mo_services, Mo_results, Mo_wanted, Mo_command, Mo_commands, Mo_body, Mo_bodies, Mo_speaker, Mo_what, Mo_message, Mo_answered, Mo_records, Mo_kept, Mo_lengths, Mo_set_room, Mo_set_code, Mo_set_draft, Mo_set_drafted, Mo_set_source, Mo_set_fault, Mo_set_count, Mo_set_kind, Mo_set_tag, Mo_set_value, Mo_set_letters, Mo_set_parent, Mo_set_first, Mo_set_next, Mo_set_last, Mo_set_many, Mo_set_size, Mo_set_number, Mo_set_chars, Mo_set_held, Mo_set_fits, Mo_set_depth, Mo_set_node, Mo_set_end, Mo_set_loose, Mo_set_at, Mo_set_made, Mo_set_makes, Mo_set_line, Mo_set_timer, Mo_set_input, Mo_set_inputs, Mo_set_output, Mo_set_outputs, Mo_set_contexts, Mo_set_ids, Mo_set_services, Mo_set_results, Mo_set_wanted, Mo_set_command, Mo_set_commands, Mo_set_body, Mo_set_bodies, Mo_set_speaker, Mo_set_what, Mo_set_message, Mo_set_answered, Mo_set_records, Mo_set_kept, Mo_set_lengths, ua_s, ua_n, pk_us, pk_un, c0] <;> omega))]
          unfold B_Mo_measure_125
          exact e130 1 1 rfl (by unfold hd; rw [if_pos ⟨c0, k4⟩])
        · rw [if_neg (by first | omega | (simp (disch := omega) only [z_lt, z_le, z_eq, z_cl, z_ad, z_mu, z_sb, z_n1, z_em, z_me, z_lm, z_ml, z_mle, z_lme, z_ma, z_am, z_m2, not_false_eq_true, z_l0, z_l1, z_l2, z_l3, z_l4, z_l5, z_l6, z_l7, z_l8, z_l10, z_l14, z_l15, z_l16, z_l32, z_l80, z_l101, z_l120, z_l126, z_l127, z_l130, z_l160, z_l198, z_l200, z_l202, z_l240, z_l252, z_l253, z_l254, z_l255, z_l260, z_l480, z_l900, Mo_room, Mo_code, Mo_draft, Mo_drafted, Mo_source, Mo_fault, Mo_count, Mo_kind, Mo_tag, Mo_value, Mo_letters, Mo_parent, Mo_first, Mo_next, Mo_last, Mo_many, Mo_size, Mo_number, Mo_chars, Mo_held, Mo_fits, Mo_depth, Mo_node, Mo_end, Mo_loose, Mo_at, Mo_made, Mo_makes, Mo_line, Mo_timer, Mo_input, Mo_inputs, Mo_output, Mo_outputs, Mo_contexts, Mo_ids, Mo_services, Mo_results, Mo_wanted, Mo_command, Mo_commands, Mo_body, Mo_bodies, Mo_speaker, Mo_what, Mo_message, Mo_answered, Mo_records, Mo_kept, Mo_lengths, Mo_set_room, Mo_set_code, Mo_set_draft, Mo_set_drafted, Mo_set_source, Mo_set_fault, Mo_set_count, Mo_set_kind, Mo_set_tag, Mo_set_value, Mo_set_letters, Mo_set_parent, Mo_set_first, Mo_set_next, Mo_set_last, Mo_set_many, Mo_set_size, Mo_set_number, Mo_set_chars, Mo_set_held, Mo_set_fits, Mo_set_depth, Mo_set_node, Mo_set_end, Mo_set_loose, Mo_set_at, Mo_set_made, Mo_set_makes, Mo_set_line, Mo_set_timer, Mo_set_input, Mo_set_inputs, Mo_set_output, Mo_set_outputs, Mo_set_contexts, Mo_set_ids, Mo_set_services, Mo_set_results, Mo_set_wanted, Mo_set_command, Mo_set_commands, Mo_set_body, Mo_set_bodies, Mo_set_speaker, Mo_set_what, Mo_set_message, Mo_set_answered, Mo_set_records, Mo_set_kept, Mo_set_lengths, ua_s, ua_n, pk_us, pk_un, c0] <;> omega))]
          unfold B_Mo_measure_129
          exact e130 0 0 rfl (by unfold hd; rw [if_neg (fun e => c0 e.1)])
    · rw [if_neg c]
      exact fin S j f (by omega) (by omega)
end MMS
