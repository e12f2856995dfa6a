/-! PURE: what a command says -/
abbrev inR (x lo hi : Int32) : Prop := ¬ x < lo ∧ ¬ hi < x
theorem inR_all (x : Int32) : inR x (-2147483648) 2147483647 := by
  have h1 := Int32.le_toInt x
  have h2 := Int32.toInt_lt x
  constructor
  · rw [Int32.lt_iff_toInt_lt, show (-2147483648 : Int32).toInt = -2147483648 by decide +kernel]; omega
  · rw [Int32.lt_iff_toInt_lt, show (2147483647 : Int32).toInt = 2147483647 by decide +kernel]; omega
theorem inR_01 (x : Int32) : inR x 0 1 ↔ (x = 0 ∨ x = 1) := by
  constructor
  · intro ⟨a, b⟩
    rw [Int32.lt_iff_toInt_lt, show (0 : Int32).toInt = 0 by decide +kernel] at a
    rw [Int32.lt_iff_toInt_lt, show (1 : Int32).toInt = 1 by decide +kernel] at b
    by_cases c : x.toInt = 0
    · exact .inl (Int32.toInt_inj.mp (by rw [c]; decide +kernel))
    · exact .inr (Int32.toInt_inj.mp (by rw [show (1 : Int32).toInt = 1 by decide +kernel]; omega))
  · intro h
    rcases h with h | h <;> subst h <;> decide +kernel
theorem m_inI (x lo hi : Int32) : F_Mo_in x lo hi = some (if inR x lo hi then 1 else 0) := by
  unfold F_Mo_in B_Mo_in_0
  by_cases h1 : x < lo
  · rw [if_pos h1, if_neg (fun h : inR x lo hi => h.1 h1)]
    rfl
  · rw [if_neg h1]
    unfold B_Mo_in_5
    by_cases h2 : hi < x
    · rw [if_pos h2, if_neg (fun h : inR x lo hi => h.2 h2)]
      rfl
    · rw [if_neg h2, if_pos (show inR x lo hi from ⟨h1, h2⟩)]
      rfl
def naF (nd : List Nd) (g : Nat) (lo hi : Int32) (ks : List Nat) : Option Nat := ks.find? (fun j => decide (nT nd j = g ∧ inR (nV nd j) lo hi))
def naO (nd : List Nd) (g : Nat) (lo hi : Int32) : Option Nat := match fnd nd (kds nd 0) g with
  | none => none
  | some e => if inR (nV nd e) lo hi then some e else none
theorem naF_fnd {nd : List Nd} {g : Nat} {lo hi : Int32} : ∀ (ks : List Nat), ks.Pairwise (fun i j => nT nd i < nT nd j) → naF nd g lo hi ks = match fnd nd ks g with | none => none | some e => if inR (nV nd e) lo hi then some e else none
  | [], _ => rfl
  | k :: ks, h => by
    rw [List.pairwise_cons] at h
    unfold naF fnd
    by_cases c : nT nd k = g
    · rw [List.find?_cons_of_pos (p := fun j => decide (nT nd j = g)) (by exact decide_eq_true c)]
      dsimp only
      by_cases z : inR (nV nd k) lo hi
      · rw [List.find?_cons_of_pos (by exact decide_eq_true ⟨c, z⟩), if_pos z]
      · rw [List.find?_cons_of_neg (by rw [decide_eq_false (fun x : nT nd k = g ∧ inR (nV nd k) lo hi => z x.2)]; decide), if_neg z, List.find?_eq_none]
        intro j hj
        have := h.1 j hj
        simp only [decide_eq_true_eq]
        intro x
        omega
    · rw [List.find?_cons_of_neg (by rw [decide_eq_false (fun x : nT nd k = g ∧ inR (nV nd k) lo hi => c x.1)]; decide), List.find?_cons_of_neg (by rw [decide_eq_false c]; decide)]
      exact naF_fnd ks h.2
theorem naF_O {nd : List Nd} (w : wfT nd) {g : Nat} {lo hi : Int32} : naF nd g lo hi (kds nd 0) = naO nd g lo hi := by
  have g0 := w.2.2.2.1
  have hpw : (kds nd 0).Pairwise (fun i j => nT nd i < nT nd j) := by
    rw [kds_wf w g0]
    exact (w.2.2.1 0 g0).2.2.2 (by rw [(wf_b0 w).2])
  rw [naF_fnd _ hpw]
  rfl
section MNA
variable {s : S_Mo} {nd : List Nd} {g : Nat} {lo hi : Int32}
theorem m_numLoop (w : wfT nd) (hm : mtr s.2 0 nd) (hg : g < 80) : ∀ (m j fu : Nat), nd.length ≤ j + m → 0 < j → j ≤ nd.length → (j < nd.length → nL nd j = nL nd 0 + 1) → m < fu → lp (fun k8 v => B_Mo_numberAt_8 k8 s v.1 v.2.1 v.2.2.1 v.2.2.2) fu (nI g, lo, hi, (if j < nd.length then nI (130 * 0 + j) else mI)) = some (nmI (naF nd g lo hi (kdsF nd nd.length m j))) := by
  have l2 := w.2.2.2.2.1
  have g2 := w.2.2.2.1
  have hb2 := (wf_b0 w).1
  have fin : ∀ K, B_Mo_numberAt_8 K s (nI g) lo hi mI = some mI := by
    intro K
    unfold B_Mo_numberAt_8
    rw [if_pos (by decide +kernel : mI < 0)]
    rfl
  intro m
  induction m with
  | zero =>
    intro j fu q1 q2 q3 q4 q6
    obtain ⟨fu', rfl⟩ : ∃ fu', fu = fu' + 1 := ⟨fu - 1, by omega⟩
    rw [lp_s, if_neg (by omega : ¬ j < nd.length)]
    exact fin _
  | succ m ih =>
    intro j fu q1 q2 q3 q4 q6
    obtain ⟨fu', rfl⟩ : ∃ fu', fu = fu' + 1 := ⟨fu - 1, by omega⟩
    rw [lp_s]
    show B_Mo_numberAt_8 (lp (fun k8 v => B_Mo_numberAt_8 k8 s v.1 v.2.1 v.2.2.1 v.2.2.2) fu') s (nI g) lo hi (if j < nd.length then nI (130 * 0 + j) else mI) = _
    rw [show kdsF nd nd.length (m + 1) j = if j < nd.length then j :: kdsF nd nd.length m (bhf nd j) else [] from rfl]
    by_cases d : j < nd.length
    · rw [if_pos d, if_pos d]
      have hbj := bhf_lt d
      obtain ⟨n1, n2, n3⟩ := nxI_kid (t := 0) g2 q2 (by omega) (q4 d)
      rw [hb2] at n1 n2 n3
      obtain ⟨c3, c4, c5, c6, c7, c7', c8, c9, c11⟩ := hm.2.2.1 j d
      rw [n2] at c9
      have hj3 := kid_3 w g2 (by rw [(wf_b0 w).2]) d (q4 d)
      rw [show mtg (nT nd j) = nT nd j by unfold mtg; rw [if_neg (by omega)]] at c4
      have hg8 := nT_lt w.1 j
      have i1 := ih (bhf nd j) fu' (by omega) (by omega) n1 n3 (by omega)
      generalize lp (fun k8 v => B_Mo_numberAt_8 k8 s v.1 v.2.1 v.2.2.1 v.2.2.2) fu' = K at i1 ⊢
      have e42 : B_Mo_numberAt_42 K s (nI g) lo hi (nI (130 * 0 + j)) = some (nmI (naF nd g lo hi (kdsF nd nd.length m (bhf nd j)))) := by
        unfold B_Mo_numberAt_42
        rw [if_neg (by first | omega | (simp (disch := omega) only [z_lt, z_le, z_eq, z_cl, z_ad, z_mu, z_sb, z_n1, z_em, z_me, z_lm, z_ml, z_mle, z_lme, z_ma, z_am, z_m2, not_false_eq_true, z_l0, z_l1, z_l2, z_l3, z_l4, z_l5, z_l6, z_l7, z_l8, z_l10, z_l14, z_l15, z_l16, z_l32, z_l80, z_l101, z_l120, z_l126, z_l127, z_l130, z_l160, z_l198, z_l200, z_l202, z_l240, z_l252, z_l253, z_l254, z_l255, z_l260, z_l480, z_l900, Mo_room, Mo_code, Mo_draft, Mo_drafted, Mo_source, Mo_fault, Mo_count, Mo_kind, Mo_tag, Mo_value, Mo_letters, Mo_parent, Mo_first, Mo_next, Mo_last, Mo_many, Mo_size, Mo_number, Mo_chars, Mo_held, Mo_fits, Mo_depth, Mo_node, Mo_end, Mo_loose, Mo_at, Mo_made, Mo_makes, Mo_line, Mo_timer, Mo_input, Mo_inputs, Mo_output, Mo_outputs, Mo_contexts, Mo_ids, Mo_services, Mo_results, Mo_wanted, Mo_command, Mo_commands, Mo_body, Mo_bodies, Mo_speaker, Mo_what, Mo_message, Mo_answered, Mo_records, Mo_kept, Mo_lengths, Mo_set_room, Mo_set_code, Mo_set_draft, Mo_set_drafted, Mo_set_source, Mo_set_fault, Mo_set_count, Mo_set_kind, Mo_set_tag, Mo_set_value, Mo_set_letters, Mo_set_parent, Mo_set_first, Mo_set_next, Mo_set_last, Mo_set_many, Mo_set_size, Mo_set_number, Mo_set_chars, Mo_set_held, Mo_set_fits, Mo_set_depth, Mo_set_node, Mo_set_end, Mo_set_loose, Mo_set_at, Mo_set_made, Mo_set_makes, Mo_set_line, Mo_set_timer, Mo_set_input, Mo_set_inputs, Mo_set_output, Mo_set_outputs, Mo_set_contexts, Mo_set_ids, Mo_set_services, Mo_set_results, Mo_set_wanted, Mo_set_command, Mo_set_commands, Mo_set_body, Mo_set_bodies, Mo_set_speaker, Mo_set_what, Mo_set_message, Mo_set_answered, Mo_set_records, Mo_set_kept, Mo_set_lengths, ua_s, ua_n, pk_us, pk_un] <;> omega))]
        rw [show (Mo_next s) (nI (130 * 0 + j)).toNatClampNeg = (if bhf nd j < nd.length then nI (130 * 0 + bhf nd j) else mI) by
          rw [z_cl (by omega)]
          exact c9]
        exact i1
      unfold B_Mo_numberAt_8
      rw [if_neg (by first | omega | (simp (disch := omega) only [z_lt, z_le, z_eq, z_cl, z_ad, z_mu, z_sb, z_n1, z_em, z_me, z_lm, z_ml, z_mle, z_lme, z_ma, z_am, z_m2, not_false_eq_true, z_l0, z_l1, z_l2, z_l3, z_l4, z_l5, z_l6, z_l7, z_l8, z_l10, z_l14, z_l15, z_l16, z_l32, z_l80, z_l101, z_l120, z_l126, z_l127, z_l130, z_l160, z_l198, z_l200, z_l202, z_l240, z_l252, z_l253, z_l254, z_l255, z_l260, z_l480, z_l900, Mo_room, Mo_code, Mo_draft, Mo_drafted, Mo_source, Mo_fault, Mo_count, Mo_kind, Mo_tag, Mo_value, Mo_letters, Mo_parent, Mo_first, Mo_next, Mo_last, Mo_many, Mo_size, Mo_number, Mo_chars, Mo_held, Mo_fits, Mo_depth, Mo_node, Mo_end, Mo_loose, Mo_at, Mo_made, Mo_makes, Mo_line, Mo_timer, Mo_input, Mo_inputs, Mo_output, Mo_outputs, Mo_contexts, Mo_ids, Mo_services, Mo_results, Mo_wanted, Mo_command, Mo_commands, Mo_body, Mo_bodies, Mo_speaker, Mo_what, Mo_message, Mo_answered, Mo_records, Mo_kept, Mo_lengths, Mo_set_room, Mo_set_code, Mo_set_draft, Mo_set_drafted, Mo_set_source, Mo_set_fault, Mo_set_count, Mo_set_kind, Mo_set_tag, Mo_set_value, Mo_set_letters, Mo_set_parent, Mo_set_first, Mo_set_next, Mo_set_last, Mo_set_many, Mo_set_size, Mo_set_number, Mo_set_chars, Mo_set_held, Mo_set_fits, Mo_set_depth, Mo_set_node, Mo_set_end, Mo_set_loose, Mo_set_at, Mo_set_made, Mo_set_makes, Mo_set_line, Mo_set_timer, Mo_set_input, Mo_set_inputs, Mo_set_output, Mo_set_outputs, Mo_set_contexts, Mo_set_ids, Mo_set_services, Mo_set_results, Mo_set_wanted, Mo_set_command, Mo_set_commands, Mo_set_body, Mo_set_bodies, Mo_set_speaker, Mo_set_what, Mo_set_message, Mo_set_answered, Mo_set_records, Mo_set_kept, Mo_set_lengths, ua_s, ua_n, pk_us, pk_un] <;> omega))]
      unfold B_Mo_numberAt_13
      rw [if_neg (by first | omega | (simp (disch := omega) only [z_lt, z_le, z_eq, z_cl, z_ad, z_mu, z_sb, z_n1, z_em, z_me, z_lm, z_ml, z_mle, z_lme, z_ma, z_am, z_m2, not_false_eq_true, z_l0, z_l1, z_l2, z_l3, z_l4, z_l5, z_l6, z_l7, z_l8, z_l10, z_l14, z_l15, z_l16, z_l32, z_l80, z_l101, z_l120, z_l126, z_l127, z_l130, z_l160, z_l198, z_l200, z_l202, z_l240, z_l252, z_l253, z_l254, z_l255, z_l260, z_l480, z_l900, Mo_room, Mo_code, Mo_draft, Mo_drafted, Mo_source, Mo_fault, Mo_count, Mo_kind, Mo_tag, Mo_value, Mo_letters, Mo_parent, Mo_first, Mo_next, Mo_last, Mo_many, Mo_size, Mo_number, Mo_chars, Mo_held, Mo_fits, Mo_depth, Mo_node, Mo_end, Mo_loose, Mo_at, Mo_made, Mo_makes, Mo_line, Mo_timer, Mo_input, Mo_inputs, Mo_output, Mo_outputs, Mo_contexts, Mo_ids, Mo_services, Mo_results, Mo_wanted, Mo_command, Mo_commands, Mo_body, Mo_bodies, Mo_speaker, Mo_what, Mo_message, Mo_answered, Mo_records, Mo_kept, Mo_lengths, Mo_set_room, Mo_set_code, Mo_set_draft, Mo_set_drafted, Mo_set_source, Mo_set_fault, Mo_set_count, Mo_set_kind, Mo_set_tag, Mo_set_value, Mo_set_letters, Mo_set_parent, Mo_set_first, Mo_set_next, Mo_set_last, Mo_set_many, Mo_set_size, Mo_set_number, Mo_set_chars, Mo_set_held, Mo_set_fits, Mo_set_depth, Mo_set_node, Mo_set_end, Mo_set_loose, Mo_set_at, Mo_set_made, Mo_set_makes, Mo_set_line, Mo_set_timer, Mo_set_input, Mo_set_inputs, Mo_set_output, Mo_set_outputs, Mo_set_contexts, Mo_set_ids, Mo_set_services, Mo_set_results, Mo_set_wanted, Mo_set_command, Mo_set_commands, Mo_set_body, Mo_set_bodies, Mo_set_speaker, Mo_set_what, Mo_set_message, Mo_set_answered, Mo_set_records, Mo_set_kept, Mo_set_lengths, ua_s, ua_n, pk_us, pk_un] <;> omega))]
      have t4 : (Mo_tag s) (nI (130 * 0 + j)).toNatClampNeg = nI (nT nd j) := by
        rw [z_cl (by omega)]
        exact c4
      rw [t4]
      by_cases tg : nT nd j = g
      · rw [if_pos (by rw [tg])]
        have hk1 : kd (nT nd j) = 1 := by rw [tg]; unfold kd; rw [if_pos hg]
        unfold B_Mo_numberAt_24
        rw [if_neg (by first | omega | (simp (disch := omega) only [z_lt, z_le, z_eq, z_cl, z_ad, z_mu, z_sb, z_n1, z_em, z_me, z_lm, z_ml, z_mle, z_lme, z_ma, z_am, z_m2, not_false_eq_true, z_l0, z_l1, z_l2, z_l3, z_l4, z_l5, z_l6, z_l7, z_l8, z_l10, z_l14, z_l15, z_l16, z_l32, z_l80, z_l101, z_l120, z_l126, z_l127, z_l130, z_l160, z_l198, z_l200, z_l202, z_l240, z_l252, z_l253, z_l254, z_l255, z_l260, z_l480, z_l900, Mo_room, Mo_code, Mo_draft, Mo_drafted, Mo_source, Mo_fault, Mo_count, Mo_kind, Mo_tag, Mo_value, Mo_letters, Mo_parent, Mo_first, Mo_next, Mo_last, Mo_many, Mo_size, Mo_number, Mo_chars, Mo_held, Mo_fits, Mo_depth, Mo_node, Mo_end, Mo_loose, Mo_at, Mo_made, Mo_makes, Mo_line, Mo_timer, Mo_input, Mo_inputs, Mo_output, Mo_outputs, Mo_contexts, Mo_ids, Mo_services, Mo_results, Mo_wanted, Mo_command, Mo_commands, Mo_body, Mo_bodies, Mo_speaker, Mo_what, Mo_message, Mo_answered, Mo_records, Mo_kept, Mo_lengths, Mo_set_room, Mo_set_code, Mo_set_draft, Mo_set_drafted, Mo_set_source, Mo_set_fault, Mo_set_count, Mo_set_kind, Mo_set_tag, Mo_set_value, Mo_set_letters, Mo_set_parent, Mo_set_first, Mo_set_next, Mo_set_last, Mo_set_many, Mo_set_size, Mo_set_number, Mo_set_chars, Mo_set_held, Mo_set_fits, Mo_set_depth, Mo_set_node, Mo_set_end, Mo_set_loose, Mo_set_at, Mo_set_made, Mo_set_makes, Mo_set_line, Mo_set_timer, Mo_set_input, Mo_set_inputs, Mo_set_output, Mo_set_outputs, Mo_set_contexts, Mo_set_ids, Mo_set_services, Mo_set_results, Mo_set_wanted, Mo_set_command, Mo_set_commands, Mo_set_body, Mo_set_bodies, Mo_set_speaker, Mo_set_what, Mo_set_message, Mo_set_answered, Mo_set_records, Mo_set_kept, Mo_set_lengths, ua_s, ua_n, pk_us, pk_un] <;> omega))]
        rw [show (Mo_value s) (nI (130 * 0 + j)).toNatClampNeg = nV nd j by
          rw [z_cl (by omega)]
          show s.2 5 (130 * 0 + j) = _
          rw [c5]
          unfold mvl
          rw [if_pos hk1], m_inI, Option.bind_some]
        by_cases z : inR (nV nd j) lo hi
        · rw [if_pos z, if_neg (by decide)]
          unfold naF
          rw [List.find?_cons_of_pos (by exact decide_eq_true ⟨tg, z⟩)]
          rfl
        · rw [if_neg z, if_pos rfl, e42]
          unfold naF
          rw [List.find?_cons_of_neg (by rw [decide_eq_false (fun x : nT nd j = g ∧ inR (nV nd j) lo hi => z x.2)]; decide)]
      · rw [if_neg (by rw [z_eq (by omega) (by omega)]; exact tg), e42]
        unfold naF
        rw [List.find?_cons_of_neg (by rw [decide_eq_false (fun x : nT nd j = g ∧ inR (nV nd j) lo hi => tg x.1)]; decide)]
    · rw [if_neg d, if_neg d]
      exact fin _
theorem m_numberAt (w : wfT nd) (hm : mtr s.2 0 nd) (hg : g < 80) : F_Mo_numberAt s (nI g) lo hi = some (nmI (naO nd g lo hi)) := by
  have g2 := w.2.2.2.1
  have l2 := w.2.2.2.2.1
  have hb2 := (wf_b0 w).1
  unfold F_Mo_numberAt B_Mo_numberAt_0
  rw [if_neg (by decide)]
  have c8 := (hm.2.2.1 0 g2).2.2.2.2.2.2.1
  rw [show (Mo_first s) (0 : Int32).toNatClampNeg = (if 1 < nd.length then nI (130 * 0 + 1) else mI) by
    show s.2 8 0 = _
    rw [show (0 : Nat) = 130 * 0 + 0 from rfl, c8]
    unfold fiI
    by_cases d : 1 < nd.length
    · rw [if_pos d, if_pos ⟨by omega, by have := (w.2.2.1 1 d).1.2.1 (by omega); have := (wf_b0 w).2; show nL nd 0 < nL nd 1; omega⟩]
    · rw [if_neg d, if_neg (by omega)]]
  unfold L_Mo_numberAt_8
  rw [m_numLoop w hm hg nd.length 1 FU (by omega) (by omega) (by omega) (fun d => by have h1 := (w.2.2.1 1 d).1.2.1 (by omega); have h2 : nL nd 1 ≤ nL nd 0 + 1 := (w.2.2.1 0 g2).1.2.2.2.2 (by omega); have h3 := (wf_b0 w).2; omega) (by unfold FU; omega), ← naF_O w]
  unfold kds
  rw [hb2]
end MNA
/-- the kind, the number, and whether a set follows -/
def unO (nd : List Nd) : Option (Int32 × Int32 × Bool) := match fnd nd (kds nd 0) 1, fnd nd (kds nd 0) 2, fnd nd (kds nd 0) 3 with
  | some a, some b, some c => if inR (nV nd a) 1 3 ∧ inR (nV nd c) 0 1 then some (nV nd a, nV nd b, decide (nV nd c = 1)) else none
  | _, _, _ => none
theorem und94 (T : S_Tr) (M : S_Mg) (x y : Int32) : B_Mg_understand_94 T M x y = some ((if inR (Mg_kind M) 1 3 ∧ inR x 0 1 then 1 else 0), Mg_set_stage M y) := by
  unfold B_Mg_understand_94
  rw [show Mg_kind (Mg_set_stage M y) = Mg_kind M from rfl]
  by_cases h1 : Mg_kind M < 1
  · rw [if_pos h1, if_neg (fun h => h.1.1 h1)]
    rfl
  · rw [if_neg h1]
    unfold B_Mg_understand_105
    rw [show Mg_kind (Mg_set_stage M y) = Mg_kind M from rfl]
    by_cases h2 : (3 : Int32) < Mg_kind M
    · rw [if_pos h2, if_neg (fun h => h.1.2 h2)]
      rfl
    · rw [if_neg h2]
      unfold B_Mg_understand_113
      by_cases h3 : x = 0
      · rw [if_pos h3, if_pos ⟨⟨h1, h2⟩, (inR_01 x).mpr (.inl h3)⟩]
        rfl
      · rw [if_neg h3]
        unfold B_Mg_understand_118
        by_cases h4 : x = 1
        · rw [if_pos h4, if_pos ⟨⟨h1, h2⟩, (inR_01 x).mpr (.inr h4)⟩]
          rfl
        · rw [if_neg h4, if_neg (fun h => ((inR_01 x).mp h.2).elim h3 h4)]
          rfl
theorem c_und {T : S_Tr} {nd : List Nd} {M : S_Mg} (hT : tR T nd) : (unO nd = none ∧ ∃ M', F_Mg_understand M T = some (0, M')) ∨ ∃ k v h, unO nd = some (k, v, h) ∧ F_Mg_understand M T = some (1, ((if h = true then 2 else 3), Mg_context M, k, v, (if h = true then 1 else 0))) := by
  obtain ⟨w, tg, bh, vs, ls, cs, rfl, hT, hB, hC⟩ := hT
  have l101 := w.2.2.2.2.1
  have g := w.2.2.2.1
  have fi : ∀ g, g < 256 → F_Tr_find (tg, bh, vs, ls, cs, nI nd.length, nI (ch nd).length) (nI 0) (nI g) = some (oI (fnd nd (kds nd 0) g)) := fun g hg => c_find w.1 l101 hT hB hg (by omega) (kds_10 w (by omega))
  have nu : ∀ g e, g < 80 → fnd nd (kds nd 0) g = some e → F_Tr_number (tg, bh, vs, ls, cs, nI nd.length, nI (ch nd).length) (nI e) = some (nV nd e) ∧ e < 2 ^ 30 := by
    intro g' e hg he
    obtain ⟨m1, m2⟩ := fnd_mem he
    have m3 := kds_mem w g m1
    refine ⟨?_, by omega⟩
    rw [c_number l101 hT m3.1]
    unfold xv
    rw [if_pos (by rw [m2]; unfold kd; rw [if_pos hg])]
  have hF : F_Mg_understand M (tg, bh, vs, ls, cs, nI nd.length, nI (ch nd).length) = if oI (fnd nd (kds nd 0) 1) = (-1) then some (0, M) else if oI (fnd nd (kds nd 0) 2) = (-1) then some (0, M) else if oI (fnd nd (kds nd 0) 3) = (-1) then some (0, M) else B_Mg_understand_40 (tg, bh, vs, ls, cs, nI nd.length, nI (ch nd).length) M (oI (fnd nd (kds nd 0) 1)) (oI (fnd nd (kds nd 0) 2)) (oI (fnd nd (kds nd 0) 3)) := by
    unfold F_Mg_understand B_Mg_understand_0
    rw [show F_Tr_find (tg, bh, vs, ls, cs, nI nd.length, nI (ch nd).length) (0 : Int32) (1 : Int32) = _ from fi 1 (by omega), Option.bind_some, show F_Tr_find (tg, bh, vs, ls, cs, nI nd.length, nI (ch nd).length) (0 : Int32) (2 : Int32) = _ from fi 2 (by omega), Option.bind_some, show F_Tr_find (tg, bh, vs, ls, cs, nI nd.length, nI (ch nd).length) (0 : Int32) (3 : Int32) = _ from fi 3 (by omega), Option.bind_some]
    rfl
  rw [hF]
  have no : ∀ e, e < 2 ^ 30 → ¬ oI (some e) = (-1) := fun e he h => (z_em (a := e) (by omega)).mp h
  unfold unO
  cases f1 : fnd nd (kds nd 0) 1 with
  | none => exact .inl ⟨rfl, M, if_pos rfl⟩
  | some a =>
    obtain ⟨n1, z1⟩ := nu 1 a (by omega) f1
    rw [if_neg (no a z1)]
    cases f2 : fnd nd (kds nd 0) 2 with
    | none => exact .inl ⟨rfl, M, if_pos rfl⟩
    | some b =>
      obtain ⟨n2, z2⟩ := nu 2 b (by omega) f2
      rw [if_neg (no b z2)]
      cases f3 : fnd nd (kds nd 0) 3 with
      | none => exact .inl ⟨rfl, M, if_pos rfl⟩
      | some c =>
        obtain ⟨n3, z3⟩ := nu 3 c (by omega) f3
        rw [if_neg (no c z3)]
        dsimp only
        unfold B_Mg_understand_40
        rw [show F_Tr_number (tg, bh, vs, ls, cs, nI nd.length, nI (ch nd).length) (oI (some a)) = _ from n1, Option.bind_some, show F_Tr_number (tg, bh, vs, ls, cs, nI nd.length, nI (ch nd).length) (oI (some b)) = _ from n2, Option.bind_some, show F_Tr_number (tg, bh, vs, ls, cs, nI nd.length, nI (ch nd).length) (oI (some c)) = _ from n3, Option.bind_some]
        have e : (if nV nd c = (1 : Int32) then B_Mg_understand_73 (tg, bh, vs, ls, cs, nI nd.length, nI (ch nd).length) (Mg_set_number (Mg_set_kind M (nV nd a)) (nV nd b)) (nV nd c) else B_Mg_understand_77 (tg, bh, vs, ls, cs, nI nd.length, nI (ch nd).length) (Mg_set_number (Mg_set_kind M (nV nd a)) (nV nd b)) (nV nd c)) = some ((if inR (nV nd a) 1 3 ∧ inR (nV nd c) 0 1 then 1 else 0), ((if decide (nV nd c = 1) = true then 2 else 3), Mg_context M, nV nd a, nV nd b, (if decide (nV nd c = 1) = true then 1 else 0))) := by
          by_cases h1 : nV nd c = 1
          · rw [if_pos h1, if_pos (decide_eq_true h1), if_pos (decide_eq_true h1)]
            unfold B_Mg_understand_73 B_Mg_understand_78
            rw [if_pos (by decide), if_neg (by show ¬ (1 : Int32) = 0; decide)]
            unfold B_Mg_understand_89
            rw [und94]
            rfl
          · have h1' : ¬ decide (nV nd c = 1) = true := by rw [decide_eq_false h1]; decide
            rw [if_neg h1, if_neg h1', if_neg h1']
            unfold B_Mg_understand_77 B_Mg_understand_78
            rw [if_pos (by decide), if_pos (by show (0 : Int32) = 0; decide)]
            unfold B_Mg_understand_93
            rw [und94]
            rfl
        by_cases h2 : inR (nV nd a) 1 3 ∧ inR (nV nd c) 0 1
        · rw [if_pos h2] at e ⊢
          exact .inr ⟨_, _, _, rfl, e⟩
        · rw [if_neg h2] at e ⊢
          exact .inl ⟨rfl, _, e⟩
theorem m_und {s : S_Mo} {nd : List Nd} (w : wfT nd) (hm : mtr s.2 0 nd) : (unO nd = none → B_Mo_commanded_43 s = some (0, s)) ∧ ∀ k v h, unO nd = some (k, v, h) → ∃ s', s'.1 16 = k ∧ s'.1 17 = v ∧ (∀ i, i ≠ 16 → i ≠ 17 → s'.1 i = s.1 i) ∧ s'.2 = s.2 ∧ B_Mo_commanded_43 s = if h = true then some (1, Mo_set_wanted s' 1) else (F_Mo_answer s' 0).bind fun o1 => some (1, o1) := by
  have g2 := w.2.2.2.1
  have l2 := w.2.2.2.2.1
  have hF : B_Mo_commanded_43 s = if nmI (naO nd 1 1 3) < 0 then some (0, s) else if nmI (naO nd 2 (-2147483648) 2147483647) < 0 then some (0, s) else if 0 ≤ nmI (naO nd 3 0 1) then B_Mo_commanded_85 s (nmI (naO nd 1 1 3)) (nmI (naO nd 2 (-2147483648) 2147483647)) (nmI (naO nd 3 0 1)) else some (0, s) := by
    unfold B_Mo_commanded_43
    rw [show F_Mo_numberAt s (1 : Int32) 1 3 = _ from m_numberAt (g := 1) w hm (by omega), Option.bind_some, show F_Mo_numberAt s (2 : Int32) (-2147483648) 2147483647 = _ from m_numberAt (g := 2) w hm (by omega), Option.bind_some, show F_Mo_numberAt s (3 : Int32) 0 1 = _ from m_numberAt (g := 3) w hm (by omega), Option.bind_some]
    rfl
  have ne : nmI none < 0 := by decide +kernel
  have n0 : ¬ 0 ≤ nmI none := by decide +kernel
  have po : ∀ e, e < 2 ^ 30 → ¬ nmI (some e) < 0 := fun e he => by
    show ¬ nI (130 * 0 + e) < nI 0
    rw [z_lt (by omega) (by omega)]
    omega
  have pg : ∀ e, e < 2 ^ 30 → 0 ≤ nmI (some e) := fun e he => by
    show nI 0 ≤ nI (130 * 0 + e)
    rw [z_le (by omega) (by omega)]
    omega
  have nu : ∀ g e, g < 80 → fnd nd (kds nd 0) g = some e → s.2 5 e = nV nd e ∧ e < nd.length := by
    intro g' e hg he
    obtain ⟨m1, m2⟩ := fnd_mem he
    have m3 := kds_mem w g2 m1
    refine ⟨?_, m3.1⟩
    have := (hm.2.2.1 e m3.1).2.2.1
    rw [show 130 * 0 + e = e by omega] at this
    rw [this]
    unfold mvl
    rw [if_pos (by rw [m2]; unfold kd; rw [if_pos hg])]
  rw [hF]
  unfold unO naO
  cases f1 : fnd nd (kds nd 0) 1 with
  | none => exact ⟨fun _ => if_pos ne, fun k v h e => by cases e⟩
  | some a =>
    obtain ⟨n1, z1⟩ := nu 1 a (by omega) f1
    cases f2 : fnd nd (kds nd 0) 2 with
    | none =>
      refine ⟨fun _ => ?_, fun k v h e => by cases e⟩
      dsimp only
      rw [if_pos ne, ite_self]
    | some b =>
      obtain ⟨n2, z2⟩ := nu 2 b (by omega) f2
      cases f3 : fnd nd (kds nd 0) 3 with
      | none =>
        refine ⟨fun _ => ?_, fun k v h e => by cases e⟩
        dsimp only
        rw [if_neg n0, ite_self, ite_self]
      | some c =>
        obtain ⟨n3, z3⟩ := nu 3 c (by omega) f3
        dsimp only
        simp only [if_pos (inR_all (nV nd b)), if_neg (po b (by omega))]
        by_cases h1 : inR (nV nd a) 1 3
        · rw [if_pos h1, if_neg (po a (by omega))]
          by_cases h2 : inR (nV nd c) 0 1
          · rw [if_pos h2, if_pos (pg c (by omega)), if_pos ⟨h1, h2⟩]
            refine ⟨fun e => (by cases e), fun k v h e => ?_⟩
            cases e
            refine ⟨Mo_set_message (Mo_set_what s (nV nd a)) (nV nd b), rfl, rfl, fun i h16 h17 => ?_, rfl, ?_⟩
            · show upd (upd s.1 16 _) 17 _ i = _
              rw [pk_un h17, pk_un h16]
            · unfold B_Mo_commanded_85
              have t : ∀ e, e < nd.length → (nmI (some e)).toNatClampNeg = e := fun e he => by
                show (nI (130 * 0 + e)).toNatClampNeg = e
                rw [z_cl (by omega)]
                omega
              rw [t a z1, t b z2, t c z3, if_neg (fun h => h.elim (po a (by omega)) (by omega)), if_neg (fun h => h.elim (po b (by omega)) (by omega)), if_neg (fun h => h.elim (po c (by omega)) (by omega))]
              rw [show Mo_value s a = nV nd a from n1, show Mo_value (Mo_set_what s (nV nd a)) b = nV nd b from n2, show Mo_value (Mo_set_message (Mo_set_what s (nV nd a)) (nV nd b)) c = nV nd c from n3]
              by_cases h3 : nV nd c = 1
              · rw [if_pos h3, if_pos (decide_eq_true h3)]
                rfl
              · rw [if_neg h3, if_neg (by rw [decide_eq_false h3]; decide)]
                rfl
          · rw [if_neg h2, if_neg n0, if_neg (fun h => h2 h.2)]
            exact ⟨fun _ => rfl, fun k v h e => by cases e⟩
        · rw [if_neg h1, if_pos ne, if_neg (fun h => h1 h.1)]
          exact ⟨fun _ => rfl, fun k v h e => by cases e⟩
