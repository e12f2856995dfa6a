/-! PURE: a step of the class's reader -/
theorem c_elem {syn ps : Nat} {src : List Nat} {b : S_Bs} {cap : Nat} {s : S_Rd} {t : S_Tr} {f : Fr} {st : List Fr} {nd : List Nd} (hb : rn b cap src) (hsy : syn ≤ 1) (hs : src.length ≤ 200) (hw : wv src.length (ps, f :: st, nd)) (hps : ps < f.2.1) (hev : st.length % 2 = 0) (h : crp syn s t (ps, f :: st, nd)) : ∃ s' t', F_Rd_readElement s b t = some (s', t') ∧ cpo syn (rEl syn src ps f st nd) s' t' := by
  obtain ⟨N, E, O, C, L, rfl, hf, tg, bh, vs, ls, cs, rfl, hT, hB, hC⟩ := h
  obtain ⟨w1, w2, w3, w4, w5, w6⟩ := hw
  dsimp only at w1 w2 w3 w4 w5 w6 hf hT hB hC
  simp only [List.length_cons] at w2
  obtain ⟨a1, a2, a3, a4, a5, a6, a7, a8⟩ := id w6
  obtain ⟨hN, hE, hO, hC', hL, hst⟩ := id hf
  have hc := rn_cap hb
  have hg := hb.2 ps
  have hk := kd_le (src.getD ps 0)
  dsimp only [lvl]
  have e0 : F_Rd_readElement (N, E, O, C, L, nI syn, nI ps, nI st.length, nI 0) b (tg, bh, vs, ls, cs, nI nd.length, nI (ch nd).length) = (if nI (src.getD ps 0) < (1 : Int32) then (B_Rd_readElement_42 b (N, E, O, C, L, nI syn, nI ps, nI st.length, nI 0) (tg, bh, vs, ls, cs, nI nd.length, nI (ch nd).length)) else (B_Rd_readElement_22 b (N, E, O, C, L, nI syn, nI ps, nI st.length, nI 0) (tg, bh, vs, ls, cs, nI nd.length, nI (ch nd).length) (nI (src.getD ps 0)) (nI (kd (src.getD ps 0))))) := by
    unfold F_Rd_readElement B_Rd_readElement_0
    dsimp only [Rd_position]
    rw [rn_get hb (by omega), Option.bind_some, c_kindOf _ hg, Option.bind_some]
  have f42 : B_Rd_readElement_42 b (N, E, O, C, L, nI syn, nI ps, nI st.length, nI 0) (tg, bh, vs, ls, cs, nI nd.length, nI (ch nd).length) = some ((N, E, O, C, L, nI syn, nI ps, nI st.length, nI (2 + 16 * ps)), (tg, bh, vs, ls, cs, nI nd.length, nI (ch nd).length)) := by
    unfold B_Rd_readElement_42
    dsimp only [Rd_position]
    rw [show (2 : Int32) = nI 2 from rfl, c_fail, Option.bind_some]
  rw [e0]
  unfold rEl
  by_cases b1 : src.getD ps 0 < 1 ∨ 200 < src.getD ps 0 ∨ src.getD ps 0 ≤ f.2.2.2.2
  · rw [if_pos (c := src.getD ps 0 < 1 ∨ 200 < src.getD ps 0 ∨ src.getD ps 0 ≤ f.2.2.2.2) b1]
    have : (if nI (src.getD ps 0) < (1 : Int32) then (B_Rd_readElement_42 b (N, E, O, C, L, nI syn, nI ps, nI st.length, nI 0) (tg, bh, vs, ls, cs, nI nd.length, nI (ch nd).length)) else (B_Rd_readElement_22 b (N, E, O, C, L, nI syn, nI ps, nI st.length, nI 0) (tg, bh, vs, ls, cs, nI nd.length, nI (ch nd).length) (nI (src.getD ps 0)) (nI (kd (src.getD ps 0))))) = some ((N, E, O, C, L, nI syn, nI ps, nI st.length, nI (2 + 16 * ps)), (tg, bh, vs, ls, cs, nI nd.length, nI (ch nd).length)) := by
      by_cases c1 : src.getD ps 0 < 1
      · rw [if_pos (by first | omega | (simp (disch := omega) only [z_lt, z_le, z_eq, z_cl, z_ad, z_mu, z_sb, z_n1, z_em, z_me, z_lm, z_ml, z_mle, z_lme, z_ma, z_am, z_m2, not_false_eq_true, z_l0, z_l1, z_l2, z_l3, z_l4, z_l5, z_l6, z_l7, z_l8, z_l10, z_l14, z_l15, z_l16, z_l32, z_l80, z_l101, z_l120, z_l126, z_l127, z_l130, z_l160, z_l198, z_l200, z_l202, z_l240, z_l252, z_l253, z_l254, z_l255, z_l260, z_l480, z_l900, Rd_nodes, Rd_ends, Rd_isOpen, Rd_counts, Rd_lastTags, Rd_syntax, Rd_position, Rd_level, Rd_result, Rd_set_nodes, Rd_set_ends, Rd_set_isOpen, Rd_set_counts, Rd_set_lastTags, Rd_set_syntax, Rd_set_position, Rd_set_level, Rd_set_result, Tr_tags, Tr_behind, Tr_values, Tr_lengths, Tr_characters, Tr_count, Tr_characterCount, Tr_set_tags, Tr_set_behind, Tr_set_values, Tr_set_lengths, Tr_set_characters, Tr_set_count, Tr_set_characterCount, Bs_n, Bs_values, Bs_count, Bs_set_n, Bs_set_values, Bs_set_count] <;> omega))]
        exact f42
      · rw [if_neg (by first | omega | (simp (disch := omega) only [z_lt, z_le, z_eq, z_cl, z_ad, z_mu, z_sb, z_n1, z_em, z_me, z_lm, z_ml, z_mle, z_lme, z_ma, z_am, z_m2, not_false_eq_true, z_l0, z_l1, z_l2, z_l3, z_l4, z_l5, z_l6, z_l7, z_l8, z_l10, z_l14, z_l15, z_l16, z_l32, z_l80, z_l101, z_l120, z_l126, z_l127, z_l130, z_l160, z_l198, z_l200, z_l202, z_l240, z_l252, z_l253, z_l254, z_l255, z_l260, z_l480, z_l900, Rd_nodes, Rd_ends, Rd_isOpen, Rd_counts, Rd_lastTags, Rd_syntax, Rd_position, Rd_level, Rd_result, Rd_set_nodes, Rd_set_ends, Rd_set_isOpen, Rd_set_counts, Rd_set_lastTags, Rd_set_syntax, Rd_set_position, Rd_set_level, Rd_set_result, Tr_tags, Tr_behind, Tr_values, Tr_lengths, Tr_characters, Tr_count, Tr_characterCount, Tr_set_tags, Tr_set_behind, Tr_set_values, Tr_set_lengths, Tr_set_characters, Tr_set_count, Tr_set_characterCount, Bs_n, Bs_values, Bs_count, Bs_set_n, Bs_set_values, Bs_set_count] <;> omega))]
        unfold B_Rd_readElement_22
        by_cases c2 : 200 < src.getD ps 0
        · rw [if_pos (by first | omega | (simp (disch := omega) only [z_lt, z_le, z_eq, z_cl, z_ad, z_mu, z_sb, z_n1, z_em, z_me, z_lm, z_ml, z_mle, z_lme, z_ma, z_am, z_m2, not_false_eq_true, z_l0, z_l1, z_l2, z_l3, z_l4, z_l5, z_l6, z_l7, z_l8, z_l10, z_l14, z_l15, z_l16, z_l32, z_l80, z_l101, z_l120, z_l126, z_l127, z_l130, z_l160, z_l198, z_l200, z_l202, z_l240, z_l252, z_l253, z_l254, z_l255, z_l260, z_l480, z_l900, Rd_nodes, Rd_ends, Rd_isOpen, Rd_counts, Rd_lastTags, Rd_syntax, Rd_position, Rd_level, Rd_result, Rd_set_nodes, Rd_set_ends, Rd_set_isOpen, Rd_set_counts, Rd_set_lastTags, Rd_set_syntax, Rd_set_position, Rd_set_level, Rd_set_result, Tr_tags, Tr_behind, Tr_values, Tr_lengths, Tr_characters, Tr_count, Tr_characterCount, Tr_set_tags, Tr_set_behind, Tr_set_values, Tr_set_lengths, Tr_set_characters, Tr_set_count, Tr_set_characterCount, Bs_n, Bs_values, Bs_count, Bs_set_n, Bs_set_values, Bs_set_count] <;> omega))]
          exact f42
        · rw [if_neg (by first | omega | (simp (disch := omega) only [z_lt, z_le, z_eq, z_cl, z_ad, z_mu, z_sb, z_n1, z_em, z_me, z_lm, z_ml, z_mle, z_lme, z_ma, z_am, z_m2, not_false_eq_true, z_l0, z_l1, z_l2, z_l3, z_l4, z_l5, z_l6, z_l7, z_l8, z_l10, z_l14, z_l15, z_l16, z_l32, z_l80, z_l101, z_l120, z_l126, z_l127, z_l130, z_l160, z_l198, z_l200, z_l202, z_l240, z_l252, z_l253, z_l254, z_l255, z_l260, z_l480, z_l900, Rd_nodes, Rd_ends, Rd_isOpen, Rd_counts, Rd_lastTags, Rd_syntax, Rd_position, Rd_level, Rd_result, Rd_set_nodes, Rd_set_ends, Rd_set_isOpen, Rd_set_counts, Rd_set_lastTags, Rd_set_syntax, Rd_set_position, Rd_set_level, Rd_set_result, Tr_tags, Tr_behind, Tr_values, Tr_lengths, Tr_characters, Tr_count, Tr_characterCount, Tr_set_tags, Tr_set_behind, Tr_set_values, Tr_set_lengths, Tr_set_characters, Tr_set_count, Tr_set_characterCount, Bs_n, Bs_values, Bs_count, Bs_set_n, Bs_set_values, Bs_set_count] <;> omega))]
          unfold B_Rd_readElement_29
          rw [if_neg (by first | omega | (simp (disch := omega) only [z_lt, z_le, z_eq, z_cl, z_ad, z_mu, z_sb, z_n1, z_em, z_me, z_lm, z_ml, z_mle, z_lme, z_ma, z_am, z_m2, not_false_eq_true, z_l0, z_l1, z_l2, z_l3, z_l4, z_l5, z_l6, z_l7, z_l8, z_l10, z_l14, z_l15, z_l16, z_l32, z_l80, z_l101, z_l120, z_l126, z_l127, z_l130, z_l160, z_l198, z_l200, z_l202, z_l240, z_l252, z_l253, z_l254, z_l255, z_l260, z_l480, z_l900, Rd_nodes, Rd_ends, Rd_isOpen, Rd_counts, Rd_lastTags, Rd_syntax, Rd_position, Rd_level, Rd_result, Rd_set_nodes, Rd_set_ends, Rd_set_isOpen, Rd_set_counts, Rd_set_lastTags, Rd_set_syntax, Rd_set_position, Rd_set_level, Rd_set_result, Tr_tags, Tr_behind, Tr_values, Tr_lengths, Tr_characters, Tr_count, Tr_characterCount, Tr_set_tags, Tr_set_behind, Tr_set_values, Tr_set_lengths, Tr_set_characters, Tr_set_count, Tr_set_characterCount, Bs_n, Bs_values, Bs_count, Bs_set_n, Bs_set_values, Bs_set_count] <;> omega))]
          rw [if_neg (by first | omega | (simp (disch := omega) only [z_lt, z_le, z_eq, z_cl, z_ad, z_mu, z_sb, z_n1, z_em, z_me, z_lm, z_ml, z_mle, z_lme, z_ma, z_am, z_m2, not_false_eq_true, z_l0, z_l1, z_l2, z_l3, z_l4, z_l5, z_l6, z_l7, z_l8, z_l10, z_l14, z_l15, z_l16, z_l32, z_l80, z_l101, z_l120, z_l126, z_l127, z_l130, z_l160, z_l198, z_l200, z_l202, z_l240, z_l252, z_l253, z_l254, z_l255, z_l260, z_l480, z_l900, Rd_nodes, Rd_ends, Rd_isOpen, Rd_counts, Rd_lastTags, Rd_syntax, Rd_position, Rd_level, Rd_result, Rd_set_nodes, Rd_set_ends, Rd_set_isOpen, Rd_set_counts, Rd_set_lastTags, Rd_set_syntax, Rd_set_position, Rd_set_level, Rd_set_result, Tr_tags, Tr_behind, Tr_values, Tr_lengths, Tr_characters, Tr_count, Tr_characterCount, Tr_set_tags, Tr_set_behind, Tr_set_values, Tr_set_lengths, Tr_set_characters, Tr_set_count, Tr_set_characterCount, Bs_n, Bs_values, Bs_count, Bs_set_n, Bs_set_values, Bs_set_count, hL] <;> omega))]
          exact f42
    rw [this]
    exact ⟨_, _, rfl, rfl⟩
  · rw [if_neg (c := src.getD ps 0 < 1 ∨ 200 < src.getD ps 0 ∨ src.getD ps 0 ≤ f.2.2.2.2) b1]
    rw [if_neg (by first | omega | (simp (disch := omega) only [z_lt, z_le, z_eq, z_cl, z_ad, z_mu, z_sb, z_n1, z_em, z_me, z_lm, z_ml, z_mle, z_lme, z_ma, z_am, z_m2, not_false_eq_true, z_l0, z_l1, z_l2, z_l3, z_l4, z_l5, z_l6, z_l7, z_l8, z_l10, z_l14, z_l15, z_l16, z_l32, z_l80, z_l101, z_l120, z_l126, z_l127, z_l130, z_l160, z_l198, z_l200, z_l202, z_l240, z_l252, z_l253, z_l254, z_l255, z_l260, z_l480, z_l900, Rd_nodes, Rd_ends, Rd_isOpen, Rd_counts, Rd_lastTags, Rd_syntax, Rd_position, Rd_level, Rd_result, Rd_set_nodes, Rd_set_ends, Rd_set_isOpen, Rd_set_counts, Rd_set_lastTags, Rd_set_syntax, Rd_set_position, Rd_set_level, Rd_set_result, Tr_tags, Tr_behind, Tr_values, Tr_lengths, Tr_characters, Tr_count, Tr_characterCount, Tr_set_tags, Tr_set_behind, Tr_set_values, Tr_set_lengths, Tr_set_characters, Tr_set_count, Tr_set_characterCount, Bs_n, Bs_values, Bs_count, Bs_set_n, Bs_set_values, Bs_set_count] <;> omega))]
    unfold B_Rd_readElement_22
    rw [if_neg (by first | omega | (simp (disch := omega) only [z_lt, z_le, z_eq, z_cl, z_ad, z_mu, z_sb, z_n1, z_em, z_me, z_lm, z_ml, z_mle, z_lme, z_ma, z_am, z_m2, not_false_eq_true, z_l0, z_l1, z_l2, z_l3, z_l4, z_l5, z_l6, z_l7, z_l8, z_l10, z_l14, z_l15, z_l16, z_l32, z_l80, z_l101, z_l120, z_l126, z_l127, z_l130, z_l160, z_l198, z_l200, z_l202, z_l240, z_l252, z_l253, z_l254, z_l255, z_l260, z_l480, z_l900, Rd_nodes, Rd_ends, Rd_isOpen, Rd_counts, Rd_lastTags, Rd_syntax, Rd_position, Rd_level, Rd_result, Rd_set_nodes, Rd_set_ends, Rd_set_isOpen, Rd_set_counts, Rd_set_lastTags, Rd_set_syntax, Rd_set_position, Rd_set_level, Rd_set_result, Tr_tags, Tr_behind, Tr_values, Tr_lengths, Tr_characters, Tr_count, Tr_characterCount, Tr_set_tags, Tr_set_behind, Tr_set_values, Tr_set_lengths, Tr_set_characters, Tr_set_count, Tr_set_characterCount, Bs_n, Bs_values, Bs_count, Bs_set_n, Bs_set_values, Bs_set_count] <;> omega))]
    unfold B_Rd_readElement_29
    rw [if_neg (by first | omega | (simp (disch := omega) only [z_lt, z_le, z_eq, z_cl, z_ad, z_mu, z_sb, z_n1, z_em, z_me, z_lm, z_ml, z_mle, z_lme, z_ma, z_am, z_m2, not_false_eq_true, z_l0, z_l1, z_l2, z_l3, z_l4, z_l5, z_l6, z_l7, z_l8, z_l10, z_l14, z_l15, z_l16, z_l32, z_l80, z_l101, z_l120, z_l126, z_l127, z_l130, z_l160, z_l198, z_l200, z_l202, z_l240, z_l252, z_l253, z_l254, z_l255, z_l260, z_l480, z_l900, Rd_nodes, Rd_ends, Rd_isOpen, Rd_counts, Rd_lastTags, Rd_syntax, Rd_position, Rd_level, Rd_result, Rd_set_nodes, Rd_set_ends, Rd_set_isOpen, Rd_set_counts, Rd_set_lastTags, Rd_set_syntax, Rd_set_position, Rd_set_level, Rd_set_result, Tr_tags, Tr_behind, Tr_values, Tr_lengths, Tr_characters, Tr_count, Tr_characterCount, Tr_set_tags, Tr_set_behind, Tr_set_values, Tr_set_lengths, Tr_set_characters, Tr_set_count, Tr_set_characterCount, Bs_n, Bs_values, Bs_count, Bs_set_n, Bs_set_values, Bs_set_count] <;> omega))]
    rw [if_pos (by first | omega | (simp (disch := omega) only [z_lt, z_le, z_eq, z_cl, z_ad, z_mu, z_sb, z_n1, z_em, z_me, z_lm, z_ml, z_mle, z_lme, z_ma, z_am, z_m2, not_false_eq_true, z_l0, z_l1, z_l2, z_l3, z_l4, z_l5, z_l6, z_l7, z_l8, z_l10, z_l14, z_l15, z_l16, z_l32, z_l80, z_l101, z_l120, z_l126, z_l127, z_l130, z_l160, z_l198, z_l200, z_l202, z_l240, z_l252, z_l253, z_l254, z_l255, z_l260, z_l480, z_l900, Rd_nodes, Rd_ends, Rd_isOpen, Rd_counts, Rd_lastTags, Rd_syntax, Rd_position, Rd_level, Rd_result, Rd_set_nodes, Rd_set_ends, Rd_set_isOpen, Rd_set_counts, Rd_set_lastTags, Rd_set_syntax, Rd_set_position, Rd_set_level, Rd_set_result, Tr_tags, Tr_behind, Tr_values, Tr_lengths, Tr_characters, Tr_count, Tr_characterCount, Tr_set_tags, Tr_set_behind, Tr_set_values, Tr_set_lengths, Tr_set_characters, Tr_set_count, Tr_set_characterCount, Bs_n, Bs_values, Bs_count, Bs_set_n, Bs_set_values, Bs_set_count, hL] <;> omega))]
    unfold B_Rd_readElement_52
    rw [if_neg (by first | omega | (simp (disch := omega) only [z_lt, z_le, z_eq, z_cl, z_ad, z_mu, z_sb, z_n1, z_em, z_me, z_lm, z_ml, z_mle, z_lme, z_ma, z_am, z_m2, not_false_eq_true, z_l0, z_l1, z_l2, z_l3, z_l4, z_l5, z_l6, z_l7, z_l8, z_l10, z_l14, z_l15, z_l16, z_l32, z_l80, z_l101, z_l120, z_l126, z_l127, z_l130, z_l160, z_l198, z_l200, z_l202, z_l240, z_l252, z_l253, z_l254, z_l255, z_l260, z_l480, z_l900, Rd_nodes, Rd_ends, Rd_isOpen, Rd_counts, Rd_lastTags, Rd_syntax, Rd_position, Rd_level, Rd_result, Rd_set_nodes, Rd_set_ends, Rd_set_isOpen, Rd_set_counts, Rd_set_lastTags, Rd_set_syntax, Rd_set_position, Rd_set_level, Rd_set_result, Tr_tags, Tr_behind, Tr_values, Tr_lengths, Tr_characters, Tr_count, Tr_characterCount, Tr_set_tags, Tr_set_behind, Tr_set_values, Tr_set_lengths, Tr_set_characters, Tr_set_count, Tr_set_characterCount, Bs_n, Bs_values, Bs_count, Bs_set_n, Bs_set_values, Bs_set_count] <;> omega))]
    by_cases b2 : f.2.2.2.1 = 10
    · rw [if_pos (c := f.2.2.2.1 = 10) b2]
      rw [if_pos (by first | omega | (simp (disch := omega) only [z_lt, z_le, z_eq, z_cl, z_ad, z_mu, z_sb, z_n1, z_em, z_me, z_lm, z_ml, z_mle, z_lme, z_ma, z_am, z_m2, not_false_eq_true, z_l0, z_l1, z_l2, z_l3, z_l4, z_l5, z_l6, z_l7, z_l8, z_l10, z_l14, z_l15, z_l16, z_l32, z_l80, z_l101, z_l120, z_l126, z_l127, z_l130, z_l160, z_l198, z_l200, z_l202, z_l240, z_l252, z_l253, z_l254, z_l255, z_l260, z_l480, z_l900, Rd_nodes, Rd_ends, Rd_isOpen, Rd_counts, Rd_lastTags, Rd_syntax, Rd_position, Rd_level, Rd_result, Rd_set_nodes, Rd_set_ends, Rd_set_isOpen, Rd_set_counts, Rd_set_lastTags, Rd_set_syntax, Rd_set_position, Rd_set_level, Rd_set_result, Tr_tags, Tr_behind, Tr_values, Tr_lengths, Tr_characters, Tr_count, Tr_characterCount, Tr_set_tags, Tr_set_behind, Tr_set_values, Tr_set_lengths, Tr_set_characters, Tr_set_count, Tr_set_characterCount, Bs_n, Bs_values, Bs_count, Bs_set_n, Bs_set_values, Bs_set_count, hC', b2] <;> omega))]
      unfold B_Rd_readElement_66
      dsimp only [Rd_position]
      rw [show (7 : Int32) = nI 7 from rfl, c_fail, Option.bind_some]
      exact ⟨_, _, rfl, rfl⟩
    · rw [if_neg (c := f.2.2.2.1 = 10) b2]
      rw [if_neg (by first | omega | (simp (disch := omega) only [z_lt, z_le, z_eq, z_cl, z_ad, z_mu, z_sb, z_n1, z_em, z_me, z_lm, z_ml, z_mle, z_lme, z_ma, z_am, z_m2, not_false_eq_true, z_l0, z_l1, z_l2, z_l3, z_l4, z_l5, z_l6, z_l7, z_l8, z_l10, z_l14, z_l15, z_l16, z_l32, z_l80, z_l101, z_l120, z_l126, z_l127, z_l130, z_l160, z_l198, z_l200, z_l202, z_l240, z_l252, z_l253, z_l254, z_l255, z_l260, z_l480, z_l900, Rd_nodes, Rd_ends, Rd_isOpen, Rd_counts, Rd_lastTags, Rd_syntax, Rd_position, Rd_level, Rd_result, Rd_set_nodes, Rd_set_ends, Rd_set_isOpen, Rd_set_counts, Rd_set_lastTags, Rd_set_syntax, Rd_set_position, Rd_set_level, Rd_set_result, Tr_tags, Tr_behind, Tr_values, Tr_lengths, Tr_characters, Tr_count, Tr_characterCount, Tr_set_tags, Tr_set_behind, Tr_set_values, Tr_set_lengths, Tr_set_characters, Tr_set_count, Tr_set_characterCount, Bs_n, Bs_values, Bs_count, Bs_set_n, Bs_set_values, Bs_set_count, hC'] <;> omega))]
      have e77 : ¬ (kd (src.getD ps 0) = 3 ∧ st.length = 4) → B_Rd_readElement_77 b (N, E, O, C, L, nI syn, nI ps, nI st.length, nI 0) (tg, bh, vs, ls, cs, nI nd.length, nI (ch nd).length) (nI (src.getD ps 0)) (nI (kd (src.getD ps 0))) = (F_Rd_readKind (N, E, O, upd C st.length (nI (f.2.2.2.1 + 1)), upd L st.length (nI (src.getD ps 0)), nI syn, nI (ps + 1), nI st.length, nI 0) b (nI (kd (src.getD ps 0)))).bind (fun o4 => (if o4.1 = 0 then (B_Rd_readElement_142 b o4.2 (tg, bh, vs, ls, cs, nI nd.length, nI (ch nd).length)) else (B_Rd_readElement_143 b o4.2 (tg, bh, vs, ls, cs, nI nd.length, nI (ch nd).length) (nI (src.getD ps 0)) (nI (kd (src.getD ps 0)))))) := by
        intro b3
        have e101 : B_Rd_readElement_101 b (N, E, O, C, L, nI syn, nI ps, nI st.length, nI 0) (tg, bh, vs, ls, cs, nI nd.length, nI (ch nd).length) (nI (src.getD ps 0)) (nI (kd (src.getD ps 0))) = (F_Rd_readKind (N, E, O, upd C st.length (nI (f.2.2.2.1 + 1)), upd L st.length (nI (src.getD ps 0)), nI syn, nI (ps + 1), nI st.length, nI 0) b (nI (kd (src.getD ps 0)))).bind (fun o4 => (if o4.1 = 0 then (B_Rd_readElement_142 b o4.2 (tg, bh, vs, ls, cs, nI nd.length, nI (ch nd).length)) else (B_Rd_readElement_143 b o4.2 (tg, bh, vs, ls, cs, nI nd.length, nI (ch nd).length) (nI (src.getD ps 0)) (nI (kd (src.getD ps 0)))))) := by
          unfold B_Rd_readElement_101
          rw [if_neg (by first | omega | (simp (disch := omega) only [z_lt, z_le, z_eq, z_cl, z_ad, z_mu, z_sb, z_n1, z_em, z_me, z_lm, z_ml, z_mle, z_lme, z_ma, z_am, z_m2, not_false_eq_true, z_l0, z_l1, z_l2, z_l3, z_l4, z_l5, z_l6, z_l7, z_l8, z_l10, z_l14, z_l15, z_l16, z_l32, z_l80, z_l101, z_l120, z_l126, z_l127, z_l130, z_l160, z_l198, z_l200, z_l202, z_l240, z_l252, z_l253, z_l254, z_l255, z_l260, z_l480, z_l900, Rd_nodes, Rd_ends, Rd_isOpen, Rd_counts, Rd_lastTags, Rd_syntax, Rd_position, Rd_level, Rd_result, Rd_set_nodes, Rd_set_ends, Rd_set_isOpen, Rd_set_counts, Rd_set_lastTags, Rd_set_syntax, Rd_set_position, Rd_set_level, Rd_set_result, Tr_tags, Tr_behind, Tr_values, Tr_lengths, Tr_characters, Tr_count, Tr_characterCount, Tr_set_tags, Tr_set_behind, Tr_set_values, Tr_set_lengths, Tr_set_characters, Tr_set_count, Tr_set_characterCount, Bs_n, Bs_values, Bs_count, Bs_set_n, Bs_set_values, Bs_set_count] <;> omega))]
          rw [if_neg (by first | omega | (simp (disch := omega) only [z_lt, z_le, z_eq, z_cl, z_ad, z_mu, z_sb, z_n1, z_em, z_me, z_lm, z_ml, z_mle, z_lme, z_ma, z_am, z_m2, not_false_eq_true, z_l0, z_l1, z_l2, z_l3, z_l4, z_l5, z_l6, z_l7, z_l8, z_l10, z_l14, z_l15, z_l16, z_l32, z_l80, z_l101, z_l120, z_l126, z_l127, z_l130, z_l160, z_l198, z_l200, z_l202, z_l240, z_l252, z_l253, z_l254, z_l255, z_l260, z_l480, z_l900, Rd_nodes, Rd_ends, Rd_isOpen, Rd_counts, Rd_lastTags, Rd_syntax, Rd_position, Rd_level, Rd_result, Rd_set_nodes, Rd_set_ends, Rd_set_isOpen, Rd_set_counts, Rd_set_lastTags, Rd_set_syntax, Rd_set_position, Rd_set_level, Rd_set_result, Tr_tags, Tr_behind, Tr_values, Tr_lengths, Tr_characters, Tr_count, Tr_characterCount, Tr_set_tags, Tr_set_behind, Tr_set_values, Tr_set_lengths, Tr_set_characters, Tr_set_count, Tr_set_characterCount, Bs_n, Bs_values, Bs_count, Bs_set_n, Bs_set_values, Bs_set_count] <;> omega))]
          rw [if_neg (by first | omega | (simp (disch := omega) only [z_lt, z_le, z_eq, z_cl, z_ad, z_mu, z_sb, z_n1, z_em, z_me, z_lm, z_ml, z_mle, z_lme, z_ma, z_am, z_m2, not_false_eq_true, z_l0, z_l1, z_l2, z_l3, z_l4, z_l5, z_l6, z_l7, z_l8, z_l10, z_l14, z_l15, z_l16, z_l32, z_l80, z_l101, z_l120, z_l126, z_l127, z_l130, z_l160, z_l198, z_l200, z_l202, z_l240, z_l252, z_l253, z_l254, z_l255, z_l260, z_l480, z_l900, Rd_nodes, Rd_ends, Rd_isOpen, Rd_counts, Rd_lastTags, Rd_syntax, Rd_position, Rd_level, Rd_result, Rd_set_nodes, Rd_set_ends, Rd_set_isOpen, Rd_set_counts, Rd_set_lastTags, Rd_set_syntax, Rd_set_position, Rd_set_level, Rd_set_result, Tr_tags, Tr_behind, Tr_values, Tr_lengths, Tr_characters, Tr_count, Tr_characterCount, Tr_set_tags, Tr_set_behind, Tr_set_values, Tr_set_lengths, Tr_set_characters, Tr_set_count, Tr_set_characterCount, Bs_n, Bs_values, Bs_count, Bs_set_n, Bs_set_values, Bs_set_count] <;> omega))]
          simp (disch := omega) only [z_lt, z_le, z_eq, z_cl, z_ad, z_mu, z_sb, z_n1, z_em, z_me, z_lm, z_ml, z_mle, z_lme, z_ma, z_am, z_m2, not_false_eq_true, z_l0, z_l1, z_l2, z_l3, z_l4, z_l5, z_l6, z_l7, z_l8, z_l10, z_l14, z_l15, z_l16, z_l32, z_l80, z_l101, z_l120, z_l126, z_l127, z_l130, z_l160, z_l198, z_l200, z_l202, z_l240, z_l252, z_l253, z_l254, z_l255, z_l260, z_l480, z_l900, Rd_nodes, Rd_ends, Rd_isOpen, Rd_counts, Rd_lastTags, Rd_syntax, Rd_position, Rd_level, Rd_result, Rd_set_nodes, Rd_set_ends, Rd_set_isOpen, Rd_set_counts, Rd_set_lastTags, Rd_set_syntax, Rd_set_position, Rd_set_level, Rd_set_result, Tr_tags, Tr_behind, Tr_values, Tr_lengths, Tr_characters, Tr_count, Tr_characterCount, Tr_set_tags, Tr_set_behind, Tr_set_values, Tr_set_lengths, Tr_set_characters, Tr_set_count, Tr_set_characterCount, Bs_n, Bs_values, Bs_count, Bs_set_n, Bs_set_values, Bs_set_count, hC']
        unfold B_Rd_readElement_77
        by_cases c1 : kd (src.getD ps 0) = 3
        · rw [if_pos (by first | omega | (simp (disch := omega) only [z_lt, z_le, z_eq, z_cl, z_ad, z_mu, z_sb, z_n1, z_em, z_me, z_lm, z_ml, z_mle, z_lme, z_ma, z_am, z_m2, not_false_eq_true, z_l0, z_l1, z_l2, z_l3, z_l4, z_l5, z_l6, z_l7, z_l8, z_l10, z_l14, z_l15, z_l16, z_l32, z_l80, z_l101, z_l120, z_l126, z_l127, z_l130, z_l160, z_l198, z_l200, z_l202, z_l240, z_l252, z_l253, z_l254, z_l255, z_l260, z_l480, z_l900, Rd_nodes, Rd_ends, Rd_isOpen, Rd_counts, Rd_lastTags, Rd_syntax, Rd_position, Rd_level, Rd_result, Rd_set_nodes, Rd_set_ends, Rd_set_isOpen, Rd_set_counts, Rd_set_lastTags, Rd_set_syntax, Rd_set_position, Rd_set_level, Rd_set_result, Tr_tags, Tr_behind, Tr_values, Tr_lengths, Tr_characters, Tr_count, Tr_characterCount, Tr_set_tags, Tr_set_behind, Tr_set_values, Tr_set_lengths, Tr_set_characters, Tr_set_count, Tr_set_characterCount, Bs_n, Bs_values, Bs_count, Bs_set_n, Bs_set_values, Bs_set_count, c1] <;> omega))]
          unfold B_Rd_readElement_82
          rw [if_neg (by first | omega | (simp (disch := omega) only [z_lt, z_le, z_eq, z_cl, z_ad, z_mu, z_sb, z_n1, z_em, z_me, z_lm, z_ml, z_mle, z_lme, z_ma, z_am, z_m2, not_false_eq_true, z_l0, z_l1, z_l2, z_l3, z_l4, z_l5, z_l6, z_l7, z_l8, z_l10, z_l14, z_l15, z_l16, z_l32, z_l80, z_l101, z_l120, z_l126, z_l127, z_l130, z_l160, z_l198, z_l200, z_l202, z_l240, z_l252, z_l253, z_l254, z_l255, z_l260, z_l480, z_l900, Rd_nodes, Rd_ends, Rd_isOpen, Rd_counts, Rd_lastTags, Rd_syntax, Rd_position, Rd_level, Rd_result, Rd_set_nodes, Rd_set_ends, Rd_set_isOpen, Rd_set_counts, Rd_set_lastTags, Rd_set_syntax, Rd_set_position, Rd_set_level, Rd_set_result, Tr_tags, Tr_behind, Tr_values, Tr_lengths, Tr_characters, Tr_count, Tr_characterCount, Tr_set_tags, Tr_set_behind, Tr_set_values, Tr_set_lengths, Tr_set_characters, Tr_set_count, Tr_set_characterCount, Bs_n, Bs_values, Bs_count, Bs_set_n, Bs_set_values, Bs_set_count] <;> omega))]
          exact e101
        · rw [if_neg (by first | omega | (simp (disch := omega) only [z_lt, z_le, z_eq, z_cl, z_ad, z_mu, z_sb, z_n1, z_em, z_me, z_lm, z_ml, z_mle, z_lme, z_ma, z_am, z_m2, not_false_eq_true, z_l0, z_l1, z_l2, z_l3, z_l4, z_l5, z_l6, z_l7, z_l8, z_l10, z_l14, z_l15, z_l16, z_l32, z_l80, z_l101, z_l120, z_l126, z_l127, z_l130, z_l160, z_l198, z_l200, z_l202, z_l240, z_l252, z_l253, z_l254, z_l255, z_l260, z_l480, z_l900, Rd_nodes, Rd_ends, Rd_isOpen, Rd_counts, Rd_lastTags, Rd_syntax, Rd_position, Rd_level, Rd_result, Rd_set_nodes, Rd_set_ends, Rd_set_isOpen, Rd_set_counts, Rd_set_lastTags, Rd_set_syntax, Rd_set_position, Rd_set_level, Rd_set_result, Tr_tags, Tr_behind, Tr_values, Tr_lengths, Tr_characters, Tr_count, Tr_characterCount, Tr_set_tags, Tr_set_behind, Tr_set_values, Tr_set_lengths, Tr_set_characters, Tr_set_count, Tr_set_characterCount, Bs_n, Bs_values, Bs_count, Bs_set_n, Bs_set_values, Bs_set_count, c1] <;> omega))]
          exact e101
      by_cases b3 : kd (src.getD ps 0) = 3 ∧ st.length = 4
      · rw [if_pos b3]
        unfold B_Rd_readElement_77
        rw [if_pos (by first | omega | (simp (disch := omega) only [z_lt, z_le, z_eq, z_cl, z_ad, z_mu, z_sb, z_n1, z_em, z_me, z_lm, z_ml, z_mle, z_lme, z_ma, z_am, z_m2, not_false_eq_true, z_l0, z_l1, z_l2, z_l3, z_l4, z_l5, z_l6, z_l7, z_l8, z_l10, z_l14, z_l15, z_l16, z_l32, z_l80, z_l101, z_l120, z_l126, z_l127, z_l130, z_l160, z_l198, z_l200, z_l202, z_l240, z_l252, z_l253, z_l254, z_l255, z_l260, z_l480, z_l900, Rd_nodes, Rd_ends, Rd_isOpen, Rd_counts, Rd_lastTags, Rd_syntax, Rd_position, Rd_level, Rd_result, Rd_set_nodes, Rd_set_ends, Rd_set_isOpen, Rd_set_counts, Rd_set_lastTags, Rd_set_syntax, Rd_set_position, Rd_set_level, Rd_set_result, Tr_tags, Tr_behind, Tr_values, Tr_lengths, Tr_characters, Tr_count, Tr_characterCount, Tr_set_tags, Tr_set_behind, Tr_set_values, Tr_set_lengths, Tr_set_characters, Tr_set_count, Tr_set_characterCount, Bs_n, Bs_values, Bs_count, Bs_set_n, Bs_set_values, Bs_set_count, b3.1] <;> omega))]
        unfold B_Rd_readElement_82
        rw [if_pos (by first | omega | (simp (disch := omega) only [z_lt, z_le, z_eq, z_cl, z_ad, z_mu, z_sb, z_n1, z_em, z_me, z_lm, z_ml, z_mle, z_lme, z_ma, z_am, z_m2, not_false_eq_true, z_l0, z_l1, z_l2, z_l3, z_l4, z_l5, z_l6, z_l7, z_l8, z_l10, z_l14, z_l15, z_l16, z_l32, z_l80, z_l101, z_l120, z_l126, z_l127, z_l130, z_l160, z_l198, z_l200, z_l202, z_l240, z_l252, z_l253, z_l254, z_l255, z_l260, z_l480, z_l900, Rd_nodes, Rd_ends, Rd_isOpen, Rd_counts, Rd_lastTags, Rd_syntax, Rd_position, Rd_level, Rd_result, Rd_set_nodes, Rd_set_ends, Rd_set_isOpen, Rd_set_counts, Rd_set_lastTags, Rd_set_syntax, Rd_set_position, Rd_set_level, Rd_set_result, Tr_tags, Tr_behind, Tr_values, Tr_lengths, Tr_characters, Tr_count, Tr_characterCount, Tr_set_tags, Tr_set_behind, Tr_set_values, Tr_set_lengths, Tr_set_characters, Tr_set_count, Tr_set_characterCount, Bs_n, Bs_values, Bs_count, Bs_set_n, Bs_set_values, Bs_set_count, b3.2] <;> omega))]
        unfold B_Rd_readElement_90
        dsimp only [Rd_position]
        rw [show (8 : Int32) = nI 8 from rfl, c_fail, Option.bind_some]
        exact ⟨_, _, rfl, rfl⟩
      · rw [if_neg b3, e77 b3]
        have hf' : frp N E O (upd C st.length (nI (f.2.2.2.1 + 1))) (upd L st.length (nI (src.getD ps 0))) ((f.1, f.2.1, f.2.2.1, f.2.2.2.1 + 1, src.getD ps 0) :: st) := by
          refine ⟨hN, hE, hO, pk_us, pk_us, frp_c hst (fun l hl => ?_)⟩
          rw [pk_un (by omega), pk_un (by omega)]
          exact ⟨rfl, rfl, rfl, rfl, rfl⟩
        have hch' : chn src.length nd ((f.1, f.2.1, f.2.2.1, f.2.2.2.1 + 1, src.getD ps 0) :: st) := ⟨a1, a2, a3, a4, a5, by dsimp only; omega, by dsimp only; omega, a8⟩
        have h34 : kd (src.getD ps 0) ≤ 3 := by
          unfold kd
          split
          · omega
          · split
            · omega
            · split <;> omega
        by_cases b4 : syn = 0
        · subst b4
          by_cases b5 : f.2.1 ≤ ps + 1
          · rw [if_pos ⟨rfl, b5⟩, c_rk2 (by omega) hE (by omega) (by omega) b5, Option.bind_some, if_pos rfl]
            exact ⟨_, _, rfl, rfl⟩
          · rw [if_neg (fun e => b5 e.2)]
            by_cases b6 : src.getD (ps + 1) 0 = kd (src.getD ps 0)
            · rw [if_neg (fun e => e.2 b6), if_pos rfl, c_rk4 hb (by omega) hE (by omega) (by omega) (by omega) b6, Option.bind_some, if_neg (by exact (by decide : ¬ (1 : Int32) = 0))]
              exact c_ln (f := (f.1, f.2.1, f.2.2.1, f.2.2.2.1 + 1, src.getD ps 0)) hb hg (by omega) (fun e => by omega) (by omega) hs a4 (by dsimp only; omega) hf' hT hB hC hch' h34
            · rw [if_pos ⟨rfl, b6⟩, c_rk3 hb (by omega) hE (by omega) (by omega) (by omega) b6, Option.bind_some, if_pos rfl]
              exact ⟨_, _, rfl, rfl⟩
        · have : syn = 1 := by omega
          subst this
          rw [if_neg (fun e => b4 e.1), if_neg (fun e => b4 e.1), if_neg b4, c_rk1, Option.bind_some, if_neg (by exact (by decide : ¬ (1 : Int32) = 0))]
          exact c_ln (f := (f.1, f.2.1, f.2.2.1, f.2.2.2.1 + 1, src.getD ps 0)) hb hg (by omega) (fun e => by omega) (by omega) hs a4 (by dsimp only; omega) hf' hT hB hC hch' h34
theorem c_item {syn ps : Nat} {src : List Nat} {b : S_Bs} {cap : Nat} {s : S_Rd} {t : S_Tr} {f : Fr} {st : List Fr} {nd : List Nd} (hb : rn b cap src) (hs : src.length ≤ 200) (hw : wv src.length (ps, f :: st, nd)) (hps : ps < f.2.1) (hodd : ¬ st.length % 2 = 0) (h : crp syn s t (ps, f :: st, nd)) : ∃ s' t', F_Rd_readItem s b t = some (s', t') ∧ cpo syn (rIt src ps f st nd) s' t' := by
  obtain ⟨N, E, O, C, L, rfl, hf, tg, bh, vs, ls, cs, rfl, hT, hB, hC⟩ := h
  obtain ⟨w1, w2, w3, w4, w5, w6⟩ := hw
  dsimp only at w1 w2 w3 w4 w5 w6 hf hT hB hC
  simp only [List.length_cons] at w2
  obtain ⟨a1, a2, a3, a4, a5, a6, a7, a8⟩ := id w6
  obtain ⟨hN, hE, hO, hC', hL, hst⟩ := id hf
  have hc := rn_cap hb
  have hg := hb.2 ps
  have hg1 := hb.2 (ps + 1)
  dsimp only [lvl]
  have hk4 : kd 254 = 4 := rfl
  have e0 : F_Rd_readItem (N, E, O, C, L, nI syn, nI ps, nI st.length, nI 0) b (tg, bh, vs, ls, cs, nI nd.length, nI (ch nd).length) = (if nI (src.getD ps 0) = (254 : Int32) then (B_Rd_readItem_28 b (N, E, O, C, L, nI syn, nI ps, nI st.length, nI 0) (tg, bh, vs, ls, cs, nI nd.length, nI (ch nd).length)) else (B_Rd_readItem_17 b (N, E, O, C, L, nI syn, nI ps, nI st.length, nI 0) (tg, bh, vs, ls, cs, nI nd.length, nI (ch nd).length))) := by
    unfold F_Rd_readItem B_Rd_readItem_0
    dsimp only [Rd_position]
    rw [rn_get hb (by omega), Option.bind_some]
  rw [e0]
  unfold rIt
  by_cases b1 : src.getD ps 0 = 254
  · rw [if_neg (c := src.getD ps 0 ≠ 254) (fun e => e b1)]
    rw [if_pos (by first | omega | (simp (disch := omega) only [z_lt, z_le, z_eq, z_cl, z_ad, z_mu, z_sb, z_n1, z_em, z_me, z_lm, z_ml, z_mle, z_lme, z_ma, z_am, z_m2, not_false_eq_true, z_l0, z_l1, z_l2, z_l3, z_l4, z_l5, z_l6, z_l7, z_l8, z_l10, z_l14, z_l15, z_l16, z_l32, z_l80, z_l101, z_l120, z_l126, z_l127, z_l130, z_l160, z_l198, z_l200, z_l202, z_l240, z_l252, z_l253, z_l254, z_l255, z_l260, z_l480, z_l900, Rd_nodes, Rd_ends, Rd_isOpen, Rd_counts, Rd_lastTags, Rd_syntax, Rd_position, Rd_level, Rd_result, Rd_set_nodes, Rd_set_ends, Rd_set_isOpen, Rd_set_counts, Rd_set_lastTags, Rd_set_syntax, Rd_set_position, Rd_set_level, Rd_set_result, Tr_tags, Tr_behind, Tr_values, Tr_lengths, Tr_characters, Tr_count, Tr_characterCount, Tr_set_tags, Tr_set_behind, Tr_set_values, Tr_set_lengths, Tr_set_characters, Tr_set_count, Tr_set_characterCount, Bs_n, Bs_values, Bs_count, Bs_set_n, Bs_set_values, Bs_set_count, b1] <;> omega))]
    unfold B_Rd_readItem_28
    rw [if_neg (by first | omega | (simp (disch := omega) only [z_lt, z_le, z_eq, z_cl, z_ad, z_mu, z_sb, z_n1, z_em, z_me, z_lm, z_ml, z_mle, z_lme, z_ma, z_am, z_m2, not_false_eq_true, z_l0, z_l1, z_l2, z_l3, z_l4, z_l5, z_l6, z_l7, z_l8, z_l10, z_l14, z_l15, z_l16, z_l32, z_l80, z_l101, z_l120, z_l126, z_l127, z_l130, z_l160, z_l198, z_l200, z_l202, z_l240, z_l252, z_l253, z_l254, z_l255, z_l260, z_l480, z_l900, Rd_nodes, Rd_ends, Rd_isOpen, Rd_counts, Rd_lastTags, Rd_syntax, Rd_position, Rd_level, Rd_result, Rd_set_nodes, Rd_set_ends, Rd_set_isOpen, Rd_set_counts, Rd_set_lastTags, Rd_set_syntax, Rd_set_position, Rd_set_level, Rd_set_result, Tr_tags, Tr_behind, Tr_values, Tr_lengths, Tr_characters, Tr_count, Tr_characterCount, Tr_set_tags, Tr_set_behind, Tr_set_values, Tr_set_lengths, Tr_set_characters, Tr_set_count, Tr_set_characterCount, Bs_n, Bs_values, Bs_count, Bs_set_n, Bs_set_values, Bs_set_count] <;> omega))]
    by_cases b2 : f.2.2.2.1 = 4
    · rw [if_pos (c := f.2.2.2.1 = 4) b2]
      rw [if_pos (by first | omega | (simp (disch := omega) only [z_lt, z_le, z_eq, z_cl, z_ad, z_mu, z_sb, z_n1, z_em, z_me, z_lm, z_ml, z_mle, z_lme, z_ma, z_am, z_m2, not_false_eq_true, z_l0, z_l1, z_l2, z_l3, z_l4, z_l5, z_l6, z_l7, z_l8, z_l10, z_l14, z_l15, z_l16, z_l32, z_l80, z_l101, z_l120, z_l126, z_l127, z_l130, z_l160, z_l198, z_l200, z_l202, z_l240, z_l252, z_l253, z_l254, z_l255, z_l260, z_l480, z_l900, Rd_nodes, Rd_ends, Rd_isOpen, Rd_counts, Rd_lastTags, Rd_syntax, Rd_position, Rd_level, Rd_result, Rd_set_nodes, Rd_set_ends, Rd_set_isOpen, Rd_set_counts, Rd_set_lastTags, Rd_set_syntax, Rd_set_position, Rd_set_level, Rd_set_result, Tr_tags, Tr_behind, Tr_values, Tr_lengths, Tr_characters, Tr_count, Tr_characterCount, Tr_set_tags, Tr_set_behind, Tr_set_values, Tr_set_lengths, Tr_set_characters, Tr_set_count, Tr_set_characterCount, Bs_n, Bs_values, Bs_count, Bs_set_n, Bs_set_values, Bs_set_count, hC', b2] <;> omega))]
      unfold B_Rd_readItem_41
      dsimp only [Rd_position]
      rw [show (7 : Int32) = nI 7 from rfl, c_fail, Option.bind_some]
      exact ⟨_, _, rfl, rfl⟩
    · rw [if_neg (c := f.2.2.2.1 = 4) b2]
      rw [if_neg (by first | omega | (simp (disch := omega) only [z_lt, z_le, z_eq, z_cl, z_ad, z_mu, z_sb, z_n1, z_em, z_me, z_lm, z_ml, z_mle, z_lme, z_ma, z_am, z_m2, not_false_eq_true, z_l0, z_l1, z_l2, z_l3, z_l4, z_l5, z_l6, z_l7, z_l8, z_l10, z_l14, z_l15, z_l16, z_l32, z_l80, z_l101, z_l120, z_l126, z_l127, z_l130, z_l160, z_l198, z_l200, z_l202, z_l240, z_l252, z_l253, z_l254, z_l255, z_l260, z_l480, z_l900, Rd_nodes, Rd_ends, Rd_isOpen, Rd_counts, Rd_lastTags, Rd_syntax, Rd_position, Rd_level, Rd_result, Rd_set_nodes, Rd_set_ends, Rd_set_isOpen, Rd_set_counts, Rd_set_lastTags, Rd_set_syntax, Rd_set_position, Rd_set_level, Rd_set_result, Tr_tags, Tr_behind, Tr_values, Tr_lengths, Tr_characters, Tr_count, Tr_characterCount, Tr_set_tags, Tr_set_behind, Tr_set_values, Tr_set_lengths, Tr_set_characters, Tr_set_count, Tr_set_characterCount, Bs_n, Bs_values, Bs_count, Bs_set_n, Bs_set_values, Bs_set_count, hC'] <;> omega))]
      have e52 : B_Rd_readItem_52 b (N, E, O, C, L, nI syn, nI ps, nI st.length, nI 0) (tg, bh, vs, ls, cs, nI nd.length, nI (ch nd).length) = (F_Rd_readLength (N, E, O, upd C st.length (nI (f.2.2.2.1 + 1)), L, nI syn, nI (ps + 1), nI st.length, nI 0) b (nI 4)).bind (fun o3 => (if o3.1 = ((-1) : Int32) then (B_Rd_readItem_110 b o3.2 (tg, bh, vs, ls, cs, nI nd.length, nI (ch nd).length)) else (B_Rd_readItem_86 b o3.2 (tg, bh, vs, ls, cs, nI nd.length, nI (ch nd).length) o3.1))) := by
        unfold B_Rd_readItem_52
        rw [if_neg (by first | omega | (simp (disch := omega) only [z_lt, z_le, z_eq, z_cl, z_ad, z_mu, z_sb, z_n1, z_em, z_me, z_lm, z_ml, z_mle, z_lme, z_ma, z_am, z_m2, not_false_eq_true, z_l0, z_l1, z_l2, z_l3, z_l4, z_l5, z_l6, z_l7, z_l8, z_l10, z_l14, z_l15, z_l16, z_l32, z_l80, z_l101, z_l120, z_l126, z_l127, z_l130, z_l160, z_l198, z_l200, z_l202, z_l240, z_l252, z_l253, z_l254, z_l255, z_l260, z_l480, z_l900, Rd_nodes, Rd_ends, Rd_isOpen, Rd_counts, Rd_lastTags, Rd_syntax, Rd_position, Rd_level, Rd_result, Rd_set_nodes, Rd_set_ends, Rd_set_isOpen, Rd_set_counts, Rd_set_lastTags, Rd_set_syntax, Rd_set_position, Rd_set_level, Rd_set_result, Tr_tags, Tr_behind, Tr_values, Tr_lengths, Tr_characters, Tr_count, Tr_characterCount, Tr_set_tags, Tr_set_behind, Tr_set_values, Tr_set_lengths, Tr_set_characters, Tr_set_count, Tr_set_characterCount, Bs_n, Bs_values, Bs_count, Bs_set_n, Bs_set_values, Bs_set_count] <;> omega))]
        rw [if_neg (by first | omega | (simp (disch := omega) only [z_lt, z_le, z_eq, z_cl, z_ad, z_mu, z_sb, z_n1, z_em, z_me, z_lm, z_ml, z_mle, z_lme, z_ma, z_am, z_m2, not_false_eq_true, z_l0, z_l1, z_l2, z_l3, z_l4, z_l5, z_l6, z_l7, z_l8, z_l10, z_l14, z_l15, z_l16, z_l32, z_l80, z_l101, z_l120, z_l126, z_l127, z_l130, z_l160, z_l198, z_l200, z_l202, z_l240, z_l252, z_l253, z_l254, z_l255, z_l260, z_l480, z_l900, Rd_nodes, Rd_ends, Rd_isOpen, Rd_counts, Rd_lastTags, Rd_syntax, Rd_position, Rd_level, Rd_result, Rd_set_nodes, Rd_set_ends, Rd_set_isOpen, Rd_set_counts, Rd_set_lastTags, Rd_set_syntax, Rd_set_position, Rd_set_level, Rd_set_result, Tr_tags, Tr_behind, Tr_values, Tr_lengths, Tr_characters, Tr_count, Tr_characterCount, Tr_set_tags, Tr_set_behind, Tr_set_values, Tr_set_lengths, Tr_set_characters, Tr_set_count, Tr_set_characterCount, Bs_n, Bs_values, Bs_count, Bs_set_n, Bs_set_values, Bs_set_count] <;> omega))]
        simp (disch := omega) only [z_lt, z_le, z_eq, z_cl, z_ad, z_mu, z_sb, z_n1, z_em, z_me, z_lm, z_ml, z_mle, z_lme, z_ma, z_am, z_m2, not_false_eq_true, z_l0, z_l1, z_l2, z_l3, z_l4, z_l5, z_l6, z_l7, z_l8, z_l10, z_l14, z_l15, z_l16, z_l32, z_l80, z_l101, z_l120, z_l126, z_l127, z_l130, z_l160, z_l198, z_l200, z_l202, z_l240, z_l252, z_l253, z_l254, z_l255, z_l260, z_l480, z_l900, Rd_nodes, Rd_ends, Rd_isOpen, Rd_counts, Rd_lastTags, Rd_syntax, Rd_position, Rd_level, Rd_result, Rd_set_nodes, Rd_set_ends, Rd_set_isOpen, Rd_set_counts, Rd_set_lastTags, Rd_set_syntax, Rd_set_position, Rd_set_level, Rd_set_result, Tr_tags, Tr_behind, Tr_values, Tr_lengths, Tr_characters, Tr_count, Tr_characterCount, Tr_set_tags, Tr_set_behind, Tr_set_values, Tr_set_lengths, Tr_set_characters, Tr_set_count, Tr_set_characterCount, Bs_n, Bs_values, Bs_count, Bs_set_n, Bs_set_values, Bs_set_count, hC']
      rw [e52]
      have hf' : frp N E O (upd C st.length (nI (f.2.2.2.1 + 1))) L ((f.1, f.2.1, f.2.2.1, f.2.2.2.1 + 1, f.2.2.2.2) :: st) := by
        refine ⟨hN, hE, hO, pk_us, hL, frp_c hst (fun l hl => ?_)⟩
        rw [pk_un (by omega)]
        exact ⟨rfl, rfl, rfl, rfl, rfl⟩
      have hch' : chn src.length nd ((f.1, f.2.1, f.2.2.1, f.2.2.2.1 + 1, f.2.2.2.2) :: st) := ⟨a1, a2, a3, a4, a5, by dsimp only; omega, a7, a8⟩
      unfold rLn
      dsimp only
      by_cases c1 : f.2.1 ≤ ps + 1
      · rw [if_pos c1, c_rl0 (by omega) hE (by omega) (by omega) c1, Option.bind_some, if_pos rfl]
        exact ⟨_, _, rfl, rfl⟩
      · rw [if_neg c1]
        by_cases c2 : okL (kd 254) (src.getD (ps + 1) 0) = true ∧ (src.getD (ps + 1) 0 = 255 ∨ ps + 1 + 1 + src.getD (ps + 1) 0 ≤ f.2.1)
        · rw [if_pos c2, c_rl1 (k := 4) hb (by omega) hE a4 (by omega) (by omega) (by omega) c2.1 c2.2, Option.bind_some]
          dsimp only
          rw [if_neg (by first | omega | (simp (disch := omega) only [z_lt, z_le, z_eq, z_cl, z_ad, z_mu, z_sb, z_n1, z_em, z_me, z_lm, z_ml, z_mle, z_lme, z_ma, z_am, z_m2, not_false_eq_true, z_l0, z_l1, z_l2, z_l3, z_l4, z_l5, z_l6, z_l7, z_l8, z_l10, z_l14, z_l15, z_l16, z_l32, z_l80, z_l101, z_l120, z_l126, z_l127, z_l130, z_l160, z_l198, z_l200, z_l202, z_l240, z_l252, z_l253, z_l254, z_l255, z_l260, z_l480, z_l900, Rd_nodes, Rd_ends, Rd_isOpen, Rd_counts, Rd_lastTags, Rd_syntax, Rd_position, Rd_level, Rd_result, Rd_set_nodes, Rd_set_ends, Rd_set_isOpen, Rd_set_counts, Rd_set_lastTags, Rd_set_syntax, Rd_set_position, Rd_set_level, Rd_set_result, Tr_tags, Tr_behind, Tr_values, Tr_lengths, Tr_characters, Tr_count, Tr_characterCount, Tr_set_tags, Tr_set_behind, Tr_set_values, Tr_set_lengths, Tr_set_characters, Tr_set_count, Tr_set_characterCount, Bs_n, Bs_values, Bs_count, Bs_set_n, Bs_set_values, Bs_set_count] <;> omega))]
          rw [if_neg (c := kd 254 = 1) (by decide), if_neg (c := kd 254 = 2) (by decide)]
          unfold B_Rd_readItem_86
          rw [((c_endOf (by omega) hE).resolve_right (by omega)), Option.bind_some]
          by_cases k4 : src.getD (ps + 1) 0 = 255
          · rw [if_pos k4]
            rw [if_pos (by first | omega | (simp (disch := omega) only [z_lt, z_le, z_eq, z_cl, z_ad, z_mu, z_sb, z_n1, z_em, z_me, z_lm, z_ml, z_mle, z_lme, z_ma, z_am, z_m2, not_false_eq_true, z_l0, z_l1, z_l2, z_l3, z_l4, z_l5, z_l6, z_l7, z_l8, z_l10, z_l14, z_l15, z_l16, z_l32, z_l80, z_l101, z_l120, z_l126, z_l127, z_l130, z_l160, z_l198, z_l200, z_l202, z_l240, z_l252, z_l253, z_l254, z_l255, z_l260, z_l480, z_l900, Rd_nodes, Rd_ends, Rd_isOpen, Rd_counts, Rd_lastTags, Rd_syntax, Rd_position, Rd_level, Rd_result, Rd_set_nodes, Rd_set_ends, Rd_set_isOpen, Rd_set_counts, Rd_set_lastTags, Rd_set_syntax, Rd_set_position, Rd_set_level, Rd_set_result, Tr_tags, Tr_behind, Tr_values, Tr_lengths, Tr_characters, Tr_count, Tr_characterCount, Tr_set_tags, Tr_set_behind, Tr_set_values, Tr_set_lengths, Tr_set_characters, Tr_set_count, Tr_set_characterCount, Bs_n, Bs_values, Bs_count, Bs_set_n, Bs_set_values, Bs_set_count, k4] <;> omega))]
            unfold B_Rd_readItem_102 B_Rd_readItem_107
            obtain ⟨s', t', e1, e2⟩ := c_push (syn := syn) (p := ps + 1 + 1) (e := f.2.1) (g := 254) (o := true) (x3 := 1) (by omega) (by omega) hf' hT hB hC hch' (by omega) nar_1
            rw [show (254 : Int32) = nI 254 from rfl, e1, Option.bind_some]
            refine ⟨_, _, rfl, ?_⟩
            rw [decide_eq_true k4]
            exact e2
          · rw [if_neg k4]
            rw [if_neg (by first | omega | (simp (disch := omega) only [z_lt, z_le, z_eq, z_cl, z_ad, z_mu, z_sb, z_n1, z_em, z_me, z_lm, z_ml, z_mle, z_lme, z_ma, z_am, z_m2, not_false_eq_true, z_l0, z_l1, z_l2, z_l3, z_l4, z_l5, z_l6, z_l7, z_l8, z_l10, z_l14, z_l15, z_l16, z_l32, z_l80, z_l101, z_l120, z_l126, z_l127, z_l130, z_l160, z_l198, z_l200, z_l202, z_l240, z_l252, z_l253, z_l254, z_l255, z_l260, z_l480, z_l900, Rd_nodes, Rd_ends, Rd_isOpen, Rd_counts, Rd_lastTags, Rd_syntax, Rd_position, Rd_level, Rd_result, Rd_set_nodes, Rd_set_ends, Rd_set_isOpen, Rd_set_counts, Rd_set_lastTags, Rd_set_syntax, Rd_set_position, Rd_set_level, Rd_set_result, Tr_tags, Tr_behind, Tr_values, Tr_lengths, Tr_characters, Tr_count, Tr_characterCount, Tr_set_tags, Tr_set_behind, Tr_set_values, Tr_set_lengths, Tr_set_characters, Tr_set_count, Tr_set_characterCount, Bs_n, Bs_values, Bs_count, Bs_set_n, Bs_set_values, Bs_set_count, k4] <;> omega))]
            unfold B_Rd_readItem_106 B_Rd_readItem_107
            obtain ⟨s', t', e1, e2⟩ := c_push (syn := syn) (p := ps + 1 + 1) (e := ps + 1 + 1 + src.getD (ps + 1) 0) (g := 254) (o := false) (x3 := 0) (by omega) (by omega) hf' hT hB hC hch' (by omega) nar_0
            rw [show (254 : Int32) = nI 254 from rfl, e1, Option.bind_some]
            refine ⟨_, _, rfl, ?_⟩
            rw [decide_eq_false k4]
            exact e2
        · rw [if_neg c2, c_rl2 (k := 4) hb (by omega) hE a4 (by omega) (by omega) (by omega) c2, Option.bind_some, if_pos rfl]
          exact ⟨_, _, rfl, rfl⟩
  · rw [if_pos (c := src.getD ps 0 ≠ 254) b1]
    rw [if_neg (by first | omega | (simp (disch := omega) only [z_lt, z_le, z_eq, z_cl, z_ad, z_mu, z_sb, z_n1, z_em, z_me, z_lm, z_ml, z_mle, z_lme, z_ma, z_am, z_m2, not_false_eq_true, z_l0, z_l1, z_l2, z_l3, z_l4, z_l5, z_l6, z_l7, z_l8, z_l10, z_l14, z_l15, z_l16, z_l32, z_l80, z_l101, z_l120, z_l126, z_l127, z_l130, z_l160, z_l198, z_l200, z_l202, z_l240, z_l252, z_l253, z_l254, z_l255, z_l260, z_l480, z_l900, Rd_nodes, Rd_ends, Rd_isOpen, Rd_counts, Rd_lastTags, Rd_syntax, Rd_position, Rd_level, Rd_result, Rd_set_nodes, Rd_set_ends, Rd_set_isOpen, Rd_set_counts, Rd_set_lastTags, Rd_set_syntax, Rd_set_position, Rd_set_level, Rd_set_result, Tr_tags, Tr_behind, Tr_values, Tr_lengths, Tr_characters, Tr_count, Tr_characterCount, Tr_set_tags, Tr_set_behind, Tr_set_values, Tr_set_lengths, Tr_set_characters, Tr_set_count, Tr_set_characterCount, Bs_n, Bs_values, Bs_count, Bs_set_n, Bs_set_values, Bs_set_count, b1] <;> omega))]
    unfold B_Rd_readItem_17
    dsimp only [Rd_position]
    rw [show (6 : Int32) = nI 6 from rfl, c_fail, Option.bind_some]
    exact ⟨_, _, rfl, rfl⟩
theorem lvl_pop (st : List Fr) : nI st.length - nI 1 = lvl st := by
  cases st with
  | nil => exact (by decide +kernel : nI 0 - nI 1 = mI)
  | cons f st => exact z_sb (by simp)
theorem c_pop {syn ps : Nat} {n : Nat} {N E O C L tg bh vs ls cs : Nat → Int32} {f : Fr} {st : List Fr} {nd : List Nd} (h5 : st.length < 5) (hn : nd.length ≤ 101) (hf : frp N E O C L (f :: st)) (hT : rtT tg vs ls nd) (hB : rtB bh nd ((f :: st).map (fun f => f.1))) (hC : rtC cs nd) (hch : chn n nd (f :: st)) : ∃ s' t', F_Rd_leave (N, E, O, C, L, nI syn, nI ps, nI st.length, nI 0) (tg, bh, vs, ls, cs, nI nd.length, nI (ch nd).length) = some (s', t') ∧ crp syn s' t' (ps, st, nd) := by
  exact ⟨_, _, c_leave h5 hf.1 hn hch.1, crp_mk rfl rfl (lvl_pop st) rfl hf.2.2.2.2.2 (rt_mk rfl rfl hT (rtB_fin hB (chn_top hch)) hC)⟩
theorem c_step {syn ps : Nat} {src : List Nat} {b : S_Bs} {cap : Nat} {s : S_Rd} {t : S_Tr} {f : Fr} {st : List Fr} {nd : List Nd} (k : S_Rd × S_Tr × Int32 × Int32 → Option (Int32 × S_Rd × S_Tr)) (x3 x4 : Int32) (hb : rn b cap src) (hsy : syn ≤ 1) (hs : src.length ≤ 200) (hw : wv src.length (ps, f :: st, nd)) (h : crp syn s t (ps, f :: st, nd)) : ∃ s' t', B_Rd_read_76 k b s t x3 x4 = k (s', t', x3, x4 + 1) ∧ cpo syn (rSt syn src ps f st nd) s' t' := by
  have h0 := h
  obtain ⟨N, E, O, C, L, rfl, hf, tg, bh, vs, ls, cs, rfl, hT, hB, hC⟩ := h
  have hw0 := hw
  obtain ⟨w1, w2, w3, w4, w5, w6⟩ := hw
  dsimp only at w1 w2 w3 w4 w5 w6 hf hT hB hC
  simp only [List.length_cons] at w2
  obtain ⟨a1, a2, a3, a4, a5, a6, a7, a8⟩ := id w6
  obtain ⟨hN, hE, hO, hC', hL, hst⟩ := id hf
  have hc := rn_cap hb
  have hg := hb.2 ps
  have hpe := w5 f st rfl
  dsimp only [lvl] at h0 ⊢
  unfold B_Rd_read_76 rSt
  rw [if_neg (by first | omega | (simp (disch := omega) only [z_lt, z_le, z_eq, z_cl, z_ad, z_mu, z_sb, z_n1, z_em, z_me, z_lm, z_ml, z_mle, z_lme, z_ma, z_am, z_m2, not_false_eq_true, z_l0, z_l1, z_l2, z_l3, z_l4, z_l5, z_l6, z_l7, z_l8, z_l10, z_l14, z_l15, z_l16, z_l32, z_l80, z_l101, z_l120, z_l126, z_l127, z_l130, z_l160, z_l198, z_l200, z_l202, z_l240, z_l252, z_l253, z_l254, z_l255, z_l260, z_l480, z_l900, Rd_nodes, Rd_ends, Rd_isOpen, Rd_counts, Rd_lastTags, Rd_syntax, Rd_position, Rd_level, Rd_result, Rd_set_nodes, Rd_set_ends, Rd_set_isOpen, Rd_set_counts, Rd_set_lastTags, Rd_set_syntax, Rd_set_position, Rd_set_level, Rd_set_result, Tr_tags, Tr_behind, Tr_values, Tr_lengths, Tr_characters, Tr_count, Tr_characterCount, Tr_set_tags, Tr_set_behind, Tr_set_values, Tr_set_lengths, Tr_set_characters, Tr_set_count, Tr_set_characterCount, Bs_n, Bs_values, Bs_count, Bs_set_n, Bs_set_values, Bs_set_count] <;> omega))]
  by_cases b1 : f.2.1 ≤ ps
  · rw [if_pos (c := f.2.1 ≤ ps) b1]
    rw [if_neg (by first | omega | (simp (disch := omega) only [z_lt, z_le, z_eq, z_cl, z_ad, z_mu, z_sb, z_n1, z_em, z_me, z_lm, z_ml, z_mle, z_lme, z_ma, z_am, z_m2, not_false_eq_true, z_l0, z_l1, z_l2, z_l3, z_l4, z_l5, z_l6, z_l7, z_l8, z_l10, z_l14, z_l15, z_l16, z_l32, z_l80, z_l101, z_l120, z_l126, z_l127, z_l130, z_l160, z_l198, z_l200, z_l202, z_l240, z_l252, z_l253, z_l254, z_l255, z_l260, z_l480, z_l900, Rd_nodes, Rd_ends, Rd_isOpen, Rd_counts, Rd_lastTags, Rd_syntax, Rd_position, Rd_level, Rd_result, Rd_set_nodes, Rd_set_ends, Rd_set_isOpen, Rd_set_counts, Rd_set_lastTags, Rd_set_syntax, Rd_set_position, Rd_set_level, Rd_set_result, Tr_tags, Tr_behind, Tr_values, Tr_lengths, Tr_characters, Tr_count, Tr_characterCount, Tr_set_tags, Tr_set_behind, Tr_set_values, Tr_set_lengths, Tr_set_characters, Tr_set_count, Tr_set_characterCount, Bs_n, Bs_values, Bs_count, Bs_set_n, Bs_set_values, Bs_set_count, hE] <;> omega))]
    unfold B_Rd_read_92 F_Rd_endLevel B_Rd_endLevel_0
    rw [if_neg (by first | omega | (simp (disch := omega) only [z_lt, z_le, z_eq, z_cl, z_ad, z_mu, z_sb, z_n1, z_em, z_me, z_lm, z_ml, z_mle, z_lme, z_ma, z_am, z_m2, not_false_eq_true, z_l0, z_l1, z_l2, z_l3, z_l4, z_l5, z_l6, z_l7, z_l8, z_l10, z_l14, z_l15, z_l16, z_l32, z_l80, z_l101, z_l120, z_l126, z_l127, z_l130, z_l160, z_l198, z_l200, z_l202, z_l240, z_l252, z_l253, z_l254, z_l255, z_l260, z_l480, z_l900, Rd_nodes, Rd_ends, Rd_isOpen, Rd_counts, Rd_lastTags, Rd_syntax, Rd_position, Rd_level, Rd_result, Rd_set_nodes, Rd_set_ends, Rd_set_isOpen, Rd_set_counts, Rd_set_lastTags, Rd_set_syntax, Rd_set_position, Rd_set_level, Rd_set_result, Tr_tags, Tr_behind, Tr_values, Tr_lengths, Tr_characters, Tr_count, Tr_characterCount, Tr_set_tags, Tr_set_behind, Tr_set_values, Tr_set_lengths, Tr_set_characters, Tr_set_count, Tr_set_characterCount, Bs_n, Bs_values, Bs_count, Bs_set_n, Bs_set_values, Bs_set_count] <;> omega))]
    cases ho : f.2.2.1 with
    | true =>
      rw [ho, if_pos rfl] at hO
      rw [if_neg (by first | omega | (simp (disch := omega) only [z_lt, z_le, z_eq, z_cl, z_ad, z_mu, z_sb, z_n1, z_em, z_me, z_lm, z_ml, z_mle, z_lme, z_ma, z_am, z_m2, not_false_eq_true, z_l0, z_l1, z_l2, z_l3, z_l4, z_l5, z_l6, z_l7, z_l8, z_l10, z_l14, z_l15, z_l16, z_l32, z_l80, z_l101, z_l120, z_l126, z_l127, z_l130, z_l160, z_l198, z_l200, z_l202, z_l240, z_l252, z_l253, z_l254, z_l255, z_l260, z_l480, z_l900, Rd_nodes, Rd_ends, Rd_isOpen, Rd_counts, Rd_lastTags, Rd_syntax, Rd_position, Rd_level, Rd_result, Rd_set_nodes, Rd_set_ends, Rd_set_isOpen, Rd_set_counts, Rd_set_lastTags, Rd_set_syntax, Rd_set_position, Rd_set_level, Rd_set_result, Tr_tags, Tr_behind, Tr_values, Tr_lengths, Tr_characters, Tr_count, Tr_characterCount, Tr_set_tags, Tr_set_behind, Tr_set_values, Tr_set_lengths, Tr_set_characters, Tr_set_count, Tr_set_characterCount, Bs_n, Bs_values, Bs_count, Bs_set_n, Bs_set_values, Bs_set_count, hO] <;> omega))]
      rw [if_pos rfl]
      unfold B_Rd_endLevel_12
      rw [if_neg (by first | omega | (simp (disch := omega) only [z_lt, z_le, z_eq, z_cl, z_ad, z_mu, z_sb, z_n1, z_em, z_me, z_lm, z_ml, z_mle, z_lme, z_ma, z_am, z_m2, not_false_eq_true, z_l0, z_l1, z_l2, z_l3, z_l4, z_l5, z_l6, z_l7, z_l8, z_l10, z_l14, z_l15, z_l16, z_l32, z_l80, z_l101, z_l120, z_l126, z_l127, z_l130, z_l160, z_l198, z_l200, z_l202, z_l240, z_l252, z_l253, z_l254, z_l255, z_l260, z_l480, z_l900, Rd_nodes, Rd_ends, Rd_isOpen, Rd_counts, Rd_lastTags, Rd_syntax, Rd_position, Rd_level, Rd_result, Rd_set_nodes, Rd_set_ends, Rd_set_isOpen, Rd_set_counts, Rd_set_lastTags, Rd_set_syntax, Rd_set_position, Rd_set_level, Rd_set_result, Tr_tags, Tr_behind, Tr_values, Tr_lengths, Tr_characters, Tr_count, Tr_characterCount, Tr_set_tags, Tr_set_behind, Tr_set_values, Tr_set_lengths, Tr_set_characters, Tr_set_count, Tr_set_characterCount, Bs_n, Bs_values, Bs_count, Bs_set_n, Bs_set_values, Bs_set_count] <;> omega))]
      dsimp only [Rd_level, Rd_ends]
      rw [z_cl (by omega), hE, show (1 : Int32) = nI 1 from rfl, c_fail, Option.bind_some]
      unfold B_Rd_endLevel_33
      rw [Option.bind_some]
      exact ⟨_, _, rfl, rfl⟩
    | false =>
      rw [ho, if_neg (by decide)] at hO
      rw [if_pos (by first | omega | (simp (disch := omega) only [z_lt, z_le, z_eq, z_cl, z_ad, z_mu, z_sb, z_n1, z_em, z_me, z_lm, z_ml, z_mle, z_lme, z_ma, z_am, z_m2, not_false_eq_true, z_l0, z_l1, z_l2, z_l3, z_l4, z_l5, z_l6, z_l7, z_l8, z_l10, z_l14, z_l15, z_l16, z_l32, z_l80, z_l101, z_l120, z_l126, z_l127, z_l130, z_l160, z_l198, z_l200, z_l202, z_l240, z_l252, z_l253, z_l254, z_l255, z_l260, z_l480, z_l900, Rd_nodes, Rd_ends, Rd_isOpen, Rd_counts, Rd_lastTags, Rd_syntax, Rd_position, Rd_level, Rd_result, Rd_set_nodes, Rd_set_ends, Rd_set_isOpen, Rd_set_counts, Rd_set_lastTags, Rd_set_syntax, Rd_set_position, Rd_set_level, Rd_set_result, Tr_tags, Tr_behind, Tr_values, Tr_lengths, Tr_characters, Tr_count, Tr_characterCount, Tr_set_tags, Tr_set_behind, Tr_set_values, Tr_set_lengths, Tr_set_characters, Tr_set_count, Tr_set_characterCount, Bs_n, Bs_values, Bs_count, Bs_set_n, Bs_set_values, Bs_set_count, hO] <;> omega))]
      rw [if_neg (by decide)]
      unfold B_Rd_endLevel_29
      obtain ⟨s', t', e1, e2⟩ := c_pop (syn := syn) (ps := ps) (by omega) (by omega) hf hT hB hC w6
      rw [e1, Option.bind_some]
      unfold B_Rd_endLevel_33
      rw [Option.bind_some]
      exact ⟨_, _, rfl, e2⟩
  · rw [if_neg (c := f.2.1 ≤ ps) b1]
    rw [if_pos (by first | omega | (simp (disch := omega) only [z_lt, z_le, z_eq, z_cl, z_ad, z_mu, z_sb, z_n1, z_em, z_me, z_lm, z_ml, z_mle, z_lme, z_ma, z_am, z_m2, not_false_eq_true, z_l0, z_l1, z_l2, z_l3, z_l4, z_l5, z_l6, z_l7, z_l8, z_l10, z_l14, z_l15, z_l16, z_l32, z_l80, z_l101, z_l120, z_l126, z_l127, z_l130, z_l160, z_l198, z_l200, z_l202, z_l240, z_l252, z_l253, z_l254, z_l255, z_l260, z_l480, z_l900, Rd_nodes, Rd_ends, Rd_isOpen, Rd_counts, Rd_lastTags, Rd_syntax, Rd_position, Rd_level, Rd_result, Rd_set_nodes, Rd_set_ends, Rd_set_isOpen, Rd_set_counts, Rd_set_lastTags, Rd_set_syntax, Rd_set_position, Rd_set_level, Rd_set_result, Tr_tags, Tr_behind, Tr_values, Tr_lengths, Tr_characters, Tr_count, Tr_characterCount, Tr_set_tags, Tr_set_behind, Tr_set_values, Tr_set_lengths, Tr_set_characters, Tr_set_count, Tr_set_characterCount, Bs_n, Bs_values, Bs_count, Bs_set_n, Bs_set_values, Bs_set_count, hE] <;> omega))]
    unfold B_Rd_read_99
    dsimp only [Rd_position]
    rw [rn_get hb (by omega), Option.bind_some, c_isEndMark (by omega) hg hO, Option.bind_some]
    by_cases b2 : f.2.2.1 = true ∧ src.getD ps 0 = (if st.length % 2 = 0 then 253 else 252)
    · rw [if_pos (c := f.2.2.1 = true ∧ src.getD ps 0 = (if st.length % 2 = 0 then 253 else 252)) b2, if_pos (c := f.2.2.1 = true ∧ src.getD ps 0 = (if st.length % 2 = 0 then 253 else 252)) b2]
      rw [if_neg (by first | omega | (simp (disch := omega) only [z_lt, z_le, z_eq, z_cl, z_ad, z_mu, z_sb, z_n1, z_em, z_me, z_lm, z_ml, z_mle, z_lme, z_ma, z_am, z_m2, not_false_eq_true, z_l0, z_l1, z_l2, z_l3, z_l4, z_l5, z_l6, z_l7, z_l8, z_l10, z_l14, z_l15, z_l16, z_l32, z_l80, z_l101, z_l120, z_l126, z_l127, z_l130, z_l160, z_l198, z_l200, z_l202, z_l240, z_l252, z_l253, z_l254, z_l255, z_l260, z_l480, z_l900, Rd_nodes, Rd_ends, Rd_isOpen, Rd_counts, Rd_lastTags, Rd_syntax, Rd_position, Rd_level, Rd_result, Rd_set_nodes, Rd_set_ends, Rd_set_isOpen, Rd_set_counts, Rd_set_lastTags, Rd_set_syntax, Rd_set_position, Rd_set_level, Rd_set_result, Tr_tags, Tr_behind, Tr_values, Tr_lengths, Tr_characters, Tr_count, Tr_characterCount, Tr_set_tags, Tr_set_behind, Tr_set_values, Tr_set_lengths, Tr_set_characters, Tr_set_count, Tr_set_characterCount, Bs_n, Bs_values, Bs_count, Bs_set_n, Bs_set_values, Bs_set_count] <;> omega))]
      unfold B_Rd_read_117
      dsimp only [Rd_position, Rd_set_position]
      rw [nI_1]
      obtain ⟨s', t', e1, e2⟩ := c_pop (syn := syn) (ps := ps + 1) (by omega) (by omega) hf hT hB hC w6
      rw [e1, Option.bind_some]
      exact ⟨_, _, rfl, e2⟩
    · rw [if_neg (c := f.2.2.1 = true ∧ src.getD ps 0 = (if st.length % 2 = 0 then 253 else 252)) b2, if_neg (c := f.2.2.1 = true ∧ src.getD ps 0 = (if st.length % 2 = 0 then 253 else 252)) b2]
      rw [if_pos (by first | omega | (simp (disch := omega) only [z_lt, z_le, z_eq, z_cl, z_ad, z_mu, z_sb, z_n1, z_em, z_me, z_lm, z_ml, z_mle, z_lme, z_ma, z_am, z_m2, not_false_eq_true, z_l0, z_l1, z_l2, z_l3, z_l4, z_l5, z_l6, z_l7, z_l8, z_l10, z_l14, z_l15, z_l16, z_l32, z_l80, z_l101, z_l120, z_l126, z_l127, z_l130, z_l160, z_l198, z_l200, z_l202, z_l240, z_l252, z_l253, z_l254, z_l255, z_l260, z_l480, z_l900, Rd_nodes, Rd_ends, Rd_isOpen, Rd_counts, Rd_lastTags, Rd_syntax, Rd_position, Rd_level, Rd_result, Rd_set_nodes, Rd_set_ends, Rd_set_isOpen, Rd_set_counts, Rd_set_lastTags, Rd_set_syntax, Rd_set_position, Rd_set_level, Rd_set_result, Tr_tags, Tr_behind, Tr_values, Tr_lengths, Tr_characters, Tr_count, Tr_characterCount, Tr_set_tags, Tr_set_behind, Tr_set_values, Tr_set_lengths, Tr_set_characters, Tr_set_count, Tr_set_characterCount, Bs_n, Bs_values, Bs_count, Bs_set_n, Bs_set_values, Bs_set_count] <;> omega))]
      unfold B_Rd_read_134
      by_cases b3 : st.length % 2 = 0
      · rw [if_pos (c := st.length % 2 = 0) b3]
        rw [if_pos (by first | omega | (simp (disch := omega) only [z_lt, z_le, z_eq, z_cl, z_ad, z_mu, z_sb, z_n1, z_em, z_me, z_lm, z_ml, z_mle, z_lme, z_ma, z_am, z_m2, not_false_eq_true, z_l0, z_l1, z_l2, z_l3, z_l4, z_l5, z_l6, z_l7, z_l8, z_l10, z_l14, z_l15, z_l16, z_l32, z_l80, z_l101, z_l120, z_l126, z_l127, z_l130, z_l160, z_l198, z_l200, z_l202, z_l240, z_l252, z_l253, z_l254, z_l255, z_l260, z_l480, z_l900, Rd_nodes, Rd_ends, Rd_isOpen, Rd_counts, Rd_lastTags, Rd_syntax, Rd_position, Rd_level, Rd_result, Rd_set_nodes, Rd_set_ends, Rd_set_isOpen, Rd_set_counts, Rd_set_lastTags, Rd_set_syntax, Rd_set_position, Rd_set_level, Rd_set_result, Tr_tags, Tr_behind, Tr_values, Tr_lengths, Tr_characters, Tr_count, Tr_characterCount, Tr_set_tags, Tr_set_behind, Tr_set_values, Tr_set_lengths, Tr_set_characters, Tr_set_count, Tr_set_characterCount, Bs_n, Bs_values, Bs_count, Bs_set_n, Bs_set_values, Bs_set_count, b3] <;> omega))]
        unfold B_Rd_read_143
        obtain ⟨s', t', e1, e2⟩ := c_elem hb hsy hs hw0 (by omega) b3 h0
        rw [e1, Option.bind_some]
        exact ⟨_, _, rfl, e2⟩
      · rw [if_neg (c := st.length % 2 = 0) b3]
        rw [if_neg (by first | omega | (simp (disch := omega) only [z_lt, z_le, z_eq, z_cl, z_ad, z_mu, z_sb, z_n1, z_em, z_me, z_lm, z_ml, z_mle, z_lme, z_ma, z_am, z_m2, not_false_eq_true, z_l0, z_l1, z_l2, z_l3, z_l4, z_l5, z_l6, z_l7, z_l8, z_l10, z_l14, z_l15, z_l16, z_l32, z_l80, z_l101, z_l120, z_l126, z_l127, z_l130, z_l160, z_l198, z_l200, z_l202, z_l240, z_l252, z_l253, z_l254, z_l255, z_l260, z_l480, z_l900, Rd_nodes, Rd_ends, Rd_isOpen, Rd_counts, Rd_lastTags, Rd_syntax, Rd_position, Rd_level, Rd_result, Rd_set_nodes, Rd_set_ends, Rd_set_isOpen, Rd_set_counts, Rd_set_lastTags, Rd_set_syntax, Rd_set_position, Rd_set_level, Rd_set_result, Tr_tags, Tr_behind, Tr_values, Tr_lengths, Tr_characters, Tr_count, Tr_characterCount, Tr_set_tags, Tr_set_behind, Tr_set_values, Tr_set_lengths, Tr_set_characters, Tr_set_count, Tr_set_characterCount, Bs_n, Bs_values, Bs_count, Bs_set_n, Bs_set_values, Bs_set_count, b3] <;> omega))]
        unfold B_Rd_read_150
        obtain ⟨s', t', e1, e2⟩ := c_item hb hs hw0 (by omega) b3 h0
        rw [e1, Option.bind_some]
        exact ⟨_, _, rfl, e2⟩
theorem rSt_pos {syn ps : Nat} {src : List Nat} {f : Fr} {st : List Fr} {nd : List Nd} {e n : Nat} (h : rSt syn src ps f st nd = .inl e) (hw : wv n (ps, f :: st, nd)) (hn : n ≤ 1000) : 1 ≤ e ∧ e ≤ 20000 := by
  have w1 := hw.1
  have w4 := hw.2.2.2.2.2.2.2.2.1
  dsimp only at w1 w4
  have hl : ∀ g p f', f'.2.1 = f.2.1 → p ≤ n + 2 → rLn src g p f' st nd = .inl e → 1 ≤ e ∧ e ≤ 20000 := by
    intro g p f' hf hp h
    unfold rLn at h
    split at h
    · cases h; omega
    · split at h
      · split at h
        · cases h
        · split at h
          · split at h
            · cases h; omega
            · cases h
          · cases h
      · cases h; omega
  rcases rSt_c syn src ps f st nd with ⟨c1, ⟨c2, c3⟩ | ⟨c2, c3⟩⟩ | ⟨c1, c3⟩ | ⟨c1, hev, c3⟩ | ⟨c1, hodd, c3⟩
  · rw [c3] at h
    cases h; omega
  · rw [c3] at h
    cases h
  · rw [c3] at h
    cases h
  · rw [c3] at h
    · · unfold rEl at h
        split at h
        · cases h; omega
        · split at h
          · cases h; omega
          · split at h
            · cases h; omega
            · split at h
              · cases h; omega
              · split at h
                · cases h; omega
                · refine hl _ _ (f.1, f.2.1, f.2.2.1, f.2.2.2.1 + 1, src.getD ps 0) rfl ?_ h
                  split <;> omega
  · rw [c3] at h
    · · unfold rIt at h
        split at h
        · cases h; omega
        · split at h
          · cases h; omega
          · exact hl _ _ (f.1, f.2.1, f.2.2.1, f.2.2.2.1 + 1, f.2.2.2.2) rfl (by omega) h
/-- what a read leaves: the fault, and without one the tree -/
def rdo (syn : Nat) (src : List Nat) (r : Int32 × S_Rd × S_Tr) : Prop := r.1 = nI (rD syn src).1 ∧ ((rD syn src).1 = 0 → rt r.2.2 (rD syn src).2 [])
theorem c_go {syn : Nat} {src : List Nat} {b : S_Bs} {cap : Nat} (hb : rn b cap src) (hsy : syn ≤ 1) (hs : src.length ≤ 200) {x3 : Nat} (hx : x3 ≤ 1000) : ∀ (j i fu : Nat) (s : S_Rd) (t : S_Tr) (σ : RS), i + j = x3 → j < fu → mz src.length σ ≤ j → wv src.length σ → crp syn s t σ → ∃ r, lp (fun k56 v => B_Rd_read_56 k56 b v.1 v.2.1 v.2.2.1 v.2.2.2) fu (s, t, nI x3, nI i) = some r ∧ r.1 = nI (rGo syn src j σ).1 ∧ ((rGo syn src j σ).1 = 0 → rt r.2.2 (rGo syn src j σ).2 []) := by
  have fin : ∀ (s : S_Rd) (t : S_Tr) (ps : Nat) (nd : List Nd), crp syn s t (ps, [], nd) → ∀ (k : S_Rd × S_Tr × Int32 × Int32 → Option (Int32 × S_Rd × S_Tr)) (i : Nat), B_Rd_read_56 k b s t (nI x3) (nI i) = some (Rd_result s, s, t) ∧ Rd_result s = nI 0 ∧ rt t nd [] := by
    intro s t ps nd h k i
    obtain ⟨N, E, O, C, L, rfl, hf, ht⟩ := h
    refine ⟨?_, rfl, ht⟩
    unfold B_Rd_read_56
    by_cases e : nI x3 ≤ nI i
    · rw [if_pos e]
      rfl
    · rw [if_neg e]
      unfold B_Rd_read_62
      rw [if_pos (by show mI < 0; decide +kernel)]
      rfl
  intro j
  induction j with
  | zero =>
    intro i fu s t σ hi hf hm hw h
    obtain ⟨fu', rfl⟩ : ∃ fu', fu = fu' + 1 := ⟨fu - 1, by omega⟩
    obtain ⟨ps, st, nd⟩ := σ
    have : st = [] := by
      unfold mz at hm
      exact List.length_eq_zero_iff.mp (by dsimp only at hm; omega)
    subst this
    obtain ⟨e1, e2, e3⟩ := fin s t ps nd h (lp (fun k56 v => B_Rd_read_56 k56 b v.1 v.2.1 v.2.2.1 v.2.2.2) fu') i
    exact ⟨_, e1, e2, fun _ => e3⟩
  | succ j ih =>
    intro i fu s t σ hi hf hm hw h
    obtain ⟨fu', rfl⟩ : ∃ fu', fu = fu' + 1 := ⟨fu - 1, by omega⟩
    obtain ⟨ps, st, nd⟩ := σ
    cases st with
    | nil =>
      obtain ⟨e1, e2, e3⟩ := fin s t ps nd h (lp (fun k56 v => B_Rd_read_56 k56 b v.1 v.2.1 v.2.2.1 v.2.2.2) fu') i
      exact ⟨_, e1, e2, fun _ => e3⟩
    | cons f st =>
      obtain ⟨s', t', e1, e2⟩ := c_step (lp (fun k56 v => B_Rd_read_56 k56 b v.1 v.2.1 v.2.2.1 v.2.2.2) fu') (nI x3) (nI i) hb hsy hs hw h
      have hlen := hw.2.1
      simp only [List.length_cons] at hlen
      have e0 : lp (fun k56 v => B_Rd_read_56 k56 b v.1 v.2.1 v.2.2.1 v.2.2.2) (fu' + 1) (s, t, nI x3, nI i) = B_Rd_read_76 (lp (fun k56 v => B_Rd_read_56 k56 b v.1 v.2.1 v.2.2.1 v.2.2.2) fu') b s t (nI x3) (nI i) := by
        show B_Rd_read_56 _ b s t (nI x3) (nI i) = _
        unfold B_Rd_read_56
        rw [if_neg (by first | omega | (simp (disch := omega) only [z_lt, z_le, z_eq, z_cl, z_ad, z_mu, z_sb, z_n1, z_em, z_me, z_lm, z_ml, z_mle, z_lme, z_ma, z_am, z_m2, not_false_eq_true, z_l0, z_l1, z_l2, z_l3, z_l4, z_l5, z_l6, z_l7, z_l8, z_l10, z_l14, z_l15, z_l16, z_l32, z_l80, z_l101, z_l120, z_l126, z_l127, z_l130, z_l160, z_l198, z_l200, z_l202, z_l240, z_l252, z_l253, z_l254, z_l255, z_l260, z_l480, z_l900, Rd_nodes, Rd_ends, Rd_isOpen, Rd_counts, Rd_lastTags, Rd_syntax, Rd_position, Rd_level, Rd_result, Rd_set_nodes, Rd_set_ends, Rd_set_isOpen, Rd_set_counts, Rd_set_lastTags, Rd_set_syntax, Rd_set_position, Rd_set_level, Rd_set_result, Tr_tags, Tr_behind, Tr_values, Tr_lengths, Tr_characters, Tr_count, Tr_characterCount, Tr_set_tags, Tr_set_behind, Tr_set_values, Tr_set_lengths, Tr_set_characters, Tr_set_count, Tr_set_characterCount, Bs_n, Bs_values, Bs_count, Bs_set_n, Bs_set_values, Bs_set_count] <;> omega))]
        obtain ⟨N, E, O, C, L, rfl, _⟩ := h
        unfold B_Rd_read_62
        rw [if_neg (by show ¬ nI st.length < 0; exact nI_pos (by omega))]
        unfold B_Rd_read_69
        rw [if_pos (by exact rfl)]
      rw [e0, e1, nI_1]
      have er : rGo syn src (j + 1) (ps, f :: st, nd) = (match rSt syn src ps f st nd with | .inl e => (e, nd) | .inr τ => rGo syn src j τ) := rfl
      rw [er]
      cases hr : rSt syn src ps f st nd with
      | inl e =>
        rw [hr] at e2
        have hp := rSt_pos hr hw (by omega)
        dsimp only [cpo] at e2 ⊢
        obtain ⟨fu2, rfl⟩ : ∃ fu2, fu' = fu2 + 1 := ⟨fu' - 1, by omega⟩
        refine ⟨(Rd_result s', s', t'), ?_, e2, fun e0 => by omega⟩
        show B_Rd_read_56 _ b s' t' (nI x3) (nI (i + 1)) = _
        unfold B_Rd_read_56
        by_cases c1 : nI x3 ≤ nI (i + 1)
        · rw [if_pos c1]
          rfl
        · rw [if_neg c1]
          unfold B_Rd_read_62
          by_cases c2 : Rd_level s' < 0
          · rw [if_pos c2]
            rfl
          · rw [if_neg c2]
            unfold B_Rd_read_69
            rw [if_neg (by rw [e2, show (0 : Int32) = nI 0 from rfl, z_eq (by omega) (by omega)]; omega)]
            rfl
      | inr τ =>
        rw [hr] at e2
        dsimp only [cpo] at e2 ⊢
        exact ih (i + 1) fu' s' t' τ (by omega) (by omega) (by have := mz_rSt hw hr; omega) (wv_rSt hw hr) e2
theorem c_read {syn : Nat} {src : List Nat} {b : S_Bs} {cap : Nat} (hb : rn b cap src) (hsy : syn ≤ 1) (hs : src.length ≤ 200) (s : S_Rd) (t : S_Tr) : ∃ r, F_Rd_read s t b (nI syn) = some r ∧ rdo syn src r := by
  obtain ⟨N, E, O, C, L, sy, ps, lv, rs⟩ := s
  obtain ⟨tg, bh, vs, ls, cs, ct, cc⟩ := t
  have hc := rn_cap hb
  unfold F_Rd_read B_Rd_read_0 F_Tr_reset B_Tr_reset_0
  rw [Option.bind_some, rn_count hb, Option.bind_some]
  dsimp only [Rd_set_syntax, Rd_set_position, Rd_set_result, Rd_set_level, Tr_set_count, Tr_set_characterCount]
  rw [show (0 : Int32) = nI 0 from rfl, show (254 : Int32) = nI 254 from rfl, show ((-1) : Int32) = mI from rfl, c_enter (l := 0) z_ma (by omega) (by omega), Option.bind_some, Option.bind_some, show (2 : Int32) * nI src.length + 2 = nI (2 * src.length + 2) by simp (disch := omega) only [z_lt, z_le, z_eq, z_cl, z_ad, z_mu, z_sb, z_n1, z_em, z_me, z_lm, z_ml, z_mle, z_lme, z_ma, z_am, z_m2, not_false_eq_true, z_l0, z_l1, z_l2, z_l3, z_l4, z_l5, z_l6, z_l7, z_l8, z_l10, z_l14, z_l15, z_l16, z_l32, z_l80, z_l101, z_l120, z_l126, z_l127, z_l130, z_l160, z_l198, z_l200, z_l202, z_l240, z_l252, z_l253, z_l254, z_l255, z_l260, z_l480, z_l900, Rd_nodes, Rd_ends, Rd_isOpen, Rd_counts, Rd_lastTags, Rd_syntax, Rd_position, Rd_level, Rd_result, Rd_set_nodes, Rd_set_ends, Rd_set_isOpen, Rd_set_counts, Rd_set_lastTags, Rd_set_syntax, Rd_set_position, Rd_set_level, Rd_set_result, Tr_tags, Tr_behind, Tr_values, Tr_lengths, Tr_characters, Tr_count, Tr_characterCount, Tr_set_tags, Tr_set_behind, Tr_set_values, Tr_set_lengths, Tr_set_characters, Tr_set_count, Tr_set_characterCount, Bs_n, Bs_values, Bs_count, Bs_set_n, Bs_set_values, Bs_set_count]]
  have hcr : crp syn (upd N 0 (nI 0), upd E 0 (nI src.length), upd O 0 (vp_nar .boolean (nI 0)), upd C 0 (nI 0), upd L 0 (nI 0), nI syn, nI 0, nI 0, nI 0) (upd tg 0 (nI 254), upd bh 0 (nI (0 + 1)), upd vs 0 (nI 0), upd ls 0 (nI 0), cs, nI (0 + 1), nI 0) (0, [(0, src.length, false, 0, 0)], [(0, 254, 0, [])]) := by
    refine crp_mk rfl rfl rfl rfl ⟨pk_us, pk_us, ?_, pk_us, pk_us, trivial⟩ (rt_mk rfl rfl ?_ ?_ ?_)
    · show upd O 0 (vp_nar .boolean (nI 0)) 0 = nI 0
      rw [pk_us]
      exact nar_0
    · intro k hk
      have : k = 0 := by simp at hk; omega
      subst this
      exact ⟨pk_us, pk_us, pk_us⟩
    · intro k hk hm
      have : k = 0 := by simp at hk; omega
      subst this
      exact absurd (List.mem_singleton.mpr rfl) hm
    · intro i hi
      simp [ch] at hi
  obtain ⟨r, e1, e2, e3⟩ := c_go hb hsy hs (x3 := 2 * src.length + 2) (by omega) (2 * src.length + 2) 0 FU _ _ _ (by omega) (by unfold FU; omega) (by show 2 * (src.length - 0) + 1 ≤ 2 * src.length + 2; omega) (wv_0 src) hcr
  exact ⟨r, e1, e2, e3⟩
