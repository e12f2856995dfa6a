/-! PURE: an entry of the class's reader -/
section CRE
variable {N E O C L : Nat → Int32} {sy ps lv rs : Int32} {b : S_Bs} {cap : Nat} {src : List Nat} {p l en k g n m q : Nat} {tg bh vs ls cs : Nat → Int32} {ct cc : Int32}
theorem badT_no (h : badT src q n = false) : ¬ (0 < kp src q n ∧ src.getD (q + kp src q n - 1) 0 = 32) ∧ ∀ i, i < kp src q n → 32 ≤ src.getD (q + i) 0 ∧ src.getD (q + i) 0 ≤ 126 := by
  unfold badT at h
  rw [Bool.or_eq_false_iff] at h
  refine ⟨of_decide_eq_false h.1, fun i hi => ?_⟩
  have := List.any_eq_false.mp h.2 i (List.mem_range.mpr hi)
  have h2 := of_decide_eq_false (Bool.eq_false_iff.mpr this)
  omega
theorem badT_yes (h : badT src q n = true) : (0 < kp src q n ∧ src.getD (q + kp src q n - 1) 0 = 32) ∨ ∃ i, i < kp src q n ∧ (src.getD (q + i) 0 < 32 ∨ 126 < src.getD (q + i) 0) := by
  unfold badT at h
  rw [Bool.or_eq_true] at h
  rcases h with h | h
  · exact .inl (of_decide_eq_true h)
  · obtain ⟨i, h1, h2⟩ := List.any_eq_true.mp h
    exact .inr ⟨i, List.mem_range.mp h1, of_decide_eq_true h2⟩
theorem c_textOk (hb : rn b cap src) (hn : n ≤ 16) (hp : q + n ≤ src.length) (hbad : badT src q n = false) (hm : m < 101) {B : Nat} (hB : B + n ≤ 200) : ∃ cs', F_Rd_readText (N, E, O, C, L, sy, nI q, lv, rs) b (tg, bh, vs, ls, cs, nI m, nI B) (nI g) (nI n) = some ((N, E, O, C, L, sy, nI (q + n), lv, rs), (upd tg m (nI g), upd bh m (nI (m + 1)), upd vs m (nI B), upd ls m (nI (kp src q n)), cs', nI (m + 1), nI (B + kp src q n))) ∧ (∀ k, k < B → cs' k = cs k) ∧ ∀ k, k < kp src q n → cs' (B + k) = nI (src.getD (q + k) 0) := by
  have hc := rn_cap hb
  obtain ⟨b1, b2⟩ := badT_no hbad
  have hkp := kp_le (src := src) (q := q) (n := n)
  rw [c_text0 hb hn hp]
  generalize kp src q n = K at *
  have hg := hb.2 (q + K - 1)
  obtain ⟨cs', h1, h2, h3⟩ := c_text1 (N := N) (E := E) (O := O) (C := C) (L := L) (sy := sy) (lv := lv) (rs := rs) (tg := upd tg m (nI g)) (bh := upd bh m (nI (m + 1))) (vs := upd vs m (nI B)) (ls := upd ls m (nI K)) (ct := nI (m + 1)) (m := K) (n := n) (q := q) hb (by omega) (B := B) (by omega) (by omega) K 0 FU cs (by omega) (by unfold FU; omega) (fun k _ hk => b2 k hk)
  refine ⟨cs', ?_, fun k hk => h2 k (by omega), fun k hk => h3 k (by omega) hk⟩
  have key : B_Rd_readText_63 b (N, E, O, C, L, sy, nI q, lv, rs) (tg, bh, vs, ls, cs, nI m, nI B) (nI g) (nI n) (nI K) = some ((N, E, O, C, L, sy, nI (q + n), lv, rs), (upd tg m (nI g), upd bh m (nI (m + 1)), upd vs m (nI B), upd ls m (nI K), cs', nI (m + 1), nI (B + K))) := by
    unfold B_Rd_readText_63 F_Tr_characterCount B_Tr_characterCount_0
    rw [Option.bind_some]
    dsimp only [Tr_characterCount]
    rw [c_add hm, Option.bind_some]
    exact h1
  unfold B_Rd_readText_29
  by_cases h0 : K = 0
  · rw [if_pos (by first | omega | (simp (disch := omega) only [z_lt, z_le, z_eq, z_cl, z_ad, z_mu, z_sb, z_n1, z_em, z_me, z_lm, z_ml, z_mle, z_lme, z_ma, z_am, z_m2, not_false_eq_true, z_l0, z_l1, z_l2, z_l3, z_l4, z_l5, z_l6, z_l7, z_l8, z_l10, z_l14, z_l15, z_l16, z_l32, z_l80, z_l101, z_l120, z_l126, z_l127, z_l130, z_l160, z_l198, z_l200, z_l202, z_l240, z_l252, z_l253, z_l254, z_l255, z_l260, z_l480, z_l900, Rd_nodes, Rd_ends, Rd_isOpen, Rd_counts, Rd_lastTags, Rd_syntax, Rd_position, Rd_level, Rd_result, Rd_set_nodes, Rd_set_ends, Rd_set_isOpen, Rd_set_counts, Rd_set_lastTags, Rd_set_syntax, Rd_set_position, Rd_set_level, Rd_set_result, Tr_tags, Tr_behind, Tr_values, Tr_lengths, Tr_characters, Tr_count, Tr_characterCount, Tr_set_tags, Tr_set_behind, Tr_set_values, Tr_set_lengths, Tr_set_characters, Tr_set_count, Tr_set_characterCount, Bs_n, Bs_values, Bs_count, Bs_set_n, Bs_set_values, Bs_set_count] <;> omega))]
    exact key
  · rw [if_neg (by first | omega | (simp (disch := omega) only [z_lt, z_le, z_eq, z_cl, z_ad, z_mu, z_sb, z_n1, z_em, z_me, z_lm, z_ml, z_mle, z_lme, z_ma, z_am, z_m2, not_false_eq_true, z_l0, z_l1, z_l2, z_l3, z_l4, z_l5, z_l6, z_l7, z_l8, z_l10, z_l14, z_l15, z_l16, z_l32, z_l80, z_l101, z_l120, z_l126, z_l127, z_l130, z_l160, z_l198, z_l200, z_l202, z_l240, z_l252, z_l253, z_l254, z_l255, z_l260, z_l480, z_l900, Rd_nodes, Rd_ends, Rd_isOpen, Rd_counts, Rd_lastTags, Rd_syntax, Rd_position, Rd_level, Rd_result, Rd_set_nodes, Rd_set_ends, Rd_set_isOpen, Rd_set_counts, Rd_set_lastTags, Rd_set_syntax, Rd_set_position, Rd_set_level, Rd_set_result, Tr_tags, Tr_behind, Tr_values, Tr_lengths, Tr_characters, Tr_count, Tr_characterCount, Tr_set_tags, Tr_set_behind, Tr_set_values, Tr_set_lengths, Tr_set_characters, Tr_set_count, Tr_set_characterCount, Bs_n, Bs_values, Bs_count, Bs_set_n, Bs_set_values, Bs_set_count] <;> omega))]
    unfold B_Rd_readText_33
    show (F_Bs_get b (nI q + nI K - 1)).bind _ = _
    rw [show nI q + nI K - 1 = nI (q + K - 1) by simp (disch := omega) only [z_lt, z_le, z_eq, z_cl, z_ad, z_mu, z_sb, z_n1, z_em, z_me, z_lm, z_ml, z_mle, z_lme, z_ma, z_am, z_m2, not_false_eq_true, z_l0, z_l1, z_l2, z_l3, z_l4, z_l5, z_l6, z_l7, z_l8, z_l10, z_l14, z_l15, z_l16, z_l32, z_l80, z_l101, z_l120, z_l126, z_l127, z_l130, z_l160, z_l198, z_l200, z_l202, z_l240, z_l252, z_l253, z_l254, z_l255, z_l260, z_l480, z_l900, Rd_nodes, Rd_ends, Rd_isOpen, Rd_counts, Rd_lastTags, Rd_syntax, Rd_position, Rd_level, Rd_result, Rd_set_nodes, Rd_set_ends, Rd_set_isOpen, Rd_set_counts, Rd_set_lastTags, Rd_set_syntax, Rd_set_position, Rd_set_level, Rd_set_result, Tr_tags, Tr_behind, Tr_values, Tr_lengths, Tr_characters, Tr_count, Tr_characterCount, Tr_set_tags, Tr_set_behind, Tr_set_values, Tr_set_lengths, Tr_set_characters, Tr_set_count, Tr_set_characterCount, Bs_n, Bs_values, Bs_count, Bs_set_n, Bs_set_values, Bs_set_count], rn_get hb (by omega), Option.bind_some]
    rw [if_neg (by first | omega | (simp (disch := omega) only [z_lt, z_le, z_eq, z_cl, z_ad, z_mu, z_sb, z_n1, z_em, z_me, z_lm, z_ml, z_mle, z_lme, z_ma, z_am, z_m2, not_false_eq_true, z_l0, z_l1, z_l2, z_l3, z_l4, z_l5, z_l6, z_l7, z_l8, z_l10, z_l14, z_l15, z_l16, z_l32, z_l80, z_l101, z_l120, z_l126, z_l127, z_l130, z_l160, z_l198, z_l200, z_l202, z_l240, z_l252, z_l253, z_l254, z_l255, z_l260, z_l480, z_l900, Rd_nodes, Rd_ends, Rd_isOpen, Rd_counts, Rd_lastTags, Rd_syntax, Rd_position, Rd_level, Rd_result, Rd_set_nodes, Rd_set_ends, Rd_set_isOpen, Rd_set_counts, Rd_set_lastTags, Rd_set_syntax, Rd_set_position, Rd_set_level, Rd_set_result, Tr_tags, Tr_behind, Tr_values, Tr_lengths, Tr_characters, Tr_count, Tr_characterCount, Tr_set_tags, Tr_set_behind, Tr_set_values, Tr_set_lengths, Tr_set_characters, Tr_set_count, Tr_set_characterCount, Bs_n, Bs_values, Bs_count, Bs_set_n, Bs_set_values, Bs_set_count] <;> omega))]
    exact key
theorem c_textBad (hb : rn b cap src) (hn : n ≤ 16) (hp : q + n ≤ src.length) (hbad : badT src q n = true) (hm : m < 101) {B : Nat} (hB : B + n ≤ 200) : ∃ s' t', F_Rd_readText (N, E, O, C, L, sy, nI q, lv, rs) b (tg, bh, vs, ls, cs, nI m, nI B) (nI g) (nI n) = some (s', t') ∧ Rd_result s' = nI (5 + 16 * q) := by
  have hc := rn_cap hb
  have b1 := badT_yes hbad
  have hkp := kp_le (src := src) (q := q) (n := n)
  rw [c_text0 hb hn hp]
  generalize kp src q n = K at *
  have hg := hb.2 (q + K - 1)
  have h63 : (∃ i, i < K ∧ (src.getD (q + i) 0 < 32 ∨ 126 < src.getD (q + i) 0)) → ∃ s' t', B_Rd_readText_63 b (N, E, O, C, L, sy, nI q, lv, rs) (tg, bh, vs, ls, cs, nI m, nI B) (nI g) (nI n) (nI K) = some (s', t') ∧ Rd_result s' = nI (5 + 16 * q) := by
    rintro ⟨i, h1, h2⟩
    obtain ⟨s', t', h3, h4⟩ := c_text2 (N := N) (E := E) (O := O) (C := C) (L := L) (sy := sy) (lv := lv) (rs := rs) (tg := upd tg m (nI g)) (bh := upd bh m (nI (m + 1))) (vs := upd vs m (nI B)) (ls := upd ls m (nI K)) (ct := nI (m + 1)) (m := K) (n := n) (q := q) hb (by omega) (B := B) (by omega) (by omega) K 0 FU cs (by omega) (by unfold FU; omega) ⟨i, by omega, h1, h2⟩
    refine ⟨s', t', ?_, h4⟩
    unfold B_Rd_readText_63 F_Tr_characterCount B_Tr_characterCount_0
    rw [Option.bind_some]
    dsimp only [Tr_characterCount]
    rw [c_add hm, Option.bind_some]
    exact h3
  unfold B_Rd_readText_29
  by_cases h0 : K = 0
  · rcases b1 with b1 | ⟨i, b1, b2⟩
    · omega
    · omega
  · rw [if_neg (by first | omega | (simp (disch := omega) only [z_lt, z_le, z_eq, z_cl, z_ad, z_mu, z_sb, z_n1, z_em, z_me, z_lm, z_ml, z_mle, z_lme, z_ma, z_am, z_m2, not_false_eq_true, z_l0, z_l1, z_l2, z_l3, z_l4, z_l5, z_l6, z_l7, z_l8, z_l10, z_l14, z_l15, z_l16, z_l32, z_l80, z_l101, z_l120, z_l126, z_l127, z_l130, z_l160, z_l198, z_l200, z_l202, z_l240, z_l252, z_l253, z_l254, z_l255, z_l260, z_l480, z_l900, Rd_nodes, Rd_ends, Rd_isOpen, Rd_counts, Rd_lastTags, Rd_syntax, Rd_position, Rd_level, Rd_result, Rd_set_nodes, Rd_set_ends, Rd_set_isOpen, Rd_set_counts, Rd_set_lastTags, Rd_set_syntax, Rd_set_position, Rd_set_level, Rd_set_result, Tr_tags, Tr_behind, Tr_values, Tr_lengths, Tr_characters, Tr_count, Tr_characterCount, Tr_set_tags, Tr_set_behind, Tr_set_values, Tr_set_lengths, Tr_set_characters, Tr_set_count, Tr_set_characterCount, Bs_n, Bs_values, Bs_count, Bs_set_n, Bs_set_values, Bs_set_count] <;> omega))]
    unfold B_Rd_readText_33
    rw [show Rd_position (N, E, O, C, L, sy, nI q, lv, rs) + nI K - 1 = nI (q + K - 1) by simp (disch := omega) only [z_lt, z_le, z_eq, z_cl, z_ad, z_mu, z_sb, z_n1, z_em, z_me, z_lm, z_ml, z_mle, z_lme, z_ma, z_am, z_m2, not_false_eq_true, z_l0, z_l1, z_l2, z_l3, z_l4, z_l5, z_l6, z_l7, z_l8, z_l10, z_l14, z_l15, z_l16, z_l32, z_l80, z_l101, z_l120, z_l126, z_l127, z_l130, z_l160, z_l198, z_l200, z_l202, z_l240, z_l252, z_l253, z_l254, z_l255, z_l260, z_l480, z_l900, Rd_nodes, Rd_ends, Rd_isOpen, Rd_counts, Rd_lastTags, Rd_syntax, Rd_position, Rd_level, Rd_result, Rd_set_nodes, Rd_set_ends, Rd_set_isOpen, Rd_set_counts, Rd_set_lastTags, Rd_set_syntax, Rd_set_position, Rd_set_level, Rd_set_result, Tr_tags, Tr_behind, Tr_values, Tr_lengths, Tr_characters, Tr_count, Tr_characterCount, Tr_set_tags, Tr_set_behind, Tr_set_values, Tr_set_lengths, Tr_set_characters, Tr_set_count, Tr_set_characterCount, Bs_n, Bs_values, Bs_count, Bs_set_n, Bs_set_values, Bs_set_count], rn_get hb (by omega), Option.bind_some]
    by_cases h1 : src.getD (q + K - 1) 0 = 32
    · rw [if_pos (by first | omega | (simp (disch := omega) only [z_lt, z_le, z_eq, z_cl, z_ad, z_mu, z_sb, z_n1, z_em, z_me, z_lm, z_ml, z_mle, z_lme, z_ma, z_am, z_m2, not_false_eq_true, z_l0, z_l1, z_l2, z_l3, z_l4, z_l5, z_l6, z_l7, z_l8, z_l10, z_l14, z_l15, z_l16, z_l32, z_l80, z_l101, z_l120, z_l126, z_l127, z_l130, z_l160, z_l198, z_l200, z_l202, z_l240, z_l252, z_l253, z_l254, z_l255, z_l260, z_l480, z_l900, Rd_nodes, Rd_ends, Rd_isOpen, Rd_counts, Rd_lastTags, Rd_syntax, Rd_position, Rd_level, Rd_result, Rd_set_nodes, Rd_set_ends, Rd_set_isOpen, Rd_set_counts, Rd_set_lastTags, Rd_set_syntax, Rd_set_position, Rd_set_level, Rd_set_result, Tr_tags, Tr_behind, Tr_values, Tr_lengths, Tr_characters, Tr_count, Tr_characterCount, Tr_set_tags, Tr_set_behind, Tr_set_values, Tr_set_lengths, Tr_set_characters, Tr_set_count, Tr_set_characterCount, Bs_n, Bs_values, Bs_count, Bs_set_n, Bs_set_values, Bs_set_count, h1] <;> omega))]
      refine ⟨(N, E, O, C, L, sy, nI q, lv, nI (5 + 16 * q)), (tg, bh, vs, ls, cs, nI m, nI B), ?_, rfl⟩
      unfold B_Rd_readText_53
      dsimp only [Rd_position]
      rw [show (5 : Int32) = nI 5 from rfl, c_fail, Option.bind_some]
    · rw [if_neg (by first | omega | (simp (disch := omega) only [z_lt, z_le, z_eq, z_cl, z_ad, z_mu, z_sb, z_n1, z_em, z_me, z_lm, z_ml, z_mle, z_lme, z_ma, z_am, z_m2, not_false_eq_true, z_l0, z_l1, z_l2, z_l3, z_l4, z_l5, z_l6, z_l7, z_l8, z_l10, z_l14, z_l15, z_l16, z_l32, z_l80, z_l101, z_l120, z_l126, z_l127, z_l130, z_l160, z_l198, z_l200, z_l202, z_l240, z_l252, z_l253, z_l254, z_l255, z_l260, z_l480, z_l900, Rd_nodes, Rd_ends, Rd_isOpen, Rd_counts, Rd_lastTags, Rd_syntax, Rd_position, Rd_level, Rd_result, Rd_set_nodes, Rd_set_ends, Rd_set_isOpen, Rd_set_counts, Rd_set_lastTags, Rd_set_syntax, Rd_set_position, Rd_set_level, Rd_set_result, Tr_tags, Tr_behind, Tr_values, Tr_lengths, Tr_characters, Tr_count, Tr_characterCount, Tr_set_tags, Tr_set_behind, Tr_set_values, Tr_set_lengths, Tr_set_characters, Tr_set_count, Tr_set_characterCount, Bs_n, Bs_values, Bs_count, Bs_set_n, Bs_set_values, Bs_set_count, h1] <;> omega))]
      exact h63 (by
        rcases b1 with b1 | b1
        · exact absurd b1.2 h1
        · exact b1)
/-! the kind that is said -/
theorem c_rk1 : F_Rd_readKind (N, E, O, C, L, nI 1, ps, lv, rs) b (nI k) = some (1, (N, E, O, C, L, nI 1, ps, lv, rs)) := by
  unfold F_Rd_readKind B_Rd_readKind_0
  rw [if_pos (by first | omega | (simp (disch := omega) only [z_lt, z_le, z_eq, z_cl, z_ad, z_mu, z_sb, z_n1, z_em, z_me, z_lm, z_ml, z_mle, z_lme, z_ma, z_am, z_m2, not_false_eq_true, z_l0, z_l1, z_l2, z_l3, z_l4, z_l5, z_l6, z_l7, z_l8, z_l10, z_l14, z_l15, z_l16, z_l32, z_l80, z_l101, z_l120, z_l126, z_l127, z_l130, z_l160, z_l198, z_l200, z_l202, z_l240, z_l252, z_l253, z_l254, z_l255, z_l260, z_l480, z_l900, Rd_nodes, Rd_ends, Rd_isOpen, Rd_counts, Rd_lastTags, Rd_syntax, Rd_position, Rd_level, Rd_result, Rd_set_nodes, Rd_set_ends, Rd_set_isOpen, Rd_set_counts, Rd_set_lastTags, Rd_set_syntax, Rd_set_position, Rd_set_level, Rd_set_result, Tr_tags, Tr_behind, Tr_values, Tr_lengths, Tr_characters, Tr_count, Tr_characterCount, Tr_set_tags, Tr_set_behind, Tr_set_values, Tr_set_lengths, Tr_set_characters, Tr_set_count, Tr_set_characterCount, Bs_n, Bs_values, Bs_count, Bs_set_n, Bs_set_values, Bs_set_count] <;> omega))]
  rfl
theorem c_rk2 (h5 : l < 5) (hE : E l = nI en) (he : en < 2 ^ 20) (hp : p < 2 ^ 20) (h : en ≤ p) : F_Rd_readKind (N, E, O, C, L, nI 0, nI p, nI l, rs) b (nI k) = some (0, (N, E, O, C, L, nI 0, nI p, nI l, nI (1 + 16 * en))) := by
  unfold F_Rd_readKind B_Rd_readKind_0
  rw [if_neg (by first | omega | (simp (disch := omega) only [z_lt, z_le, z_eq, z_cl, z_ad, z_mu, z_sb, z_n1, z_em, z_me, z_lm, z_ml, z_mle, z_lme, z_ma, z_am, z_m2, not_false_eq_true, z_l0, z_l1, z_l2, z_l3, z_l4, z_l5, z_l6, z_l7, z_l8, z_l10, z_l14, z_l15, z_l16, z_l32, z_l80, z_l101, z_l120, z_l126, z_l127, z_l130, z_l160, z_l198, z_l200, z_l202, z_l240, z_l252, z_l253, z_l254, z_l255, z_l260, z_l480, z_l900, Rd_nodes, Rd_ends, Rd_isOpen, Rd_counts, Rd_lastTags, Rd_syntax, Rd_position, Rd_level, Rd_result, Rd_set_nodes, Rd_set_ends, Rd_set_isOpen, Rd_set_counts, Rd_set_lastTags, Rd_set_syntax, Rd_set_position, Rd_set_level, Rd_set_result, Tr_tags, Tr_behind, Tr_values, Tr_lengths, Tr_characters, Tr_count, Tr_characterCount, Tr_set_tags, Tr_set_behind, Tr_set_values, Tr_set_lengths, Tr_set_characters, Tr_set_count, Tr_set_characterCount, Bs_n, Bs_values, Bs_count, Bs_set_n, Bs_set_values, Bs_set_count] <;> omega))]
  unfold B_Rd_readKind_10
  rw [if_neg (by first | omega | (simp (disch := omega) only [z_lt, z_le, z_eq, z_cl, z_ad, z_mu, z_sb, z_n1, z_em, z_me, z_lm, z_ml, z_mle, z_lme, z_ma, z_am, z_m2, not_false_eq_true, z_l0, z_l1, z_l2, z_l3, z_l4, z_l5, z_l6, z_l7, z_l8, z_l10, z_l14, z_l15, z_l16, z_l32, z_l80, z_l101, z_l120, z_l126, z_l127, z_l130, z_l160, z_l198, z_l200, z_l202, z_l240, z_l252, z_l253, z_l254, z_l255, z_l260, z_l480, z_l900, Rd_nodes, Rd_ends, Rd_isOpen, Rd_counts, Rd_lastTags, Rd_syntax, Rd_position, Rd_level, Rd_result, Rd_set_nodes, Rd_set_ends, Rd_set_isOpen, Rd_set_counts, Rd_set_lastTags, Rd_set_syntax, Rd_set_position, Rd_set_level, Rd_set_result, Tr_tags, Tr_behind, Tr_values, Tr_lengths, Tr_characters, Tr_count, Tr_characterCount, Tr_set_tags, Tr_set_behind, Tr_set_values, Tr_set_lengths, Tr_set_characters, Tr_set_count, Tr_set_characterCount, Bs_n, Bs_values, Bs_count, Bs_set_n, Bs_set_values, Bs_set_count] <;> omega))]
  rw [if_neg (by first | omega | (simp (disch := omega) only [z_lt, z_le, z_eq, z_cl, z_ad, z_mu, z_sb, z_n1, z_em, z_me, z_lm, z_ml, z_mle, z_lme, z_ma, z_am, z_m2, not_false_eq_true, z_l0, z_l1, z_l2, z_l3, z_l4, z_l5, z_l6, z_l7, z_l8, z_l10, z_l14, z_l15, z_l16, z_l32, z_l80, z_l101, z_l120, z_l126, z_l127, z_l130, z_l160, z_l198, z_l200, z_l202, z_l240, z_l252, z_l253, z_l254, z_l255, z_l260, z_l480, z_l900, Rd_nodes, Rd_ends, Rd_isOpen, Rd_counts, Rd_lastTags, Rd_syntax, Rd_position, Rd_level, Rd_result, Rd_set_nodes, Rd_set_ends, Rd_set_isOpen, Rd_set_counts, Rd_set_lastTags, Rd_set_syntax, Rd_set_position, Rd_set_level, Rd_set_result, Tr_tags, Tr_behind, Tr_values, Tr_lengths, Tr_characters, Tr_count, Tr_characterCount, Tr_set_tags, Tr_set_behind, Tr_set_values, Tr_set_lengths, Tr_set_characters, Tr_set_count, Tr_set_characterCount, Bs_n, Bs_values, Bs_count, Bs_set_n, Bs_set_values, Bs_set_count, hE] <;> omega))]
  unfold B_Rd_readKind_26
  rw [if_neg (by first | omega | (simp (disch := omega) only [z_lt, z_le, z_eq, z_cl, z_ad, z_mu, z_sb, z_n1, z_em, z_me, z_lm, z_ml, z_mle, z_lme, z_ma, z_am, z_m2, not_false_eq_true, z_l0, z_l1, z_l2, z_l3, z_l4, z_l5, z_l6, z_l7, z_l8, z_l10, z_l14, z_l15, z_l16, z_l32, z_l80, z_l101, z_l120, z_l126, z_l127, z_l130, z_l160, z_l198, z_l200, z_l202, z_l240, z_l252, z_l253, z_l254, z_l255, z_l260, z_l480, z_l900, Rd_nodes, Rd_ends, Rd_isOpen, Rd_counts, Rd_lastTags, Rd_syntax, Rd_position, Rd_level, Rd_result, Rd_set_nodes, Rd_set_ends, Rd_set_isOpen, Rd_set_counts, Rd_set_lastTags, Rd_set_syntax, Rd_set_position, Rd_set_level, Rd_set_result, Tr_tags, Tr_behind, Tr_values, Tr_lengths, Tr_characters, Tr_count, Tr_characterCount, Tr_set_tags, Tr_set_behind, Tr_set_values, Tr_set_lengths, Tr_set_characters, Tr_set_count, Tr_set_characterCount, Bs_n, Bs_values, Bs_count, Bs_set_n, Bs_set_values, Bs_set_count] <;> omega))]
  dsimp only [Rd_level, Rd_ends]
  rw [z_cl (by omega), hE, show (1 : Int32) = nI 1 from rfl, c_fail, Option.bind_some]
theorem c_rk3 (hb : rn b cap src) (h5 : l < 5) (hE : E l = nI en) (he : en ≤ src.length) (hp : p < en) (hk : k < 256) (h : src.getD p 0 ≠ k) : F_Rd_readKind (N, E, O, C, L, nI 0, nI p, nI l, rs) b (nI k) = some (0, (N, E, O, C, L, nI 0, nI p, nI l, nI (3 + 16 * p))) := by
  have hg := hb.2 p
  have hc := rn_cap hb
  unfold F_Rd_readKind B_Rd_readKind_0
  rw [if_neg (by first | omega | (simp (disch := omega) only [z_lt, z_le, z_eq, z_cl, z_ad, z_mu, z_sb, z_n1, z_em, z_me, z_lm, z_ml, z_mle, z_lme, z_ma, z_am, z_m2, not_false_eq_true, z_l0, z_l1, z_l2, z_l3, z_l4, z_l5, z_l6, z_l7, z_l8, z_l10, z_l14, z_l15, z_l16, z_l32, z_l80, z_l101, z_l120, z_l126, z_l127, z_l130, z_l160, z_l198, z_l200, z_l202, z_l240, z_l252, z_l253, z_l254, z_l255, z_l260, z_l480, z_l900, Rd_nodes, Rd_ends, Rd_isOpen, Rd_counts, Rd_lastTags, Rd_syntax, Rd_position, Rd_level, Rd_result, Rd_set_nodes, Rd_set_ends, Rd_set_isOpen, Rd_set_counts, Rd_set_lastTags, Rd_set_syntax, Rd_set_position, Rd_set_level, Rd_set_result, Tr_tags, Tr_behind, Tr_values, Tr_lengths, Tr_characters, Tr_count, Tr_characterCount, Tr_set_tags, Tr_set_behind, Tr_set_values, Tr_set_lengths, Tr_set_characters, Tr_set_count, Tr_set_characterCount, Bs_n, Bs_values, Bs_count, Bs_set_n, Bs_set_values, Bs_set_count] <;> omega))]
  unfold B_Rd_readKind_10
  rw [if_neg (by first | omega | (simp (disch := omega) only [z_lt, z_le, z_eq, z_cl, z_ad, z_mu, z_sb, z_n1, z_em, z_me, z_lm, z_ml, z_mle, z_lme, z_ma, z_am, z_m2, not_false_eq_true, z_l0, z_l1, z_l2, z_l3, z_l4, z_l5, z_l6, z_l7, z_l8, z_l10, z_l14, z_l15, z_l16, z_l32, z_l80, z_l101, z_l120, z_l126, z_l127, z_l130, z_l160, z_l198, z_l200, z_l202, z_l240, z_l252, z_l253, z_l254, z_l255, z_l260, z_l480, z_l900, Rd_nodes, Rd_ends, Rd_isOpen, Rd_counts, Rd_lastTags, Rd_syntax, Rd_position, Rd_level, Rd_result, Rd_set_nodes, Rd_set_ends, Rd_set_isOpen, Rd_set_counts, Rd_set_lastTags, Rd_set_syntax, Rd_set_position, Rd_set_level, Rd_set_result, Tr_tags, Tr_behind, Tr_values, Tr_lengths, Tr_characters, Tr_count, Tr_characterCount, Tr_set_tags, Tr_set_behind, Tr_set_values, Tr_set_lengths, Tr_set_characters, Tr_set_count, Tr_set_characterCount, Bs_n, Bs_values, Bs_count, Bs_set_n, Bs_set_values, Bs_set_count] <;> omega))]
  rw [if_pos (by first | omega | (simp (disch := omega) only [z_lt, z_le, z_eq, z_cl, z_ad, z_mu, z_sb, z_n1, z_em, z_me, z_lm, z_ml, z_mle, z_lme, z_ma, z_am, z_m2, not_false_eq_true, z_l0, z_l1, z_l2, z_l3, z_l4, z_l5, z_l6, z_l7, z_l8, z_l10, z_l14, z_l15, z_l16, z_l32, z_l80, z_l101, z_l120, z_l126, z_l127, z_l130, z_l160, z_l198, z_l200, z_l202, z_l240, z_l252, z_l253, z_l254, z_l255, z_l260, z_l480, z_l900, Rd_nodes, Rd_ends, Rd_isOpen, Rd_counts, Rd_lastTags, Rd_syntax, Rd_position, Rd_level, Rd_result, Rd_set_nodes, Rd_set_ends, Rd_set_isOpen, Rd_set_counts, Rd_set_lastTags, Rd_set_syntax, Rd_set_position, Rd_set_level, Rd_set_result, Tr_tags, Tr_behind, Tr_values, Tr_lengths, Tr_characters, Tr_count, Tr_characterCount, Tr_set_tags, Tr_set_behind, Tr_set_values, Tr_set_lengths, Tr_set_characters, Tr_set_count, Tr_set_characterCount, Bs_n, Bs_values, Bs_count, Bs_set_n, Bs_set_values, Bs_set_count, hE] <;> omega))]
  unfold B_Rd_readKind_42
  dsimp only [Rd_position]
  rw [rn_get hb (by omega), Option.bind_some]
  rw [if_neg (by first | omega | (simp (disch := omega) only [z_lt, z_le, z_eq, z_cl, z_ad, z_mu, z_sb, z_n1, z_em, z_me, z_lm, z_ml, z_mle, z_lme, z_ma, z_am, z_m2, not_false_eq_true, z_l0, z_l1, z_l2, z_l3, z_l4, z_l5, z_l6, z_l7, z_l8, z_l10, z_l14, z_l15, z_l16, z_l32, z_l80, z_l101, z_l120, z_l126, z_l127, z_l130, z_l160, z_l198, z_l200, z_l202, z_l240, z_l252, z_l253, z_l254, z_l255, z_l260, z_l480, z_l900, Rd_nodes, Rd_ends, Rd_isOpen, Rd_counts, Rd_lastTags, Rd_syntax, Rd_position, Rd_level, Rd_result, Rd_set_nodes, Rd_set_ends, Rd_set_isOpen, Rd_set_counts, Rd_set_lastTags, Rd_set_syntax, Rd_set_position, Rd_set_level, Rd_set_result, Tr_tags, Tr_behind, Tr_values, Tr_lengths, Tr_characters, Tr_count, Tr_characterCount, Tr_set_tags, Tr_set_behind, Tr_set_values, Tr_set_lengths, Tr_set_characters, Tr_set_count, Tr_set_characterCount, Bs_n, Bs_values, Bs_count, Bs_set_n, Bs_set_values, Bs_set_count] <;> omega))]
  unfold B_Rd_readKind_57
  dsimp only [Rd_position]
  rw [show (3 : Int32) = nI 3 from rfl, c_fail, Option.bind_some]
theorem c_rk4 (hb : rn b cap src) (h5 : l < 5) (hE : E l = nI en) (he : en ≤ src.length) (hp : p < en) (hk : k < 256) (h : src.getD p 0 = k) : F_Rd_readKind (N, E, O, C, L, nI 0, nI p, nI l, rs) b (nI k) = some (1, (N, E, O, C, L, nI 0, nI (p + 1), nI l, rs)) := by
  have hg := hb.2 p
  have hc := rn_cap hb
  unfold F_Rd_readKind B_Rd_readKind_0
  rw [if_neg (by first | omega | (simp (disch := omega) only [z_lt, z_le, z_eq, z_cl, z_ad, z_mu, z_sb, z_n1, z_em, z_me, z_lm, z_ml, z_mle, z_lme, z_ma, z_am, z_m2, not_false_eq_true, z_l0, z_l1, z_l2, z_l3, z_l4, z_l5, z_l6, z_l7, z_l8, z_l10, z_l14, z_l15, z_l16, z_l32, z_l80, z_l101, z_l120, z_l126, z_l127, z_l130, z_l160, z_l198, z_l200, z_l202, z_l240, z_l252, z_l253, z_l254, z_l255, z_l260, z_l480, z_l900, Rd_nodes, Rd_ends, Rd_isOpen, Rd_counts, Rd_lastTags, Rd_syntax, Rd_position, Rd_level, Rd_result, Rd_set_nodes, Rd_set_ends, Rd_set_isOpen, Rd_set_counts, Rd_set_lastTags, Rd_set_syntax, Rd_set_position, Rd_set_level, Rd_set_result, Tr_tags, Tr_behind, Tr_values, Tr_lengths, Tr_characters, Tr_count, Tr_characterCount, Tr_set_tags, Tr_set_behind, Tr_set_values, Tr_set_lengths, Tr_set_characters, Tr_set_count, Tr_set_characterCount, Bs_n, Bs_values, Bs_count, Bs_set_n, Bs_set_values, Bs_set_count] <;> omega))]
  unfold B_Rd_readKind_10
  rw [if_neg (by first | omega | (simp (disch := omega) only [z_lt, z_le, z_eq, z_cl, z_ad, z_mu, z_sb, z_n1, z_em, z_me, z_lm, z_ml, z_mle, z_lme, z_ma, z_am, z_m2, not_false_eq_true, z_l0, z_l1, z_l2, z_l3, z_l4, z_l5, z_l6, z_l7, z_l8, z_l10, z_l14, z_l15, z_l16, z_l32, z_l80, z_l101, z_l120, z_l126, z_l127, z_l130, z_l160, z_l198, z_l200, z_l202, z_l240, z_l252, z_l253, z_l254, z_l255, z_l260, z_l480, z_l900, Rd_nodes, Rd_ends, Rd_isOpen, Rd_counts, Rd_lastTags, Rd_syntax, Rd_position, Rd_level, Rd_result, Rd_set_nodes, Rd_set_ends, Rd_set_isOpen, Rd_set_counts, Rd_set_lastTags, Rd_set_syntax, Rd_set_position, Rd_set_level, Rd_set_result, Tr_tags, Tr_behind, Tr_values, Tr_lengths, Tr_characters, Tr_count, Tr_characterCount, Tr_set_tags, Tr_set_behind, Tr_set_values, Tr_set_lengths, Tr_set_characters, Tr_set_count, Tr_set_characterCount, Bs_n, Bs_values, Bs_count, Bs_set_n, Bs_set_values, Bs_set_count] <;> omega))]
  rw [if_pos (by first | omega | (simp (disch := omega) only [z_lt, z_le, z_eq, z_cl, z_ad, z_mu, z_sb, z_n1, z_em, z_me, z_lm, z_ml, z_mle, z_lme, z_ma, z_am, z_m2, not_false_eq_true, z_l0, z_l1, z_l2, z_l3, z_l4, z_l5, z_l6, z_l7, z_l8, z_l10, z_l14, z_l15, z_l16, z_l32, z_l80, z_l101, z_l120, z_l126, z_l127, z_l130, z_l160, z_l198, z_l200, z_l202, z_l240, z_l252, z_l253, z_l254, z_l255, z_l260, z_l480, z_l900, Rd_nodes, Rd_ends, Rd_isOpen, Rd_counts, Rd_lastTags, Rd_syntax, Rd_position, Rd_level, Rd_result, Rd_set_nodes, Rd_set_ends, Rd_set_isOpen, Rd_set_counts, Rd_set_lastTags, Rd_set_syntax, Rd_set_position, Rd_set_level, Rd_set_result, Tr_tags, Tr_behind, Tr_values, Tr_lengths, Tr_characters, Tr_count, Tr_characterCount, Tr_set_tags, Tr_set_behind, Tr_set_values, Tr_set_lengths, Tr_set_characters, Tr_set_count, Tr_set_characterCount, Bs_n, Bs_values, Bs_count, Bs_set_n, Bs_set_values, Bs_set_count, hE] <;> omega))]
  unfold B_Rd_readKind_42
  dsimp only [Rd_position]
  rw [rn_get hb (by omega), Option.bind_some, h]
  rw [if_pos rfl]
  unfold B_Rd_readKind_68
  dsimp only [Rd_position, Rd_set_position]
  rw [nI_1]
end CRE
theorem rt_mk {tg bh vs ls cs : Nat → Int32} {nd : List Nd} {op : List Nat} {a b : Int32} (ha : a = nI nd.length) (hb : b = nI (ch nd).length) (h1 : rtT tg vs ls nd) (h2 : rtB bh nd op) (h3 : rtC cs nd) : rt (tg, bh, vs, ls, cs, a, b) nd op := ⟨tg, bh, vs, ls, cs, by rw [ha, hb], h1, h2, h3⟩
theorem crp_mk {syn : Nat} {N E O C L : Nat → Int32} {t : S_Tr} {σ : RS} {a b c d : Int32} (ha : a = nI syn) (hb : b = nI σ.1) (hc : c = lvl σ.2.1) (hd : d = nI 0) (h1 : frp N E O C L σ.2.1) (h2 : rt t σ.2.2 (σ.2.1.map (fun f => f.1))) : crp syn (N, E, O, C, L, a, b, c, d) t σ := ⟨N, E, O, C, L, by rw [ha, hb, hc, hd], h1, h2⟩
/-- the node that is entered: a sequence or an item -/
theorem c_push {syn p e g nf : Nat} {o : Bool} {x3 : Int32} {N E O C L tg bh vs ls cs : Nat → Int32} {f : Fr} {st : List Fr} {nd : List Nd} (h5 : st.length < 4) (hn : nd.length < 101) (hf : frp N E O C L (f :: st)) (hT : rtT tg vs ls nd) (hB : rtB bh nd ((f :: st).map (fun f => f.1))) (hC : rtC cs nd) (hch : chn nf nd (f :: st)) (hk : kd g = 3 ∨ kd g = 4) (hx : vp_nar .boolean x3 = if o = true then nI 1 else nI 0) : ∃ s' t', F_Rd_enter (N, E, O, C, L, nI syn, nI p, nI st.length, nI 0) (tg, bh, vs, ls, cs, nI nd.length, nI (ch nd).length) (nI g) (nI e) x3 = some (s', t') ∧ crp syn s' t' (p, (nd.length, e, o, 0, 0) :: f :: st, nd ++ [(st.length + 1, g, 0, [])]) := by
  refine ⟨_, _, c_enter (l := st.length + 1) (z_ad _ _) (by omega) hn, crp_mk rfl rfl rfl rfl ?_ (rt_mk ?_ ?_ (rtT_a (x := (st.length + 1, g, 0, [])) (w := 0) hT ?_ ?_) (rtB_mono (rtB_a hB hch (by simp))) ?_)⟩
  · refine ⟨?_, ?_, ?_, ?_, ?_, ?_⟩
    · exact pk_us
    · exact pk_us
    · rw [← hx]; exact pk_us
    · exact pk_us
    · exact pk_us
    · refine frp_c hf (fun l hl => ?_)
      simp only [List.length_cons] at hl
      rw [pk_un (by omega), pk_un (by omega), pk_un (by omega), pk_un (by omega), pk_un (by omega)]
      exact ⟨rfl, rfl, rfl, rfl, rfl⟩
  · simp
  · rw [ch_a]
    simp
  · dsimp only
    rw [if_neg (by omega), if_neg (by omega)]
  · dsimp only
    rw [if_neg (by omega), if_neg (by omega)]
  · intro i hi
    rw [ch_a] at hi ⊢
    dsimp only at hi ⊢
    rw [List.append_nil] at hi ⊢
    exact hC i hi
theorem nar_0 : vp_nar .boolean (0 : Int32) = nI 0 := by decide +kernel
theorem nar_1 : vp_nar .boolean (1 : Int32) = nI 1 := by decide +kernel
/-- a length and what stands behind it -/
theorem c_ln {syn p g : Nat} {src : List Nat} {b : S_Bs} {cap nf : Nat} {N E O C L tg bh vs ls cs : Nat → Int32} {f : Fr} {st : List Fr} {nd : List Nd} (hb : rn b cap src) (hg : g < 256) (h5 : st.length < 5) (h4 : kd g = 3 ∨ kd g = 4 → st.length < 4) (hn : 2 * nd.length + (ch nd).length ≤ p + 1) (hs : src.length ≤ 200) (hfe : f.2.1 ≤ src.length) (hp : p ≤ f.2.1) (hf : frp N E O C L (f :: st)) (hT : rtT tg vs ls nd) (hB : rtB bh nd ((f :: st).map (fun f => f.1))) (hC : rtC cs nd) (hch : chn nf nd (f :: st)) : (kd g ≤ 3 → ∃ s' t', B_Rd_readElement_143 b (N, E, O, C, L, nI syn, nI p, nI st.length, nI 0) (tg, bh, vs, ls, cs, nI nd.length, nI (ch nd).length) (nI g) (nI (kd g)) = some (s', t') ∧ cpo syn (rLn src g p f st nd) s' t') := by
  intro hk3
  have hc := rn_cap hb
  have hk := kd_le g
  have hgp := hb.2 p
  obtain ⟨hN, hE, hO, hC', hL, hst⟩ := hf
  have hf : frp N E O C L (f :: st) := ⟨hN, hE, hO, hC', hL, hst⟩
  unfold B_Rd_readElement_143 rLn
  by_cases a1 : f.2.1 ≤ p
  · rw [if_pos a1, c_rl0 h5 hE (by omega) (by omega) a1, Option.bind_some, if_pos rfl]
    exact ⟨_, _, rfl, rfl⟩
  · rw [if_neg a1]
    by_cases a2 : okL (kd g) (src.getD p 0) = true ∧ (src.getD p 0 = 255 ∨ p + 1 + src.getD p 0 ≤ f.2.1)
    · rw [if_pos a2, c_rl1 hb h5 hE hfe (by omega) hk.1 hk.2 a2.1 a2.2, Option.bind_some]
      dsimp only
      rw [if_neg (by first | omega | (simp (disch := omega) only [z_lt, z_le, z_eq, z_cl, z_ad, z_mu, z_sb, z_n1, z_em, z_me, z_lm, z_ml, z_mle, z_lme, z_ma, z_am, z_m2, not_false_eq_true, z_l0, z_l1, z_l2, z_l3, z_l4, z_l5, z_l6, z_l7, z_l8, z_l10, z_l14, z_l15, z_l16, z_l32, z_l80, z_l101, z_l120, z_l126, z_l127, z_l130, z_l160, z_l198, z_l200, z_l202, z_l240, z_l252, z_l253, z_l254, z_l255, z_l260, z_l480, z_l900, Rd_nodes, Rd_ends, Rd_isOpen, Rd_counts, Rd_lastTags, Rd_syntax, Rd_position, Rd_level, Rd_result, Rd_set_nodes, Rd_set_ends, Rd_set_isOpen, Rd_set_counts, Rd_set_lastTags, Rd_set_syntax, Rd_set_position, Rd_set_level, Rd_set_result, Tr_tags, Tr_behind, Tr_values, Tr_lengths, Tr_characters, Tr_count, Tr_characterCount, Tr_set_tags, Tr_set_behind, Tr_set_values, Tr_set_lengths, Tr_set_characters, Tr_set_count, Tr_set_characterCount, Bs_n, Bs_values, Bs_count, Bs_set_n, Bs_set_values, Bs_set_count] <;> omega))]
      unfold B_Rd_readElement_155
      by_cases k1 : kd g = 1
      · have h6 : src.getD p 0 ≤ 4 := by
          have := a2.1
          rw [k1] at this
          have := of_decide_eq_true this
          omega
        rw [if_pos k1]
        rw [if_pos (by first | omega | (simp (disch := omega) only [z_lt, z_le, z_eq, z_cl, z_ad, z_mu, z_sb, z_n1, z_em, z_me, z_lm, z_ml, z_mle, z_lme, z_ma, z_am, z_m2, not_false_eq_true, z_l0, z_l1, z_l2, z_l3, z_l4, z_l5, z_l6, z_l7, z_l8, z_l10, z_l14, z_l15, z_l16, z_l32, z_l80, z_l101, z_l120, z_l126, z_l127, z_l130, z_l160, z_l198, z_l200, z_l202, z_l240, z_l252, z_l253, z_l254, z_l255, z_l260, z_l480, z_l900, Rd_nodes, Rd_ends, Rd_isOpen, Rd_counts, Rd_lastTags, Rd_syntax, Rd_position, Rd_level, Rd_result, Rd_set_nodes, Rd_set_ends, Rd_set_isOpen, Rd_set_counts, Rd_set_lastTags, Rd_set_syntax, Rd_set_position, Rd_set_level, Rd_set_result, Tr_tags, Tr_behind, Tr_values, Tr_lengths, Tr_characters, Tr_count, Tr_characterCount, Tr_set_tags, Tr_set_behind, Tr_set_values, Tr_set_lengths, Tr_set_characters, Tr_set_count, Tr_set_characterCount, Bs_n, Bs_values, Bs_count, Bs_set_n, Bs_set_values, Bs_set_count, k1] <;> omega))]
        unfold B_Rd_readElement_160
        rw [c_readNumber hb h6 (by omega) (by omega), Option.bind_some]
        refine ⟨_, _, rfl, crp_mk rfl rfl rfl rfl hf (rt_mk ?_ ?_ (rtT_a (x := (st.length + 1, g, nu src (p + 1) (src.getD p 0), [])) hT ?_ ?_) (rtB_a hB hch (by simp)) ?_)⟩
        · simp
        · rw [ch_a]
          simp
        · dsimp only
          rw [if_pos k1]
        · dsimp only
          rw [if_pos k1]
        · intro i hi
          rw [ch_a] at hi ⊢
          dsimp only at hi ⊢
          rw [List.append_nil] at hi ⊢
          exact hC i hi
      · rw [if_neg k1]
        rw [if_neg (by first | omega | (simp (disch := omega) only [z_lt, z_le, z_eq, z_cl, z_ad, z_mu, z_sb, z_n1, z_em, z_me, z_lm, z_ml, z_mle, z_lme, z_ma, z_am, z_m2, not_false_eq_true, z_l0, z_l1, z_l2, z_l3, z_l4, z_l5, z_l6, z_l7, z_l8, z_l10, z_l14, z_l15, z_l16, z_l32, z_l80, z_l101, z_l120, z_l126, z_l127, z_l130, z_l160, z_l198, z_l200, z_l202, z_l240, z_l252, z_l253, z_l254, z_l255, z_l260, z_l480, z_l900, Rd_nodes, Rd_ends, Rd_isOpen, Rd_counts, Rd_lastTags, Rd_syntax, Rd_position, Rd_level, Rd_result, Rd_set_nodes, Rd_set_ends, Rd_set_isOpen, Rd_set_counts, Rd_set_lastTags, Rd_set_syntax, Rd_set_position, Rd_set_level, Rd_set_result, Tr_tags, Tr_behind, Tr_values, Tr_lengths, Tr_characters, Tr_count, Tr_characterCount, Tr_set_tags, Tr_set_behind, Tr_set_values, Tr_set_lengths, Tr_set_characters, Tr_set_count, Tr_set_characterCount, Bs_n, Bs_values, Bs_count, Bs_set_n, Bs_set_values, Bs_set_count, k1] <;> omega))]
        unfold B_Rd_readElement_169
        by_cases k2 : kd g = 2
        · have h6 : src.getD p 0 ≤ 16 := by
            have := a2.1
            rw [k2] at this
            have := of_decide_eq_true this
            omega
          rw [if_pos k2]
          rw [if_pos (by first | omega | (simp (disch := omega) only [z_lt, z_le, z_eq, z_cl, z_ad, z_mu, z_sb, z_n1, z_em, z_me, z_lm, z_ml, z_mle, z_lme, z_ma, z_am, z_m2, not_false_eq_true, z_l0, z_l1, z_l2, z_l3, z_l4, z_l5, z_l6, z_l7, z_l8, z_l10, z_l14, z_l15, z_l16, z_l32, z_l80, z_l101, z_l120, z_l126, z_l127, z_l130, z_l160, z_l198, z_l200, z_l202, z_l240, z_l252, z_l253, z_l254, z_l255, z_l260, z_l480, z_l900, Rd_nodes, Rd_ends, Rd_isOpen, Rd_counts, Rd_lastTags, Rd_syntax, Rd_position, Rd_level, Rd_result, Rd_set_nodes, Rd_set_ends, Rd_set_isOpen, Rd_set_counts, Rd_set_lastTags, Rd_set_syntax, Rd_set_position, Rd_set_level, Rd_set_result, Tr_tags, Tr_behind, Tr_values, Tr_lengths, Tr_characters, Tr_count, Tr_characterCount, Tr_set_tags, Tr_set_behind, Tr_set_values, Tr_set_lengths, Tr_set_characters, Tr_set_count, Tr_set_characterCount, Bs_n, Bs_values, Bs_count, Bs_set_n, Bs_set_values, Bs_set_count, k2] <;> omega))]
          unfold B_Rd_readElement_174
          by_cases k3 : badT src (p + 1) (src.getD p 0) = true
          · rw [if_pos k3]
            obtain ⟨s', t', e1, e2⟩ := c_textBad (N := N) (E := E) (O := O) (C := C) (L := L) (sy := nI syn) (lv := nI st.length) (rs := nI 0) (tg := tg) (bh := bh) (vs := vs) (ls := ls) (cs := cs) (m := nd.length) (B := (ch nd).length) (g := g) hb h6 (by omega) k3 (by omega) (by omega)
            rw [e1, Option.bind_some]
            exact ⟨_, _, rfl, e2⟩
          · rw [if_neg k3]
            obtain ⟨cs', e1, e2, e3⟩ := c_textOk (N := N) (E := E) (O := O) (C := C) (L := L) (sy := nI syn) (lv := nI st.length) (rs := nI 0) (tg := tg) (bh := bh) (vs := vs) (ls := ls) (cs := cs) (m := nd.length) (B := (ch nd).length) (g := g) hb h6 (by omega) (Bool.eq_false_iff.mpr k3) (by omega) (by omega)
            rw [e1, Option.bind_some]
            refine ⟨_, _, rfl, crp_mk rfl rfl rfl rfl hf (rt_mk ?_ ?_ (rtT_a (x := (st.length + 1, g, 0, tx src (p + 1) (kp src (p + 1) (src.getD p 0)))) hT ?_ ?_) (rtB_a hB hch (by simp)) ?_)⟩
            · simp
            · rw [ch_a]
              simp [tx_len]
            · dsimp only
              rw [if_neg k1, if_pos k2]
            · dsimp only
              rw [if_neg k1, if_pos k2, tx_len]
            · intro i hi
              rw [ch_a] at hi ⊢
              dsimp only at hi ⊢
              rw [List.length_append, tx_len] at hi
              by_cases e : i < (ch nd).length
              · rw [e2 i e, hC i e]
                simp [List.getD, List.getElem?_append_left e]
              · obtain ⟨k, rfl⟩ : ∃ k, i = (ch nd).length + k := ⟨i - (ch nd).length, by omega⟩
                rw [e3 k (by omega), ← tx_get (src := src) (q := p + 1) (n := kp src (p + 1) (src.getD p 0)) (i := k) (by omega)]
                simp [List.getD, List.getElem?_append_right]
        · rw [if_neg k2]
          rw [if_neg (by first | omega | (simp (disch := omega) only [z_lt, z_le, z_eq, z_cl, z_ad, z_mu, z_sb, z_n1, z_em, z_me, z_lm, z_ml, z_mle, z_lme, z_ma, z_am, z_m2, not_false_eq_true, z_l0, z_l1, z_l2, z_l3, z_l4, z_l5, z_l6, z_l7, z_l8, z_l10, z_l14, z_l15, z_l16, z_l32, z_l80, z_l101, z_l120, z_l126, z_l127, z_l130, z_l160, z_l198, z_l200, z_l202, z_l240, z_l252, z_l253, z_l254, z_l255, z_l260, z_l480, z_l900, Rd_nodes, Rd_ends, Rd_isOpen, Rd_counts, Rd_lastTags, Rd_syntax, Rd_position, Rd_level, Rd_result, Rd_set_nodes, Rd_set_ends, Rd_set_isOpen, Rd_set_counts, Rd_set_lastTags, Rd_set_syntax, Rd_set_position, Rd_set_level, Rd_set_result, Tr_tags, Tr_behind, Tr_values, Tr_lengths, Tr_characters, Tr_count, Tr_characterCount, Tr_set_tags, Tr_set_behind, Tr_set_values, Tr_set_lengths, Tr_set_characters, Tr_set_count, Tr_set_characterCount, Bs_n, Bs_values, Bs_count, Bs_set_n, Bs_set_values, Bs_set_count, k2] <;> omega))]
          unfold B_Rd_readElement_183
          rw [((c_endOf h5 hE).resolve_right (by omega)), Option.bind_some]
          by_cases k4 : src.getD p 0 = 255
          · rw [if_pos k4]
            rw [if_pos (by first | omega | (simp (disch := omega) only [z_lt, z_le, z_eq, z_cl, z_ad, z_mu, z_sb, z_n1, z_em, z_me, z_lm, z_ml, z_mle, z_lme, z_ma, z_am, z_m2, not_false_eq_true, z_l0, z_l1, z_l2, z_l3, z_l4, z_l5, z_l6, z_l7, z_l8, z_l10, z_l14, z_l15, z_l16, z_l32, z_l80, z_l101, z_l120, z_l126, z_l127, z_l130, z_l160, z_l198, z_l200, z_l202, z_l240, z_l252, z_l253, z_l254, z_l255, z_l260, z_l480, z_l900, Rd_nodes, Rd_ends, Rd_isOpen, Rd_counts, Rd_lastTags, Rd_syntax, Rd_position, Rd_level, Rd_result, Rd_set_nodes, Rd_set_ends, Rd_set_isOpen, Rd_set_counts, Rd_set_lastTags, Rd_set_syntax, Rd_set_position, Rd_set_level, Rd_set_result, Tr_tags, Tr_behind, Tr_values, Tr_lengths, Tr_characters, Tr_count, Tr_characterCount, Tr_set_tags, Tr_set_behind, Tr_set_values, Tr_set_lengths, Tr_set_characters, Tr_set_count, Tr_set_characterCount, Bs_n, Bs_values, Bs_count, Bs_set_n, Bs_set_values, Bs_set_count, k4] <;> omega))]
            unfold B_Rd_readElement_197 B_Rd_readElement_202
            obtain ⟨s', t', e1, e2⟩ := c_push (syn := syn) (p := p + 1) (e := f.2.1) (g := g) (o := true) (x3 := 1) (h4 (by omega)) (by omega) hf hT hB hC hch (by omega) nar_1
            rw [e1, Option.bind_some]
            refine ⟨_, _, rfl, ?_⟩
            rw [decide_eq_true k4]
            exact e2
          · rw [if_neg k4]
            rw [if_neg (by first | omega | (simp (disch := omega) only [z_lt, z_le, z_eq, z_cl, z_ad, z_mu, z_sb, z_n1, z_em, z_me, z_lm, z_ml, z_mle, z_lme, z_ma, z_am, z_m2, not_false_eq_true, z_l0, z_l1, z_l2, z_l3, z_l4, z_l5, z_l6, z_l7, z_l8, z_l10, z_l14, z_l15, z_l16, z_l32, z_l80, z_l101, z_l120, z_l126, z_l127, z_l130, z_l160, z_l198, z_l200, z_l202, z_l240, z_l252, z_l253, z_l254, z_l255, z_l260, z_l480, z_l900, Rd_nodes, Rd_ends, Rd_isOpen, Rd_counts, Rd_lastTags, Rd_syntax, Rd_position, Rd_level, Rd_result, Rd_set_nodes, Rd_set_ends, Rd_set_isOpen, Rd_set_counts, Rd_set_lastTags, Rd_set_syntax, Rd_set_position, Rd_set_level, Rd_set_result, Tr_tags, Tr_behind, Tr_values, Tr_lengths, Tr_characters, Tr_count, Tr_characterCount, Tr_set_tags, Tr_set_behind, Tr_set_values, Tr_set_lengths, Tr_set_characters, Tr_set_count, Tr_set_characterCount, Bs_n, Bs_values, Bs_count, Bs_set_n, Bs_set_values, Bs_set_count, k4] <;> omega))]
            unfold B_Rd_readElement_201 B_Rd_readElement_202
            obtain ⟨s', t', e1, e2⟩ := c_push (syn := syn) (p := p + 1) (e := p + 1 + src.getD p 0) (g := g) (o := false) (x3 := 0) (h4 (by omega)) (by omega) hf hT hB hC hch (by omega) nar_0
            rw [e1, Option.bind_some]
            refine ⟨_, _, rfl, ?_⟩
            rw [decide_eq_false k4]
            exact e2
    · rw [if_neg a2, c_rl2 hb h5 hE hfe (by omega) hk.1 hk.2 a2, Option.bind_some, if_pos rfl]
      exact ⟨_, _, rfl, rfl⟩
