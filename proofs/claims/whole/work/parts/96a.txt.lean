/-! PURE: a text and a pattern -/
def lkS (txt : List Nat) (c : Nat) (R : Nat → Bool) : Nat → Bool := fun j => if c = 42 then (List.range (j + 1)).any R else match j with
  | 0 => false
  | i + 1 => R i && (decide (c = 63) || decide (c = txt.getD i 0))
def lk0 : Nat → Bool := fun j => decide (j = 0)
def lkR (pat txt : List Nat) : Nat → Bool := pat.foldl (fun R c => lkS txt c R) lk0
/-- whether a text is as a pattern says -/
def lk (pat txt : List Nat) : Bool := lkR pat txt txt.length
theorem lkR_s (pat txt : List Nat) (c : Nat) : lkR (pat ++ [c]) txt = lkS txt c (lkR pat txt) := by
  unfold lkR
  rw [List.foldl_append]
  rfl
theorem lkS_star {txt : List Nat} {R : Nat → Bool} {j : Nat} : lkS txt 42 R (j + 1) = (R (j + 1) || lkS txt 42 R j) := by
  unfold lkS
  rw [if_pos rfl, if_pos rfl, List.range_succ, List.any_append, Bool.or_comm]
  simp
theorem lkS_star0 {txt : List Nat} {R : Nat → Bool} : lkS txt 42 R 0 = R 0 := by
  unfold lkS
  rw [if_pos rfl]
  simp [List.range_succ]
/-- the class's row of truth -/
def rwT (r : Nat → Int32) (R : Nat → Bool) (n : Nat) : Prop := ∀ j, j ≤ n → r j = if R j = true then nI 1 else nI 0
section CTX
variable {nd md : List Nd} {tg bh vs ls cs tg' bh' vs' ls' cs' : Nat → Int32} {q r : Nat}
theorem c_txInit (hn : (nX md r).length ≤ 16) {x2 x4 x5 : Int32} {s1 s2 : S_Tr} : ∀ (j i f : Nat) (a : Nat → Int32), i + j = (nX md r).length + 1 → j < f → (∀ k, k < i → a k = if lk0 k = true then nI 1 else nI 0) → ∃ a', lp (fun k30 v => B_Mr_textFits_30 k30 s1 s2 v.1 v.2.1 v.2.2.1 v.2.2.2.1 v.2.2.2.2.1 v.2.2.2.2.2) f (a, x2, x4, x5, nI (nX md r).length, nI i) = B_Mr_textFits_60 s1 s2 a' x2 x4 x5 (nI (nX md r).length) ∧ rwT a' lk0 (nX md r).length := by
  intro j
  induction j with
  | zero =>
    intro i f a hi hf ha
    obtain ⟨f', rfl⟩ : ∃ f', f = f' + 1 := ⟨f - 1, by omega⟩
    refine ⟨a, ?_, fun k hk => ha k (by omega)⟩
    rw [lp_s]
    show B_Mr_textFits_30 _ s1 s2 a x2 x4 x5 (nI (nX md r).length) (nI i) = _
    unfold B_Mr_textFits_30
    rw [if_pos (by first | omega | (simp (disch := omega) only [z_lt, z_le, z_eq, z_cl, z_ad, z_mu, z_sb, z_n1, z_em, z_me, z_lm, z_ml, z_mle, z_lme, z_ma, z_am, z_m2, not_false_eq_true, z_l0, z_l1, z_l2, z_l3, z_l4, z_l5, z_l6, z_l7, z_l8, z_l10, z_l14, z_l15, z_l16, z_l32, z_l80, z_l101, z_l120, z_l126, z_l127, z_l130, z_l160, z_l198, z_l200, z_l202, z_l240, z_l252, z_l253, z_l254, z_l255, z_l260, z_l480, z_l900, Rd_nodes, Rd_ends, Rd_isOpen, Rd_counts, Rd_lastTags, Rd_syntax, Rd_position, Rd_level, Rd_result, Rd_set_nodes, Rd_set_ends, Rd_set_isOpen, Rd_set_counts, Rd_set_lastTags, Rd_set_syntax, Rd_set_position, Rd_set_level, Rd_set_result, Tr_tags, Tr_behind, Tr_values, Tr_lengths, Tr_characters, Tr_count, Tr_characterCount, Tr_set_tags, Tr_set_behind, Tr_set_values, Tr_set_lengths, Tr_set_characters, Tr_set_count, Tr_set_characterCount, Bs_n, Bs_values, Bs_count, Bs_set_n, Bs_set_values, Bs_set_count] <;> omega))]
  | succ j ih =>
    intro i f a hi hf ha
    obtain ⟨f', rfl⟩ : ∃ f', f = f' + 1 := ⟨f - 1, by omega⟩
    have e53 : ∀ (y : Int32), (vp_nar .boolean y = if lk0 i = true then nI 1 else nI 0) → ∃ a', B_Mr_textFits_53 (lp (fun k30 v => B_Mr_textFits_30 k30 s1 s2 v.1 v.2.1 v.2.2.1 v.2.2.2.1 v.2.2.2.2.1 v.2.2.2.2.2) f') s1 s2 a x2 x4 x5 (nI (nX md r).length) (nI i) y (nI i) = B_Mr_textFits_60 s1 s2 a' x2 x4 x5 (nI (nX md r).length) ∧ rwT a' lk0 (nX md r).length := by
      intro y hy
      obtain ⟨a', e1, e2⟩ := ih (i + 1) f' (upd a i (vp_nar .boolean y)) (by omega) (by omega) (fun k hk => by
        by_cases c : k = i
        · rw [c, pk_us, hy]
        · rw [pk_un c]; exact ha k (by omega))
      refine ⟨a', ?_, e2⟩
      unfold B_Mr_textFits_53
      rw [if_neg (by first | omega | (simp (disch := omega) only [z_lt, z_le, z_eq, z_cl, z_ad, z_mu, z_sb, z_n1, z_em, z_me, z_lm, z_ml, z_mle, z_lme, z_ma, z_am, z_m2, not_false_eq_true, z_l0, z_l1, z_l2, z_l3, z_l4, z_l5, z_l6, z_l7, z_l8, z_l10, z_l14, z_l15, z_l16, z_l32, z_l80, z_l101, z_l120, z_l126, z_l127, z_l130, z_l160, z_l198, z_l200, z_l202, z_l240, z_l252, z_l253, z_l254, z_l255, z_l260, z_l480, z_l900, Rd_nodes, Rd_ends, Rd_isOpen, Rd_counts, Rd_lastTags, Rd_syntax, Rd_position, Rd_level, Rd_result, Rd_set_nodes, Rd_set_ends, Rd_set_isOpen, Rd_set_counts, Rd_set_lastTags, Rd_set_syntax, Rd_set_position, Rd_set_level, Rd_set_result, Tr_tags, Tr_behind, Tr_values, Tr_lengths, Tr_characters, Tr_count, Tr_characterCount, Tr_set_tags, Tr_set_behind, Tr_set_values, Tr_set_lengths, Tr_set_characters, Tr_set_count, Tr_set_characterCount, Bs_n, Bs_values, Bs_count, Bs_set_n, Bs_set_values, Bs_set_count] <;> omega))]
      dsimp only [Mr_set_reach, Mr_reach]
      rw [z_cl (by omega), nI_1]
      exact e1
    rw [lp_s]
    show ∃ a', B_Mr_textFits_30 _ s1 s2 a x2 x4 x5 (nI (nX md r).length) (nI i) = _ ∧ _
    unfold B_Mr_textFits_30
    rw [if_neg (by first | omega | (simp (disch := omega) only [z_lt, z_le, z_eq, z_cl, z_ad, z_mu, z_sb, z_n1, z_em, z_me, z_lm, z_ml, z_mle, z_lme, z_ma, z_am, z_m2, not_false_eq_true, z_l0, z_l1, z_l2, z_l3, z_l4, z_l5, z_l6, z_l7, z_l8, z_l10, z_l14, z_l15, z_l16, z_l32, z_l80, z_l101, z_l120, z_l126, z_l127, z_l130, z_l160, z_l198, z_l200, z_l202, z_l240, z_l252, z_l253, z_l254, z_l255, z_l260, z_l480, z_l900, Rd_nodes, Rd_ends, Rd_isOpen, Rd_counts, Rd_lastTags, Rd_syntax, Rd_position, Rd_level, Rd_result, Rd_set_nodes, Rd_set_ends, Rd_set_isOpen, Rd_set_counts, Rd_set_lastTags, Rd_set_syntax, Rd_set_position, Rd_set_level, Rd_set_result, Tr_tags, Tr_behind, Tr_values, Tr_lengths, Tr_characters, Tr_count, Tr_characterCount, Tr_set_tags, Tr_set_behind, Tr_set_values, Tr_set_lengths, Tr_set_characters, Tr_set_count, Tr_set_characterCount, Bs_n, Bs_values, Bs_count, Bs_set_n, Bs_set_values, Bs_set_count] <;> omega))]
    unfold B_Mr_textFits_37
    by_cases c : i = 0
    · rw [if_pos (by first | omega | (simp (disch := omega) only [z_lt, z_le, z_eq, z_cl, z_ad, z_mu, z_sb, z_n1, z_em, z_me, z_lm, z_ml, z_mle, z_lme, z_ma, z_am, z_m2, not_false_eq_true, z_l0, z_l1, z_l2, z_l3, z_l4, z_l5, z_l6, z_l7, z_l8, z_l10, z_l14, z_l15, z_l16, z_l32, z_l80, z_l101, z_l120, z_l126, z_l127, z_l130, z_l160, z_l198, z_l200, z_l202, z_l240, z_l252, z_l253, z_l254, z_l255, z_l260, z_l480, z_l900, Rd_nodes, Rd_ends, Rd_isOpen, Rd_counts, Rd_lastTags, Rd_syntax, Rd_position, Rd_level, Rd_result, Rd_set_nodes, Rd_set_ends, Rd_set_isOpen, Rd_set_counts, Rd_set_lastTags, Rd_set_syntax, Rd_set_position, Rd_set_level, Rd_set_result, Tr_tags, Tr_behind, Tr_values, Tr_lengths, Tr_characters, Tr_count, Tr_characterCount, Tr_set_tags, Tr_set_behind, Tr_set_values, Tr_set_lengths, Tr_set_characters, Tr_set_count, Tr_set_characterCount, Bs_n, Bs_values, Bs_count, Bs_set_n, Bs_set_values, Bs_set_count, c] <;> omega))]
      unfold B_Mr_textFits_48
      exact e53 1 (by rw [nar_1, if_pos (by unfold lk0; exact decide_eq_true c)])
    · rw [if_neg (by first | omega | (simp (disch := omega) only [z_lt, z_le, z_eq, z_cl, z_ad, z_mu, z_sb, z_n1, z_em, z_me, z_lm, z_ml, z_mle, z_lme, z_ma, z_am, z_m2, not_false_eq_true, z_l0, z_l1, z_l2, z_l3, z_l4, z_l5, z_l6, z_l7, z_l8, z_l10, z_l14, z_l15, z_l16, z_l32, z_l80, z_l101, z_l120, z_l126, z_l127, z_l130, z_l160, z_l198, z_l200, z_l202, z_l240, z_l252, z_l253, z_l254, z_l255, z_l260, z_l480, z_l900, Rd_nodes, Rd_ends, Rd_isOpen, Rd_counts, Rd_lastTags, Rd_syntax, Rd_position, Rd_level, Rd_result, Rd_set_nodes, Rd_set_ends, Rd_set_isOpen, Rd_set_counts, Rd_set_lastTags, Rd_set_syntax, Rd_set_position, Rd_set_level, Rd_set_result, Tr_tags, Tr_behind, Tr_values, Tr_lengths, Tr_characters, Tr_count, Tr_characterCount, Tr_set_tags, Tr_set_behind, Tr_set_values, Tr_set_lengths, Tr_set_characters, Tr_set_count, Tr_set_characterCount, Bs_n, Bs_values, Bs_count, Bs_set_n, Bs_set_values, Bs_set_count, c] <;> omega))]
      unfold B_Mr_textFits_52
      exact e53 0 (by rw [nar_0, if_neg (by unfold lk0; simpa using c)])
/-- a star -/
theorem c_txStar {s1 s2 : S_Tr} {n : Nat} (hn : n ≤ 16) {txt : List Nat} {R : Nat → Bool} (K : S_Mr × Int32 × Int32 × Int32 × Int32 × Int32 → Option (Int32 × S_Mr)) {x2 x4 x5 x7 : Int32} : ∀ (j i f : Nat) (a : Nat → Int32), i + j = n + 1 → j < f → 1 ≤ i → (∀ k, k < i → a k = if lkS txt 42 R k = true then nI 1 else nI 0) → (∀ k, i ≤ k → k ≤ n → a k = if R k = true then nI 1 else nI 0) → ∃ a', lp (fun k89 v => B_Mr_textFits_89 K k89 s1 s2 v.1 v.2.1 v.2.2.1 v.2.2.2.1 v.2.2.2.2.1 v.2.2.2.2.2.1 v.2.2.2.2.2.2) f (a, x2, x4, x5, nI n, x7, nI i) = K (a', x2, x4, x5, nI n, x7 + 1) ∧ rwT a' (lkS txt 42 R) n := by
  intro j
  induction j with
  | zero =>
    intro i f a hi hf h1 ha hb
    obtain ⟨f', rfl⟩ : ∃ f', f = f' + 1 := ⟨f - 1, by omega⟩
    refine ⟨a, ?_, fun k hk => ha k (by omega)⟩
    rw [lp_s]
    show B_Mr_textFits_89 K _ s1 s2 a x2 x4 x5 (nI n) x7 (nI i) = _
    unfold B_Mr_textFits_89
    rw [if_pos (by first | omega | (simp (disch := omega) only [z_lt, z_le, z_eq, z_cl, z_ad, z_mu, z_sb, z_n1, z_em, z_me, z_lm, z_ml, z_mle, z_lme, z_ma, z_am, z_m2, not_false_eq_true, z_l0, z_l1, z_l2, z_l3, z_l4, z_l5, z_l6, z_l7, z_l8, z_l10, z_l14, z_l15, z_l16, z_l32, z_l80, z_l101, z_l120, z_l126, z_l127, z_l130, z_l160, z_l198, z_l200, z_l202, z_l240, z_l252, z_l253, z_l254, z_l255, z_l260, z_l480, z_l900, Rd_nodes, Rd_ends, Rd_isOpen, Rd_counts, Rd_lastTags, Rd_syntax, Rd_position, Rd_level, Rd_result, Rd_set_nodes, Rd_set_ends, Rd_set_isOpen, Rd_set_counts, Rd_set_lastTags, Rd_set_syntax, Rd_set_position, Rd_set_level, Rd_set_result, Tr_tags, Tr_behind, Tr_values, Tr_lengths, Tr_characters, Tr_count, Tr_characterCount, Tr_set_tags, Tr_set_behind, Tr_set_values, Tr_set_lengths, Tr_set_characters, Tr_set_count, Tr_set_characterCount, Bs_n, Bs_values, Bs_count, Bs_set_n, Bs_set_values, Bs_set_count] <;> omega))]
    rfl
  | succ j ih =>
    intro i f a hi hf h1 ha hb
    obtain ⟨f', rfl⟩ : ∃ f', f = f' + 1 := ⟨f - 1, by omega⟩
    obtain ⟨m, rfl⟩ : ∃ m, i = m + 1 := ⟨i - 1, by omega⟩
    have ham := ha m (by omega)
    have hbm := hb (m + 1) (Nat.le_refl _) (by omega)
    have e129 : ∀ (y : Int32), (vp_nar .boolean y = if lkS txt 42 R (m + 1) = true then nI 1 else nI 0) → ∃ a', B_Mr_textFits_129 K (lp (fun k89 v => B_Mr_textFits_89 K k89 s1 s2 v.1 v.2.1 v.2.2.1 v.2.2.2.1 v.2.2.2.2.1 v.2.2.2.2.2.1 v.2.2.2.2.2.2) f') s1 s2 a x2 x4 x5 (nI n) x7 (nI (m + 1)) y (nI (m + 1)) = K (a', x2, x4, x5, nI n, x7 + 1) ∧ rwT a' (lkS txt 42 R) n := by
      intro y hy
      obtain ⟨a', e1, e2⟩ := ih (m + 1 + 1) f' (upd a (m + 1) (vp_nar .boolean y)) (by omega) (by omega) (by omega) (fun k hk => by
        by_cases c : k = m + 1
        · rw [c, pk_us, hy]
        · rw [pk_un c]; exact ha k (by omega)) (fun k hk hk2 => by rw [pk_un (by omega)]; exact hb k (by omega) hk2)
      refine ⟨a', ?_, e2⟩
      unfold B_Mr_textFits_129
      rw [if_neg (by first | omega | (simp (disch := omega) only [z_lt, z_le, z_eq, z_cl, z_ad, z_mu, z_sb, z_n1, z_em, z_me, z_lm, z_ml, z_mle, z_lme, z_ma, z_am, z_m2, not_false_eq_true, z_l0, z_l1, z_l2, z_l3, z_l4, z_l5, z_l6, z_l7, z_l8, z_l10, z_l14, z_l15, z_l16, z_l32, z_l80, z_l101, z_l120, z_l126, z_l127, z_l130, z_l160, z_l198, z_l200, z_l202, z_l240, z_l252, z_l253, z_l254, z_l255, z_l260, z_l480, z_l900, Rd_nodes, Rd_ends, Rd_isOpen, Rd_counts, Rd_lastTags, Rd_syntax, Rd_position, Rd_level, Rd_result, Rd_set_nodes, Rd_set_ends, Rd_set_isOpen, Rd_set_counts, Rd_set_lastTags, Rd_set_syntax, Rd_set_position, Rd_set_level, Rd_set_result, Tr_tags, Tr_behind, Tr_values, Tr_lengths, Tr_characters, Tr_count, Tr_characterCount, Tr_set_tags, Tr_set_behind, Tr_set_values, Tr_set_lengths, Tr_set_characters, Tr_set_count, Tr_set_characterCount, Bs_n, Bs_values, Bs_count, Bs_set_n, Bs_set_values, Bs_set_count] <;> omega))]
      dsimp only [Mr_set_reach, Mr_reach]
      rw [z_cl (by omega), nI_1]
      exact e1
    rw [lp_s]
    show ∃ a', B_Mr_textFits_89 K _ s1 s2 a x2 x4 x5 (nI n) x7 (nI (m + 1)) = _ ∧ _
    unfold B_Mr_textFits_89
    rw [if_neg (by first | omega | (simp (disch := omega) only [z_lt, z_le, z_eq, z_cl, z_ad, z_mu, z_sb, z_n1, z_em, z_me, z_lm, z_ml, z_mle, z_lme, z_ma, z_am, z_m2, not_false_eq_true, z_l0, z_l1, z_l2, z_l3, z_l4, z_l5, z_l6, z_l7, z_l8, z_l10, z_l14, z_l15, z_l16, z_l32, z_l80, z_l101, z_l120, z_l126, z_l127, z_l130, z_l160, z_l198, z_l200, z_l202, z_l240, z_l252, z_l253, z_l254, z_l255, z_l260, z_l480, z_l900, Rd_nodes, Rd_ends, Rd_isOpen, Rd_counts, Rd_lastTags, Rd_syntax, Rd_position, Rd_level, Rd_result, Rd_set_nodes, Rd_set_ends, Rd_set_isOpen, Rd_set_counts, Rd_set_lastTags, Rd_set_syntax, Rd_set_position, Rd_set_level, Rd_set_result, Tr_tags, Tr_behind, Tr_values, Tr_lengths, Tr_characters, Tr_count, Tr_characterCount, Tr_set_tags, Tr_set_behind, Tr_set_values, Tr_set_lengths, Tr_set_characters, Tr_set_count, Tr_set_characterCount, Bs_n, Bs_values, Bs_count, Bs_set_n, Bs_set_values, Bs_set_count] <;> omega))]
    unfold B_Mr_textFits_96
    rw [if_neg (by first | omega | (simp (disch := omega) only [z_lt, z_le, z_eq, z_cl, z_ad, z_mu, z_sb, z_n1, z_em, z_me, z_lm, z_ml, z_mle, z_lme, z_ma, z_am, z_m2, not_false_eq_true, z_l0, z_l1, z_l2, z_l3, z_l4, z_l5, z_l6, z_l7, z_l8, z_l10, z_l14, z_l15, z_l16, z_l32, z_l80, z_l101, z_l120, z_l126, z_l127, z_l130, z_l160, z_l198, z_l200, z_l202, z_l240, z_l252, z_l253, z_l254, z_l255, z_l260, z_l480, z_l900, Rd_nodes, Rd_ends, Rd_isOpen, Rd_counts, Rd_lastTags, Rd_syntax, Rd_position, Rd_level, Rd_result, Rd_set_nodes, Rd_set_ends, Rd_set_isOpen, Rd_set_counts, Rd_set_lastTags, Rd_set_syntax, Rd_set_position, Rd_set_level, Rd_set_result, Tr_tags, Tr_behind, Tr_values, Tr_lengths, Tr_characters, Tr_count, Tr_characterCount, Tr_set_tags, Tr_set_behind, Tr_set_values, Tr_set_lengths, Tr_set_characters, Tr_set_count, Tr_set_characterCount, Bs_n, Bs_values, Bs_count, Bs_set_n, Bs_set_values, Bs_set_count] <;> omega))]
    rw [z_cl (by omega), show Mr_reach a (m + 1) = (if R (m + 1) = true then nI 1 else nI 0) from hbm]
    cases hR : R (m + 1) with
    | true =>
      rw [if_pos (rfl : true = true)]
      rw [if_neg (by first | omega | (simp (disch := omega) only [z_lt, z_le, z_eq, z_cl, z_ad, z_mu, z_sb, z_n1, z_em, z_me, z_lm, z_ml, z_mle, z_lme, z_ma, z_am, z_m2, not_false_eq_true, z_l0, z_l1, z_l2, z_l3, z_l4, z_l5, z_l6, z_l7, z_l8, z_l10, z_l14, z_l15, z_l16, z_l32, z_l80, z_l101, z_l120, z_l126, z_l127, z_l130, z_l160, z_l198, z_l200, z_l202, z_l240, z_l252, z_l253, z_l254, z_l255, z_l260, z_l480, z_l900, Rd_nodes, Rd_ends, Rd_isOpen, Rd_counts, Rd_lastTags, Rd_syntax, Rd_position, Rd_level, Rd_result, Rd_set_nodes, Rd_set_ends, Rd_set_isOpen, Rd_set_counts, Rd_set_lastTags, Rd_set_syntax, Rd_set_position, Rd_set_level, Rd_set_result, Tr_tags, Tr_behind, Tr_values, Tr_lengths, Tr_characters, Tr_count, Tr_characterCount, Tr_set_tags, Tr_set_behind, Tr_set_values, Tr_set_lengths, Tr_set_characters, Tr_set_count, Tr_set_characterCount, Bs_n, Bs_values, Bs_count, Bs_set_n, Bs_set_values, Bs_set_count] <;> omega))]
      unfold B_Mr_textFits_124
      exact e129 1 (by rw [nar_1, lkS_star, hR, Bool.true_or, if_pos rfl])
    | false =>
      rw [if_neg (by decide : ¬ false = true), if_pos (by exact rfl)]
      unfold B_Mr_textFits_112
      rw [show nI (m + 1) - (1 : Int32) = nI m by rw [show (1 : Int32) = nI 1 from rfl, z_sb (by omega), Nat.add_sub_cancel]]
      rw [if_neg (by first | omega | (simp (disch := omega) only [z_lt, z_le, z_eq, z_cl, z_ad, z_mu, z_sb, z_n1, z_em, z_me, z_lm, z_ml, z_mle, z_lme, z_ma, z_am, z_m2, not_false_eq_true, z_l0, z_l1, z_l2, z_l3, z_l4, z_l5, z_l6, z_l7, z_l8, z_l10, z_l14, z_l15, z_l16, z_l32, z_l80, z_l101, z_l120, z_l126, z_l127, z_l130, z_l160, z_l198, z_l200, z_l202, z_l240, z_l252, z_l253, z_l254, z_l255, z_l260, z_l480, z_l900, Rd_nodes, Rd_ends, Rd_isOpen, Rd_counts, Rd_lastTags, Rd_syntax, Rd_position, Rd_level, Rd_result, Rd_set_nodes, Rd_set_ends, Rd_set_isOpen, Rd_set_counts, Rd_set_lastTags, Rd_set_syntax, Rd_set_position, Rd_set_level, Rd_set_result, Tr_tags, Tr_behind, Tr_values, Tr_lengths, Tr_characters, Tr_count, Tr_characterCount, Tr_set_tags, Tr_set_behind, Tr_set_values, Tr_set_lengths, Tr_set_characters, Tr_set_count, Tr_set_characterCount, Bs_n, Bs_values, Bs_count, Bs_set_n, Bs_set_values, Bs_set_count] <;> omega))]
      rw [z_cl (by omega), show Mr_reach a m = (if lkS txt 42 R m = true then nI 1 else nI 0) from ham]
      cases hL : lkS txt 42 R m with
      | true =>
        rw [if_pos (rfl : true = true)]
        rw [if_neg (by first | omega | (simp (disch := omega) only [z_lt, z_le, z_eq, z_cl, z_ad, z_mu, z_sb, z_n1, z_em, z_me, z_lm, z_ml, z_mle, z_lme, z_ma, z_am, z_m2, not_false_eq_true, z_l0, z_l1, z_l2, z_l3, z_l4, z_l5, z_l6, z_l7, z_l8, z_l10, z_l14, z_l15, z_l16, z_l32, z_l80, z_l101, z_l120, z_l126, z_l127, z_l130, z_l160, z_l198, z_l200, z_l202, z_l240, z_l252, z_l253, z_l254, z_l255, z_l260, z_l480, z_l900, Rd_nodes, Rd_ends, Rd_isOpen, Rd_counts, Rd_lastTags, Rd_syntax, Rd_position, Rd_level, Rd_result, Rd_set_nodes, Rd_set_ends, Rd_set_isOpen, Rd_set_counts, Rd_set_lastTags, Rd_set_syntax, Rd_set_position, Rd_set_level, Rd_set_result, Tr_tags, Tr_behind, Tr_values, Tr_lengths, Tr_characters, Tr_count, Tr_characterCount, Tr_set_tags, Tr_set_behind, Tr_set_values, Tr_set_lengths, Tr_set_characters, Tr_set_count, Tr_set_characterCount, Bs_n, Bs_values, Bs_count, Bs_set_n, Bs_set_values, Bs_set_count] <;> omega))]
        unfold B_Mr_textFits_124
        exact e129 1 (by rw [nar_1, lkS_star, hL, Bool.or_true, if_pos rfl])
      | false =>
        rw [if_neg (by decide : ¬ false = true), if_pos (by exact rfl)]
        unfold B_Mr_textFits_128
        exact e129 0 (by rw [nar_0, lkS_star, hR, hL, Bool.or_false, if_neg (by decide)])
end CTX
section CTY
variable {nd md : List Nd} {tg bh vs ls cs tg' bh' vs' ls' cs' : Nat → Int32} {q r : Nat}
/-- any other character -/
theorem c_txChar {s1 : S_Tr} {c : Nat} (hc : c ≠ 42) (hc8 : c < 256) (hw : wfA md) (hlen : md.length ≤ 101) (hcl : (ch md).length ≤ 200) (hT : rtT tg' vs' ls' md) (hC : rtC cs' md) (hr : r < md.length) (h2 : kd (nT md r) = 2) (hn : (nX md r).length ≤ 16) {R : Nat → Bool} (K : S_Mr × Int32 × Int32 × Int32 × Int32 × Int32 → Option (Int32 × S_Mr)) {x2 x5 x7 : Int32} : ∀ (j f : Nat) (a : Nat → Int32), j ≤ (nX md r).length → j < f → (∀ k, j < k → k ≤ (nX md r).length → a k = if lkS (nX md r) c R k = true then nI 1 else nI 0) → (∀ k, k ≤ j → a k = if R k = true then nI 1 else nI 0) → ∃ a', lp (fun k143 v => B_Mr_textFits_143 K k143 s1 (tg', bh', vs', ls', cs', nI md.length, nI (ch md).length) v.1 v.2.1 v.2.2.1 v.2.2.2.1 v.2.2.2.2.1 v.2.2.2.2.2.1 v.2.2.2.2.2.2.1 v.2.2.2.2.2.2.2) f (a, x2, nI r, x5, nI (nX md r).length, x7, nI c, nI j) = K (a', x2, nI r, x5, nI (nX md r).length, x7 + 1) ∧ rwT a' (lkS (nX md r) c R) (nX md r).length := by
  intro j
  induction j with
  | zero =>
    intro f a hj hf ha hb
    obtain ⟨f', rfl⟩ : ∃ f', f = f' + 1 := ⟨f - 1, by omega⟩
    refine ⟨upd a 0 (nI 0), ?_, fun k hk => ?_⟩
    · rw [lp_s]
      show B_Mr_textFits_143 K _ s1 (tg', bh', vs', ls', cs', nI md.length, nI (ch md).length) a x2 (nI r) x5 (nI (nX md r).length) x7 (nI c) (nI 0) = _
      unfold B_Mr_textFits_143
      rw [if_pos (by decide +kernel : nI 0 ≤ 0)]
      unfold B_Mr_textFits_212
      rw [if_neg (by decide +kernel)]
      unfold B_Mr_textFits_219
      dsimp only [Mr_set_reach, Mr_reach]
      rw [nar_0, show (0 : Int32).toNatClampNeg = 0 by decide +kernel]
    · by_cases c0 : k = 0
      · rw [c0, pk_us]
        unfold lkS
        rw [if_neg hc]
        rfl
      · rw [pk_un c0]
        exact ha k (by omega) hk
  | succ j ih =>
    intro f a hj hf ha hb
    obtain ⟨f', rfl⟩ : ∃ f', f = f' + 1 := ⟨f - 1, by omega⟩
    have hx := nX_lt hw r j
    have haj := hb j (by omega)
    have hlk : lkS (nX md r) c R (j + 1) = (R j && (decide (c = 63) || decide (c = (nX md r).getD j 0))) := by
      unfold lkS
      rw [if_neg hc]
    have ej : nI (j + 1) - (1 : Int32) = nI j := by rw [show (1 : Int32) = nI 1 from rfl, z_sb (by omega), Nat.add_sub_cancel]
    have e205 : ∀ (y : Int32), (vp_nar .boolean y = if lkS (nX md r) c R (j + 1) = true then nI 1 else nI 0) → ∃ a', B_Mr_textFits_205 K (lp (fun k143 v => B_Mr_textFits_143 K k143 s1 (tg', bh', vs', ls', cs', nI md.length, nI (ch md).length) v.1 v.2.1 v.2.2.1 v.2.2.2.1 v.2.2.2.2.1 v.2.2.2.2.2.1 v.2.2.2.2.2.2.1 v.2.2.2.2.2.2.2) f') s1 (tg', bh', vs', ls', cs', nI md.length, nI (ch md).length) a x2 (nI r) x5 (nI (nX md r).length) x7 (nI c) (nI (j + 1)) y (nI (j + 1)) = K (a', x2, nI r, x5, nI (nX md r).length, x7 + 1) ∧ rwT a' (lkS (nX md r) c R) (nX md r).length := by
      intro y hy
      obtain ⟨a', e1, e2⟩ := ih f' (upd a (j + 1) (vp_nar .boolean y)) (by omega) (by omega) (fun k hk hk2 => by
        by_cases c1 : k = j + 1
        · rw [c1, pk_us, hy]
        · rw [pk_un c1]; exact ha k (by omega) hk2) (fun k hk => by rw [pk_un (by omega)]; exact hb k (by omega))
      refine ⟨a', ?_, e2⟩
      unfold B_Mr_textFits_205
      rw [if_neg (by first | omega | (simp (disch := omega) only [z_lt, z_le, z_eq, z_cl, z_ad, z_mu, z_sb, z_n1, z_em, z_me, z_lm, z_ml, z_mle, z_lme, z_ma, z_am, z_m2, not_false_eq_true, z_l0, z_l1, z_l2, z_l3, z_l4, z_l5, z_l6, z_l7, z_l8, z_l10, z_l14, z_l15, z_l16, z_l32, z_l80, z_l101, z_l120, z_l126, z_l127, z_l130, z_l160, z_l198, z_l200, z_l202, z_l240, z_l252, z_l253, z_l254, z_l255, z_l260, z_l480, z_l900, Rd_nodes, Rd_ends, Rd_isOpen, Rd_counts, Rd_lastTags, Rd_syntax, Rd_position, Rd_level, Rd_result, Rd_set_nodes, Rd_set_ends, Rd_set_isOpen, Rd_set_counts, Rd_set_lastTags, Rd_set_syntax, Rd_set_position, Rd_set_level, Rd_set_result, Tr_tags, Tr_behind, Tr_values, Tr_lengths, Tr_characters, Tr_count, Tr_characterCount, Tr_set_tags, Tr_set_behind, Tr_set_values, Tr_set_lengths, Tr_set_characters, Tr_set_count, Tr_set_characterCount, Bs_n, Bs_values, Bs_count, Bs_set_n, Bs_set_values, Bs_set_count] <;> omega))]
      dsimp only [Mr_set_reach, Mr_reach]
      rw [z_cl (by omega), show nI (j + 1) + (-1) = nI j by rw [dI_p, dI_s]]
      exact e1
    have e170 : (c = 63 ∨ c = (nX md r).getD j 0) → ∃ a', B_Mr_textFits_170 K (lp (fun k143 v => B_Mr_textFits_143 K k143 s1 (tg', bh', vs', ls', cs', nI md.length, nI (ch md).length) v.1 v.2.1 v.2.2.1 v.2.2.2.1 v.2.2.2.2.1 v.2.2.2.2.2.1 v.2.2.2.2.2.2.1 v.2.2.2.2.2.2.2) f') s1 (tg', bh', vs', ls', cs', nI md.length, nI (ch md).length) a x2 (nI r) x5 (nI (nX md r).length) x7 (nI c) (nI (j + 1)) = K (a', x2, nI r, x5, nI (nX md r).length, x7 + 1) ∧ rwT a' (lkS (nX md r) c R) (nX md r).length := by
      intro hm
      have hm' : (decide (c = 63) || decide (c = (nX md r).getD j 0)) = true := by
        rcases hm with hm | hm
        · rw [decide_eq_true hm, Bool.true_or]
        · rw [decide_eq_true hm, Bool.or_true]
      rw [hm', Bool.and_true] at hlk
      unfold B_Mr_textFits_170 B_Mr_textFits_175
      rw [if_neg (by decide)]
      unfold B_Mr_textFits_188
      rw [ej]
      rw [if_neg (by first | omega | (simp (disch := omega) only [z_lt, z_le, z_eq, z_cl, z_ad, z_mu, z_sb, z_n1, z_em, z_me, z_lm, z_ml, z_mle, z_lme, z_ma, z_am, z_m2, not_false_eq_true, z_l0, z_l1, z_l2, z_l3, z_l4, z_l5, z_l6, z_l7, z_l8, z_l10, z_l14, z_l15, z_l16, z_l32, z_l80, z_l101, z_l120, z_l126, z_l127, z_l130, z_l160, z_l198, z_l200, z_l202, z_l240, z_l252, z_l253, z_l254, z_l255, z_l260, z_l480, z_l900, Rd_nodes, Rd_ends, Rd_isOpen, Rd_counts, Rd_lastTags, Rd_syntax, Rd_position, Rd_level, Rd_result, Rd_set_nodes, Rd_set_ends, Rd_set_isOpen, Rd_set_counts, Rd_set_lastTags, Rd_set_syntax, Rd_set_position, Rd_set_level, Rd_set_result, Tr_tags, Tr_behind, Tr_values, Tr_lengths, Tr_characters, Tr_count, Tr_characterCount, Tr_set_tags, Tr_set_behind, Tr_set_values, Tr_set_lengths, Tr_set_characters, Tr_set_count, Tr_set_characterCount, Bs_n, Bs_values, Bs_count, Bs_set_n, Bs_set_values, Bs_set_count] <;> omega))]
      rw [z_cl (by omega), show Mr_reach a j = (if R j = true then nI 1 else nI 0) from haj]
      cases hR : R j with
      | true =>
        rw [if_pos (rfl : true = true)]
        rw [if_neg (by first | omega | (simp (disch := omega) only [z_lt, z_le, z_eq, z_cl, z_ad, z_mu, z_sb, z_n1, z_em, z_me, z_lm, z_ml, z_mle, z_lme, z_ma, z_am, z_m2, not_false_eq_true, z_l0, z_l1, z_l2, z_l3, z_l4, z_l5, z_l6, z_l7, z_l8, z_l10, z_l14, z_l15, z_l16, z_l32, z_l80, z_l101, z_l120, z_l126, z_l127, z_l130, z_l160, z_l198, z_l200, z_l202, z_l240, z_l252, z_l253, z_l254, z_l255, z_l260, z_l480, z_l900, Rd_nodes, Rd_ends, Rd_isOpen, Rd_counts, Rd_lastTags, Rd_syntax, Rd_position, Rd_level, Rd_result, Rd_set_nodes, Rd_set_ends, Rd_set_isOpen, Rd_set_counts, Rd_set_lastTags, Rd_set_syntax, Rd_set_position, Rd_set_level, Rd_set_result, Tr_tags, Tr_behind, Tr_values, Tr_lengths, Tr_characters, Tr_count, Tr_characterCount, Tr_set_tags, Tr_set_behind, Tr_set_values, Tr_set_lengths, Tr_set_characters, Tr_set_count, Tr_set_characterCount, Bs_n, Bs_values, Bs_count, Bs_set_n, Bs_set_values, Bs_set_count] <;> omega))]
        unfold B_Mr_textFits_200
        exact e205 1 (by rw [nar_1, hlk, hR, if_pos rfl])
      | false =>
        rw [if_neg (by decide : ¬ false = true), if_pos (by exact rfl)]
        unfold B_Mr_textFits_204
        exact e205 0 (by rw [nar_0, hlk, hR, if_neg (by decide)])
    rw [lp_s]
    show ∃ a', B_Mr_textFits_143 K _ s1 (tg', bh', vs', ls', cs', nI md.length, nI (ch md).length) a x2 (nI r) x5 (nI (nX md r).length) x7 (nI c) (nI (j + 1)) = _ ∧ _
    have e143 : ∀ K2, B_Mr_textFits_143 K K2 s1 (tg', bh', vs', ls', cs', nI md.length, nI (ch md).length) a x2 (nI r) x5 (nI (nX md r).length) x7 (nI c) (nI (j + 1)) = B_Mr_textFits_148 K K2 s1 (tg', bh', vs', ls', cs', nI md.length, nI (ch md).length) a x2 (nI r) x5 (nI (nX md r).length) x7 (nI c) (nI (j + 1)) := fun K2 => by
      unfold B_Mr_textFits_143
      rw [if_neg (by first | omega | (simp (disch := omega) only [z_lt, z_le, z_eq, z_cl, z_ad, z_mu, z_sb, z_n1, z_em, z_me, z_lm, z_ml, z_mle, z_lme, z_ma, z_am, z_m2, not_false_eq_true, z_l0, z_l1, z_l2, z_l3, z_l4, z_l5, z_l6, z_l7, z_l8, z_l10, z_l14, z_l15, z_l16, z_l32, z_l80, z_l101, z_l120, z_l126, z_l127, z_l130, z_l160, z_l198, z_l200, z_l202, z_l240, z_l252, z_l253, z_l254, z_l255, z_l260, z_l480, z_l900, Rd_nodes, Rd_ends, Rd_isOpen, Rd_counts, Rd_lastTags, Rd_syntax, Rd_position, Rd_level, Rd_result, Rd_set_nodes, Rd_set_ends, Rd_set_isOpen, Rd_set_counts, Rd_set_lastTags, Rd_set_syntax, Rd_set_position, Rd_set_level, Rd_set_result, Tr_tags, Tr_behind, Tr_values, Tr_lengths, Tr_characters, Tr_count, Tr_characterCount, Tr_set_tags, Tr_set_behind, Tr_set_values, Tr_set_lengths, Tr_set_characters, Tr_set_count, Tr_set_characterCount, Bs_n, Bs_values, Bs_count, Bs_set_n, Bs_set_values, Bs_set_count] <;> omega))]
    rw [e143]
    unfold B_Mr_textFits_148
    by_cases c1 : c = 63
    · rw [if_pos (by rw [c1]; rfl)]
      exact e170 (.inl c1)
    · rw [if_neg (by rw [show (63 : Int32) = nI 63 from rfl, z_eq (by omega) (by omega)]; exact c1)]
      unfold B_Mr_textFits_155
      rw [ej, c_character hlen hcl hT hC hr h2 (by omega), Option.bind_some]
      by_cases c2 : c = (nX md r).getD j 0
      · rw [if_pos (by rw [← c2])]
        exact e170 (.inr c2)
      · rw [if_neg (by rw [z_eq (by omega) (by omega)]; exact c2)]
        unfold B_Mr_textFits_174 B_Mr_textFits_175
        rw [if_pos rfl]
        unfold B_Mr_textFits_204
        exact e205 0 (by rw [nar_0, hlk, decide_eq_false c1, decide_eq_false c2, Bool.or_false, Bool.and_false, if_neg (by decide)])
theorem c_textFits {a : Nat → Int32} (hw : wfA nd) (hwm : wfA md) (hlen : nd.length ≤ 101) (hlenm : md.length ≤ 101) (hcl : (ch nd).length ≤ 200) (hclm : (ch md).length ≤ 200) (hT : rtT tg vs ls nd) (hC : rtC cs nd) (hTm : rtT tg' vs' ls' md) (hCm : rtC cs' md) (hq : q < nd.length) (hr : r < md.length) (h2 : kd (nT nd q) = 2) (h2m : kd (nT md r) = 2) : ∃ a', F_Mr_textFits a (tg, bh, vs, ls, cs, nI nd.length, nI (ch nd).length) (tg', bh', vs', ls', cs', nI md.length, nI (ch md).length) (nI q) (nI r) = some ((if (decide (nX nd q = []) || lk (nX nd q) (nX md r)) = true then 1 else 0), a') := by
  have hx16 := xl_le hw q
  have hxl : xl nd q = (nX nd q).length := by unfold xl; rw [if_neg (by omega), if_pos h2]
  have hx16m := xl_le hwm r
  have hxlm : xl md r = (nX md r).length := by unfold xl; rw [if_neg (by omega), if_pos h2m]
  rw [hxl] at hx16
  rw [hxlm] at hx16m
  unfold F_Mr_textFits B_Mr_textFits_0
  rw [c_textLength hlen hT hq, Option.bind_some, c_textLength hlenm hTm hr, Option.bind_some, hxl, hxlm]
  by_cases c0 : nX nd q = []
  · rw [c0, if_pos (by exact rfl)]
    exact ⟨a, rfl⟩
  · have hpos : 0 < (nX nd q).length := List.length_pos_iff.mpr c0
    rw [decide_eq_false c0, Bool.false_or]
    rw [if_neg (by first | omega | (simp (disch := omega) only [z_lt, z_le, z_eq, z_cl, z_ad, z_mu, z_sb, z_n1, z_em, z_me, z_lm, z_ml, z_mle, z_lme, z_ma, z_am, z_m2, not_false_eq_true, z_l0, z_l1, z_l2, z_l3, z_l4, z_l5, z_l6, z_l7, z_l8, z_l10, z_l14, z_l15, z_l16, z_l32, z_l80, z_l101, z_l120, z_l126, z_l127, z_l130, z_l160, z_l198, z_l200, z_l202, z_l240, z_l252, z_l253, z_l254, z_l255, z_l260, z_l480, z_l900, Rd_nodes, Rd_ends, Rd_isOpen, Rd_counts, Rd_lastTags, Rd_syntax, Rd_position, Rd_level, Rd_result, Rd_set_nodes, Rd_set_ends, Rd_set_isOpen, Rd_set_counts, Rd_set_lastTags, Rd_set_syntax, Rd_set_position, Rd_set_level, Rd_set_result, Tr_tags, Tr_behind, Tr_values, Tr_lengths, Tr_characters, Tr_count, Tr_characterCount, Tr_set_tags, Tr_set_behind, Tr_set_values, Tr_set_lengths, Tr_set_characters, Tr_set_count, Tr_set_characterCount, Bs_n, Bs_values, Bs_count, Bs_set_n, Bs_set_values, Bs_set_count] <;> omega))]
    rw [show (if nI (nX md r).length < (16 : Int32) then nI (nX md r).length else (16 : Int32)) = nI (nX md r).length by
      by_cases c : (nX md r).length < 16
      · rw [if_pos (by first | omega | (simp (disch := omega) only [z_lt, z_le, z_eq, z_cl, z_ad, z_mu, z_sb, z_n1, z_em, z_me, z_lm, z_ml, z_mle, z_lme, z_ma, z_am, z_m2, not_false_eq_true, z_l0, z_l1, z_l2, z_l3, z_l4, z_l5, z_l6, z_l7, z_l8, z_l10, z_l14, z_l15, z_l16, z_l32, z_l80, z_l101, z_l120, z_l126, z_l127, z_l130, z_l160, z_l198, z_l200, z_l202, z_l240, z_l252, z_l253, z_l254, z_l255, z_l260, z_l480, z_l900, Rd_nodes, Rd_ends, Rd_isOpen, Rd_counts, Rd_lastTags, Rd_syntax, Rd_position, Rd_level, Rd_result, Rd_set_nodes, Rd_set_ends, Rd_set_isOpen, Rd_set_counts, Rd_set_lastTags, Rd_set_syntax, Rd_set_position, Rd_set_level, Rd_set_result, Tr_tags, Tr_behind, Tr_values, Tr_lengths, Tr_characters, Tr_count, Tr_characterCount, Tr_set_tags, Tr_set_behind, Tr_set_values, Tr_set_lengths, Tr_set_characters, Tr_set_count, Tr_set_characterCount, Bs_n, Bs_values, Bs_count, Bs_set_n, Bs_set_values, Bs_set_count] <;> omega))]
      · have : (nX md r).length = 16 := by omega
        rw [if_neg (by first | omega | (simp (disch := omega) only [z_lt, z_le, z_eq, z_cl, z_ad, z_mu, z_sb, z_n1, z_em, z_me, z_lm, z_ml, z_mle, z_lme, z_ma, z_am, z_m2, not_false_eq_true, z_l0, z_l1, z_l2, z_l3, z_l4, z_l5, z_l6, z_l7, z_l8, z_l10, z_l14, z_l15, z_l16, z_l32, z_l80, z_l101, z_l120, z_l126, z_l127, z_l130, z_l160, z_l198, z_l200, z_l202, z_l240, z_l252, z_l253, z_l254, z_l255, z_l260, z_l480, z_l900, Rd_nodes, Rd_ends, Rd_isOpen, Rd_counts, Rd_lastTags, Rd_syntax, Rd_position, Rd_level, Rd_result, Rd_set_nodes, Rd_set_ends, Rd_set_isOpen, Rd_set_counts, Rd_set_lastTags, Rd_set_syntax, Rd_set_position, Rd_set_level, Rd_set_result, Tr_tags, Tr_behind, Tr_values, Tr_lengths, Tr_characters, Tr_count, Tr_characterCount, Tr_set_tags, Tr_set_behind, Tr_set_values, Tr_set_lengths, Tr_set_characters, Tr_set_count, Tr_set_characterCount, Bs_n, Bs_values, Bs_count, Bs_set_n, Bs_set_values, Bs_set_count] <;> omega))]
        rw [this]
        rfl]
    unfold B_Mr_textFits_27 L_Mr_textFits_30
    obtain ⟨a1, e1, r1⟩ := c_txInit (md := md) (r := r) hx16m (x2 := nI q) (x4 := nI r) (x5 := nI (nX nd q).length) (s1 := (tg, bh, vs, ls, cs, nI nd.length, nI (ch nd).length)) (s2 := (tg', bh', vs', ls', cs', nI md.length, nI (ch md).length)) ((nX md r).length + 1) 0 FU a (by omega) (by unfold FU; omega) (fun k hk => by omega)
    rw [show (0 : Int32) = nI 0 from rfl, e1]
    unfold B_Mr_textFits_60 L_Mr_textFits_63
    have key : ∀ (j i f : Nat) (a : Nat → Int32), i + j = (nX nd q).length → j < f → rwT a (lkR ((nX nd q).take i) (nX md r)) (nX md r).length → ∃ a', lp (fun k63 v => B_Mr_textFits_63 k63 (tg, bh, vs, ls, cs, nI nd.length, nI (ch nd).length) (tg', bh', vs', ls', cs', nI md.length, nI (ch md).length) v.1 v.2.1 v.2.2.1 v.2.2.2.1 v.2.2.2.2.1 v.2.2.2.2.2) f (a, nI q, nI r, nI (nX nd q).length, nI (nX md r).length, nI i) = some ((if lk (nX nd q) (nX md r) = true then 1 else 0), a') := by
      intro j
      induction j with
      | zero =>
        intro i f a hi hf ha
        obtain ⟨f', rfl⟩ : ∃ f', f = f' + 1 := ⟨f - 1, by omega⟩
        have : i = (nX nd q).length := by omega
        subst this
        rw [List.take_length] at ha
        have hfin := ha (nX md r).length (Nat.le_refl _)
        refine ⟨a, ?_⟩
        rw [lp_s]
        show B_Mr_textFits_63 _ (tg, bh, vs, ls, cs, nI nd.length, nI (ch nd).length) (tg', bh', vs', ls', cs', nI md.length, nI (ch md).length) a (nI q) (nI r) (nI (nX nd q).length) (nI (nX md r).length) (nI (nX nd q).length) = _
        unfold B_Mr_textFits_63
        rw [if_pos (by first | omega | (simp (disch := omega) only [z_lt, z_le, z_eq, z_cl, z_ad, z_mu, z_sb, z_n1, z_em, z_me, z_lm, z_ml, z_mle, z_lme, z_ma, z_am, z_m2, not_false_eq_true, z_l0, z_l1, z_l2, z_l3, z_l4, z_l5, z_l6, z_l7, z_l8, z_l10, z_l14, z_l15, z_l16, z_l32, z_l80, z_l101, z_l120, z_l126, z_l127, z_l130, z_l160, z_l198, z_l200, z_l202, z_l240, z_l252, z_l253, z_l254, z_l255, z_l260, z_l480, z_l900, Rd_nodes, Rd_ends, Rd_isOpen, Rd_counts, Rd_lastTags, Rd_syntax, Rd_position, Rd_level, Rd_result, Rd_set_nodes, Rd_set_ends, Rd_set_isOpen, Rd_set_counts, Rd_set_lastTags, Rd_set_syntax, Rd_set_position, Rd_set_level, Rd_set_result, Tr_tags, Tr_behind, Tr_values, Tr_lengths, Tr_characters, Tr_count, Tr_characterCount, Tr_set_tags, Tr_set_behind, Tr_set_values, Tr_set_lengths, Tr_set_characters, Tr_set_count, Tr_set_characterCount, Bs_n, Bs_values, Bs_count, Bs_set_n, Bs_set_values, Bs_set_count] <;> omega))]
        unfold B_Mr_textFits_225
        rw [if_neg (by first | omega | (simp (disch := omega) only [z_lt, z_le, z_eq, z_cl, z_ad, z_mu, z_sb, z_n1, z_em, z_me, z_lm, z_ml, z_mle, z_lme, z_ma, z_am, z_m2, not_false_eq_true, z_l0, z_l1, z_l2, z_l3, z_l4, z_l5, z_l6, z_l7, z_l8, z_l10, z_l14, z_l15, z_l16, z_l32, z_l80, z_l101, z_l120, z_l126, z_l127, z_l130, z_l160, z_l198, z_l200, z_l202, z_l240, z_l252, z_l253, z_l254, z_l255, z_l260, z_l480, z_l900, Rd_nodes, Rd_ends, Rd_isOpen, Rd_counts, Rd_lastTags, Rd_syntax, Rd_position, Rd_level, Rd_result, Rd_set_nodes, Rd_set_ends, Rd_set_isOpen, Rd_set_counts, Rd_set_lastTags, Rd_set_syntax, Rd_set_position, Rd_set_level, Rd_set_result, Tr_tags, Tr_behind, Tr_values, Tr_lengths, Tr_characters, Tr_count, Tr_characterCount, Tr_set_tags, Tr_set_behind, Tr_set_values, Tr_set_lengths, Tr_set_characters, Tr_set_count, Tr_set_characterCount, Bs_n, Bs_values, Bs_count, Bs_set_n, Bs_set_values, Bs_set_count] <;> omega))]
        rw [z_cl (by omega), show Mr_reach a (nX md r).length = (if lkR (nX nd q) (nX md r) (nX md r).length = true then nI 1 else nI 0) from hfin]
        unfold lk
        cases lkR (nX nd q) (nX md r) (nX md r).length with
        | true => rfl
        | false => rfl
      | succ j ih =>
        intro i f a hi hf ha
        obtain ⟨f', rfl⟩ : ∃ f', f = f' + 1 := ⟨f - 1, by omega⟩
        have hx := nX_lt hw q i
        have htake : (nX nd q).take (i + 1) = (nX nd q).take i ++ [(nX nd q).getD i 0] := by
          rw [List.take_succ]
          have : (nX nd q)[i]? = some ((nX nd q).getD i 0) := by simp [List.getD, show i < (nX nd q).length by omega]
          rw [this]
          rfl
        have hstep : ∀ a', rwT a' (lkS (nX md r) ((nX nd q).getD i 0) (lkR ((nX nd q).take i) (nX md r))) (nX md r).length → ∃ a'', lp (fun k63 v => B_Mr_textFits_63 k63 (tg, bh, vs, ls, cs, nI nd.length, nI (ch nd).length) (tg', bh', vs', ls', cs', nI md.length, nI (ch md).length) v.1 v.2.1 v.2.2.1 v.2.2.2.1 v.2.2.2.2.1 v.2.2.2.2.2) f' (a', nI q, nI r, nI (nX nd q).length, nI (nX md r).length, nI i + 1) = some ((if lk (nX nd q) (nX md r) = true then 1 else 0), a'') := by
          intro a' ha'
          rw [nI_1]
          refine ih (i + 1) f' a' (by omega) (by omega) ?_
          rw [htake, lkR_s]
          exact ha'
        rw [lp_s]
        show ∃ a'', B_Mr_textFits_63 _ (tg, bh, vs, ls, cs, nI nd.length, nI (ch nd).length) (tg', bh', vs', ls', cs', nI md.length, nI (ch md).length) a (nI q) (nI r) (nI (nX nd q).length) (nI (nX md r).length) (nI i) = _
        have e63 : ∀ K, B_Mr_textFits_63 K (tg, bh, vs, ls, cs, nI nd.length, nI (ch nd).length) (tg', bh', vs', ls', cs', nI md.length, nI (ch md).length) a (nI q) (nI r) (nI (nX nd q).length) (nI (nX md r).length) (nI i) = B_Mr_textFits_70 K (tg, bh, vs, ls, cs, nI nd.length, nI (ch nd).length) (tg', bh', vs', ls', cs', nI md.length, nI (ch md).length) a (nI q) (nI r) (nI (nX nd q).length) (nI (nX md r).length) (nI i) := fun K => by
          unfold B_Mr_textFits_63
          rw [if_neg (by first | omega | (simp (disch := omega) only [z_lt, z_le, z_eq, z_cl, z_ad, z_mu, z_sb, z_n1, z_em, z_me, z_lm, z_ml, z_mle, z_lme, z_ma, z_am, z_m2, not_false_eq_true, z_l0, z_l1, z_l2, z_l3, z_l4, z_l5, z_l6, z_l7, z_l8, z_l10, z_l14, z_l15, z_l16, z_l32, z_l80, z_l101, z_l120, z_l126, z_l127, z_l130, z_l160, z_l198, z_l200, z_l202, z_l240, z_l252, z_l253, z_l254, z_l255, z_l260, z_l480, z_l900, Rd_nodes, Rd_ends, Rd_isOpen, Rd_counts, Rd_lastTags, Rd_syntax, Rd_position, Rd_level, Rd_result, Rd_set_nodes, Rd_set_ends, Rd_set_isOpen, Rd_set_counts, Rd_set_lastTags, Rd_set_syntax, Rd_set_position, Rd_set_level, Rd_set_result, Tr_tags, Tr_behind, Tr_values, Tr_lengths, Tr_characters, Tr_count, Tr_characterCount, Tr_set_tags, Tr_set_behind, Tr_set_values, Tr_set_lengths, Tr_set_characters, Tr_set_count, Tr_set_characterCount, Bs_n, Bs_values, Bs_count, Bs_set_n, Bs_set_values, Bs_set_count] <;> omega))]
        rw [e63]
        unfold B_Mr_textFits_70
        rw [c_character hlen hcl hT hC hq h2 (by omega), Option.bind_some]
        by_cases c1 : (nX nd q).getD i 0 = 42
        · rw [if_pos (by rw [c1]; rfl)]
          unfold B_Mr_textFits_86 L_Mr_textFits_89
          rw [c1] at hstep
          have h0 := ha 0 (Nat.zero_le _)
          obtain ⟨a2, e2, r2⟩ := c_txStar (s1 := (tg, bh, vs, ls, cs, nI nd.length, nI (ch nd).length)) (s2 := (tg', bh', vs', ls', cs', nI md.length, nI (ch md).length)) hx16m (txt := nX md r) (R := lkR ((nX nd q).take i) (nX md r)) (lp (fun k63 v => B_Mr_textFits_63 k63 (tg, bh, vs, ls, cs, nI nd.length, nI (ch nd).length) (tg', bh', vs', ls', cs', nI md.length, nI (ch md).length) v.1 v.2.1 v.2.2.1 v.2.2.2.1 v.2.2.2.2.1 v.2.2.2.2.2) f') (x2 := nI q) (x4 := nI r) (x5 := nI (nX nd q).length) (x7 := nI i) (nX md r).length 1 FU a (by omega) (by unfold FU; omega) (Nat.le_refl _) (fun k hk => by
            have : k = 0 := by omega
            rw [this, lkS_star0]
            exact h0) (fun k _ hk => ha k hk)
          rw [show (1 : Int32) = nI 1 from rfl, e2]
          exact hstep a2 r2
        · rw [if_neg (by rw [show (42 : Int32) = nI 42 from rfl, z_eq (by omega) (by omega)]; exact c1)]
          unfold B_Mr_textFits_139 L_Mr_textFits_143
          obtain ⟨a2, e2, r2⟩ := c_txChar (bh' := bh') (s1 := (tg, bh, vs, ls, cs, nI nd.length, nI (ch nd).length)) c1 (by omega) hwm hlenm hclm hTm hCm hr h2m hx16m (R := lkR ((nX nd q).take i) (nX md r)) (lp (fun k63 v => B_Mr_textFits_63 k63 (tg, bh, vs, ls, cs, nI nd.length, nI (ch nd).length) (tg', bh', vs', ls', cs', nI md.length, nI (ch md).length) v.1 v.2.1 v.2.2.1 v.2.2.2.1 v.2.2.2.2.1 v.2.2.2.2.2) f') (x2 := nI q) (x5 := nI (nX nd q).length) (x7 := nI i) (nX md r).length FU a (Nat.le_refl _) (by unfold FU; omega) (fun k hk hk2 => by omega) (fun k hk => ha k hk)
          rw [e2]
          exact hstep a2 r2
    exact key (nX nd q).length 0 FU a1 (by omega) (by unfold FU; omega) r1
end CTY
