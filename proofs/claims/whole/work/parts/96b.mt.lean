/-! PURE: the class's matcher -/
def mtE (nd md : List Nd) (M : Nat → Nat → Bool) (e f : Nat) : Bool := if kd (nT nd e) = 1 then decide (nV nd e = nV md f) else if kd (nT nd e) = 2 then decide (nX nd e = []) || lk (nX nd e) (nX md f) else decide (kds nd e = []) || (kds md f).any (fun i => M (e + 1) i)
def mtF (nd md : List Nd) (M : Nat → Nat → Bool) (r e : Nat) : Bool := match fnd md (kds md r) (nT nd e) with
  | none => false
  | some f => mtE nd md M e f
def mtS (nd md : List Nd) (M : Nat → Nat → Bool) (q r : Nat) : Bool := (kds nd q).all (mtF nd md M r)
def mt (nd md : List Nd) : Nat → Nat → Nat → Bool
  | 0 => fun _ _ => false
  | d + 1 => fun q r => mtS nd md (mt nd md d) q r
/-- the class's tree holds a set that was read -/
def tR (T : S_Tr) (nd : List Nd) : Prop := wfT nd ∧ rt T nd []
theorem kds_wf {nd : List Nd} {k : Nat} (h : wfT nd) (hk : k < nd.length) : kds nd k = kfl nd k := kds_kf hk (fun i hi hi2 => (h.2.2.1 i hi).1.2.2.2.2 hi2)
theorem kds_10 {nd : List Nd} {k : Nat} (h : wfT nd) (hk : k < nd.length) : (kds nd k).length ≤ 10 := by
  rw [kds_wf h hk]
  exact (h.2.2.1 k hk).2.1
theorem kds_mem {nd : List Nd} {k j : Nat} (h : wfT nd) (hk : k < nd.length) (hj : j ∈ kds nd k) : j < nd.length ∧ k < j ∧ j < bhf nd k ∧ nL nd j = nL nd k + 1 := by
  rw [kds_wf h hk] at hj
  exact kf_mem hj
theorem kds_4 {nd : List Nd} {k : Nat} (h : wfT nd) (hk : k < nd.length) (h3 : kd (nT nd k) = 3) : (kds nd k).length ≤ 4 := by
  rw [kds_wf h hk]
  refine (h.2.2.1 k hk).2.2.1 ?_
  have := (h.2.2.1 k hk).1.2.2.2.1
  have : ¬ nL nd k % 2 = 0 := fun e => by
    have := this.mpr e
    omega
  omega
theorem fnd_mem {md : List Nd} {ks : List Nat} {g f : Nat} (h : fnd md ks g = some f) : f ∈ ks ∧ nT md f = g := by
  unfold fnd at h
  exact ⟨List.mem_of_find?_eq_some h, by simpa using List.find?_some h⟩
theorem kds_nil {nd : List Nd} {k : Nat} (hk : k < nd.length) : kds nd k = [] ↔ bhf nd k = k + 1 := by
  have hb := bhf_lt hk
  unfold kds
  obtain ⟨m, hm⟩ : ∃ m, nd.length = m + 1 := ⟨nd.length - 1, by omega⟩
  rw [hm]
  unfold kdsF
  constructor
  · intro h
    by_cases c : k + 1 < bhf nd k
    · rw [if_pos c] at h
      cases h
    · omega
  · intro h
    rw [if_neg (by omega)]
section CMT
variable {nd md : List Nd} {T1 T2 : S_Tr}

theorem c_fits2 {e f : Nat} {a : Nat → Int32} (h1 : tR T1 nd) (h2 : tR T2 md) (he : e < nd.length) (hf : f < md.length) (hg : nT nd e = nT md f) (h3 : kd (nT nd e) ≤ 3) : ∃ a', F_Mr_fits2 a T1 T2 (nI e) (nI f) (nI 2) = some ((if mtE nd md (mt nd md 0) e f = true then 1 else 0), a') := by
  obtain ⟨w1, tg, bh, vs, ls, cs, rfl, hT, hB, hC⟩ := h1
  obtain ⟨w2, tg', bh', vs', ls', cs', rfl, hT', hB', hC'⟩ := h2
  have h1 : tR (tg, bh, vs, ls, cs, nI nd.length, nI (ch nd).length) nd := ⟨w1, tg, bh, vs, ls, cs, rfl, hT, hB, hC⟩
  have h2 : tR (tg', bh', vs', ls', cs', nI md.length, nI (ch md).length) md := ⟨w2, tg', bh', vs', ls', cs', rfl, hT', hB', hC'⟩
  have l1 := w1.2.2.2.2.1
  have l2 := w2.2.2.2.2.1
  have hk4 := kd_le (nT nd e)
  have hg8 := nT_lt w1.1 e
  unfold F_Mr_fits2 B_Mr_fits2_0 mtE
  rw [c_tag l1 hT he, Option.bind_some, c_kindOf _ hg8, Option.bind_some]
  by_cases k1 : kd (nT nd e) = 1
  · rw [if_pos (c := kd (nT nd e) = 1) k1]
    rw [if_pos (by first | omega | (simp (disch := omega) only [z_lt, z_le, z_eq, z_cl, z_ad, z_mu, z_sb, z_n1, z_em, z_me, z_lm, z_ml, z_mle, z_lme, z_ma, z_am, z_m2, not_false_eq_true, z_l0, z_l1, z_l2, z_l3, z_l4, z_l5, z_l6, z_l7, z_l8, z_l10, z_l14, z_l15, z_l16, z_l32, z_l80, z_l101, z_l120, z_l126, z_l127, z_l130, z_l160, z_l198, z_l200, z_l202, z_l240, z_l252, z_l253, z_l254, z_l255, z_l260, z_l480, z_l900, Rd_nodes, Rd_ends, Rd_isOpen, Rd_counts, Rd_lastTags, Rd_syntax, Rd_position, Rd_level, Rd_result, Rd_set_nodes, Rd_set_ends, Rd_set_isOpen, Rd_set_counts, Rd_set_lastTags, Rd_set_syntax, Rd_set_position, Rd_set_level, Rd_set_result, Tr_tags, Tr_behind, Tr_values, Tr_lengths, Tr_characters, Tr_count, Tr_characterCount, Tr_set_tags, Tr_set_behind, Tr_set_values, Tr_set_lengths, Tr_set_characters, Tr_set_count, Tr_set_characterCount, Bs_n, Bs_values, Bs_count, Bs_set_n, Bs_set_values, Bs_set_count, k1] <;> omega))]
    unfold B_Mr_fits2_16
    rw [c_number l1 hT he, Option.bind_some, c_number l2 hT' hf, Option.bind_some]
    rw [show xv nd e = nV nd e by unfold xv; rw [if_pos k1], show xv md f = nV md f by unfold xv; rw [if_pos (by rw [← hg]; exact k1)]]
    by_cases c : nV nd e = nV md f
    · rw [if_pos c, decide_eq_true c]
      exact ⟨a, rfl⟩
    · rw [if_neg c, decide_eq_false c]
      exact ⟨a, rfl⟩
  · rw [if_neg (c := kd (nT nd e) = 1) k1]
    rw [if_neg (by first | omega | (simp (disch := omega) only [z_lt, z_le, z_eq, z_cl, z_ad, z_mu, z_sb, z_n1, z_em, z_me, z_lm, z_ml, z_mle, z_lme, z_ma, z_am, z_m2, not_false_eq_true, z_l0, z_l1, z_l2, z_l3, z_l4, z_l5, z_l6, z_l7, z_l8, z_l10, z_l14, z_l15, z_l16, z_l32, z_l80, z_l101, z_l120, z_l126, z_l127, z_l130, z_l160, z_l198, z_l200, z_l202, z_l240, z_l252, z_l253, z_l254, z_l255, z_l260, z_l480, z_l900, Rd_nodes, Rd_ends, Rd_isOpen, Rd_counts, Rd_lastTags, Rd_syntax, Rd_position, Rd_level, Rd_result, Rd_set_nodes, Rd_set_ends, Rd_set_isOpen, Rd_set_counts, Rd_set_lastTags, Rd_set_syntax, Rd_set_position, Rd_set_level, Rd_set_result, Tr_tags, Tr_behind, Tr_values, Tr_lengths, Tr_characters, Tr_count, Tr_characterCount, Tr_set_tags, Tr_set_behind, Tr_set_values, Tr_set_lengths, Tr_set_characters, Tr_set_count, Tr_set_characterCount, Bs_n, Bs_values, Bs_count, Bs_set_n, Bs_set_values, Bs_set_count, k1] <;> omega))]
    unfold B_Mr_fits2_36
    by_cases k2 : kd (nT nd e) = 2
    · rw [if_pos (c := kd (nT nd e) = 2) k2]
      rw [if_pos (by first | omega | (simp (disch := omega) only [z_lt, z_le, z_eq, z_cl, z_ad, z_mu, z_sb, z_n1, z_em, z_me, z_lm, z_ml, z_mle, z_lme, z_ma, z_am, z_m2, not_false_eq_true, z_l0, z_l1, z_l2, z_l3, z_l4, z_l5, z_l6, z_l7, z_l8, z_l10, z_l14, z_l15, z_l16, z_l32, z_l80, z_l101, z_l120, z_l126, z_l127, z_l130, z_l160, z_l198, z_l200, z_l202, z_l240, z_l252, z_l253, z_l254, z_l255, z_l260, z_l480, z_l900, Rd_nodes, Rd_ends, Rd_isOpen, Rd_counts, Rd_lastTags, Rd_syntax, Rd_position, Rd_level, Rd_result, Rd_set_nodes, Rd_set_ends, Rd_set_isOpen, Rd_set_counts, Rd_set_lastTags, Rd_set_syntax, Rd_set_position, Rd_set_level, Rd_set_result, Tr_tags, Tr_behind, Tr_values, Tr_lengths, Tr_characters, Tr_count, Tr_characterCount, Tr_set_tags, Tr_set_behind, Tr_set_values, Tr_set_lengths, Tr_set_characters, Tr_set_count, Tr_set_characterCount, Bs_n, Bs_values, Bs_count, Bs_set_n, Bs_set_values, Bs_set_count, k2] <;> omega))]
      unfold B_Mr_fits2_42
      obtain ⟨a', e1⟩ := c_textFits (a := a) (bh := bh) (bh' := bh') w1.1 w2.1 l1 l2 w1.2.2.2.2.2.1 w2.2.2.2.2.2.1 hT hC hT' hC' he hf k2 (by rw [← hg]; exact k2)
      rw [e1, Option.bind_some, if_pos (by
        dsimp only
        split
        · exact .inr rfl
        · exact .inl rfl)]
      exact ⟨a', rfl⟩
    · rw [if_neg (c := kd (nT nd e) = 2) k2]
      rw [if_neg (by first | omega | (simp (disch := omega) only [z_lt, z_le, z_eq, z_cl, z_ad, z_mu, z_sb, z_n1, z_em, z_me, z_lm, z_ml, z_mle, z_lme, z_ma, z_am, z_m2, not_false_eq_true, z_l0, z_l1, z_l2, z_l3, z_l4, z_l5, z_l6, z_l7, z_l8, z_l10, z_l14, z_l15, z_l16, z_l32, z_l80, z_l101, z_l120, z_l126, z_l127, z_l130, z_l160, z_l198, z_l200, z_l202, z_l240, z_l252, z_l253, z_l254, z_l255, z_l260, z_l480, z_l900, Rd_nodes, Rd_ends, Rd_isOpen, Rd_counts, Rd_lastTags, Rd_syntax, Rd_position, Rd_level, Rd_result, Rd_set_nodes, Rd_set_ends, Rd_set_isOpen, Rd_set_counts, Rd_set_lastTags, Rd_set_syntax, Rd_set_position, Rd_set_level, Rd_set_result, Tr_tags, Tr_behind, Tr_values, Tr_lengths, Tr_characters, Tr_count, Tr_characterCount, Tr_set_tags, Tr_set_behind, Tr_set_values, Tr_set_lengths, Tr_set_characters, Tr_set_count, Tr_set_characterCount, Bs_n, Bs_values, Bs_count, Bs_set_n, Bs_set_values, Bs_set_count, k2] <;> omega))]
      have hb := bhf_lt he
      have hbf := bhf_lt hf
      unfold B_Mr_fits2_52
      rw [c_behind l1 hB he, Option.bind_some, show nI e + (1 : Int32) = nI (e + 1) from nI_1 e]
      by_cases c0 : kds nd e = []
      · have := (kds_nil he).mp c0
        rw [c0, decide_eq_true rfl, Bool.true_or, if_pos (by rw [this])]
        exact ⟨a, rfl⟩
      · have hne : ¬ bhf nd e = e + 1 := fun h => c0 ((kds_nil he).mpr h)
        rw [decide_eq_false c0, Bool.false_or, if_neg (by rw [z_eq (by omega) (by omega)]; omega)]
        unfold B_Mr_fits2_69 L_Mr_fits2_81
        by_cases c3 : kd (nT nd e) = 3
        · have h4 := kds_4 w2 hf (by rw [← hg]; exact c3)
          rw [show nI f + (1 : Int32) = nI (f + 1) from nI_1 f]
          have loop : ∀ (m j i fu : Nat) (a : Nat → Int32) (b : Bool), (kdsF md (bhf md f) m j).length + i ≤ 4 → bhf md f ≤ j + m → j ≤ 200 → (∀ x ∈ kdsF md (bhf md f) m j, x < md.length) → m < fu → ∃ a', lp (fun k81 v => B_Mr_fits2_81 k81 (tg, bh, vs, ls, cs, nI nd.length, nI (ch nd).length) (tg', bh', vs', ls', cs', nI md.length, nI (ch md).length) v.1 v.2.1 v.2.2.1 v.2.2.2.1 v.2.2.2.2.1 v.2.2.2.2.2.1 v.2.2.2.2.2.2) fu (a, nI f, nI 2, nI (e + 1), nI j, (if b = true then 1 else 0), nI i) = some ((if (b || (kdsF md (bhf md f) m j).any (fun i => (mt nd md 0) (e + 1) i)) = true then 1 else 0), a') := by
            have fin : ∀ (K : S_Mr × Int32 × Int32 × Int32 × Int32 × Int32 × Int32 → Option (Int32 × S_Mr)) (a : Nat → Int32) (b : Bool) (j i : Nat), j ≤ 200 → i ≤ 4 → (bhf md f ≤ j ∨ b = true) → B_Mr_fits2_81 K (tg, bh, vs, ls, cs, nI nd.length, nI (ch nd).length) (tg', bh', vs', ls', cs', nI md.length, nI (ch md).length) a (nI f) (nI 2) (nI (e + 1)) (nI j) (if b = true then 1 else 0) (nI i) = some ((if b = true then 1 else 0), a) := by
              intro K a b j i hj hi hor
              have e147 : B_Mr_fits2_147 (tg, bh, vs, ls, cs, nI nd.length, nI (ch nd).length) (tg', bh', vs', ls', cs', nI md.length, nI (ch md).length) a (if b = true then 1 else 0) = some ((if b = true then 1 else 0), a) := by
                unfold B_Mr_fits2_147
                rw [if_pos (by
                  split
                  · exact .inr rfl
                  · exact .inl rfl)]
              unfold B_Mr_fits2_81
              by_cases c : 4 ≤ i
              · rw [if_pos (by first | omega | (simp (disch := omega) only [z_lt, z_le, z_eq, z_cl, z_ad, z_mu, z_sb, z_n1, z_em, z_me, z_lm, z_ml, z_mle, z_lme, z_ma, z_am, z_m2, not_false_eq_true, z_l0, z_l1, z_l2, z_l3, z_l4, z_l5, z_l6, z_l7, z_l8, z_l10, z_l14, z_l15, z_l16, z_l32, z_l80, z_l101, z_l120, z_l126, z_l127, z_l130, z_l160, z_l198, z_l200, z_l202, z_l240, z_l252, z_l253, z_l254, z_l255, z_l260, z_l480, z_l900, Rd_nodes, Rd_ends, Rd_isOpen, Rd_counts, Rd_lastTags, Rd_syntax, Rd_position, Rd_level, Rd_result, Rd_set_nodes, Rd_set_ends, Rd_set_isOpen, Rd_set_counts, Rd_set_lastTags, Rd_set_syntax, Rd_set_position, Rd_set_level, Rd_set_result, Tr_tags, Tr_behind, Tr_values, Tr_lengths, Tr_characters, Tr_count, Tr_characterCount, Tr_set_tags, Tr_set_behind, Tr_set_values, Tr_set_lengths, Tr_set_characters, Tr_set_count, Tr_set_characterCount, Bs_n, Bs_values, Bs_count, Bs_set_n, Bs_set_values, Bs_set_count] <;> omega))]
                exact e147
              · rw [if_neg (by first | omega | (simp (disch := omega) only [z_lt, z_le, z_eq, z_cl, z_ad, z_mu, z_sb, z_n1, z_em, z_me, z_lm, z_ml, z_mle, z_lme, z_ma, z_am, z_m2, not_false_eq_true, z_l0, z_l1, z_l2, z_l3, z_l4, z_l5, z_l6, z_l7, z_l8, z_l10, z_l14, z_l15, z_l16, z_l32, z_l80, z_l101, z_l120, z_l126, z_l127, z_l130, z_l160, z_l198, z_l200, z_l202, z_l240, z_l252, z_l253, z_l254, z_l255, z_l260, z_l480, z_l900, Rd_nodes, Rd_ends, Rd_isOpen, Rd_counts, Rd_lastTags, Rd_syntax, Rd_position, Rd_level, Rd_result, Rd_set_nodes, Rd_set_ends, Rd_set_isOpen, Rd_set_counts, Rd_set_lastTags, Rd_set_syntax, Rd_set_position, Rd_set_level, Rd_set_result, Tr_tags, Tr_behind, Tr_values, Tr_lengths, Tr_characters, Tr_count, Tr_characterCount, Tr_set_tags, Tr_set_behind, Tr_set_values, Tr_set_lengths, Tr_set_characters, Tr_set_count, Tr_set_characterCount, Bs_n, Bs_values, Bs_count, Bs_set_n, Bs_set_values, Bs_set_count] <;> omega))]
                unfold B_Mr_fits2_87
                rw [c_behind l2 hB' hf, Option.bind_some]
                by_cases c2 : bhf md f ≤ j
                · rw [if_pos (by first | omega | (simp (disch := omega) only [z_lt, z_le, z_eq, z_cl, z_ad, z_mu, z_sb, z_n1, z_em, z_me, z_lm, z_ml, z_mle, z_lme, z_ma, z_am, z_m2, not_false_eq_true, z_l0, z_l1, z_l2, z_l3, z_l4, z_l5, z_l6, z_l7, z_l8, z_l10, z_l14, z_l15, z_l16, z_l32, z_l80, z_l101, z_l120, z_l126, z_l127, z_l130, z_l160, z_l198, z_l200, z_l202, z_l240, z_l252, z_l253, z_l254, z_l255, z_l260, z_l480, z_l900, Rd_nodes, Rd_ends, Rd_isOpen, Rd_counts, Rd_lastTags, Rd_syntax, Rd_position, Rd_level, Rd_result, Rd_set_nodes, Rd_set_ends, Rd_set_isOpen, Rd_set_counts, Rd_set_lastTags, Rd_set_syntax, Rd_set_position, Rd_set_level, Rd_set_result, Tr_tags, Tr_behind, Tr_values, Tr_lengths, Tr_characters, Tr_count, Tr_characterCount, Tr_set_tags, Tr_set_behind, Tr_set_values, Tr_set_lengths, Tr_set_characters, Tr_set_count, Tr_set_characterCount, Bs_n, Bs_values, Bs_count, Bs_set_n, Bs_set_values, Bs_set_count] <;> omega))]
                  exact e147
                · rw [if_neg (by first | omega | (simp (disch := omega) only [z_lt, z_le, z_eq, z_cl, z_ad, z_mu, z_sb, z_n1, z_em, z_me, z_lm, z_ml, z_mle, z_lme, z_ma, z_am, z_m2, not_false_eq_true, z_l0, z_l1, z_l2, z_l3, z_l4, z_l5, z_l6, z_l7, z_l8, z_l10, z_l14, z_l15, z_l16, z_l32, z_l80, z_l101, z_l120, z_l126, z_l127, z_l130, z_l160, z_l198, z_l200, z_l202, z_l240, z_l252, z_l253, z_l254, z_l255, z_l260, z_l480, z_l900, Rd_nodes, Rd_ends, Rd_isOpen, Rd_counts, Rd_lastTags, Rd_syntax, Rd_position, Rd_level, Rd_result, Rd_set_nodes, Rd_set_ends, Rd_set_isOpen, Rd_set_counts, Rd_set_lastTags, Rd_set_syntax, Rd_set_position, Rd_set_level, Rd_set_result, Tr_tags, Tr_behind, Tr_values, Tr_lengths, Tr_characters, Tr_count, Tr_characterCount, Tr_set_tags, Tr_set_behind, Tr_set_values, Tr_set_lengths, Tr_set_characters, Tr_set_count, Tr_set_characterCount, Bs_n, Bs_values, Bs_count, Bs_set_n, Bs_set_values, Bs_set_count] <;> omega))]
                  have hb1 : b = true := by
                    rcases hor with h | h
                    · omega
                    · exact h
                  unfold B_Mr_fits2_98
                  rw [hb1] at e147 ⊢
                  rw [if_pos (rfl : true = true)] at e147 ⊢
                  rw [if_neg (by decide)]
                  exact e147
            intro m
            induction m with
            | zero =>
              intro j i fu a b q1 q2 q3 q4 q5
              obtain ⟨fu', rfl⟩ : ∃ fu', fu = fu' + 1 := ⟨fu - 1, by omega⟩
              refine ⟨a, ?_⟩
              rw [lp_s]
              show B_Mr_fits2_81 _ (tg, bh, vs, ls, cs, nI nd.length, nI (ch nd).length) (tg', bh', vs', ls', cs', nI md.length, nI (ch md).length) a (nI f) (nI 2) (nI (e + 1)) (nI j) (if b = true then 1 else 0) (nI i) = _
              rw [fin _ a b j i q3 (by omega) (.inl (by omega))]
              rw [show kdsF md (bhf md f) 0 j = [] from rfl, List.any_nil, Bool.or_false]
            | succ m ih =>
              intro j i fu a b q1 q2 q3 q4 q5
              obtain ⟨fu', rfl⟩ : ∃ fu', fu = fu' + 1 := ⟨fu - 1, by omega⟩
              rw [lp_s]
              show ∃ a', B_Mr_fits2_81 _ (tg, bh, vs, ls, cs, nI nd.length, nI (ch nd).length) (tg', bh', vs', ls', cs', nI md.length, nI (ch md).length) a (nI f) (nI 2) (nI (e + 1)) (nI j) (if b = true then 1 else 0) (nI i) = _
              cases b with
              | true =>
                have hi4 : i ≤ 4 := by omega
                rw [fin _ a true j i q3 hi4 (.inr rfl), Bool.true_or]
                exact ⟨a, rfl⟩
              | false =>
                unfold kdsF at q1 q4 ⊢
                by_cases c : j < bhf md f
                · rw [if_pos c] at q1 q4 ⊢
                  simp only [List.length_cons] at q1
                  have hj : j < md.length := q4 j List.mem_cons_self
                  have hbj := bhf_lt hj
                  rw [List.any_cons, Bool.false_or]
                  have e81 : ∀ K, B_Mr_fits2_81 K (tg, bh, vs, ls, cs, nI nd.length, nI (ch nd).length) (tg', bh', vs', ls', cs', nI md.length, nI (ch md).length) a (nI f) (nI 2) (nI (e + 1)) (nI j) (if false = true then 1 else 0) (nI i) = B_Mr_fits2_103 K (tg, bh, vs, ls, cs, nI nd.length, nI (ch nd).length) (tg', bh', vs', ls', cs', nI md.length, nI (ch md).length) a (nI f) (nI 2) (nI (e + 1)) (nI j) (nI i) := fun K => by
                    unfold B_Mr_fits2_81
                    rw [if_neg (by first | omega | (simp (disch := omega) only [z_lt, z_le, z_eq, z_cl, z_ad, z_mu, z_sb, z_n1, z_em, z_me, z_lm, z_ml, z_mle, z_lme, z_ma, z_am, z_m2, not_false_eq_true, z_l0, z_l1, z_l2, z_l3, z_l4, z_l5, z_l6, z_l7, z_l8, z_l10, z_l14, z_l15, z_l16, z_l32, z_l80, z_l101, z_l120, z_l126, z_l127, z_l130, z_l160, z_l198, z_l200, z_l202, z_l240, z_l252, z_l253, z_l254, z_l255, z_l260, z_l480, z_l900, Rd_nodes, Rd_ends, Rd_isOpen, Rd_counts, Rd_lastTags, Rd_syntax, Rd_position, Rd_level, Rd_result, Rd_set_nodes, Rd_set_ends, Rd_set_isOpen, Rd_set_counts, Rd_set_lastTags, Rd_set_syntax, Rd_set_position, Rd_set_level, Rd_set_result, Tr_tags, Tr_behind, Tr_values, Tr_lengths, Tr_characters, Tr_count, Tr_characterCount, Tr_set_tags, Tr_set_behind, Tr_set_values, Tr_set_lengths, Tr_set_characters, Tr_set_count, Tr_set_characterCount, Bs_n, Bs_values, Bs_count, Bs_set_n, Bs_set_values, Bs_set_count] <;> omega))]
                    unfold B_Mr_fits2_87
                    rw [c_behind l2 hB' hf, Option.bind_some]
                    rw [if_neg (by first | omega | (simp (disch := omega) only [z_lt, z_le, z_eq, z_cl, z_ad, z_mu, z_sb, z_n1, z_em, z_me, z_lm, z_ml, z_mle, z_lme, z_ma, z_am, z_m2, not_false_eq_true, z_l0, z_l1, z_l2, z_l3, z_l4, z_l5, z_l6, z_l7, z_l8, z_l10, z_l14, z_l15, z_l16, z_l32, z_l80, z_l101, z_l120, z_l126, z_l127, z_l130, z_l160, z_l198, z_l200, z_l202, z_l240, z_l252, z_l253, z_l254, z_l255, z_l260, z_l480, z_l900, Rd_nodes, Rd_ends, Rd_isOpen, Rd_counts, Rd_lastTags, Rd_syntax, Rd_position, Rd_level, Rd_result, Rd_set_nodes, Rd_set_ends, Rd_set_isOpen, Rd_set_counts, Rd_set_lastTags, Rd_set_syntax, Rd_set_position, Rd_set_level, Rd_set_result, Tr_tags, Tr_behind, Tr_values, Tr_lengths, Tr_characters, Tr_count, Tr_characterCount, Tr_set_tags, Tr_set_behind, Tr_set_values, Tr_set_lengths, Tr_set_characters, Tr_set_count, Tr_set_characterCount, Bs_n, Bs_values, Bs_count, Bs_set_n, Bs_set_values, Bs_set_count] <;> omega))]
                    unfold B_Mr_fits2_98
                    rw [if_neg (by decide : ¬ false = true), if_pos rfl]
                  rw [e81]
                  have e131 : ∀ (a : Nat → Int32) (b : Bool), ∃ a', B_Mr_fits2_131 (lp (fun k81 v => B_Mr_fits2_81 k81 (tg, bh, vs, ls, cs, nI nd.length, nI (ch nd).length) (tg', bh', vs', ls', cs', nI md.length, nI (ch md).length) v.1 v.2.1 v.2.2.1 v.2.2.2.1 v.2.2.2.2.1 v.2.2.2.2.2.1 v.2.2.2.2.2.2) fu') (tg, bh, vs, ls, cs, nI nd.length, nI (ch nd).length) (tg', bh', vs', ls', cs', nI md.length, nI (ch md).length) a (nI f) (nI 2) (nI (e + 1)) (nI j) (nI i) (if b = true then 1 else 0) = some ((if (b || (kdsF md (bhf md f) m (bhf md j)).any (fun i => (mt nd md 0) (e + 1) i)) = true then 1 else 0), a') := by
                    intro a b
                    unfold B_Mr_fits2_131
                    rw [c_behind l2 hB' hj, Option.bind_some, nI_1]
                    exact ih (bhf md j) (i + 1) fu' a b (by omega) (by omega) (by omega) (fun x hx => q4 x (List.mem_cons_of_mem _ hx)) (by omega)
                  unfold B_Mr_fits2_103
                  rw [if_pos (by decide)]
                  unfold B_Mr_fits2_130
                  have := e131 a false
                  rw [Bool.false_or] at this
                  rw [show mt nd md 0 (e + 1) j = false from rfl, Bool.false_or]
                  exact this
                · rw [if_neg c]
                  have hi4 : i ≤ 4 := by omega
                  rw [fin _ a false j i q3 hi4 (.inl (by omega)), List.any_nil]
                  exact ⟨a, rfl⟩
          have := loop md.length (f + 1) 0 FU a false (by
            have : kdsF md (bhf md f) md.length (f + 1) = kds md f := rfl
            rw [this]
            omega) (by omega) (by omega) (fun x hx => (kds_mem w2 hf (show x ∈ kds md f from hx)).1) (by unfold FU; omega)
          rw [Bool.false_or] at this
          exact this
        · omega

theorem c_matches2 {q r : Nat} {a : Nat → Int32} (h1 : tR T1 nd) (h2 : tR T2 md) (hq : q < nd.length) (hr : r < md.length) (hev : nL nd q % 2 = 0) : ∃ a', F_Mr_matches2 a T1 T2 (nI q) (nI r) (nI 2) = some ((if mt nd md 1 q r = true then 1 else 0), a') := by
  have h1' := h1
  have h2' := h2
  obtain ⟨w1, tg, bh, vs, ls, cs, rfl, hT, hB, hC⟩ := h1
  obtain ⟨w2, tg', bh', vs', ls', cs', rfl, hT', hB', hC'⟩ := h2
  have l1 := w1.2.2.2.2.1
  have l2 := w2.2.2.2.2.1
  have hb := bhf_lt hq
  have h10 := kds_10 w1 hq
  unfold F_Mr_matches2 B_Mr_matches2_0 L_Mr_matches2_8
  rw [show nI q + (1 : Int32) = nI (q + 1) from nI_1 q]
  have loop : ∀ (m j i fu : Nat) (a : Nat → Int32), (kdsF nd (bhf nd q) m j).length + i ≤ 10 → bhf nd q ≤ j + m → j ≤ 200 → (∀ x ∈ kdsF nd (bhf nd q) m j, x < nd.length ∧ kd (nT nd x) ≤ 3) → m < fu → ∃ a', lp (fun k8 v => B_Mr_matches2_8 k8 (tg, bh, vs, ls, cs, nI nd.length, nI (ch nd).length) (tg', bh', vs', ls', cs', nI md.length, nI (ch md).length) v.1 v.2.1 v.2.2.1 v.2.2.2.1 v.2.2.2.2.1 v.2.2.2.2.2) fu (a, nI q, nI r, nI 2, nI j, nI i) = some ((if (kdsF nd (bhf nd q) m j).all (mtF nd md (mt nd md 0) r) = true then 1 else 0), a') := by
    have fin : ∀ (K : S_Mr × Int32 × Int32 × Int32 × Int32 × Int32 → Option (Int32 × S_Mr)) (a : Nat → Int32) (j i : Nat), j ≤ 200 → i ≤ 10 → bhf nd q ≤ j → B_Mr_matches2_8 K (tg, bh, vs, ls, cs, nI nd.length, nI (ch nd).length) (tg', bh', vs', ls', cs', nI md.length, nI (ch md).length) a (nI q) (nI r) (nI 2) (nI j) (nI i) = some (1, a) := by
      intro K a j i hj hi hor
      unfold B_Mr_matches2_8
      by_cases c : 10 ≤ i
      · rw [if_pos (by first | omega | (simp (disch := omega) only [z_lt, z_le, z_eq, z_cl, z_ad, z_mu, z_sb, z_n1, z_em, z_me, z_lm, z_ml, z_mle, z_lme, z_ma, z_am, z_m2, not_false_eq_true, z_l0, z_l1, z_l2, z_l3, z_l4, z_l5, z_l6, z_l7, z_l8, z_l10, z_l14, z_l15, z_l16, z_l32, z_l80, z_l101, z_l120, z_l126, z_l127, z_l130, z_l160, z_l198, z_l200, z_l202, z_l240, z_l252, z_l253, z_l254, z_l255, z_l260, z_l480, z_l900, Rd_nodes, Rd_ends, Rd_isOpen, Rd_counts, Rd_lastTags, Rd_syntax, Rd_position, Rd_level, Rd_result, Rd_set_nodes, Rd_set_ends, Rd_set_isOpen, Rd_set_counts, Rd_set_lastTags, Rd_set_syntax, Rd_set_position, Rd_set_level, Rd_set_result, Tr_tags, Tr_behind, Tr_values, Tr_lengths, Tr_characters, Tr_count, Tr_characterCount, Tr_set_tags, Tr_set_behind, Tr_set_values, Tr_set_lengths, Tr_set_characters, Tr_set_count, Tr_set_characterCount, Bs_n, Bs_values, Bs_count, Bs_set_n, Bs_set_values, Bs_set_count] <;> omega))]
        rfl
      · rw [if_neg (by first | omega | (simp (disch := omega) only [z_lt, z_le, z_eq, z_cl, z_ad, z_mu, z_sb, z_n1, z_em, z_me, z_lm, z_ml, z_mle, z_lme, z_ma, z_am, z_m2, not_false_eq_true, z_l0, z_l1, z_l2, z_l3, z_l4, z_l5, z_l6, z_l7, z_l8, z_l10, z_l14, z_l15, z_l16, z_l32, z_l80, z_l101, z_l120, z_l126, z_l127, z_l130, z_l160, z_l198, z_l200, z_l202, z_l240, z_l252, z_l253, z_l254, z_l255, z_l260, z_l480, z_l900, Rd_nodes, Rd_ends, Rd_isOpen, Rd_counts, Rd_lastTags, Rd_syntax, Rd_position, Rd_level, Rd_result, Rd_set_nodes, Rd_set_ends, Rd_set_isOpen, Rd_set_counts, Rd_set_lastTags, Rd_set_syntax, Rd_set_position, Rd_set_level, Rd_set_result, Tr_tags, Tr_behind, Tr_values, Tr_lengths, Tr_characters, Tr_count, Tr_characterCount, Tr_set_tags, Tr_set_behind, Tr_set_values, Tr_set_lengths, Tr_set_characters, Tr_set_count, Tr_set_characterCount, Bs_n, Bs_values, Bs_count, Bs_set_n, Bs_set_values, Bs_set_count] <;> omega))]
        unfold B_Mr_matches2_15
        rw [c_behind l1 hB hq, Option.bind_some]
        rw [if_pos (by first | omega | (simp (disch := omega) only [z_lt, z_le, z_eq, z_cl, z_ad, z_mu, z_sb, z_n1, z_em, z_me, z_lm, z_ml, z_mle, z_lme, z_ma, z_am, z_m2, not_false_eq_true, z_l0, z_l1, z_l2, z_l3, z_l4, z_l5, z_l6, z_l7, z_l8, z_l10, z_l14, z_l15, z_l16, z_l32, z_l80, z_l101, z_l120, z_l126, z_l127, z_l130, z_l160, z_l198, z_l200, z_l202, z_l240, z_l252, z_l253, z_l254, z_l255, z_l260, z_l480, z_l900, Rd_nodes, Rd_ends, Rd_isOpen, Rd_counts, Rd_lastTags, Rd_syntax, Rd_position, Rd_level, Rd_result, Rd_set_nodes, Rd_set_ends, Rd_set_isOpen, Rd_set_counts, Rd_set_lastTags, Rd_set_syntax, Rd_set_position, Rd_set_level, Rd_set_result, Tr_tags, Tr_behind, Tr_values, Tr_lengths, Tr_characters, Tr_count, Tr_characterCount, Tr_set_tags, Tr_set_behind, Tr_set_values, Tr_set_lengths, Tr_set_characters, Tr_set_count, Tr_set_characterCount, Bs_n, Bs_values, Bs_count, Bs_set_n, Bs_set_values, Bs_set_count] <;> omega))]
        rfl
    intro m
    induction m with
    | zero =>
      intro j i fu a q1 q2 q3 q4 q5
      obtain ⟨fu', rfl⟩ : ∃ fu', fu = fu' + 1 := ⟨fu - 1, by omega⟩
      refine ⟨a, ?_⟩
      rw [lp_s]
      exact fin _ a j i q3 (by omega) (by omega)
    | succ m ih =>
      intro j i fu a q1 q2 q3 q4 q5
      obtain ⟨fu', rfl⟩ : ∃ fu', fu = fu' + 1 := ⟨fu - 1, by omega⟩
      rw [lp_s]
      show ∃ a', B_Mr_matches2_8 _ (tg, bh, vs, ls, cs, nI nd.length, nI (ch nd).length) (tg', bh', vs', ls', cs', nI md.length, nI (ch md).length) a (nI q) (nI r) (nI 2) (nI j) (nI i) = _
      unfold kdsF at q1 q4 ⊢
      by_cases c : j < bhf nd q
      · rw [if_pos c] at q1 q4 ⊢
        simp only [List.length_cons] at q1
        obtain ⟨hj, hj3⟩ := q4 j List.mem_cons_self
        have hbj := bhf_lt hj
        have hg8 := nT_lt w1.1 j
        rw [List.all_cons]
        have e8 : ∀ K, B_Mr_matches2_8 K (tg, bh, vs, ls, cs, nI nd.length, nI (ch nd).length) (tg', bh', vs', ls', cs', nI md.length, nI (ch md).length) a (nI q) (nI r) (nI 2) (nI j) (nI i) = B_Mr_matches2_25 K (tg, bh, vs, ls, cs, nI nd.length, nI (ch nd).length) (tg', bh', vs', ls', cs', nI md.length, nI (ch md).length) a (nI q) (nI r) (nI 2) (nI j) (nI i) := fun K => by
          unfold B_Mr_matches2_8
          rw [if_neg (by first | omega | (simp (disch := omega) only [z_lt, z_le, z_eq, z_cl, z_ad, z_mu, z_sb, z_n1, z_em, z_me, z_lm, z_ml, z_mle, z_lme, z_ma, z_am, z_m2, not_false_eq_true, z_l0, z_l1, z_l2, z_l3, z_l4, z_l5, z_l6, z_l7, z_l8, z_l10, z_l14, z_l15, z_l16, z_l32, z_l80, z_l101, z_l120, z_l126, z_l127, z_l130, z_l160, z_l198, z_l200, z_l202, z_l240, z_l252, z_l253, z_l254, z_l255, z_l260, z_l480, z_l900, Rd_nodes, Rd_ends, Rd_isOpen, Rd_counts, Rd_lastTags, Rd_syntax, Rd_position, Rd_level, Rd_result, Rd_set_nodes, Rd_set_ends, Rd_set_isOpen, Rd_set_counts, Rd_set_lastTags, Rd_set_syntax, Rd_set_position, Rd_set_level, Rd_set_result, Tr_tags, Tr_behind, Tr_values, Tr_lengths, Tr_characters, Tr_count, Tr_characterCount, Tr_set_tags, Tr_set_behind, Tr_set_values, Tr_set_lengths, Tr_set_characters, Tr_set_count, Tr_set_characterCount, Bs_n, Bs_values, Bs_count, Bs_set_n, Bs_set_values, Bs_set_count] <;> omega))]
          unfold B_Mr_matches2_15
          rw [c_behind l1 hB hq, Option.bind_some]
          rw [if_neg (by first | omega | (simp (disch := omega) only [z_lt, z_le, z_eq, z_cl, z_ad, z_mu, z_sb, z_n1, z_em, z_me, z_lm, z_ml, z_mle, z_lme, z_ma, z_am, z_m2, not_false_eq_true, z_l0, z_l1, z_l2, z_l3, z_l4, z_l5, z_l6, z_l7, z_l8, z_l10, z_l14, z_l15, z_l16, z_l32, z_l80, z_l101, z_l120, z_l126, z_l127, z_l130, z_l160, z_l198, z_l200, z_l202, z_l240, z_l252, z_l253, z_l254, z_l255, z_l260, z_l480, z_l900, Rd_nodes, Rd_ends, Rd_isOpen, Rd_counts, Rd_lastTags, Rd_syntax, Rd_position, Rd_level, Rd_result, Rd_set_nodes, Rd_set_ends, Rd_set_isOpen, Rd_set_counts, Rd_set_lastTags, Rd_set_syntax, Rd_set_position, Rd_set_level, Rd_set_result, Tr_tags, Tr_behind, Tr_values, Tr_lengths, Tr_characters, Tr_count, Tr_characterCount, Tr_set_tags, Tr_set_behind, Tr_set_values, Tr_set_lengths, Tr_set_characters, Tr_set_count, Tr_set_characterCount, Bs_n, Bs_values, Bs_count, Bs_set_n, Bs_set_values, Bs_set_count] <;> omega))]
        rw [e8]
        unfold B_Mr_matches2_25
        rw [c_tag l1 hT hj, Option.bind_some, c_find w2.1 l2 hT' hB' hg8 hr (kds_10 w2 hr), Option.bind_some]
        cases hf : fnd md (kds md r) (nT nd j) with
        | none =>
          have hF : mtF nd md (mt nd md 0) r j = false := by unfold mtF; rw [hf]
          rw [show oI none = (-1 : Int32) from rfl, if_pos rfl, hF, Bool.false_and]
          exact ⟨a, rfl⟩
        | some x =>
          obtain ⟨hx1, hx2⟩ := fnd_mem hf
          have hF : mtF nd md (mt nd md 0) r j = mtE nd md (mt nd md 0) j x := by unfold mtF; rw [hf]
          rw [hF]
          have hx3 := (kds_mem w2 hr hx1).1
          rw [show oI (some x) = nI x from rfl, if_neg (by
            show ¬ nI x = mI
            rw [z_em (by omega)]
            exact fun e => e)]
          unfold B_Mr_matches2_45
          obtain ⟨a1, e1⟩ := c_fits2 (e := j) (f := x) (a := a) h1' h2' hj hx3 hx2.symm hj3
          rw [e1, Option.bind_some]
          cases hE : mtE nd md (mt nd md 0) j x with
          | true =>
            rw [if_pos (rfl : true = true), if_neg (by exact (by decide : ¬ (1 : Int32) = 0)), Bool.true_and]
            unfold B_Mr_matches2_62
            rw [c_behind l1 hB hj, Option.bind_some, nI_1]
            exact ih (bhf nd j) (i + 1) fu' a1 (by omega) (by omega) (by omega) (fun x hx => q4 x (List.mem_cons_of_mem _ hx)) (by omega)
          | false =>
            rw [if_neg (by decide : ¬ false = true), if_pos (by exact rfl), Bool.false_and]
            exact ⟨a1, rfl⟩
      · rw [if_neg c]
        have hi10 : i ≤ 10 := by omega
        rw [fin _ a j i q3 hi10 (by omega)]
        exact ⟨a, rfl⟩
  exact loop nd.length (q + 1) 0 FU a (by
    have : kdsF nd (bhf nd q) nd.length (q + 1) = kds nd q := rfl
    rw [this]
    omega) (by omega) (by omega) (fun x hx => by
    have hm := kds_mem w1 hq (show x ∈ kds nd q from hx)
    refine ⟨hm.1, ?_⟩
    have p3 := (w1.2.2.1 x hm.1).1.2.2.2.1
    have hk4 := kd_le (nT nd x)
    have : kd (nT nd x) ≠ 4 := fun e9 => by have := p3.mp e9; omega
    omega) (by unfold FU; omega)

theorem c_fits1 {e f : Nat} {a : Nat → Int32} (h1 : tR T1 nd) (h2 : tR T2 md) (he : e < nd.length) (hf : f < md.length) (hg : nT nd e = nT md f) (h3 : kd (nT nd e) ≤ 3) : ∃ a', F_Mr_fits1 a T1 T2 (nI e) (nI f) (nI 1) = some ((if mtE nd md (mt nd md 1) e f = true then 1 else 0), a') := by
  obtain ⟨w1, tg, bh, vs, ls, cs, rfl, hT, hB, hC⟩ := h1
  obtain ⟨w2, tg', bh', vs', ls', cs', rfl, hT', hB', hC'⟩ := h2
  have h1 : tR (tg, bh, vs, ls, cs, nI nd.length, nI (ch nd).length) nd := ⟨w1, tg, bh, vs, ls, cs, rfl, hT, hB, hC⟩
  have h2 : tR (tg', bh', vs', ls', cs', nI md.length, nI (ch md).length) md := ⟨w2, tg', bh', vs', ls', cs', rfl, hT', hB', hC'⟩
  have l1 := w1.2.2.2.2.1
  have l2 := w2.2.2.2.2.1
  have hk4 := kd_le (nT nd e)
  have hg8 := nT_lt w1.1 e
  unfold F_Mr_fits1 B_Mr_fits1_0 mtE
  rw [c_tag l1 hT he, Option.bind_some, c_kindOf _ hg8, Option.bind_some]
  by_cases k1 : kd (nT nd e) = 1
  · rw [if_pos (c := kd (nT nd e) = 1) k1]
    rw [if_pos (by first | omega | (simp (disch := omega) only [z_lt, z_le, z_eq, z_cl, z_ad, z_mu, z_sb, z_n1, z_em, z_me, z_lm, z_ml, z_mle, z_lme, z_ma, z_am, z_m2, not_false_eq_true, z_l0, z_l1, z_l2, z_l3, z_l4, z_l5, z_l6, z_l7, z_l8, z_l10, z_l14, z_l15, z_l16, z_l32, z_l80, z_l101, z_l120, z_l126, z_l127, z_l130, z_l160, z_l198, z_l200, z_l202, z_l240, z_l252, z_l253, z_l254, z_l255, z_l260, z_l480, z_l900, Rd_nodes, Rd_ends, Rd_isOpen, Rd_counts, Rd_lastTags, Rd_syntax, Rd_position, Rd_level, Rd_result, Rd_set_nodes, Rd_set_ends, Rd_set_isOpen, Rd_set_counts, Rd_set_lastTags, Rd_set_syntax, Rd_set_position, Rd_set_level, Rd_set_result, Tr_tags, Tr_behind, Tr_values, Tr_lengths, Tr_characters, Tr_count, Tr_characterCount, Tr_set_tags, Tr_set_behind, Tr_set_values, Tr_set_lengths, Tr_set_characters, Tr_set_count, Tr_set_characterCount, Bs_n, Bs_values, Bs_count, Bs_set_n, Bs_set_values, Bs_set_count, k1] <;> omega))]
    unfold B_Mr_fits1_16
    rw [c_number l1 hT he, Option.bind_some, c_number l2 hT' hf, Option.bind_some]
    rw [show xv nd e = nV nd e by unfold xv; rw [if_pos k1], show xv md f = nV md f by unfold xv; rw [if_pos (by rw [← hg]; exact k1)]]
    by_cases c : nV nd e = nV md f
    · rw [if_pos c, decide_eq_true c]
      exact ⟨a, rfl⟩
    · rw [if_neg c, decide_eq_false c]
      exact ⟨a, rfl⟩
  · rw [if_neg (c := kd (nT nd e) = 1) k1]
    rw [if_neg (by first | omega | (simp (disch := omega) only [z_lt, z_le, z_eq, z_cl, z_ad, z_mu, z_sb, z_n1, z_em, z_me, z_lm, z_ml, z_mle, z_lme, z_ma, z_am, z_m2, not_false_eq_true, z_l0, z_l1, z_l2, z_l3, z_l4, z_l5, z_l6, z_l7, z_l8, z_l10, z_l14, z_l15, z_l16, z_l32, z_l80, z_l101, z_l120, z_l126, z_l127, z_l130, z_l160, z_l198, z_l200, z_l202, z_l240, z_l252, z_l253, z_l254, z_l255, z_l260, z_l480, z_l900, Rd_nodes, Rd_ends, Rd_isOpen, Rd_counts, Rd_lastTags, Rd_syntax, Rd_position, Rd_level, Rd_result, Rd_set_nodes, Rd_set_ends, Rd_set_isOpen, Rd_set_counts, Rd_set_lastTags, Rd_set_syntax, Rd_set_position, Rd_set_level, Rd_set_result, Tr_tags, Tr_behind, Tr_values, Tr_lengths, Tr_characters, Tr_count, Tr_characterCount, Tr_set_tags, Tr_set_behind, Tr_set_values, Tr_set_lengths, Tr_set_characters, Tr_set_count, Tr_set_characterCount, Bs_n, Bs_values, Bs_count, Bs_set_n, Bs_set_values, Bs_set_count, k1] <;> omega))]
    unfold B_Mr_fits1_36
    by_cases k2 : kd (nT nd e) = 2
    · rw [if_pos (c := kd (nT nd e) = 2) k2]
      rw [if_pos (by first | omega | (simp (disch := omega) only [z_lt, z_le, z_eq, z_cl, z_ad, z_mu, z_sb, z_n1, z_em, z_me, z_lm, z_ml, z_mle, z_lme, z_ma, z_am, z_m2, not_false_eq_true, z_l0, z_l1, z_l2, z_l3, z_l4, z_l5, z_l6, z_l7, z_l8, z_l10, z_l14, z_l15, z_l16, z_l32, z_l80, z_l101, z_l120, z_l126, z_l127, z_l130, z_l160, z_l198, z_l200, z_l202, z_l240, z_l252, z_l253, z_l254, z_l255, z_l260, z_l480, z_l900, Rd_nodes, Rd_ends, Rd_isOpen, Rd_counts, Rd_lastTags, Rd_syntax, Rd_position, Rd_level, Rd_result, Rd_set_nodes, Rd_set_ends, Rd_set_isOpen, Rd_set_counts, Rd_set_lastTags, Rd_set_syntax, Rd_set_position, Rd_set_level, Rd_set_result, Tr_tags, Tr_behind, Tr_values, Tr_lengths, Tr_characters, Tr_count, Tr_characterCount, Tr_set_tags, Tr_set_behind, Tr_set_values, Tr_set_lengths, Tr_set_characters, Tr_set_count, Tr_set_characterCount, Bs_n, Bs_values, Bs_count, Bs_set_n, Bs_set_values, Bs_set_count, k2] <;> omega))]
      unfold B_Mr_fits1_42
      obtain ⟨a', e1⟩ := c_textFits (a := a) (bh := bh) (bh' := bh') w1.1 w2.1 l1 l2 w1.2.2.2.2.2.1 w2.2.2.2.2.2.1 hT hC hT' hC' he hf k2 (by rw [← hg]; exact k2)
      rw [e1, Option.bind_some, if_pos (by
        dsimp only
        split
        · exact .inr rfl
        · exact .inl rfl)]
      exact ⟨a', rfl⟩
    · rw [if_neg (c := kd (nT nd e) = 2) k2]
      rw [if_neg (by first | omega | (simp (disch := omega) only [z_lt, z_le, z_eq, z_cl, z_ad, z_mu, z_sb, z_n1, z_em, z_me, z_lm, z_ml, z_mle, z_lme, z_ma, z_am, z_m2, not_false_eq_true, z_l0, z_l1, z_l2, z_l3, z_l4, z_l5, z_l6, z_l7, z_l8, z_l10, z_l14, z_l15, z_l16, z_l32, z_l80, z_l101, z_l120, z_l126, z_l127, z_l130, z_l160, z_l198, z_l200, z_l202, z_l240, z_l252, z_l253, z_l254, z_l255, z_l260, z_l480, z_l900, Rd_nodes, Rd_ends, Rd_isOpen, Rd_counts, Rd_lastTags, Rd_syntax, Rd_position, Rd_level, Rd_result, Rd_set_nodes, Rd_set_ends, Rd_set_isOpen, Rd_set_counts, Rd_set_lastTags, Rd_set_syntax, Rd_set_position, Rd_set_level, Rd_set_result, Tr_tags, Tr_behind, Tr_values, Tr_lengths, Tr_characters, Tr_count, Tr_characterCount, Tr_set_tags, Tr_set_behind, Tr_set_values, Tr_set_lengths, Tr_set_characters, Tr_set_count, Tr_set_characterCount, Bs_n, Bs_values, Bs_count, Bs_set_n, Bs_set_values, Bs_set_count, k2] <;> omega))]
      have hb := bhf_lt he
      have hbf := bhf_lt hf
      unfold B_Mr_fits1_52
      rw [c_behind l1 hB he, Option.bind_some, show nI e + (1 : Int32) = nI (e + 1) from nI_1 e]
      by_cases c0 : kds nd e = []
      · have := (kds_nil he).mp c0
        rw [c0, decide_eq_true rfl, Bool.true_or, if_pos (by rw [this])]
        exact ⟨a, rfl⟩
      · have hne : ¬ bhf nd e = e + 1 := fun h => c0 ((kds_nil he).mpr h)
        rw [decide_eq_false c0, Bool.false_or, if_neg (by rw [z_eq (by omega) (by omega)]; omega)]
        unfold B_Mr_fits1_69 L_Mr_fits1_81
        by_cases c3 : kd (nT nd e) = 3
        · have h4 := kds_4 w2 hf (by rw [← hg]; exact c3)
          rw [show nI f + (1 : Int32) = nI (f + 1) from nI_1 f]
          have loop : ∀ (m j i fu : Nat) (a : Nat → Int32) (b : Bool), (kdsF md (bhf md f) m j).length + i ≤ 4 → bhf md f ≤ j + m → j ≤ 200 → (∀ x ∈ kdsF md (bhf md f) m j, x < md.length) → m < fu → ∃ a', lp (fun k81 v => B_Mr_fits1_81 k81 (tg, bh, vs, ls, cs, nI nd.length, nI (ch nd).length) (tg', bh', vs', ls', cs', nI md.length, nI (ch md).length) v.1 v.2.1 v.2.2.1 v.2.2.2.1 v.2.2.2.2.1 v.2.2.2.2.2.1 v.2.2.2.2.2.2) fu (a, nI f, nI 1, nI (e + 1), nI j, (if b = true then 1 else 0), nI i) = some ((if (b || (kdsF md (bhf md f) m j).any (fun i => (mt nd md 1) (e + 1) i)) = true then 1 else 0), a') := by
            have fin : ∀ (K : S_Mr × Int32 × Int32 × Int32 × Int32 × Int32 × Int32 → Option (Int32 × S_Mr)) (a : Nat → Int32) (b : Bool) (j i : Nat), j ≤ 200 → i ≤ 4 → (bhf md f ≤ j ∨ b = true) → B_Mr_fits1_81 K (tg, bh, vs, ls, cs, nI nd.length, nI (ch nd).length) (tg', bh', vs', ls', cs', nI md.length, nI (ch md).length) a (nI f) (nI 1) (nI (e + 1)) (nI j) (if b = true then 1 else 0) (nI i) = some ((if b = true then 1 else 0), a) := by
              intro K a b j i hj hi hor
              have e147 : B_Mr_fits1_147 (tg, bh, vs, ls, cs, nI nd.length, nI (ch nd).length) (tg', bh', vs', ls', cs', nI md.length, nI (ch md).length) a (if b = true then 1 else 0) = some ((if b = true then 1 else 0), a) := by
                unfold B_Mr_fits1_147
                rw [if_pos (by
                  split
                  · exact .inr rfl
                  · exact .inl rfl)]
              unfold B_Mr_fits1_81
              by_cases c : 4 ≤ i
              · rw [if_pos (by first | omega | (simp (disch := omega) only [z_lt, z_le, z_eq, z_cl, z_ad, z_mu, z_sb, z_n1, z_em, z_me, z_lm, z_ml, z_mle, z_lme, z_ma, z_am, z_m2, not_false_eq_true, z_l0, z_l1, z_l2, z_l3, z_l4, z_l5, z_l6, z_l7, z_l8, z_l10, z_l14, z_l15, z_l16, z_l32, z_l80, z_l101, z_l120, z_l126, z_l127, z_l130, z_l160, z_l198, z_l200, z_l202, z_l240, z_l252, z_l253, z_l254, z_l255, z_l260, z_l480, z_l900, Rd_nodes, Rd_ends, Rd_isOpen, Rd_counts, Rd_lastTags, Rd_syntax, Rd_position, Rd_level, Rd_result, Rd_set_nodes, Rd_set_ends, Rd_set_isOpen, Rd_set_counts, Rd_set_lastTags, Rd_set_syntax, Rd_set_position, Rd_set_level, Rd_set_result, Tr_tags, Tr_behind, Tr_values, Tr_lengths, Tr_characters, Tr_count, Tr_characterCount, Tr_set_tags, Tr_set_behind, Tr_set_values, Tr_set_lengths, Tr_set_characters, Tr_set_count, Tr_set_characterCount, Bs_n, Bs_values, Bs_count, Bs_set_n, Bs_set_values, Bs_set_count] <;> omega))]
                exact e147
              · rw [if_neg (by first | omega | (simp (disch := omega) only [z_lt, z_le, z_eq, z_cl, z_ad, z_mu, z_sb, z_n1, z_em, z_me, z_lm, z_ml, z_mle, z_lme, z_ma, z_am, z_m2, not_false_eq_true, z_l0, z_l1, z_l2, z_l3, z_l4, z_l5, z_l6, z_l7, z_l8, z_l10, z_l14, z_l15, z_l16, z_l32, z_l80, z_l101, z_l120, z_l126, z_l127, z_l130, z_l160, z_l198, z_l200, z_l202, z_l240, z_l252, z_l253, z_l254, z_l255, z_l260, z_l480, z_l900, Rd_nodes, Rd_ends, Rd_isOpen, Rd_counts, Rd_lastTags, Rd_syntax, Rd_position, Rd_level, Rd_result, Rd_set_nodes, Rd_set_ends, Rd_set_isOpen, Rd_set_counts, Rd_set_lastTags, Rd_set_syntax, Rd_set_position, Rd_set_level, Rd_set_result, Tr_tags, Tr_behind, Tr_values, Tr_lengths, Tr_characters, Tr_count, Tr_characterCount, Tr_set_tags, Tr_set_behind, Tr_set_values, Tr_set_lengths, Tr_set_characters, Tr_set_count, Tr_set_characterCount, Bs_n, Bs_values, Bs_count, Bs_set_n, Bs_set_values, Bs_set_count] <;> omega))]
                unfold B_Mr_fits1_87
                rw [c_behind l2 hB' hf, Option.bind_some]
                by_cases c2 : bhf md f ≤ j
                · rw [if_pos (by first | omega | (simp (disch := omega) only [z_lt, z_le, z_eq, z_cl, z_ad, z_mu, z_sb, z_n1, z_em, z_me, z_lm, z_ml, z_mle, z_lme, z_ma, z_am, z_m2, not_false_eq_true, z_l0, z_l1, z_l2, z_l3, z_l4, z_l5, z_l6, z_l7, z_l8, z_l10, z_l14, z_l15, z_l16, z_l32, z_l80, z_l101, z_l120, z_l126, z_l127, z_l130, z_l160, z_l198, z_l200, z_l202, z_l240, z_l252, z_l253, z_l254, z_l255, z_l260, z_l480, z_l900, Rd_nodes, Rd_ends, Rd_isOpen, Rd_counts, Rd_lastTags, Rd_syntax, Rd_position, Rd_level, Rd_result, Rd_set_nodes, Rd_set_ends, Rd_set_isOpen, Rd_set_counts, Rd_set_lastTags, Rd_set_syntax, Rd_set_position, Rd_set_level, Rd_set_result, Tr_tags, Tr_behind, Tr_values, Tr_lengths, Tr_characters, Tr_count, Tr_characterCount, Tr_set_tags, Tr_set_behind, Tr_set_values, Tr_set_lengths, Tr_set_characters, Tr_set_count, Tr_set_characterCount, Bs_n, Bs_values, Bs_count, Bs_set_n, Bs_set_values, Bs_set_count] <;> omega))]
                  exact e147
                · rw [if_neg (by first | omega | (simp (disch := omega) only [z_lt, z_le, z_eq, z_cl, z_ad, z_mu, z_sb, z_n1, z_em, z_me, z_lm, z_ml, z_mle, z_lme, z_ma, z_am, z_m2, not_false_eq_true, z_l0, z_l1, z_l2, z_l3, z_l4, z_l5, z_l6, z_l7, z_l8, z_l10, z_l14, z_l15, z_l16, z_l32, z_l80, z_l101, z_l120, z_l126, z_l127, z_l130, z_l160, z_l198, z_l200, z_l202, z_l240, z_l252, z_l253, z_l254, z_l255, z_l260, z_l480, z_l900, Rd_nodes, Rd_ends, Rd_isOpen, Rd_counts, Rd_lastTags, Rd_syntax, Rd_position, Rd_level, Rd_result, Rd_set_nodes, Rd_set_ends, Rd_set_isOpen, Rd_set_counts, Rd_set_lastTags, Rd_set_syntax, Rd_set_position, Rd_set_level, Rd_set_result, Tr_tags, Tr_behind, Tr_values, Tr_lengths, Tr_characters, Tr_count, Tr_characterCount, Tr_set_tags, Tr_set_behind, Tr_set_values, Tr_set_lengths, Tr_set_characters, Tr_set_count, Tr_set_characterCount, Bs_n, Bs_values, Bs_count, Bs_set_n, Bs_set_values, Bs_set_count] <;> omega))]
                  have hb1 : b = true := by
                    rcases hor with h | h
                    · omega
                    · exact h
                  unfold B_Mr_fits1_98
                  rw [hb1] at e147 ⊢
                  rw [if_pos (rfl : true = true)] at e147 ⊢
                  rw [if_neg (by decide)]
                  exact e147
            intro m
            induction m with
            | zero =>
              intro j i fu a b q1 q2 q3 q4 q5
              obtain ⟨fu', rfl⟩ : ∃ fu', fu = fu' + 1 := ⟨fu - 1, by omega⟩
              refine ⟨a, ?_⟩
              rw [lp_s]
              show B_Mr_fits1_81 _ (tg, bh, vs, ls, cs, nI nd.length, nI (ch nd).length) (tg', bh', vs', ls', cs', nI md.length, nI (ch md).length) a (nI f) (nI 1) (nI (e + 1)) (nI j) (if b = true then 1 else 0) (nI i) = _
              rw [fin _ a b j i q3 (by omega) (.inl (by omega))]
              rw [show kdsF md (bhf md f) 0 j = [] from rfl, List.any_nil, Bool.or_false]
            | succ m ih =>
              intro j i fu a b q1 q2 q3 q4 q5
              obtain ⟨fu', rfl⟩ : ∃ fu', fu = fu' + 1 := ⟨fu - 1, by omega⟩
              rw [lp_s]
              show ∃ a', B_Mr_fits1_81 _ (tg, bh, vs, ls, cs, nI nd.length, nI (ch nd).length) (tg', bh', vs', ls', cs', nI md.length, nI (ch md).length) a (nI f) (nI 1) (nI (e + 1)) (nI j) (if b = true then 1 else 0) (nI i) = _
              cases b with
              | true =>
                have hi4 : i ≤ 4 := by omega
                rw [fin _ a true j i q3 hi4 (.inr rfl), Bool.true_or]
                exact ⟨a, rfl⟩
              | false =>
                unfold kdsF at q1 q4 ⊢
                by_cases c : j < bhf md f
                · rw [if_pos c] at q1 q4 ⊢
                  simp only [List.length_cons] at q1
                  have hj : j < md.length := q4 j List.mem_cons_self
                  have hbj := bhf_lt hj
                  rw [List.any_cons, Bool.false_or]
                  have e81 : ∀ K, B_Mr_fits1_81 K (tg, bh, vs, ls, cs, nI nd.length, nI (ch nd).length) (tg', bh', vs', ls', cs', nI md.length, nI (ch md).length) a (nI f) (nI 1) (nI (e + 1)) (nI j) (if false = true then 1 else 0) (nI i) = B_Mr_fits1_103 K (tg, bh, vs, ls, cs, nI nd.length, nI (ch nd).length) (tg', bh', vs', ls', cs', nI md.length, nI (ch md).length) a (nI f) (nI 1) (nI (e + 1)) (nI j) (nI i) := fun K => by
                    unfold B_Mr_fits1_81
                    rw [if_neg (by first | omega | (simp (disch := omega) only [z_lt, z_le, z_eq, z_cl, z_ad, z_mu, z_sb, z_n1, z_em, z_me, z_lm, z_ml, z_mle, z_lme, z_ma, z_am, z_m2, not_false_eq_true, z_l0, z_l1, z_l2, z_l3, z_l4, z_l5, z_l6, z_l7, z_l8, z_l10, z_l14, z_l15, z_l16, z_l32, z_l80, z_l101, z_l120, z_l126, z_l127, z_l130, z_l160, z_l198, z_l200, z_l202, z_l240, z_l252, z_l253, z_l254, z_l255, z_l260, z_l480, z_l900, Rd_nodes, Rd_ends, Rd_isOpen, Rd_counts, Rd_lastTags, Rd_syntax, Rd_position, Rd_level, Rd_result, Rd_set_nodes, Rd_set_ends, Rd_set_isOpen, Rd_set_counts, Rd_set_lastTags, Rd_set_syntax, Rd_set_position, Rd_set_level, Rd_set_result, Tr_tags, Tr_behind, Tr_values, Tr_lengths, Tr_characters, Tr_count, Tr_characterCount, Tr_set_tags, Tr_set_behind, Tr_set_values, Tr_set_lengths, Tr_set_characters, Tr_set_count, Tr_set_characterCount, Bs_n, Bs_values, Bs_count, Bs_set_n, Bs_set_values, Bs_set_count] <;> omega))]
                    unfold B_Mr_fits1_87
                    rw [c_behind l2 hB' hf, Option.bind_some]
                    rw [if_neg (by first | omega | (simp (disch := omega) only [z_lt, z_le, z_eq, z_cl, z_ad, z_mu, z_sb, z_n1, z_em, z_me, z_lm, z_ml, z_mle, z_lme, z_ma, z_am, z_m2, not_false_eq_true, z_l0, z_l1, z_l2, z_l3, z_l4, z_l5, z_l6, z_l7, z_l8, z_l10, z_l14, z_l15, z_l16, z_l32, z_l80, z_l101, z_l120, z_l126, z_l127, z_l130, z_l160, z_l198, z_l200, z_l202, z_l240, z_l252, z_l253, z_l254, z_l255, z_l260, z_l480, z_l900, Rd_nodes, Rd_ends, Rd_isOpen, Rd_counts, Rd_lastTags, Rd_syntax, Rd_position, Rd_level, Rd_result, Rd_set_nodes, Rd_set_ends, Rd_set_isOpen, Rd_set_counts, Rd_set_lastTags, Rd_set_syntax, Rd_set_position, Rd_set_level, Rd_set_result, Tr_tags, Tr_behind, Tr_values, Tr_lengths, Tr_characters, Tr_count, Tr_characterCount, Tr_set_tags, Tr_set_behind, Tr_set_values, Tr_set_lengths, Tr_set_characters, Tr_set_count, Tr_set_characterCount, Bs_n, Bs_values, Bs_count, Bs_set_n, Bs_set_values, Bs_set_count] <;> omega))]
                    unfold B_Mr_fits1_98
                    rw [if_neg (by decide : ¬ false = true), if_pos rfl]
                  rw [e81]
                  have e131 : ∀ (a : Nat → Int32) (b : Bool), ∃ a', B_Mr_fits1_131 (lp (fun k81 v => B_Mr_fits1_81 k81 (tg, bh, vs, ls, cs, nI nd.length, nI (ch nd).length) (tg', bh', vs', ls', cs', nI md.length, nI (ch md).length) v.1 v.2.1 v.2.2.1 v.2.2.2.1 v.2.2.2.2.1 v.2.2.2.2.2.1 v.2.2.2.2.2.2) fu') (tg, bh, vs, ls, cs, nI nd.length, nI (ch nd).length) (tg', bh', vs', ls', cs', nI md.length, nI (ch md).length) a (nI f) (nI 1) (nI (e + 1)) (nI j) (nI i) (if b = true then 1 else 0) = some ((if (b || (kdsF md (bhf md f) m (bhf md j)).any (fun i => (mt nd md 1) (e + 1) i)) = true then 1 else 0), a') := by
                    intro a b
                    unfold B_Mr_fits1_131
                    rw [c_behind l2 hB' hj, Option.bind_some, nI_1]
                    exact ih (bhf md j) (i + 1) fu' a b (by omega) (by omega) (by omega) (fun x hx => q4 x (List.mem_cons_of_mem _ hx)) (by omega)
                  unfold B_Mr_fits1_103
                  rw [if_neg (by decide)]
                  unfold B_Mr_fits1_109
                  obtain ⟨a1, e1⟩ := c_matches2 (q := e + 1) (r := j) (a := a) h1 h2 (by omega) hj (by
                    have hB9 := bhf_isB he
                    have p1 := hB9.2.2.1 (e + 1) (by omega) (by omega)
                    have p2 := (w1.2.2.1 e he).1.2.2.2.2 (by omega)
                    have p3 := (w1.2.2.1 e he).1.2.2.2.1
                    have p4 : ¬ nL nd e % 2 = 0 := fun e9 => by have := p3.mpr e9; omega
                    omega)
                  rw [show nI 1 + (1 : Int32) = nI 2 from rfl, e1, Option.bind_some]
                  cases hm : mt nd md 1 (e + 1) j with
                  | true =>
                    rw [if_pos (rfl : true = true), if_neg (by exact (by decide : ¬ (1 : Int32) = 0)), Bool.true_or]
                    unfold B_Mr_fits1_126
                    have := e131 a1 true
                    rw [Bool.true_or] at this
                    exact this
                  | false =>
                    rw [if_neg (by decide : ¬ false = true), if_pos (by exact rfl), Bool.false_or]
                    unfold B_Mr_fits1_130
                    have := e131 a1 false
                    rw [Bool.false_or] at this
                    exact this
                · rw [if_neg c]
                  have hi4 : i ≤ 4 := by omega
                  rw [fin _ a false j i q3 hi4 (.inl (by omega)), List.any_nil]
                  exact ⟨a, rfl⟩
          have := loop md.length (f + 1) 0 FU a false (by
            have : kdsF md (bhf md f) md.length (f + 1) = kds md f := rfl
            rw [this]
            omega) (by omega) (by omega) (fun x hx => (kds_mem w2 hf (show x ∈ kds md f from hx)).1) (by unfold FU; omega)
          rw [Bool.false_or] at this
          exact this
        · omega

theorem c_matches1 {q r : Nat} {a : Nat → Int32} (h1 : tR T1 nd) (h2 : tR T2 md) (hq : q < nd.length) (hr : r < md.length) (hev : nL nd q % 2 = 0) : ∃ a', F_Mr_matches1 a T1 T2 (nI q) (nI r) (nI 1) = some ((if mt nd md 2 q r = true then 1 else 0), a') := by
  have h1' := h1
  have h2' := h2
  obtain ⟨w1, tg, bh, vs, ls, cs, rfl, hT, hB, hC⟩ := h1
  obtain ⟨w2, tg', bh', vs', ls', cs', rfl, hT', hB', hC'⟩ := h2
  have l1 := w1.2.2.2.2.1
  have l2 := w2.2.2.2.2.1
  have hb := bhf_lt hq
  have h10 := kds_10 w1 hq
  unfold F_Mr_matches1 B_Mr_matches1_0 L_Mr_matches1_8
  rw [show nI q + (1 : Int32) = nI (q + 1) from nI_1 q]
  have loop : ∀ (m j i fu : Nat) (a : Nat → Int32), (kdsF nd (bhf nd q) m j).length + i ≤ 10 → bhf nd q ≤ j + m → j ≤ 200 → (∀ x ∈ kdsF nd (bhf nd q) m j, x < nd.length ∧ kd (nT nd x) ≤ 3) → m < fu → ∃ a', lp (fun k8 v => B_Mr_matches1_8 k8 (tg, bh, vs, ls, cs, nI nd.length, nI (ch nd).length) (tg', bh', vs', ls', cs', nI md.length, nI (ch md).length) v.1 v.2.1 v.2.2.1 v.2.2.2.1 v.2.2.2.2.1 v.2.2.2.2.2) fu (a, nI q, nI r, nI 1, nI j, nI i) = some ((if (kdsF nd (bhf nd q) m j).all (mtF nd md (mt nd md 1) r) = true then 1 else 0), a') := by
    have fin : ∀ (K : S_Mr × Int32 × Int32 × Int32 × Int32 × Int32 → Option (Int32 × S_Mr)) (a : Nat → Int32) (j i : Nat), j ≤ 200 → i ≤ 10 → bhf nd q ≤ j → B_Mr_matches1_8 K (tg, bh, vs, ls, cs, nI nd.length, nI (ch nd).length) (tg', bh', vs', ls', cs', nI md.length, nI (ch md).length) a (nI q) (nI r) (nI 1) (nI j) (nI i) = some (1, a) := by
      intro K a j i hj hi hor
      unfold B_Mr_matches1_8
      by_cases c : 10 ≤ i
      · rw [if_pos (by first | omega | (simp (disch := omega) only [z_lt, z_le, z_eq, z_cl, z_ad, z_mu, z_sb, z_n1, z_em, z_me, z_lm, z_ml, z_mle, z_lme, z_ma, z_am, z_m2, not_false_eq_true, z_l0, z_l1, z_l2, z_l3, z_l4, z_l5, z_l6, z_l7, z_l8, z_l10, z_l14, z_l15, z_l16, z_l32, z_l80, z_l101, z_l120, z_l126, z_l127, z_l130, z_l160, z_l198, z_l200, z_l202, z_l240, z_l252, z_l253, z_l254, z_l255, z_l260, z_l480, z_l900, Rd_nodes, Rd_ends, Rd_isOpen, Rd_counts, Rd_lastTags, Rd_syntax, Rd_position, Rd_level, Rd_result, Rd_set_nodes, Rd_set_ends, Rd_set_isOpen, Rd_set_counts, Rd_set_lastTags, Rd_set_syntax, Rd_set_position, Rd_set_level, Rd_set_result, Tr_tags, Tr_behind, Tr_values, Tr_lengths, Tr_characters, Tr_count, Tr_characterCount, Tr_set_tags, Tr_set_behind, Tr_set_values, Tr_set_lengths, Tr_set_characters, Tr_set_count, Tr_set_characterCount, Bs_n, Bs_values, Bs_count, Bs_set_n, Bs_set_values, Bs_set_count] <;> omega))]
        rfl
      · rw [if_neg (by first | omega | (simp (disch := omega) only [z_lt, z_le, z_eq, z_cl, z_ad, z_mu, z_sb, z_n1, z_em, z_me, z_lm, z_ml, z_mle, z_lme, z_ma, z_am, z_m2, not_false_eq_true, z_l0, z_l1, z_l2, z_l3, z_l4, z_l5, z_l6, z_l7, z_l8, z_l10, z_l14, z_l15, z_l16, z_l32, z_l80, z_l101, z_l120, z_l126, z_l127, z_l130, z_l160, z_l198, z_l200, z_l202, z_l240, z_l252, z_l253, z_l254, z_l255, z_l260, z_l480, z_l900, Rd_nodes, Rd_ends, Rd_isOpen, Rd_counts, Rd_lastTags, Rd_syntax, Rd_position, Rd_level, Rd_result, Rd_set_nodes, Rd_set_ends, Rd_set_isOpen, Rd_set_counts, Rd_set_lastTags, Rd_set_syntax, Rd_set_position, Rd_set_level, Rd_set_result, Tr_tags, Tr_behind, Tr_values, Tr_lengths, Tr_characters, Tr_count, Tr_characterCount, Tr_set_tags, Tr_set_behind, Tr_set_values, Tr_set_lengths, Tr_set_characters, Tr_set_count, Tr_set_characterCount, Bs_n, Bs_values, Bs_count, Bs_set_n, Bs_set_values, Bs_set_count] <;> omega))]
        unfold B_Mr_matches1_15
        rw [c_behind l1 hB hq, Option.bind_some]
        rw [if_pos (by first | omega | (simp (disch := omega) only [z_lt, z_le, z_eq, z_cl, z_ad, z_mu, z_sb, z_n1, z_em, z_me, z_lm, z_ml, z_mle, z_lme, z_ma, z_am, z_m2, not_false_eq_true, z_l0, z_l1, z_l2, z_l3, z_l4, z_l5, z_l6, z_l7, z_l8, z_l10, z_l14, z_l15, z_l16, z_l32, z_l80, z_l101, z_l120, z_l126, z_l127, z_l130, z_l160, z_l198, z_l200, z_l202, z_l240, z_l252, z_l253, z_l254, z_l255, z_l260, z_l480, z_l900, Rd_nodes, Rd_ends, Rd_isOpen, Rd_counts, Rd_lastTags, Rd_syntax, Rd_position, Rd_level, Rd_result, Rd_set_nodes, Rd_set_ends, Rd_set_isOpen, Rd_set_counts, Rd_set_lastTags, Rd_set_syntax, Rd_set_position, Rd_set_level, Rd_set_result, Tr_tags, Tr_behind, Tr_values, Tr_lengths, Tr_characters, Tr_count, Tr_characterCount, Tr_set_tags, Tr_set_behind, Tr_set_values, Tr_set_lengths, Tr_set_characters, Tr_set_count, Tr_set_characterCount, Bs_n, Bs_values, Bs_count, Bs_set_n, Bs_set_values, Bs_set_count] <;> omega))]
        rfl
    intro m
    induction m with
    | zero =>
      intro j i fu a q1 q2 q3 q4 q5
      obtain ⟨fu', rfl⟩ : ∃ fu', fu = fu' + 1 := ⟨fu - 1, by omega⟩
      refine ⟨a, ?_⟩
      rw [lp_s]
      exact fin _ a j i q3 (by omega) (by omega)
    | succ m ih =>
      intro j i fu a q1 q2 q3 q4 q5
      obtain ⟨fu', rfl⟩ : ∃ fu', fu = fu' + 1 := ⟨fu - 1, by omega⟩
      rw [lp_s]
      show ∃ a', B_Mr_matches1_8 _ (tg, bh, vs, ls, cs, nI nd.length, nI (ch nd).length) (tg', bh', vs', ls', cs', nI md.length, nI (ch md).length) a (nI q) (nI r) (nI 1) (nI j) (nI i) = _
      unfold kdsF at q1 q4 ⊢
      by_cases c : j < bhf nd q
      · rw [if_pos c] at q1 q4 ⊢
        simp only [List.length_cons] at q1
        obtain ⟨hj, hj3⟩ := q4 j List.mem_cons_self
        have hbj := bhf_lt hj
        have hg8 := nT_lt w1.1 j
        rw [List.all_cons]
        have e8 : ∀ K, B_Mr_matches1_8 K (tg, bh, vs, ls, cs, nI nd.length, nI (ch nd).length) (tg', bh', vs', ls', cs', nI md.length, nI (ch md).length) a (nI q) (nI r) (nI 1) (nI j) (nI i) = B_Mr_matches1_25 K (tg, bh, vs, ls, cs, nI nd.length, nI (ch nd).length) (tg', bh', vs', ls', cs', nI md.length, nI (ch md).length) a (nI q) (nI r) (nI 1) (nI j) (nI i) := fun K => by
          unfold B_Mr_matches1_8
          rw [if_neg (by first | omega | (simp (disch := omega) only [z_lt, z_le, z_eq, z_cl, z_ad, z_mu, z_sb, z_n1, z_em, z_me, z_lm, z_ml, z_mle, z_lme, z_ma, z_am, z_m2, not_false_eq_true, z_l0, z_l1, z_l2, z_l3, z_l4, z_l5, z_l6, z_l7, z_l8, z_l10, z_l14, z_l15, z_l16, z_l32, z_l80, z_l101, z_l120, z_l126, z_l127, z_l130, z_l160, z_l198, z_l200, z_l202, z_l240, z_l252, z_l253, z_l254, z_l255, z_l260, z_l480, z_l900, Rd_nodes, Rd_ends, Rd_isOpen, Rd_counts, Rd_lastTags, Rd_syntax, Rd_position, Rd_level, Rd_result, Rd_set_nodes, Rd_set_ends, Rd_set_isOpen, Rd_set_counts, Rd_set_lastTags, Rd_set_syntax, Rd_set_position, Rd_set_level, Rd_set_result, Tr_tags, Tr_behind, Tr_values, Tr_lengths, Tr_characters, Tr_count, Tr_characterCount, Tr_set_tags, Tr_set_behind, Tr_set_values, Tr_set_lengths, Tr_set_characters, Tr_set_count, Tr_set_characterCount, Bs_n, Bs_values, Bs_count, Bs_set_n, Bs_set_values, Bs_set_count] <;> omega))]
          unfold B_Mr_matches1_15
          rw [c_behind l1 hB hq, Option.bind_some]
          rw [if_neg (by first | omega | (simp (disch := omega) only [z_lt, z_le, z_eq, z_cl, z_ad, z_mu, z_sb, z_n1, z_em, z_me, z_lm, z_ml, z_mle, z_lme, z_ma, z_am, z_m2, not_false_eq_true, z_l0, z_l1, z_l2, z_l3, z_l4, z_l5, z_l6, z_l7, z_l8, z_l10, z_l14, z_l15, z_l16, z_l32, z_l80, z_l101, z_l120, z_l126, z_l127, z_l130, z_l160, z_l198, z_l200, z_l202, z_l240, z_l252, z_l253, z_l254, z_l255, z_l260, z_l480, z_l900, Rd_nodes, Rd_ends, Rd_isOpen, Rd_counts, Rd_lastTags, Rd_syntax, Rd_position, Rd_level, Rd_result, Rd_set_nodes, Rd_set_ends, Rd_set_isOpen, Rd_set_counts, Rd_set_lastTags, Rd_set_syntax, Rd_set_position, Rd_set_level, Rd_set_result, Tr_tags, Tr_behind, Tr_values, Tr_lengths, Tr_characters, Tr_count, Tr_characterCount, Tr_set_tags, Tr_set_behind, Tr_set_values, Tr_set_lengths, Tr_set_characters, Tr_set_count, Tr_set_characterCount, Bs_n, Bs_values, Bs_count, Bs_set_n, Bs_set_values, Bs_set_count] <;> omega))]
        rw [e8]
        unfold B_Mr_matches1_25
        rw [c_tag l1 hT hj, Option.bind_some, c_find w2.1 l2 hT' hB' hg8 hr (kds_10 w2 hr), Option.bind_some]
        cases hf : fnd md (kds md r) (nT nd j) with
        | none =>
          have hF : mtF nd md (mt nd md 1) r j = false := by unfold mtF; rw [hf]
          rw [show oI none = (-1 : Int32) from rfl, if_pos rfl, hF, Bool.false_and]
          exact ⟨a, rfl⟩
        | some x =>
          obtain ⟨hx1, hx2⟩ := fnd_mem hf
          have hF : mtF nd md (mt nd md 1) r j = mtE nd md (mt nd md 1) j x := by unfold mtF; rw [hf]
          rw [hF]
          have hx3 := (kds_mem w2 hr hx1).1
          rw [show oI (some x) = nI x from rfl, if_neg (by
            show ¬ nI x = mI
            rw [z_em (by omega)]
            exact fun e => e)]
          unfold B_Mr_matches1_45
          obtain ⟨a1, e1⟩ := c_fits1 (e := j) (f := x) (a := a) h1' h2' hj hx3 hx2.symm hj3
          rw [e1, Option.bind_some]
          cases hE : mtE nd md (mt nd md 1) j x with
          | true =>
            rw [if_pos (rfl : true = true), if_neg (by exact (by decide : ¬ (1 : Int32) = 0)), Bool.true_and]
            unfold B_Mr_matches1_62
            rw [c_behind l1 hB hj, Option.bind_some, nI_1]
            exact ih (bhf nd j) (i + 1) fu' a1 (by omega) (by omega) (by omega) (fun x hx => q4 x (List.mem_cons_of_mem _ hx)) (by omega)
          | false =>
            rw [if_neg (by decide : ¬ false = true), if_pos (by exact rfl), Bool.false_and]
            exact ⟨a1, rfl⟩
      · rw [if_neg c]
        have hi10 : i ≤ 10 := by omega
        rw [fin _ a j i q3 hi10 (by omega)]
        exact ⟨a, rfl⟩
  exact loop nd.length (q + 1) 0 FU a (by
    have : kdsF nd (bhf nd q) nd.length (q + 1) = kds nd q := rfl
    rw [this]
    omega) (by omega) (by omega) (fun x hx => by
    have hm := kds_mem w1 hq (show x ∈ kds nd q from hx)
    refine ⟨hm.1, ?_⟩
    have p3 := (w1.2.2.1 x hm.1).1.2.2.2.1
    have hk4 := kd_le (nT nd x)
    have : kd (nT nd x) ≠ 4 := fun e9 => by have := p3.mp e9; omega
    omega) (by unfold FU; omega)

theorem c_fits0 {e f : Nat} {a : Nat → Int32} (h1 : tR T1 nd) (h2 : tR T2 md) (he : e < nd.length) (hf : f < md.length) (hg : nT nd e = nT md f) (h3 : kd (nT nd e) ≤ 3) : ∃ a', F_Mr_fits0 a T1 T2 (nI e) (nI f) (nI 0) = some ((if mtE nd md (mt nd md 2) e f = true then 1 else 0), a') := by
  obtain ⟨w1, tg, bh, vs, ls, cs, rfl, hT, hB, hC⟩ := h1
  obtain ⟨w2, tg', bh', vs', ls', cs', rfl, hT', hB', hC'⟩ := h2
  have h1 : tR (tg, bh, vs, ls, cs, nI nd.length, nI (ch nd).length) nd := ⟨w1, tg, bh, vs, ls, cs, rfl, hT, hB, hC⟩
  have h2 : tR (tg', bh', vs', ls', cs', nI md.length, nI (ch md).length) md := ⟨w2, tg', bh', vs', ls', cs', rfl, hT', hB', hC'⟩
  have l1 := w1.2.2.2.2.1
  have l2 := w2.2.2.2.2.1
  have hk4 := kd_le (nT nd e)
  have hg8 := nT_lt w1.1 e
  unfold F_Mr_fits0 B_Mr_fits0_0 mtE
  rw [c_tag l1 hT he, Option.bind_some, c_kindOf _ hg8, Option.bind_some]
  by_cases k1 : kd (nT nd e) = 1
  · rw [if_pos (c := kd (nT nd e) = 1) k1]
    rw [if_pos (by first | omega | (simp (disch := omega) only [z_lt, z_le, z_eq, z_cl, z_ad, z_mu, z_sb, z_n1, z_em, z_me, z_lm, z_ml, z_mle, z_lme, z_ma, z_am, z_m2, not_false_eq_true, z_l0, z_l1, z_l2, z_l3, z_l4, z_l5, z_l6, z_l7, z_l8, z_l10, z_l14, z_l15, z_l16, z_l32, z_l80, z_l101, z_l120, z_l126, z_l127, z_l130, z_l160, z_l198, z_l200, z_l202, z_l240, z_l252, z_l253, z_l254, z_l255, z_l260, z_l480, z_l900, Rd_nodes, Rd_ends, Rd_isOpen, Rd_counts, Rd_lastTags, Rd_syntax, Rd_position, Rd_level, Rd_result, Rd_set_nodes, Rd_set_ends, Rd_set_isOpen, Rd_set_counts, Rd_set_lastTags, Rd_set_syntax, Rd_set_position, Rd_set_level, Rd_set_result, Tr_tags, Tr_behind, Tr_values, Tr_lengths, Tr_characters, Tr_count, Tr_characterCount, Tr_set_tags, Tr_set_behind, Tr_set_values, Tr_set_lengths, Tr_set_characters, Tr_set_count, Tr_set_characterCount, Bs_n, Bs_values, Bs_count, Bs_set_n, Bs_set_values, Bs_set_count, k1] <;> omega))]
    unfold B_Mr_fits0_16
    rw [c_number l1 hT he, Option.bind_some, c_number l2 hT' hf, Option.bind_some]
    rw [show xv nd e = nV nd e by unfold xv; rw [if_pos k1], show xv md f = nV md f by unfold xv; rw [if_pos (by rw [← hg]; exact k1)]]
    by_cases c : nV nd e = nV md f
    · rw [if_pos c, decide_eq_true c]
      exact ⟨a, rfl⟩
    · rw [if_neg c, decide_eq_false c]
      exact ⟨a, rfl⟩
  · rw [if_neg (c := kd (nT nd e) = 1) k1]
    rw [if_neg (by first | omega | (simp (disch := omega) only [z_lt, z_le, z_eq, z_cl, z_ad, z_mu, z_sb, z_n1, z_em, z_me, z_lm, z_ml, z_mle, z_lme, z_ma, z_am, z_m2, not_false_eq_true, z_l0, z_l1, z_l2, z_l3, z_l4, z_l5, z_l6, z_l7, z_l8, z_l10, z_l14, z_l15, z_l16, z_l32, z_l80, z_l101, z_l120, z_l126, z_l127, z_l130, z_l160, z_l198, z_l200, z_l202, z_l240, z_l252, z_l253, z_l254, z_l255, z_l260, z_l480, z_l900, Rd_nodes, Rd_ends, Rd_isOpen, Rd_counts, Rd_lastTags, Rd_syntax, Rd_position, Rd_level, Rd_result, Rd_set_nodes, Rd_set_ends, Rd_set_isOpen, Rd_set_counts, Rd_set_lastTags, Rd_set_syntax, Rd_set_position, Rd_set_level, Rd_set_result, Tr_tags, Tr_behind, Tr_values, Tr_lengths, Tr_characters, Tr_count, Tr_characterCount, Tr_set_tags, Tr_set_behind, Tr_set_values, Tr_set_lengths, Tr_set_characters, Tr_set_count, Tr_set_characterCount, Bs_n, Bs_values, Bs_count, Bs_set_n, Bs_set_values, Bs_set_count, k1] <;> omega))]
    unfold B_Mr_fits0_36
    by_cases k2 : kd (nT nd e) = 2
    · rw [if_pos (c := kd (nT nd e) = 2) k2]
      rw [if_pos (by first | omega | (simp (disch := omega) only [z_lt, z_le, z_eq, z_cl, z_ad, z_mu, z_sb, z_n1, z_em, z_me, z_lm, z_ml, z_mle, z_lme, z_ma, z_am, z_m2, not_false_eq_true, z_l0, z_l1, z_l2, z_l3, z_l4, z_l5, z_l6, z_l7, z_l8, z_l10, z_l14, z_l15, z_l16, z_l32, z_l80, z_l101, z_l120, z_l126, z_l127, z_l130, z_l160, z_l198, z_l200, z_l202, z_l240, z_l252, z_l253, z_l254, z_l255, z_l260, z_l480, z_l900, Rd_nodes, Rd_ends, Rd_isOpen, Rd_counts, Rd_lastTags, Rd_syntax, Rd_position, Rd_level, Rd_result, Rd_set_nodes, Rd_set_ends, Rd_set_isOpen, Rd_set_counts, Rd_set_lastTags, Rd_set_syntax, Rd_set_position, Rd_set_level, Rd_set_result, Tr_tags, Tr_behind, Tr_values, Tr_lengths, Tr_characters, Tr_count, Tr_characterCount, Tr_set_tags, Tr_set_behind, Tr_set_values, Tr_set_lengths, Tr_set_characters, Tr_set_count, Tr_set_characterCount, Bs_n, Bs_values, Bs_count, Bs_set_n, Bs_set_values, Bs_set_count, k2] <;> omega))]
      unfold B_Mr_fits0_42
      obtain ⟨a', e1⟩ := c_textFits (a := a) (bh := bh) (bh' := bh') w1.1 w2.1 l1 l2 w1.2.2.2.2.2.1 w2.2.2.2.2.2.1 hT hC hT' hC' he hf k2 (by rw [← hg]; exact k2)
      rw [e1, Option.bind_some, if_pos (by
        dsimp only
        split
        · exact .inr rfl
        · exact .inl rfl)]
      exact ⟨a', rfl⟩
    · rw [if_neg (c := kd (nT nd e) = 2) k2]
      rw [if_neg (by first | omega | (simp (disch := omega) only [z_lt, z_le, z_eq, z_cl, z_ad, z_mu, z_sb, z_n1, z_em, z_me, z_lm, z_ml, z_mle, z_lme, z_ma, z_am, z_m2, not_false_eq_true, z_l0, z_l1, z_l2, z_l3, z_l4, z_l5, z_l6, z_l7, z_l8, z_l10, z_l14, z_l15, z_l16, z_l32, z_l80, z_l101, z_l120, z_l126, z_l127, z_l130, z_l160, z_l198, z_l200, z_l202, z_l240, z_l252, z_l253, z_l254, z_l255, z_l260, z_l480, z_l900, Rd_nodes, Rd_ends, Rd_isOpen, Rd_counts, Rd_lastTags, Rd_syntax, Rd_position, Rd_level, Rd_result, Rd_set_nodes, Rd_set_ends, Rd_set_isOpen, Rd_set_counts, Rd_set_lastTags, Rd_set_syntax, Rd_set_position, Rd_set_level, Rd_set_result, Tr_tags, Tr_behind, Tr_values, Tr_lengths, Tr_characters, Tr_count, Tr_characterCount, Tr_set_tags, Tr_set_behind, Tr_set_values, Tr_set_lengths, Tr_set_characters, Tr_set_count, Tr_set_characterCount, Bs_n, Bs_values, Bs_count, Bs_set_n, Bs_set_values, Bs_set_count, k2] <;> omega))]
      have hb := bhf_lt he
      have hbf := bhf_lt hf
      unfold B_Mr_fits0_52
      rw [c_behind l1 hB he, Option.bind_some, show nI e + (1 : Int32) = nI (e + 1) from nI_1 e]
      by_cases c0 : kds nd e = []
      · have := (kds_nil he).mp c0
        rw [c0, decide_eq_true rfl, Bool.true_or, if_pos (by rw [this])]
        exact ⟨a, rfl⟩
      · have hne : ¬ bhf nd e = e + 1 := fun h => c0 ((kds_nil he).mpr h)
        rw [decide_eq_false c0, Bool.false_or, if_neg (by rw [z_eq (by omega) (by omega)]; omega)]
        unfold B_Mr_fits0_69 L_Mr_fits0_81
        by_cases c3 : kd (nT nd e) = 3
        · have h4 := kds_4 w2 hf (by rw [← hg]; exact c3)
          rw [show nI f + (1 : Int32) = nI (f + 1) from nI_1 f]
          have loop : ∀ (m j i fu : Nat) (a : Nat → Int32) (b : Bool), (kdsF md (bhf md f) m j).length + i ≤ 4 → bhf md f ≤ j + m → j ≤ 200 → (∀ x ∈ kdsF md (bhf md f) m j, x < md.length) → m < fu → ∃ a', lp (fun k81 v => B_Mr_fits0_81 k81 (tg, bh, vs, ls, cs, nI nd.length, nI (ch nd).length) (tg', bh', vs', ls', cs', nI md.length, nI (ch md).length) v.1 v.2.1 v.2.2.1 v.2.2.2.1 v.2.2.2.2.1 v.2.2.2.2.2.1 v.2.2.2.2.2.2) fu (a, nI f, nI 0, nI (e + 1), nI j, (if b = true then 1 else 0), nI i) = some ((if (b || (kdsF md (bhf md f) m j).any (fun i => (mt nd md 2) (e + 1) i)) = true then 1 else 0), a') := by
            have fin : ∀ (K : S_Mr × Int32 × Int32 × Int32 × Int32 × Int32 × Int32 → Option (Int32 × S_Mr)) (a : Nat → Int32) (b : Bool) (j i : Nat), j ≤ 200 → i ≤ 4 → (bhf md f ≤ j ∨ b = true) → B_Mr_fits0_81 K (tg, bh, vs, ls, cs, nI nd.length, nI (ch nd).length) (tg', bh', vs', ls', cs', nI md.length, nI (ch md).length) a (nI f) (nI 0) (nI (e + 1)) (nI j) (if b = true then 1 else 0) (nI i) = some ((if b = true then 1 else 0), a) := by
              intro K a b j i hj hi hor
              have e147 : B_Mr_fits0_147 (tg, bh, vs, ls, cs, nI nd.length, nI (ch nd).length) (tg', bh', vs', ls', cs', nI md.length, nI (ch md).length) a (if b = true then 1 else 0) = some ((if b = true then 1 else 0), a) := by
                unfold B_Mr_fits0_147
                rw [if_pos (by
                  split
                  · exact .inr rfl
                  · exact .inl rfl)]
              unfold B_Mr_fits0_81
              by_cases c : 4 ≤ i
              · rw [if_pos (by first | omega | (simp (disch := omega) only [z_lt, z_le, z_eq, z_cl, z_ad, z_mu, z_sb, z_n1, z_em, z_me, z_lm, z_ml, z_mle, z_lme, z_ma, z_am, z_m2, not_false_eq_true, z_l0, z_l1, z_l2, z_l3, z_l4, z_l5, z_l6, z_l7, z_l8, z_l10, z_l14, z_l15, z_l16, z_l32, z_l80, z_l101, z_l120, z_l126, z_l127, z_l130, z_l160, z_l198, z_l200, z_l202, z_l240, z_l252, z_l253, z_l254, z_l255, z_l260, z_l480, z_l900, Rd_nodes, Rd_ends, Rd_isOpen, Rd_counts, Rd_lastTags, Rd_syntax, Rd_position, Rd_level, Rd_result, Rd_set_nodes, Rd_set_ends, Rd_set_isOpen, Rd_set_counts, Rd_set_lastTags, Rd_set_syntax, Rd_set_position, Rd_set_level, Rd_set_result, Tr_tags, Tr_behind, Tr_values, Tr_lengths, Tr_characters, Tr_count, Tr_characterCount, Tr_set_tags, Tr_set_behind, Tr_set_values, Tr_set_lengths, Tr_set_characters, Tr_set_count, Tr_set_characterCount, Bs_n, Bs_values, Bs_count, Bs_set_n, Bs_set_values, Bs_set_count] <;> omega))]
                exact e147
              · rw [if_neg (by first | omega | (simp (disch := omega) only [z_lt, z_le, z_eq, z_cl, z_ad, z_mu, z_sb, z_n1, z_em, z_me, z_lm, z_ml, z_mle, z_lme, z_ma, z_am, z_m2, not_false_eq_true, z_l0, z_l1, z_l2, z_l3, z_l4, z_l5, z_l6, z_l7, z_l8, z_l10, z_l14, z_l15, z_l16, z_l32, z_l80, z_l101, z_l120, z_l126, z_l127, z_l130, z_l160, z_l198, z_l200, z_l202, z_l240, z_l252, z_l253, z_l254, z_l255, z_l260, z_l480, z_l900, Rd_nodes, Rd_ends, Rd_isOpen, Rd_counts, Rd_lastTags, Rd_syntax, Rd_position, Rd_level, Rd_result, Rd_set_nodes, Rd_set_ends, Rd_set_isOpen, Rd_set_counts, Rd_set_lastTags, Rd_set_syntax, Rd_set_position, Rd_set_level, Rd_set_result, Tr_tags, Tr_behind, Tr_values, Tr_lengths, Tr_characters, Tr_count, Tr_characterCount, Tr_set_tags, Tr_set_behind, Tr_set_values, Tr_set_lengths, Tr_set_characters, Tr_set_count, Tr_set_characterCount, Bs_n, Bs_values, Bs_count, Bs_set_n, Bs_set_values, Bs_set_count] <;> omega))]
                unfold B_Mr_fits0_87
                rw [c_behind l2 hB' hf, Option.bind_some]
                by_cases c2 : bhf md f ≤ j
                · rw [if_pos (by first | omega | (simp (disch := omega) only [z_lt, z_le, z_eq, z_cl, z_ad, z_mu, z_sb, z_n1, z_em, z_me, z_lm, z_ml, z_mle, z_lme, z_ma, z_am, z_m2, not_false_eq_true, z_l0, z_l1, z_l2, z_l3, z_l4, z_l5, z_l6, z_l7, z_l8, z_l10, z_l14, z_l15, z_l16, z_l32, z_l80, z_l101, z_l120, z_l126, z_l127, z_l130, z_l160, z_l198, z_l200, z_l202, z_l240, z_l252, z_l253, z_l254, z_l255, z_l260, z_l480, z_l900, Rd_nodes, Rd_ends, Rd_isOpen, Rd_counts, Rd_lastTags, Rd_syntax, Rd_position, Rd_level, Rd_result, Rd_set_nodes, Rd_set_ends, Rd_set_isOpen, Rd_set_counts, Rd_set_lastTags, Rd_set_syntax, Rd_set_position, Rd_set_level, Rd_set_result, Tr_tags, Tr_behind, Tr_values, Tr_lengths, Tr_characters, Tr_count, Tr_characterCount, Tr_set_tags, Tr_set_behind, Tr_set_values, Tr_set_lengths, Tr_set_characters, Tr_set_count, Tr_set_characterCount, Bs_n, Bs_values, Bs_count, Bs_set_n, Bs_set_values, Bs_set_count] <;> omega))]
                  exact e147
                · rw [if_neg (by first | omega | (simp (disch := omega) only [z_lt, z_le, z_eq, z_cl, z_ad, z_mu, z_sb, z_n1, z_em, z_me, z_lm, z_ml, z_mle, z_lme, z_ma, z_am, z_m2, not_false_eq_true, z_l0, z_l1, z_l2, z_l3, z_l4, z_l5, z_l6, z_l7, z_l8, z_l10, z_l14, z_l15, z_l16, z_l32, z_l80, z_l101, z_l120, z_l126, z_l127, z_l130, z_l160, z_l198, z_l200, z_l202, z_l240, z_l252, z_l253, z_l254, z_l255, z_l260, z_l480, z_l900, Rd_nodes, Rd_ends, Rd_isOpen, Rd_counts, Rd_lastTags, Rd_syntax, Rd_position, Rd_level, Rd_result, Rd_set_nodes, Rd_set_ends, Rd_set_isOpen, Rd_set_counts, Rd_set_lastTags, Rd_set_syntax, Rd_set_position, Rd_set_level, Rd_set_result, Tr_tags, Tr_behind, Tr_values, Tr_lengths, Tr_characters, Tr_count, Tr_characterCount, Tr_set_tags, Tr_set_behind, Tr_set_values, Tr_set_lengths, Tr_set_characters, Tr_set_count, Tr_set_characterCount, Bs_n, Bs_values, Bs_count, Bs_set_n, Bs_set_values, Bs_set_count] <;> omega))]
                  have hb1 : b = true := by
                    rcases hor with h | h
                    · omega
                    · exact h
                  unfold B_Mr_fits0_98
                  rw [hb1] at e147 ⊢
                  rw [if_pos (rfl : true = true)] at e147 ⊢
                  rw [if_neg (by decide)]
                  exact e147
            intro m
            induction m with
            | zero =>
              intro j i fu a b q1 q2 q3 q4 q5
              obtain ⟨fu', rfl⟩ : ∃ fu', fu = fu' + 1 := ⟨fu - 1, by omega⟩
              refine ⟨a, ?_⟩
              rw [lp_s]
              show B_Mr_fits0_81 _ (tg, bh, vs, ls, cs, nI nd.length, nI (ch nd).length) (tg', bh', vs', ls', cs', nI md.length, nI (ch md).length) a (nI f) (nI 0) (nI (e + 1)) (nI j) (if b = true then 1 else 0) (nI i) = _
              rw [fin _ a b j i q3 (by omega) (.inl (by omega))]
              rw [show kdsF md (bhf md f) 0 j = [] from rfl, List.any_nil, Bool.or_false]
            | succ m ih =>
              intro j i fu a b q1 q2 q3 q4 q5
              obtain ⟨fu', rfl⟩ : ∃ fu', fu = fu' + 1 := ⟨fu - 1, by omega⟩
              rw [lp_s]
              show ∃ a', B_Mr_fits0_81 _ (tg, bh, vs, ls, cs, nI nd.length, nI (ch nd).length) (tg', bh', vs', ls', cs', nI md.length, nI (ch md).length) a (nI f) (nI 0) (nI (e + 1)) (nI j) (if b = true then 1 else 0) (nI i) = _
              cases b with
              | true =>
                have hi4 : i ≤ 4 := by omega
                rw [fin _ a true j i q3 hi4 (.inr rfl), Bool.true_or]
                exact ⟨a, rfl⟩
              | false =>
                unfold kdsF at q1 q4 ⊢
                by_cases c : j < bhf md f
                · rw [if_pos c] at q1 q4 ⊢
                  simp only [List.length_cons] at q1
                  have hj : j < md.length := q4 j List.mem_cons_self
                  have hbj := bhf_lt hj
                  rw [List.any_cons, Bool.false_or]
                  have e81 : ∀ K, B_Mr_fits0_81 K (tg, bh, vs, ls, cs, nI nd.length, nI (ch nd).length) (tg', bh', vs', ls', cs', nI md.length, nI (ch md).length) a (nI f) (nI 0) (nI (e + 1)) (nI j) (if false = true then 1 else 0) (nI i) = B_Mr_fits0_103 K (tg, bh, vs, ls, cs, nI nd.length, nI (ch nd).length) (tg', bh', vs', ls', cs', nI md.length, nI (ch md).length) a (nI f) (nI 0) (nI (e + 1)) (nI j) (nI i) := fun K => by
                    unfold B_Mr_fits0_81
                    rw [if_neg (by first | omega | (simp (disch := omega) only [z_lt, z_le, z_eq, z_cl, z_ad, z_mu, z_sb, z_n1, z_em, z_me, z_lm, z_ml, z_mle, z_lme, z_ma, z_am, z_m2, not_false_eq_true, z_l0, z_l1, z_l2, z_l3, z_l4, z_l5, z_l6, z_l7, z_l8, z_l10, z_l14, z_l15, z_l16, z_l32, z_l80, z_l101, z_l120, z_l126, z_l127, z_l130, z_l160, z_l198, z_l200, z_l202, z_l240, z_l252, z_l253, z_l254, z_l255, z_l260, z_l480, z_l900, Rd_nodes, Rd_ends, Rd_isOpen, Rd_counts, Rd_lastTags, Rd_syntax, Rd_position, Rd_level, Rd_result, Rd_set_nodes, Rd_set_ends, Rd_set_isOpen, Rd_set_counts, Rd_set_lastTags, Rd_set_syntax, Rd_set_position, Rd_set_level, Rd_set_result, Tr_tags, Tr_behind, Tr_values, Tr_lengths, Tr_characters, Tr_count, Tr_characterCount, Tr_set_tags, Tr_set_behind, Tr_set_values, Tr_set_lengths, Tr_set_characters, Tr_set_count, Tr_set_characterCount, Bs_n, Bs_values, Bs_count, Bs_set_n, Bs_set_values, Bs_set_count] <;> omega))]
                    unfold B_Mr_fits0_87
                    rw [c_behind l2 hB' hf, Option.bind_some]
                    rw [if_neg (by first | omega | (simp (disch := omega) only [z_lt, z_le, z_eq, z_cl, z_ad, z_mu, z_sb, z_n1, z_em, z_me, z_lm, z_ml, z_mle, z_lme, z_ma, z_am, z_m2, not_false_eq_true, z_l0, z_l1, z_l2, z_l3, z_l4, z_l5, z_l6, z_l7, z_l8, z_l10, z_l14, z_l15, z_l16, z_l32, z_l80, z_l101, z_l120, z_l126, z_l127, z_l130, z_l160, z_l198, z_l200, z_l202, z_l240, z_l252, z_l253, z_l254, z_l255, z_l260, z_l480, z_l900, Rd_nodes, Rd_ends, Rd_isOpen, Rd_counts, Rd_lastTags, Rd_syntax, Rd_position, Rd_level, Rd_result, Rd_set_nodes, Rd_set_ends, Rd_set_isOpen, Rd_set_counts, Rd_set_lastTags, Rd_set_syntax, Rd_set_position, Rd_set_level, Rd_set_result, Tr_tags, Tr_behind, Tr_values, Tr_lengths, Tr_characters, Tr_count, Tr_characterCount, Tr_set_tags, Tr_set_behind, Tr_set_values, Tr_set_lengths, Tr_set_characters, Tr_set_count, Tr_set_characterCount, Bs_n, Bs_values, Bs_count, Bs_set_n, Bs_set_values, Bs_set_count] <;> omega))]
                    unfold B_Mr_fits0_98
                    rw [if_neg (by decide : ¬ false = true), if_pos rfl]
                  rw [e81]
                  have e131 : ∀ (a : Nat → Int32) (b : Bool), ∃ a', B_Mr_fits0_131 (lp (fun k81 v => B_Mr_fits0_81 k81 (tg, bh, vs, ls, cs, nI nd.length, nI (ch nd).length) (tg', bh', vs', ls', cs', nI md.length, nI (ch md).length) v.1 v.2.1 v.2.2.1 v.2.2.2.1 v.2.2.2.2.1 v.2.2.2.2.2.1 v.2.2.2.2.2.2) fu') (tg, bh, vs, ls, cs, nI nd.length, nI (ch nd).length) (tg', bh', vs', ls', cs', nI md.length, nI (ch md).length) a (nI f) (nI 0) (nI (e + 1)) (nI j) (nI i) (if b = true then 1 else 0) = some ((if (b || (kdsF md (bhf md f) m (bhf md j)).any (fun i => (mt nd md 2) (e + 1) i)) = true then 1 else 0), a') := by
                    intro a b
                    unfold B_Mr_fits0_131
                    rw [c_behind l2 hB' hj, Option.bind_some, nI_1]
                    exact ih (bhf md j) (i + 1) fu' a b (by omega) (by omega) (by omega) (fun x hx => q4 x (List.mem_cons_of_mem _ hx)) (by omega)
                  unfold B_Mr_fits0_103
                  rw [if_neg (by decide)]
                  unfold B_Mr_fits0_109
                  obtain ⟨a1, e1⟩ := c_matches1 (q := e + 1) (r := j) (a := a) h1 h2 (by omega) hj (by
                    have hB9 := bhf_isB he
                    have p1 := hB9.2.2.1 (e + 1) (by omega) (by omega)
                    have p2 := (w1.2.2.1 e he).1.2.2.2.2 (by omega)
                    have p3 := (w1.2.2.1 e he).1.2.2.2.1
                    have p4 : ¬ nL nd e % 2 = 0 := fun e9 => by have := p3.mpr e9; omega
                    omega)
                  rw [show nI 0 + (1 : Int32) = nI 1 from rfl, e1, Option.bind_some]
                  cases hm : mt nd md 2 (e + 1) j with
                  | true =>
                    rw [if_pos (rfl : true = true), if_neg (by exact (by decide : ¬ (1 : Int32) = 0)), Bool.true_or]
                    unfold B_Mr_fits0_126
                    have := e131 a1 true
                    rw [Bool.true_or] at this
                    exact this
                  | false =>
                    rw [if_neg (by decide : ¬ false = true), if_pos (by exact rfl), Bool.false_or]
                    unfold B_Mr_fits0_130
                    have := e131 a1 false
                    rw [Bool.false_or] at this
                    exact this
                · rw [if_neg c]
                  have hi4 : i ≤ 4 := by omega
                  rw [fin _ a false j i q3 hi4 (.inl (by omega)), List.any_nil]
                  exact ⟨a, rfl⟩
          have := loop md.length (f + 1) 0 FU a false (by
            have : kdsF md (bhf md f) md.length (f + 1) = kds md f := rfl
            rw [this]
            omega) (by omega) (by omega) (fun x hx => (kds_mem w2 hf (show x ∈ kds md f from hx)).1) (by unfold FU; omega)
          rw [Bool.false_or] at this
          exact this
        · omega

theorem c_matches0 {q r : Nat} {a : Nat → Int32} (h1 : tR T1 nd) (h2 : tR T2 md) (hq : q < nd.length) (hr : r < md.length) (hev : nL nd q % 2 = 0) : ∃ a', F_Mr_matches0 a T1 T2 (nI q) (nI r) (nI 0) = some ((if mt nd md 3 q r = true then 1 else 0), a') := by
  have h1' := h1
  have h2' := h2
  obtain ⟨w1, tg, bh, vs, ls, cs, rfl, hT, hB, hC⟩ := h1
  obtain ⟨w2, tg', bh', vs', ls', cs', rfl, hT', hB', hC'⟩ := h2
  have l1 := w1.2.2.2.2.1
  have l2 := w2.2.2.2.2.1
  have hb := bhf_lt hq
  have h10 := kds_10 w1 hq
  unfold F_Mr_matches0 B_Mr_matches0_0 L_Mr_matches0_8
  rw [show nI q + (1 : Int32) = nI (q + 1) from nI_1 q]
  have loop : ∀ (m j i fu : Nat) (a : Nat → Int32), (kdsF nd (bhf nd q) m j).length + i ≤ 10 → bhf nd q ≤ j + m → j ≤ 200 → (∀ x ∈ kdsF nd (bhf nd q) m j, x < nd.length ∧ kd (nT nd x) ≤ 3) → m < fu → ∃ a', lp (fun k8 v => B_Mr_matches0_8 k8 (tg, bh, vs, ls, cs, nI nd.length, nI (ch nd).length) (tg', bh', vs', ls', cs', nI md.length, nI (ch md).length) v.1 v.2.1 v.2.2.1 v.2.2.2.1 v.2.2.2.2.1 v.2.2.2.2.2) fu (a, nI q, nI r, nI 0, nI j, nI i) = some ((if (kdsF nd (bhf nd q) m j).all (mtF nd md (mt nd md 2) r) = true then 1 else 0), a') := by
    have fin : ∀ (K : S_Mr × Int32 × Int32 × Int32 × Int32 × Int32 → Option (Int32 × S_Mr)) (a : Nat → Int32) (j i : Nat), j ≤ 200 → i ≤ 10 → bhf nd q ≤ j → B_Mr_matches0_8 K (tg, bh, vs, ls, cs, nI nd.length, nI (ch nd).length) (tg', bh', vs', ls', cs', nI md.length, nI (ch md).length) a (nI q) (nI r) (nI 0) (nI j) (nI i) = some (1, a) := by
      intro K a j i hj hi hor
      unfold B_Mr_matches0_8
      by_cases c : 10 ≤ i
      · rw [if_pos (by first | omega | (simp (disch := omega) only [z_lt, z_le, z_eq, z_cl, z_ad, z_mu, z_sb, z_n1, z_em, z_me, z_lm, z_ml, z_mle, z_lme, z_ma, z_am, z_m2, not_false_eq_true, z_l0, z_l1, z_l2, z_l3, z_l4, z_l5, z_l6, z_l7, z_l8, z_l10, z_l14, z_l15, z_l16, z_l32, z_l80, z_l101, z_l120, z_l126, z_l127, z_l130, z_l160, z_l198, z_l200, z_l202, z_l240, z_l252, z_l253, z_l254, z_l255, z_l260, z_l480, z_l900, Rd_nodes, Rd_ends, Rd_isOpen, Rd_counts, Rd_lastTags, Rd_syntax, Rd_position, Rd_level, Rd_result, Rd_set_nodes, Rd_set_ends, Rd_set_isOpen, Rd_set_counts, Rd_set_lastTags, Rd_set_syntax, Rd_set_position, Rd_set_level, Rd_set_result, Tr_tags, Tr_behind, Tr_values, Tr_lengths, Tr_characters, Tr_count, Tr_characterCount, Tr_set_tags, Tr_set_behind, Tr_set_values, Tr_set_lengths, Tr_set_characters, Tr_set_count, Tr_set_characterCount, Bs_n, Bs_values, Bs_count, Bs_set_n, Bs_set_values, Bs_set_count] <;> omega))]
        rfl
      · rw [if_neg (by first | omega | (simp (disch := omega) only [z_lt, z_le, z_eq, z_cl, z_ad, z_mu, z_sb, z_n1, z_em, z_me, z_lm, z_ml, z_mle, z_lme, z_ma, z_am, z_m2, not_false_eq_true, z_l0, z_l1, z_l2, z_l3, z_l4, z_l5, z_l6, z_l7, z_l8, z_l10, z_l14, z_l15, z_l16, z_l32, z_l80, z_l101, z_l120, z_l126, z_l127, z_l130, z_l160, z_l198, z_l200, z_l202, z_l240, z_l252, z_l253, z_l254, z_l255, z_l260, z_l480, z_l900, Rd_nodes, Rd_ends, Rd_isOpen, Rd_counts, Rd_lastTags, Rd_syntax, Rd_position, Rd_level, Rd_result, Rd_set_nodes, Rd_set_ends, Rd_set_isOpen, Rd_set_counts, Rd_set_lastTags, Rd_set_syntax, Rd_set_position, Rd_set_level, Rd_set_result, Tr_tags, Tr_behind, Tr_values, Tr_lengths, Tr_characters, Tr_count, Tr_characterCount, Tr_set_tags, Tr_set_behind, Tr_set_values, Tr_set_lengths, Tr_set_characters, Tr_set_count, Tr_set_characterCount, Bs_n, Bs_values, Bs_count, Bs_set_n, Bs_set_values, Bs_set_count] <;> omega))]
        unfold B_Mr_matches0_15
        rw [c_behind l1 hB hq, Option.bind_some]
        rw [if_pos (by first | omega | (simp (disch := omega) only [z_lt, z_le, z_eq, z_cl, z_ad, z_mu, z_sb, z_n1, z_em, z_me, z_lm, z_ml, z_mle, z_lme, z_ma, z_am, z_m2, not_false_eq_true, z_l0, z_l1, z_l2, z_l3, z_l4, z_l5, z_l6, z_l7, z_l8, z_l10, z_l14, z_l15, z_l16, z_l32, z_l80, z_l101, z_l120, z_l126, z_l127, z_l130, z_l160, z_l198, z_l200, z_l202, z_l240, z_l252, z_l253, z_l254, z_l255, z_l260, z_l480, z_l900, Rd_nodes, Rd_ends, Rd_isOpen, Rd_counts, Rd_lastTags, Rd_syntax, Rd_position, Rd_level, Rd_result, Rd_set_nodes, Rd_set_ends, Rd_set_isOpen, Rd_set_counts, Rd_set_lastTags, Rd_set_syntax, Rd_set_position, Rd_set_level, Rd_set_result, Tr_tags, Tr_behind, Tr_values, Tr_lengths, Tr_characters, Tr_count, Tr_characterCount, Tr_set_tags, Tr_set_behind, Tr_set_values, Tr_set_lengths, Tr_set_characters, Tr_set_count, Tr_set_characterCount, Bs_n, Bs_values, Bs_count, Bs_set_n, Bs_set_values, Bs_set_count] <;> omega))]
        rfl
    intro m
    induction m with
    | zero =>
      intro j i fu a q1 q2 q3 q4 q5
      obtain ⟨fu', rfl⟩ : ∃ fu', fu = fu' + 1 := ⟨fu - 1, by omega⟩
      refine ⟨a, ?_⟩
      rw [lp_s]
      exact fin _ a j i q3 (by omega) (by omega)
    | succ m ih =>
      intro j i fu a q1 q2 q3 q4 q5
      obtain ⟨fu', rfl⟩ : ∃ fu', fu = fu' + 1 := ⟨fu - 1, by omega⟩
      rw [lp_s]
      show ∃ a', B_Mr_matches0_8 _ (tg, bh, vs, ls, cs, nI nd.length, nI (ch nd).length) (tg', bh', vs', ls', cs', nI md.length, nI (ch md).length) a (nI q) (nI r) (nI 0) (nI j) (nI i) = _
      unfold kdsF at q1 q4 ⊢
      by_cases c : j < bhf nd q
      · rw [if_pos c] at q1 q4 ⊢
        simp only [List.length_cons] at q1
        obtain ⟨hj, hj3⟩ := q4 j List.mem_cons_self
        have hbj := bhf_lt hj
        have hg8 := nT_lt w1.1 j
        rw [List.all_cons]
        have e8 : ∀ K, B_Mr_matches0_8 K (tg, bh, vs, ls, cs, nI nd.length, nI (ch nd).length) (tg', bh', vs', ls', cs', nI md.length, nI (ch md).length) a (nI q) (nI r) (nI 0) (nI j) (nI i) = B_Mr_matches0_25 K (tg, bh, vs, ls, cs, nI nd.length, nI (ch nd).length) (tg', bh', vs', ls', cs', nI md.length, nI (ch md).length) a (nI q) (nI r) (nI 0) (nI j) (nI i) := fun K => by
          unfold B_Mr_matches0_8
          rw [if_neg (by first | omega | (simp (disch := omega) only [z_lt, z_le, z_eq, z_cl, z_ad, z_mu, z_sb, z_n1, z_em, z_me, z_lm, z_ml, z_mle, z_lme, z_ma, z_am, z_m2, not_false_eq_true, z_l0, z_l1, z_l2, z_l3, z_l4, z_l5, z_l6, z_l7, z_l8, z_l10, z_l14, z_l15, z_l16, z_l32, z_l80, z_l101, z_l120, z_l126, z_l127, z_l130, z_l160, z_l198, z_l200, z_l202, z_l240, z_l252, z_l253, z_l254, z_l255, z_l260, z_l480, z_l900, Rd_nodes, Rd_ends, Rd_isOpen, Rd_counts, Rd_lastTags, Rd_syntax, Rd_position, Rd_level, Rd_result, Rd_set_nodes, Rd_set_ends, Rd_set_isOpen, Rd_set_counts, Rd_set_lastTags, Rd_set_syntax, Rd_set_position, Rd_set_level, Rd_set_result, Tr_tags, Tr_behind, Tr_values, Tr_lengths, Tr_characters, Tr_count, Tr_characterCount, Tr_set_tags, Tr_set_behind, Tr_set_values, Tr_set_lengths, Tr_set_characters, Tr_set_count, Tr_set_characterCount, Bs_n, Bs_values, Bs_count, Bs_set_n, Bs_set_values, Bs_set_count] <;> omega))]
          unfold B_Mr_matches0_15
          rw [c_behind l1 hB hq, Option.bind_some]
          rw [if_neg (by first | omega | (simp (disch := omega) only [z_lt, z_le, z_eq, z_cl, z_ad, z_mu, z_sb, z_n1, z_em, z_me, z_lm, z_ml, z_mle, z_lme, z_ma, z_am, z_m2, not_false_eq_true, z_l0, z_l1, z_l2, z_l3, z_l4, z_l5, z_l6, z_l7, z_l8, z_l10, z_l14, z_l15, z_l16, z_l32, z_l80, z_l101, z_l120, z_l126, z_l127, z_l130, z_l160, z_l198, z_l200, z_l202, z_l240, z_l252, z_l253, z_l254, z_l255, z_l260, z_l480, z_l900, Rd_nodes, Rd_ends, Rd_isOpen, Rd_counts, Rd_lastTags, Rd_syntax, Rd_position, Rd_level, Rd_result, Rd_set_nodes, Rd_set_ends, Rd_set_isOpen, Rd_set_counts, Rd_set_lastTags, Rd_set_syntax, Rd_set_position, Rd_set_level, Rd_set_result, Tr_tags, Tr_behind, Tr_values, Tr_lengths, Tr_characters, Tr_count, Tr_characterCount, Tr_set_tags, Tr_set_behind, Tr_set_values, Tr_set_lengths, Tr_set_characters, Tr_set_count, Tr_set_characterCount, Bs_n, Bs_values, Bs_count, Bs_set_n, Bs_set_values, Bs_set_count] <;> omega))]
        rw [e8]
        unfold B_Mr_matches0_25
        rw [c_tag l1 hT hj, Option.bind_some, c_find w2.1 l2 hT' hB' hg8 hr (kds_10 w2 hr), Option.bind_some]
        cases hf : fnd md (kds md r) (nT nd j) with
        | none =>
          have hF : mtF nd md (mt nd md 2) r j = false := by unfold mtF; rw [hf]
          rw [show oI none = (-1 : Int32) from rfl, if_pos rfl, hF, Bool.false_and]
          exact ⟨a, rfl⟩
        | some x =>
          obtain ⟨hx1, hx2⟩ := fnd_mem hf
          have hF : mtF nd md (mt nd md 2) r j = mtE nd md (mt nd md 2) j x := by unfold mtF; rw [hf]
          rw [hF]
          have hx3 := (kds_mem w2 hr hx1).1
          rw [show oI (some x) = nI x from rfl, if_neg (by
            show ¬ nI x = mI
            rw [z_em (by omega)]
            exact fun e => e)]
          unfold B_Mr_matches0_45
          obtain ⟨a1, e1⟩ := c_fits0 (e := j) (f := x) (a := a) h1' h2' hj hx3 hx2.symm hj3
          rw [e1, Option.bind_some]
          cases hE : mtE nd md (mt nd md 2) j x with
          | true =>
            rw [if_pos (rfl : true = true), if_neg (by exact (by decide : ¬ (1 : Int32) = 0)), Bool.true_and]
            unfold B_Mr_matches0_62
            rw [c_behind l1 hB hj, Option.bind_some, nI_1]
            exact ih (bhf nd j) (i + 1) fu' a1 (by omega) (by omega) (by omega) (fun x hx => q4 x (List.mem_cons_of_mem _ hx)) (by omega)
          | false =>
            rw [if_neg (by decide : ¬ false = true), if_pos (by exact rfl), Bool.false_and]
            exact ⟨a1, rfl⟩
      · rw [if_neg c]
        have hi10 : i ≤ 10 := by omega
        rw [fin _ a j i q3 hi10 (by omega)]
        exact ⟨a, rfl⟩
  exact loop nd.length (q + 1) 0 FU a (by
    have : kdsF nd (bhf nd q) nd.length (q + 1) = kds nd q := rfl
    rw [this]
    omega) (by omega) (by omega) (fun x hx => by
    have hm := kds_mem w1 hq (show x ∈ kds nd q from hx)
    refine ⟨hm.1, ?_⟩
    have p3 := (w1.2.2.1 x hm.1).1.2.2.2.1
    have hk4 := kd_le (nT nd x)
    have : kd (nT nd x) ≠ 4 := fun e9 => by have := p3.mp e9; omega
    omega) (by unfold FU; omega)

end CMT
