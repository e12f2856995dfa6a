/-! PURE: the chosen elements of a set, written -/
def hasT (pd : List Nd) (g : Nat) : Bool := (fnd pd (kds pd 0) g).isSome
def sgB (syn : Nat) (pd nd : List Nd) (c : Nat) : List Nat := if hasT pd (nT nd c) = true then sB syn nd c (bhf nd c - c) else []
def chB (syn : Nat) (pd nd : List Nd) : List Nat := (kds nd 0).flatMap (sgB syn pd nd)
theorem kdsF_more {nd : List Nd} {e : Nat} (he : e ≤ nd.length) : ∀ (m j : Nat), e ≤ j + m → kdsF nd e (m + 1) j = kdsF nd e m j
  | 0, j, h => by
    unfold kdsF
    rw [if_neg (by omega)]
  | m + 1, j, h => by
    have e1 : kdsF nd e (m + 1 + 1) j = if j < e then j :: kdsF nd e (m + 1) (bhf nd j) else [] := rfl
    have e2 : kdsF nd e (m + 1) j = if j < e then j :: kdsF nd e m (bhf nd j) else [] := rfl
    rw [e1, e2]
    by_cases c : j < e
    · have := bhf_lt (nd := nd) (k := j) (by omega)
      rw [if_pos c, if_pos c, kdsF_more he m (bhf nd j) (by omega)]
    · rw [if_neg c, if_neg c]
section CCH
variable {nd pd : List Nd} {T1 T2 : S_Tr} {syn cap : Nat}
theorem c_writeChosen {b : S_Bs} {l : List Nat} (h1 : tR T1 nd) (h2 : tR T2 pd) (hsy : syn ≤ 1) (hb : rn b cap l) (hfit : ∀ k, 1 ≤ k → k < nd.length → kd (nT nd k) = 1 ∨ vln syn nd k ≤ 240) (hcap : l.length + (chB syn pd nd).length ≤ cap) : ∃ b', F_Tr_writeChosen T1 T2 b (nI syn) = some b' ∧ rn b' cap (l ++ chB syn pd nd) := by
  obtain ⟨w1, tg, bh, vs, ls, cs, rfl, hT, hB, hC⟩ := h1
  obtain ⟨w2, tg', bh', vs', ls', cs', rfl, hT', hB', hC'⟩ := h2
  have l1 := w1.2.2.2.2.1
  have l2 := w2.2.2.2.2.1
  have g1 := w1.2.2.2.1
  have g2 := w2.2.2.2.1
  have hn0 := (w1.2.2.1 0 g1).1
  have hb0 : bhf nd 0 = nd.length := by
    refine isB_uniq (bhf_isB g1) ⟨g1, Nat.le_refl _, fun j a b => ?_, fun e => by omega⟩
    rw [hn0.1 rfl]
    have := (w1.2.2.1 j b).1.2.1 a
    omega
  have loop : ∀ (j i t m fu : Nat) (fl : Bool) (b : S_Bs) (l : List Nat), 1 ≤ i → i + j = nd.length → j < fu → i ≤ t → t ≤ nd.length → nd.length ≤ t + m → rn b cap l → l.length + ((if fl = true then sB syn nd i (t - i) else []) ++ (kdsF nd nd.length m t).flatMap (sgB syn pd nd)).length ≤ cap → ∃ b', lp (fun k9 v => B_Tr_writeChosen_9 k9 (tg, bh, vs, ls, cs, nI nd.length, nI (ch nd).length) (tg', bh', vs', ls', cs', nI pd.length, nI (ch pd).length) v.1 v.2.1 v.2.2.1 v.2.2.2.1 v.2.2.2.2) fu (b, nI syn, nI t, (if fl = true then 1 else 0), nI i) = some b' ∧ rn b' cap (l ++ ((if fl = true then sB syn nd i (t - i) else []) ++ (kdsF nd nd.length m t).flatMap (sgB syn pd nd))) := by
    intro j
    induction j with
    | zero =>
      intro i t m fu fl b l h1 hi hf ht htl hm hb hl
      obtain ⟨fu', rfl⟩ : ∃ fu', fu = fu' + 1 := ⟨fu - 1, by omega⟩
      have e1 : t - i = 0 := by omega
      have e2 : kdsF nd nd.length m t = [] := by
        cases m with
        | zero => rfl
        | succ m => unfold kdsF; rw [if_neg (by omega)]
      have e3 : (if fl = true then sB syn nd i (t - i) else []) = [] := by
        rw [e1]
        split <;> rfl
      refine ⟨b, ?_, by rw [e2, e3]; simpa using hb⟩
      rw [lp_s]
      show B_Tr_writeChosen_9 _ (tg, bh, vs, ls, cs, nI nd.length, nI (ch nd).length) (tg', bh', vs', ls', cs', nI pd.length, nI (ch pd).length) b (nI syn) (nI t) (if fl = true then 1 else 0) (nI i) = _
      unfold B_Tr_writeChosen_9
      rw [if_pos (by first | omega | (simp (disch := omega) only [z_lt, z_le, z_eq, z_cl, z_ad, z_mu, z_sb, z_n1, z_em, z_me, z_lm, z_ml, z_mle, z_lme, z_ma, z_am, z_m2, not_false_eq_true, z_l0, z_l1, z_l2, z_l3, z_l4, z_l5, z_l6, z_l7, z_l8, z_l10, z_l14, z_l15, z_l16, z_l32, z_l80, z_l101, z_l120, z_l126, z_l127, z_l130, z_l160, z_l198, z_l200, z_l202, z_l240, z_l252, z_l253, z_l254, z_l255, z_l260, z_l480, z_l900, Rd_nodes, Rd_ends, Rd_isOpen, Rd_counts, Rd_lastTags, Rd_syntax, Rd_position, Rd_level, Rd_result, Rd_set_nodes, Rd_set_ends, Rd_set_isOpen, Rd_set_counts, Rd_set_lastTags, Rd_set_syntax, Rd_set_position, Rd_set_level, Rd_set_result, Tr_tags, Tr_behind, Tr_values, Tr_lengths, Tr_characters, Tr_count, Tr_characterCount, Tr_set_tags, Tr_set_behind, Tr_set_values, Tr_set_lengths, Tr_set_characters, Tr_set_count, Tr_set_characterCount, Bs_n, Bs_values, Bs_count, Bs_set_n, Bs_set_values, Bs_set_count] <;> omega))]
      rfl
    | succ j ih =>
      intro i t m fu fl b l h1 hi hf ht htl hm hb hl
      obtain ⟨fu', rfl⟩ : ∃ fu', fu = fu' + 1 := ⟨fu - 1, by omega⟩
      have hil : i < nd.length := by omega
      have hbi := bhf_lt hil
      -- the node i, inside what ends at t'
      have inside : ∀ (t' m' : Nat) (fl : Bool), i < t' → t' ≤ nd.length → nd.length ≤ t' + m' → l.length + ((if fl = true then sB syn nd i (t' - i) else []) ++ (kdsF nd nd.length m' t').flatMap (sgB syn pd nd)).length ≤ cap → ∃ b', B_Tr_writeChosen_57 (lp (fun k9 v => B_Tr_writeChosen_9 k9 (tg, bh, vs, ls, cs, nI nd.length, nI (ch nd).length) (tg', bh', vs', ls', cs', nI pd.length, nI (ch pd).length) v.1 v.2.1 v.2.2.1 v.2.2.2.1 v.2.2.2.2) fu') (tg, bh, vs, ls, cs, nI nd.length, nI (ch nd).length) (tg', bh', vs', ls', cs', nI pd.length, nI (ch pd).length) b (nI syn) (nI t') (if fl = true then 1 else 0) (nI i) = some b' ∧ rn b' cap (l ++ ((if fl = true then sB syn nd i (t' - i) else []) ++ (kdsF nd nd.length m' t').flatMap (sgB syn pd nd))) := by
        intro t' m' fl q1 q2 q3 q4
        unfold B_Tr_writeChosen_57
        cases fl with
        | false =>
          rw [if_neg (by decide : ¬ false = true)] at q4 ⊢
          rw [if_neg (by decide : ¬ false = true), if_pos rfl]
          unfold B_Tr_writeChosen_71
          rw [nI_1]
          have := ih (i + 1) t' m' fu' false b l (by omega) (by omega) (by omega) (by omega) q2 q3 hb (by rw [if_neg (by decide : ¬ false = true)]; exact q4)
          rw [if_neg (by decide : ¬ false = true), if_neg (by decide : ¬ false = true)] at this
          exact this
        | true =>
          rw [if_pos (rfl : true = true)] at q4 ⊢
          rw [if_pos (rfl : true = true), if_neg (by decide : ¬ (1 : Int32) = 0)]
          have hsp : sB syn nd i (t' - i) = nB syn nd i ++ sB syn nd (i + 1) (t' - (i + 1)) := by
            rw [show t' - i = (t' - (i + 1)) + 1 by omega, sB_s]
            unfold nB0
            rw [if_neg (by omega)]
          rw [hsp] at q4 ⊢
          simp only [List.length_append] at q4
          obtain ⟨b1, e1, r1⟩ := c_writeNode1 (tg := tg) (bh := bh) (vs := vs) (ls := ls) (cs := cs) w1.1 w1.2.1 l1 w1.2.2.2.2.2.1 hT hB hC hsy hil hb (by omega) (hfit i h1 hil)
          unfold B_Tr_writeChosen_62
          rw [e1, Option.bind_some]
          unfold B_Tr_writeChosen_71
          rw [nI_1]
          have := ih (i + 1) t' m' fu' true b1 _ (by omega) (by omega) (by omega) (by omega) q2 q3 r1 (by
            rw [if_pos (rfl : true = true)]
            simp only [List.length_append]
            omega)
          rw [if_pos (rfl : true = true), if_pos (rfl : true = true)] at this
          rw [List.append_assoc, ← List.append_assoc l]
          exact this
      rw [lp_s]
      show ∃ b', B_Tr_writeChosen_9 _ (tg, bh, vs, ls, cs, nI nd.length, nI (ch nd).length) (tg', bh', vs', ls', cs', nI pd.length, nI (ch pd).length) b (nI syn) (nI t) (if fl = true then 1 else 0) (nI i) = _ ∧ _
      have e9 : ∀ K, B_Tr_writeChosen_9 K (tg, bh, vs, ls, cs, nI nd.length, nI (ch nd).length) (tg', bh', vs', ls', cs', nI pd.length, nI (ch pd).length) b (nI syn) (nI t) (if fl = true then 1 else 0) (nI i) = B_Tr_writeChosen_18 K (tg, bh, vs, ls, cs, nI nd.length, nI (ch nd).length) (tg', bh', vs', ls', cs', nI pd.length, nI (ch pd).length) b (nI syn) (nI t) (if fl = true then 1 else 0) (nI i) := fun K => by
        unfold B_Tr_writeChosen_9
        rw [if_neg (by first | omega | (simp (disch := omega) only [z_lt, z_le, z_eq, z_cl, z_ad, z_mu, z_sb, z_n1, z_em, z_me, z_lm, z_ml, z_mle, z_lme, z_ma, z_am, z_m2, not_false_eq_true, z_l0, z_l1, z_l2, z_l3, z_l4, z_l5, z_l6, z_l7, z_l8, z_l10, z_l14, z_l15, z_l16, z_l32, z_l80, z_l101, z_l120, z_l126, z_l127, z_l130, z_l160, z_l198, z_l200, z_l202, z_l240, z_l252, z_l253, z_l254, z_l255, z_l260, z_l480, z_l900, Rd_nodes, Rd_ends, Rd_isOpen, Rd_counts, Rd_lastTags, Rd_syntax, Rd_position, Rd_level, Rd_result, Rd_set_nodes, Rd_set_ends, Rd_set_isOpen, Rd_set_counts, Rd_set_lastTags, Rd_set_syntax, Rd_set_position, Rd_set_level, Rd_set_result, Tr_tags, Tr_behind, Tr_values, Tr_lengths, Tr_characters, Tr_count, Tr_characterCount, Tr_set_tags, Tr_set_behind, Tr_set_values, Tr_set_lengths, Tr_set_characters, Tr_set_count, Tr_set_characterCount, Bs_n, Bs_values, Bs_count, Bs_set_n, Bs_set_values, Bs_set_count] <;> omega))]
      rw [e9]
      unfold B_Tr_writeChosen_18
      by_cases c : i = t
      · -- a new element
        subst c
        obtain ⟨m', rfl⟩ : ∃ m', m = m' + 1 := ⟨m - 1, by omega⟩
        have hk : kdsF nd nd.length (m' + 1) i = i :: kdsF nd nd.length m' (bhf nd i) := by
          show (if i < nd.length then i :: kdsF nd nd.length m' (bhf nd i) else []) = _
          rw [if_pos hil]
        have hz : (if fl = true then sB syn nd i (i - i) else []) = [] := by
          rw [Nat.sub_self]
          split <;> rfl
        rw [hz, List.nil_append, hk, List.flatMap_cons] at hl ⊢
        rw [if_pos rfl]
        unfold B_Tr_writeChosen_25
        have t1 := (hT i hil).1
        have hbk := rt_B (t := (tg, bh, vs, ls, cs, nI nd.length, nI (ch nd).length)) (tg := tg) (vs := vs) (ls := ls) (cs := cs) hB hil
        rw [if_neg (by first | omega | (simp (disch := omega) only [z_lt, z_le, z_eq, z_cl, z_ad, z_mu, z_sb, z_n1, z_em, z_me, z_lm, z_ml, z_mle, z_lme, z_ma, z_am, z_m2, not_false_eq_true, z_l0, z_l1, z_l2, z_l3, z_l4, z_l5, z_l6, z_l7, z_l8, z_l10, z_l14, z_l15, z_l16, z_l32, z_l80, z_l101, z_l120, z_l126, z_l127, z_l130, z_l160, z_l198, z_l200, z_l202, z_l240, z_l252, z_l253, z_l254, z_l255, z_l260, z_l480, z_l900, Rd_nodes, Rd_ends, Rd_isOpen, Rd_counts, Rd_lastTags, Rd_syntax, Rd_position, Rd_level, Rd_result, Rd_set_nodes, Rd_set_ends, Rd_set_isOpen, Rd_set_counts, Rd_set_lastTags, Rd_set_syntax, Rd_set_position, Rd_set_level, Rd_set_result, Tr_tags, Tr_behind, Tr_values, Tr_lengths, Tr_characters, Tr_count, Tr_characterCount, Tr_set_tags, Tr_set_behind, Tr_set_values, Tr_set_lengths, Tr_set_characters, Tr_set_count, Tr_set_characterCount, Bs_n, Bs_values, Bs_count, Bs_set_n, Bs_set_values, Bs_set_count] <;> omega))]
        rw [show (Tr_tags (tg, bh, vs, ls, cs, nI nd.length, nI (ch nd).length)) (nI i).toNatClampNeg = nI (nT nd i) by
          rw [z_cl (by omega)]
          exact t1, show (0 : Int32) = nI 0 from rfl, c_find w2.1 l2 hT' hB' (nT_lt w1.1 i) g2 (kds_10 w2 g2), Option.bind_some]
        have e46 : ∀ (fl : Bool), fl = hasT pd (nT nd i) → ∃ b', B_Tr_writeChosen_46 (lp (fun k9 v => B_Tr_writeChosen_9 k9 (tg, bh, vs, ls, cs, nI nd.length, nI (ch nd).length) (tg', bh', vs', ls', cs', nI pd.length, nI (ch pd).length) v.1 v.2.1 v.2.2.1 v.2.2.2.1 v.2.2.2.2) fu') (tg, bh, vs, ls, cs, nI nd.length, nI (ch nd).length) (tg', bh', vs', ls', cs', nI pd.length, nI (ch pd).length) b (nI syn) (nI i) (if fl = true then 1 else 0) = some b' ∧ rn b' cap (l ++ (sgB syn pd nd i ++ (kdsF nd nd.length m' (bhf nd i)).flatMap (sgB syn pd nd))) := by
          intro fl hfl
          unfold B_Tr_writeChosen_46
          rw [if_neg (by first | omega | (simp (disch := omega) only [z_lt, z_le, z_eq, z_cl, z_ad, z_mu, z_sb, z_n1, z_em, z_me, z_lm, z_ml, z_mle, z_lme, z_ma, z_am, z_m2, not_false_eq_true, z_l0, z_l1, z_l2, z_l3, z_l4, z_l5, z_l6, z_l7, z_l8, z_l10, z_l14, z_l15, z_l16, z_l32, z_l80, z_l101, z_l120, z_l126, z_l127, z_l130, z_l160, z_l198, z_l200, z_l202, z_l240, z_l252, z_l253, z_l254, z_l255, z_l260, z_l480, z_l900, Rd_nodes, Rd_ends, Rd_isOpen, Rd_counts, Rd_lastTags, Rd_syntax, Rd_position, Rd_level, Rd_result, Rd_set_nodes, Rd_set_ends, Rd_set_isOpen, Rd_set_counts, Rd_set_lastTags, Rd_set_syntax, Rd_set_position, Rd_set_level, Rd_set_result, Tr_tags, Tr_behind, Tr_values, Tr_lengths, Tr_characters, Tr_count, Tr_characterCount, Tr_set_tags, Tr_set_behind, Tr_set_values, Tr_set_lengths, Tr_set_characters, Tr_set_count, Tr_set_characterCount, Bs_n, Bs_values, Bs_count, Bs_set_n, Bs_set_values, Bs_set_count] <;> omega))]
          rw [show (Tr_behind (tg, bh, vs, ls, cs, nI nd.length, nI (ch nd).length)) (nI i).toNatClampNeg = nI (bhf nd i) by
            rw [z_cl (by omega)]
            exact hbk]
          unfold sgB at hl ⊢
          rw [← hfl] at hl ⊢
          exact inside (bhf nd i) m' fl hbi.1 hbi.2 (by omega) hl
        cases hfd : fnd pd (kds pd 0) (nT nd i) with
        | none =>
          rw [show oI none = (-1 : Int32) from rfl, if_pos rfl]
          unfold B_Tr_writeChosen_45
          exact e46 false (by unfold hasT; rw [hfd]; rfl)
        | some x =>
          have hx := (kds_mem w2 g2 (fnd_mem hfd).1).1
          rw [show oI (some x) = nI x from rfl, if_neg (by
            show ¬ nI x = mI
            rw [z_em (by omega)]
            exact fun e => e)]
          unfold B_Tr_writeChosen_41
          exact e46 true (by unfold hasT; rw [hfd]; rfl)
      · rw [if_neg (by rw [z_eq (by omega) (by omega)]; exact c)]
        exact inside t m fl (by omega) htl hm hl
  unfold F_Tr_writeChosen B_Tr_writeChosen_0 L_Tr_writeChosen_9
  have hk0 : kdsF nd nd.length nd.length 1 = kds nd 0 := by
    unfold kds
    rw [hb0]
  have := loop (nd.length - 1) 1 1 nd.length FU false b l (Nat.le_refl _) (by omega) (by unfold FU; omega) (Nat.le_refl _) g1 (by omega) hb (by
    rw [if_neg (by decide : ¬ false = true), List.nil_append, hk0]
    exact hcap)
  rw [if_neg (by decide : ¬ false = true), if_neg (by decide : ¬ false = true), List.nil_append, hk0] at this
  exact this
end CCH
