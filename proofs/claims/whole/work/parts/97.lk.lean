/-! PURE: a text and a pattern, in the model -/
theorem nN_inj {x y : Int32} (h : nN x = nN y) : x = y := Int32.toBitVec_inj.mp (BitVec.eq_of_toNat_eq h)
theorem sh_j : ∀ j : Nat, j < 32 → ((nI j &&& 31).toBitVec.smod 32#32).toNat = j := by decide +kernel
theorem bt_get {B j : Nat} (hB : B < 2 ^ 20) (hj : j < 32) : (((nI B >>> (nI j &&& 31)) &&& (1 : Int32)) = (1 : Int32)) ↔ B.testBit j = true := by
  have h1 : nI B >>> (nI j &&& 31) = nI (B / 2 ^ j) := by
    apply Int32.toInt_inj.mp
    have hd : B / 2 ^ j ≤ B := Nat.div_le_self _ _
    rw [sar_toInt _ j _ (sh_j j hj), nI_toInt (by omega), nI_toInt (by omega)]
    simp
  have hd : B / 2 ^ j ≤ B := Nat.div_le_self _ _
  have h2 : nI (B / 2 ^ j) &&& (1 : Int32) = nI (B / 2 ^ j % 2) := by
    apply nN_inj
    show (nI (B / 2 ^ j) &&& (1 : Int32)).toBitVec.toNat = _
    rw [Int32.toBitVec_and, BitVec.toNat_and, nN_nI (by omega)]
    show nN (nI (B / 2 ^ j)) &&& 1 = _
    rw [nN_nI (by omega), Nat.and_one_is_mod]
  rw [h1, h2, show (1 : Int32) = nI 1 from rfl, z_eq (by omega) (by omega), Nat.testBit_eq_decide_div_mod_eq, decide_eq_true_eq]
theorem bt_or {T u q : Nat} {x : Int32} (hT : T < 2 ^ 20) (hq : q < 32) (hu : u ≤ 20) (hx : nN x * 2 ^ q = 2 ^ u) : nI T ||| (x <<< (nI q &&& 31)) = nI (T ||| 2 ^ u) ∧ T ||| 2 ^ u < 2 ^ 21 := by
  have h20 : (2 : Nat) ^ u < 2 ^ 21 := Nat.pow_lt_pow_right (by omega) (by omega)
  have hlt : T ||| 2 ^ u < 2 ^ 21 := Nat.or_lt_two_pow (by omega) h20
  refine ⟨?_, hlt⟩
  apply nN_inj
  rw [nN_or, nN_nI (by omega), nN_shl x _ q (sh_j q hq), hx, nN_nI (by omega), Nat.mod_eq_of_lt (by omega)]
theorem bt_set (T u j : Nat) : (T ||| 2 ^ u).testBit j = (T.testBit j || decide (u = j)) := by
  rw [Nat.testBit_or, Nat.testBit_two_pow]
/-- the bits of B are the truth R, up to n -/
def btR (B : Nat) (R : Nat → Bool) (n : Nat) : Prop := B < 2 ^ 20 ∧ ∀ j, B.testBit j = (decide (j ≤ n) && R j)
section MLK
variable {s : S_Mo} {nd md : List Nd} {q r : Nat}
/-- a character of a text -/
theorem m_chr {t k i : Nat} (ht : t < 2) (hl : nd.length ≤ 101) (hcl : (ch nd).length ≤ 200) (hm : mtr s.2 t nd) (hk : k < nd.length) (h2 : kd (nT nd k) = 2) (hi : i < (nX nd k).length) : ¬ ((((Mo_letters s) (nI (130 * t + k)).toNatClampNeg) + nI i) < 0 ∨ 480 ≤ (((Mo_letters s) (nI (130 * t + k)).toNatClampNeg) + nI i).toNatClampNeg) ∧ (Mo_chars s) (((Mo_letters s) (nI (130 * t + k)).toNatClampNeg) + nI i).toNatClampNeg = nI ((nX nd k).getD i 0) := by
  have hnd : nd = nd.take k ++ (nG nd k :: nd.drop (k + 1)) := by
    have : nG nd k = nd[k] := by unfold nG; simp [List.getD, hk]
    rw [this, List.getElem_cons_drop, List.take_append_drop]
  have hch : ch nd = ch (nd.take k) ++ (nX nd k ++ ch (nd.drop (k + 1))) := by
    have e : ch nd = ch (nd.take k ++ (nG nd k :: nd.drop (k + 1))) := congrArg ch hnd
    rw [e]
    unfold ch nX
    rw [List.flatMap_append, List.flatMap_cons]
  have hlt : (ch (nd.take k)).length + (nX nd k).length ≤ (ch nd).length := by
    rw [hch]
    simp only [List.length_append]
    omega
  have hget : (ch nd).getD ((ch (nd.take k)).length + i) 0 = (nX nd k).getD i 0 := by
    rw [hch]
    simp [List.getD, List.getElem?_append_right, List.getElem?_append_left hi]
  have a6 := (hm.2.2.1 k hk).2.2.2.1 h2
  have hc4 := hm.2.2.2 ((ch (nd.take k)).length + i) (by omega)
  rw [hget, ← Nat.add_assoc] at hc4
  refine ⟨?_, ?_⟩
  · simp (disch := omega) only [z_lt, z_le, z_eq, z_cl, z_ad, z_mu, z_sb, z_n1, z_em, z_me, z_lm, z_ml, z_mle, z_lme, z_ma, z_am, z_m2, not_false_eq_true, z_l0, z_l1, z_l2, z_l3, z_l4, z_l5, z_l6, z_l7, z_l8, z_l10, z_l14, z_l15, z_l16, z_l32, z_l80, z_l101, z_l120, z_l126, z_l127, z_l130, z_l160, z_l198, z_l200, z_l202, z_l240, z_l252, z_l253, z_l254, z_l255, z_l260, z_l480, z_l900, Mo_room, Mo_code, Mo_draft, Mo_drafted, Mo_source, Mo_fault, Mo_count, Mo_kind, Mo_tag, Mo_value, Mo_letters, Mo_parent, Mo_first, Mo_next, Mo_last, Mo_many, Mo_size, Mo_number, Mo_chars, Mo_held, Mo_fits, Mo_depth, Mo_node, Mo_end, Mo_loose, Mo_at, Mo_made, Mo_makes, Mo_line, Mo_timer, Mo_input, Mo_inputs, Mo_output, Mo_outputs, Mo_contexts, Mo_ids, Mo_services, Mo_results, Mo_wanted, Mo_command, Mo_commands, Mo_body, Mo_bodies, Mo_speaker, Mo_what, Mo_message, Mo_answered, Mo_records, Mo_kept, Mo_lengths, Mo_set_room, Mo_set_code, Mo_set_draft, Mo_set_drafted, Mo_set_source, Mo_set_fault, Mo_set_count, Mo_set_kind, Mo_set_tag, Mo_set_value, Mo_set_letters, Mo_set_parent, Mo_set_first, Mo_set_next, Mo_set_last, Mo_set_many, Mo_set_size, Mo_set_number, Mo_set_chars, Mo_set_held, Mo_set_fits, Mo_set_depth, Mo_set_node, Mo_set_end, Mo_set_loose, Mo_set_at, Mo_set_made, Mo_set_makes, Mo_set_line, Mo_set_timer, Mo_set_input, Mo_set_inputs, Mo_set_output, Mo_set_outputs, Mo_set_contexts, Mo_set_ids, Mo_set_services, Mo_set_results, Mo_set_wanted, Mo_set_command, Mo_set_commands, Mo_set_body, Mo_set_bodies, Mo_set_speaker, Mo_set_what, Mo_set_message, Mo_set_answered, Mo_set_records, Mo_set_kept, Mo_set_lengths, ua_s, ua_n, pk_us, pk_un, a6]
    omega
  · simp (disch := omega) only [z_lt, z_le, z_eq, z_cl, z_ad, z_mu, z_sb, z_n1, z_em, z_me, z_lm, z_ml, z_mle, z_lme, z_ma, z_am, z_m2, not_false_eq_true, z_l0, z_l1, z_l2, z_l3, z_l4, z_l5, z_l6, z_l7, z_l8, z_l10, z_l14, z_l15, z_l16, z_l32, z_l80, z_l101, z_l120, z_l126, z_l127, z_l130, z_l160, z_l198, z_l200, z_l202, z_l240, z_l252, z_l253, z_l254, z_l255, z_l260, z_l480, z_l900, Mo_room, Mo_code, Mo_draft, Mo_drafted, Mo_source, Mo_fault, Mo_count, Mo_kind, Mo_tag, Mo_value, Mo_letters, Mo_parent, Mo_first, Mo_next, Mo_last, Mo_many, Mo_size, Mo_number, Mo_chars, Mo_held, Mo_fits, Mo_depth, Mo_node, Mo_end, Mo_loose, Mo_at, Mo_made, Mo_makes, Mo_line, Mo_timer, Mo_input, Mo_inputs, Mo_output, Mo_outputs, Mo_contexts, Mo_ids, Mo_services, Mo_results, Mo_wanted, Mo_command, Mo_commands, Mo_body, Mo_bodies, Mo_speaker, Mo_what, Mo_message, Mo_answered, Mo_records, Mo_kept, Mo_lengths, Mo_set_room, Mo_set_code, Mo_set_draft, Mo_set_drafted, Mo_set_source, Mo_set_fault, Mo_set_count, Mo_set_kind, Mo_set_tag, Mo_set_value, Mo_set_letters, Mo_set_parent, Mo_set_first, Mo_set_next, Mo_set_last, Mo_set_many, Mo_set_size, Mo_set_number, Mo_set_chars, Mo_set_held, Mo_set_fits, Mo_set_depth, Mo_set_node, Mo_set_end, Mo_set_loose, Mo_set_at, Mo_set_made, Mo_set_makes, Mo_set_line, Mo_set_timer, Mo_set_input, Mo_set_inputs, Mo_set_output, Mo_set_outputs, Mo_set_contexts, Mo_set_ids, Mo_set_services, Mo_set_results, Mo_set_wanted, Mo_set_command, Mo_set_commands, Mo_set_body, Mo_set_bodies, Mo_set_speaker, Mo_set_what, Mo_set_message, Mo_set_answered, Mo_set_records, Mo_set_kept, Mo_set_lengths, ua_s, ua_n, pk_us, pk_un, a6, hc4]
theorem m_lkIn (hl : md.length ≤ 101) (hcl : (ch md).length ≤ 200) (hm : mtr s.2 1 md) (hr : r < md.length) (h2 : kd (nT md r) = 2) (hw : wfA md) (hn : (nX md r).length ≤ 16) {c C : Nat} (hc8 : c < 256) {R : Nat → Bool} (hC : btR C R (nX md r).length) (K : Int32 × Int32 × Int32 × Int32 × Int32 → Option Int32) {x1 x5 : Int32} : ∀ (m i f T : Nat), i + m = (nX md r).length + 1 → m < f → T < 2 ^ 20 → (∀ j, T.testBit j = (decide (j ≤ (nX md r).length ∧ (if c = 42 then j < i else j ≤ i)) && lkS (nX md r) c R j)) → ∃ T', lp (fun k46 v => B_Mo_likes_46 K k46 s v.1 v.2.1 v.2.2.1 v.2.2.2.1 v.2.2.2.2.1 v.2.2.2.2.2.1 v.2.2.2.2.2.2.1 v.2.2.2.2.2.2.2) f (x1, nI (130 * 1 + r), nI (nX md r).length, nI C, x5, nI c, nI T, nI i) = K (x1, nI (130 * 1 + r), nI (nX md r).length, nI T', x5 + 1) ∧ btR T' (lkS (nX md r) c R) (nX md r).length := by
  intro m
  induction m with
  | zero =>
    intro i f T hi hf hT hb
    obtain ⟨f', rfl⟩ : ∃ f', f = f' + 1 := ⟨f - 1, by omega⟩
    refine ⟨T, ?_, hT, fun j => ?_⟩
    · rw [lp_s]
      show B_Mo_likes_46 K _ s x1 (nI (130 * 1 + r)) (nI (nX md r).length) (nI C) x5 (nI c) (nI T) (nI i) = _
      unfold B_Mo_likes_46
      rw [if_pos (by first | omega | (simp (disch := omega) only [z_lt, z_le, z_eq, z_cl, z_ad, z_mu, z_sb, z_n1, z_em, z_me, z_lm, z_ml, z_mle, z_lme, z_ma, z_am, z_m2, not_false_eq_true, z_l0, z_l1, z_l2, z_l3, z_l4, z_l5, z_l6, z_l7, z_l8, z_l10, z_l14, z_l15, z_l16, z_l32, z_l80, z_l101, z_l120, z_l126, z_l127, z_l130, z_l160, z_l198, z_l200, z_l202, z_l240, z_l252, z_l253, z_l254, z_l255, z_l260, z_l480, z_l900, Mo_room, Mo_code, Mo_draft, Mo_drafted, Mo_source, Mo_fault, Mo_count, Mo_kind, Mo_tag, Mo_value, Mo_letters, Mo_parent, Mo_first, Mo_next, Mo_last, Mo_many, Mo_size, Mo_number, Mo_chars, Mo_held, Mo_fits, Mo_depth, Mo_node, Mo_end, Mo_loose, Mo_at, Mo_made, Mo_makes, Mo_line, Mo_timer, Mo_input, Mo_inputs, Mo_output, Mo_outputs, Mo_contexts, Mo_ids, Mo_services, Mo_results, Mo_wanted, Mo_command, Mo_commands, Mo_body, Mo_bodies, Mo_speaker, Mo_what, Mo_message, Mo_answered, Mo_records, Mo_kept, Mo_lengths, Mo_set_room, Mo_set_code, Mo_set_draft, Mo_set_drafted, Mo_set_source, Mo_set_fault, Mo_set_count, Mo_set_kind, Mo_set_tag, Mo_set_value, Mo_set_letters, Mo_set_parent, Mo_set_first, Mo_set_next, Mo_set_last, Mo_set_many, Mo_set_size, Mo_set_number, Mo_set_chars, Mo_set_held, Mo_set_fits, Mo_set_depth, Mo_set_node, Mo_set_end, Mo_set_loose, Mo_set_at, Mo_set_made, Mo_set_makes, Mo_set_line, Mo_set_timer, Mo_set_input, Mo_set_inputs, Mo_set_output, Mo_set_outputs, Mo_set_contexts, Mo_set_ids, Mo_set_services, Mo_set_results, Mo_set_wanted, Mo_set_command, Mo_set_commands, Mo_set_body, Mo_set_bodies, Mo_set_speaker, Mo_set_what, Mo_set_message, Mo_set_answered, Mo_set_records, Mo_set_kept, Mo_set_lengths, ua_s, ua_n, pk_us, pk_un] <;> omega))]
      rfl
    · rw [hb j]
      congr 1
      apply decide_eq_decide.mpr
      constructor
      · exact fun h => h.1
      · intro h
        refine ⟨h, ?_⟩
        split <;> omega
  | succ m ih =>
    intro i f T hi hf hT hb
    obtain ⟨f', rfl⟩ : ∃ f', f = f' + 1 := ⟨f - 1, by omega⟩
    have hle : i ≤ (nX md r).length := by omega
    have h17 : ∀ T', (∀ j, T'.testBit j = (decide (j ≤ (nX md r).length ∧ (if c = 42 then j < i + 1 else j ≤ i + 1)) && lkS (nX md r) c R j)) → T' < 2 ^ 20 := by
      intro T' h
      apply Nat.lt_pow_two_of_testBit
      intro j hj
      rw [h j, decide_eq_false (by omega), Bool.false_and]
    have e169 : ∀ T', (∀ j, T'.testBit j = (decide (j ≤ (nX md r).length ∧ (if c = 42 then j < i + 1 else j ≤ i + 1)) && lkS (nX md r) c R j)) → ∃ T'', B_Mo_likes_169 K (lp (fun k46 v => B_Mo_likes_46 K k46 s v.1 v.2.1 v.2.2.1 v.2.2.2.1 v.2.2.2.2.1 v.2.2.2.2.2.1 v.2.2.2.2.2.2.1 v.2.2.2.2.2.2.2) f') s x1 (nI (130 * 1 + r)) (nI (nX md r).length) (nI C) x5 (nI c) (nI T') (nI i) = K (x1, nI (130 * 1 + r), nI (nX md r).length, nI T'', x5 + 1) ∧ btR T'' (lkS (nX md r) c R) (nX md r).length := by
      intro T' h
      unfold B_Mo_likes_169
      rw [nI_1]
      exact ih (i + 1) f' T' (by omega) (by omega) (h17 T' h) h
    have hCi : C.testBit i = R i := by rw [hC.2 i, decide_eq_true hle, Bool.true_and]
    rw [lp_s]
    show ∃ T', B_Mo_likes_46 K _ s x1 (nI (130 * 1 + r)) (nI (nX md r).length) (nI C) x5 (nI c) (nI T) (nI i) = _ ∧ _
    have e46 : ∀ K2, B_Mo_likes_46 K K2 s x1 (nI (130 * 1 + r)) (nI (nX md r).length) (nI C) x5 (nI c) (nI T) (nI i) = B_Mo_likes_52 K K2 s x1 (nI (130 * 1 + r)) (nI (nX md r).length) (nI C) x5 (nI c) (nI T) (nI i) := fun K2 => by
      unfold B_Mo_likes_46
      rw [if_neg (by first | omega | (simp (disch := omega) only [z_lt, z_le, z_eq, z_cl, z_ad, z_mu, z_sb, z_n1, z_em, z_me, z_lm, z_ml, z_mle, z_lme, z_ma, z_am, z_m2, not_false_eq_true, z_l0, z_l1, z_l2, z_l3, z_l4, z_l5, z_l6, z_l7, z_l8, z_l10, z_l14, z_l15, z_l16, z_l32, z_l80, z_l101, z_l120, z_l126, z_l127, z_l130, z_l160, z_l198, z_l200, z_l202, z_l240, z_l252, z_l253, z_l254, z_l255, z_l260, z_l480, z_l900, Mo_room, Mo_code, Mo_draft, Mo_drafted, Mo_source, Mo_fault, Mo_count, Mo_kind, Mo_tag, Mo_value, Mo_letters, Mo_parent, Mo_first, Mo_next, Mo_last, Mo_many, Mo_size, Mo_number, Mo_chars, Mo_held, Mo_fits, Mo_depth, Mo_node, Mo_end, Mo_loose, Mo_at, Mo_made, Mo_makes, Mo_line, Mo_timer, Mo_input, Mo_inputs, Mo_output, Mo_outputs, Mo_contexts, Mo_ids, Mo_services, Mo_results, Mo_wanted, Mo_command, Mo_commands, Mo_body, Mo_bodies, Mo_speaker, Mo_what, Mo_message, Mo_answered, Mo_records, Mo_kept, Mo_lengths, Mo_set_room, Mo_set_code, Mo_set_draft, Mo_set_drafted, Mo_set_source, Mo_set_fault, Mo_set_count, Mo_set_kind, Mo_set_tag, Mo_set_value, Mo_set_letters, Mo_set_parent, Mo_set_first, Mo_set_next, Mo_set_last, Mo_set_many, Mo_set_size, Mo_set_number, Mo_set_chars, Mo_set_held, Mo_set_fits, Mo_set_depth, Mo_set_node, Mo_set_end, Mo_set_loose, Mo_set_at, Mo_set_made, Mo_set_makes, Mo_set_line, Mo_set_timer, Mo_set_input, Mo_set_inputs, Mo_set_output, Mo_set_outputs, Mo_set_contexts, Mo_set_ids, Mo_set_services, Mo_set_results, Mo_set_wanted, Mo_set_command, Mo_set_commands, Mo_set_body, Mo_set_bodies, Mo_set_speaker, Mo_set_what, Mo_set_message, Mo_set_answered, Mo_set_records, Mo_set_kept, Mo_set_lengths, ua_s, ua_n, pk_us, pk_un] <;> omega))]
    rw [e46]
    by_cases c42 : c = 42
    · -- a star
      simp only [if_pos c42] at e169
      have hb' : ∀ j, T.testBit j = (decide (j ≤ (nX md r).length ∧ j < i) && lkS (nX md r) c R j) := fun j => by
        rw [hb j]
        simp only [if_pos c42]
      have hno : lkS (nX md r) c R i = false → ∃ T'', B_Mo_likes_92 K (lp (fun k46 v => B_Mo_likes_46 K k46 s v.1 v.2.1 v.2.2.1 v.2.2.2.1 v.2.2.2.2.1 v.2.2.2.2.2.1 v.2.2.2.2.2.2.1 v.2.2.2.2.2.2.2) f') s x1 (nI (130 * 1 + r)) (nI (nX md r).length) (nI C) x5 (nI c) (nI T) (nI i) = K (x1, nI (130 * 1 + r), nI (nX md r).length, nI T'', x5 + 1) ∧ btR T'' (lkS (nX md r) c R) (nX md r).length := by
        intro hf0
        unfold B_Mo_likes_92 B_Mo_likes_93
        rw [if_pos rfl]
        unfold B_Mo_likes_116
        rw [if_pos rfl]
        refine e169 T (fun j => ?_)
        rw [hb' j]
        by_cases cj : j = i
        · rw [cj, hf0, Bool.and_false, Bool.and_false]
        · congr 1
          apply decide_eq_decide.mpr
          omega
      have hyes : lkS (nX md r) c R i = true → ∃ T'', B_Mo_likes_88 K (lp (fun k46 v => B_Mo_likes_46 K k46 s v.1 v.2.1 v.2.2.1 v.2.2.2.1 v.2.2.2.2.1 v.2.2.2.2.2.1 v.2.2.2.2.2.2.1 v.2.2.2.2.2.2.2) f') s x1 (nI (130 * 1 + r)) (nI (nX md r).length) (nI C) x5 (nI c) (nI T) (nI i) = K (x1, nI (130 * 1 + r), nI (nX md r).length, nI T'', x5 + 1) ∧ btR T'' (lkS (nX md r) c R) (nX md r).length := by
        intro hf1
        unfold B_Mo_likes_88 B_Mo_likes_93
        rw [if_neg (by decide)]
        unfold B_Mo_likes_100
        rw [if_pos (by rw [c42]; rfl)]
        unfold B_Mo_likes_107
        rw [(bt_or hT (by omega) (u := i) (by omega) (by rw [show nN 1 = 1 by decide +kernel, Nat.one_mul])).1]
        unfold B_Mo_likes_116
        rw [if_neg (by decide)]
        unfold B_Mo_likes_121
        rw [if_pos (by rw [c42]; rfl)]
        refine e169 (T ||| 2 ^ i) (fun j => ?_)
        rw [bt_set, hb' j]
        by_cases cj : j = i
        · rw [cj, hf1, decide_eq_true (rfl : i = i), Bool.or_true, decide_eq_true (by omega), Bool.true_and]
        · rw [(decide_eq_false (fun e => cj e.symm) : decide (i = j) = false), Bool.or_false]
          congr 1
          apply decide_eq_decide.mpr
          omega
      unfold B_Mo_likes_52
      cases hRi : R i with
      | true =>
        rw [if_pos ((bt_get hC.1 (by omega)).mpr (by rw [hCi, hRi]))]
        refine hyes ?_
        rw [c42]
        cases i with
        | zero => rw [lkS_star0, hRi]
        | succ i => rw [lkS_star, hRi, Bool.true_or]
      | false =>
        rw [if_neg (fun e => by have := (bt_get hC.1 (by omega)).mp e; rw [hCi, hRi] at this; cases this)]
        unfold B_Mo_likes_63
        rw [if_pos (by rw [c42]; rfl)]
        unfold B_Mo_likes_70
        cases i with
        | zero =>
          rw [if_pos (by decide +kernel : nI 0 ≤ 0)]
          exact hno (by rw [c42, lkS_star0, hRi])
        | succ i =>
          rw [if_neg (by rw [show (0 : Int32) = nI 0 from rfl, z_le (by omega) (by omega)]; omega)]
          unfold B_Mo_likes_75
          rw [show nI (i + 1) - (1 : Int32) = nI i by rw [show (1 : Int32) = nI 1 from rfl, z_sb (by omega), Nat.add_sub_cancel]]
          have hTi : T.testBit i = lkS (nX md r) c R i := by rw [hb' i, decide_eq_true (by omega), Bool.true_and]
          cases hLi : lkS (nX md r) c R i with
          | true =>
            rw [if_pos ((bt_get hT (by omega)).mpr (by rw [hTi, hLi]))]
            exact hyes (by rw [c42, lkS_star, ← c42, hLi, Bool.or_true])
          | false =>
            rw [if_neg (fun e => by have := (bt_get hT (by omega)).mp e; rw [hTi, hLi] at this; cases this)]
            exact hno (by rw [c42, lkS_star, ← c42, hLi, hRi, Bool.or_false])
    · -- any other
      simp only [if_neg c42] at e169
      have hb' : ∀ j, T.testBit j = (decide (j ≤ (nX md r).length ∧ j ≤ i) && lkS (nX md r) c R j) := fun j => by
        rw [hb j]
        simp only [if_neg c42]
      have n42 : ¬ nI c = (42 : Int32) := by rw [show (42 : Int32) = nI 42 from rfl, z_eq (by omega) (by omega)]; exact c42
      have hlk : lkS (nX md r) c R (i + 1) = (R i && (decide (c = 63) || decide (c = (nX md r).getD i 0))) := by
        unfold lkS
        rw [if_neg c42]
      have hno : (i < (nX md r).length → lkS (nX md r) c R (i + 1) = false) → ∃ T'', B_Mo_likes_169 K (lp (fun k46 v => B_Mo_likes_46 K k46 s v.1 v.2.1 v.2.2.1 v.2.2.2.1 v.2.2.2.2.1 v.2.2.2.2.2.1 v.2.2.2.2.2.2.1 v.2.2.2.2.2.2.2) f') s x1 (nI (130 * 1 + r)) (nI (nX md r).length) (nI C) x5 (nI c) (nI T) (nI i) = K (x1, nI (130 * 1 + r), nI (nX md r).length, nI T'', x5 + 1) ∧ btR T'' (lkS (nX md r) c R) (nX md r).length := by
        intro hf0
        refine e169 T (fun j => ?_)
        rw [hb' j]
        by_cases cj : j = i + 1
        · by_cases cl : i < (nX md r).length
          · rw [cj, hf0 cl, Bool.and_false, Bool.and_false]
          · congr 1
            apply decide_eq_decide.mpr
            omega
        · congr 1
          apply decide_eq_decide.mpr
          omega
      have hyes : i < (nX md r).length → lkS (nX md r) c R (i + 1) = true → ∃ T'', B_Mo_likes_160 K (lp (fun k46 v => B_Mo_likes_46 K k46 s v.1 v.2.1 v.2.2.1 v.2.2.2.1 v.2.2.2.2.1 v.2.2.2.2.2.1 v.2.2.2.2.2.2.1 v.2.2.2.2.2.2.2) f') s x1 (nI (130 * 1 + r)) (nI (nX md r).length) (nI C) x5 (nI c) (nI T) (nI i) = K (x1, nI (130 * 1 + r), nI (nX md r).length, nI T'', x5 + 1) ∧ btR T'' (lkS (nX md r) c R) (nX md r).length := by
        intro hil hf1
        unfold B_Mo_likes_160
        rw [(bt_or hT (by omega) (u := i + 1) (by omega) (by rw [show nN 2 = 2 by decide +kernel, Nat.pow_succ, Nat.mul_comm])).1]
        refine e169 (T ||| 2 ^ (i + 1)) (fun j => ?_)
        rw [bt_set, hb' j]
        by_cases cj : j = i + 1
        · rw [cj, hf1, decide_eq_true (rfl : i + 1 = i + 1), Bool.or_true, decide_eq_true (by omega), Bool.true_and]
        · rw [(decide_eq_false (fun e => cj e.symm) : decide (i + 1 = j) = false), Bool.or_false]
          congr 1
          apply decide_eq_decide.mpr
          omega
      unfold B_Mo_likes_52
      cases hRi : R i with
      | false =>
        rw [if_neg (fun e => by have := (bt_get hC.1 (by omega)).mp e; rw [hCi, hRi] at this; cases this)]
        unfold B_Mo_likes_63
        rw [if_neg n42]
        unfold B_Mo_likes_92 B_Mo_likes_93
        rw [if_pos rfl]
        unfold B_Mo_likes_116
        rw [if_pos rfl]
        exact hno (fun _ => by rw [hlk, hRi, Bool.false_and])
      | true =>
        rw [if_pos ((bt_get hC.1 (by omega)).mpr (by rw [hCi, hRi]))]
        unfold B_Mo_likes_88 B_Mo_likes_93
        rw [if_neg (by decide)]
        unfold B_Mo_likes_100
        rw [if_neg n42]
        unfold B_Mo_likes_116
        rw [if_neg (by decide)]
        unfold B_Mo_likes_121
        rw [if_neg n42]
        unfold B_Mo_likes_128
        by_cases cl : i < (nX md r).length
        · rw [if_neg (by rw [z_le (by omega) (by omega)]; omega)]
          unfold B_Mo_likes_134
          by_cases c63 : c = 63
          · rw [if_pos (by rw [c63]; rfl)]
            exact hyes cl (by rw [hlk, hRi, decide_eq_true c63]; rfl)
          · rw [if_neg (by rw [show (63 : Int32) = nI 63 from rfl, z_eq (by omega) (by omega)]; exact c63)]
            unfold B_Mo_likes_141
            have hx := nX_lt hw r i
            obtain ⟨p1, p2⟩ := m_chr (t := 1) (i := i) (by omega) hl hcl hm hr h2 cl
            rw [if_neg (by
              simp (disch := omega) only [z_lt, z_le, z_eq, z_cl, z_ad, z_mu, z_sb, z_n1, z_em, z_me, z_lm, z_ml, z_mle, z_lme, z_ma, z_am, z_m2, not_false_eq_true, z_l0, z_l1, z_l2, z_l3, z_l4, z_l5, z_l6, z_l7, z_l8, z_l10, z_l14, z_l15, z_l16, z_l32, z_l80, z_l101, z_l120, z_l126, z_l127, z_l130, z_l160, z_l198, z_l200, z_l202, z_l240, z_l252, z_l253, z_l254, z_l255, z_l260, z_l480, z_l900, Mo_room, Mo_code, Mo_draft, Mo_drafted, Mo_source, Mo_fault, Mo_count, Mo_kind, Mo_tag, Mo_value, Mo_letters, Mo_parent, Mo_first, Mo_next, Mo_last, Mo_many, Mo_size, Mo_number, Mo_chars, Mo_held, Mo_fits, Mo_depth, Mo_node, Mo_end, Mo_loose, Mo_at, Mo_made, Mo_makes, Mo_line, Mo_timer, Mo_input, Mo_inputs, Mo_output, Mo_outputs, Mo_contexts, Mo_ids, Mo_services, Mo_results, Mo_wanted, Mo_command, Mo_commands, Mo_body, Mo_bodies, Mo_speaker, Mo_what, Mo_message, Mo_answered, Mo_records, Mo_kept, Mo_lengths, Mo_set_room, Mo_set_code, Mo_set_draft, Mo_set_drafted, Mo_set_source, Mo_set_fault, Mo_set_count, Mo_set_kind, Mo_set_tag, Mo_set_value, Mo_set_letters, Mo_set_parent, Mo_set_first, Mo_set_next, Mo_set_last, Mo_set_many, Mo_set_size, Mo_set_number, Mo_set_chars, Mo_set_held, Mo_set_fits, Mo_set_depth, Mo_set_node, Mo_set_end, Mo_set_loose, Mo_set_at, Mo_set_made, Mo_set_makes, Mo_set_line, Mo_set_timer, Mo_set_input, Mo_set_inputs, Mo_set_output, Mo_set_outputs, Mo_set_contexts, Mo_set_ids, Mo_set_services, Mo_set_results, Mo_set_wanted, Mo_set_command, Mo_set_commands, Mo_set_body, Mo_set_bodies, Mo_set_speaker, Mo_set_what, Mo_set_message, Mo_set_answered, Mo_set_records, Mo_set_kept, Mo_set_lengths, ua_s, ua_n, pk_us, pk_un]
              omega), if_neg p1, p2]
            by_cases ce : c = (nX md r).getD i 0
            · rw [if_pos (by rw [← ce])]
              exact hyes cl (by rw [hlk, hRi, decide_eq_true ce, Bool.or_true]; rfl)
            · rw [if_neg (by rw [z_eq (by omega) (by omega)]; exact ce)]
              exact hno (fun _ => by rw [hlk, decide_eq_false c63, decide_eq_false ce, Bool.or_false, Bool.and_false])
        · rw [if_pos (by rw [z_le (by omega) (by omega)]; omega)]
          exact hno (fun h => absurd h cl)
end MLK
