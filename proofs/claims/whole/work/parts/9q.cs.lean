/-! PURE: the class's store -/
section CST
variable {s0 : S_Rn} {s1 s2 : S_Bs} {s3 : S_Rd} {T : S_Tr} {R : S_Rs} {nd : List Nd} {n room cap : Nat} {Nm B : Nat → List Nat} {l1 l2 : List Nat}
theorem c_store (hT : tR T nd) (hX : ∀ x ∈ nd, okX x) (hr : nG nd 0 = (0, 254, 0, [])) (h1 : rn s1 cap l1) (hcap : 300 ≤ cap) (h2 : rn s2 16 l2) (hR : cRs R room n Nm B) : ∃ s1' s2', (∃ l, rn s1' cap l) ∧ (∃ l, rn s2' 16 l) ∧ ((¬ (fitA 0 nd (nd.length - 1) = true ∧ (cB 0 nd (nd.length - 1)).length ≤ 198) ∧ F_Rn_store s0 s1 s2 s3 T R = some (3, s1', s2', R)) ∨ ((fitA 0 nd (nd.length - 1) = true ∧ (cB 0 nd (nd.length - 1)).length ≤ 198) ∧ nmO nd = none ∧ F_Rn_store s0 s1 s2 s3 T R = some (4, s1', s2', R)) ∨ ∃ e, kep (cB 0 nd (nd.length - 1)) nd ∧ nmO nd = some e ∧ ((plN Nm (nX nd e) n 0 = room ∧ F_Rn_store s0 s1 s2 s3 T R = some (5, s1', s2', R)) ∨ (plN Nm (nX nd e) n 0 ≠ room ∧ ∃ R', F_Rn_store s0 s1 s2 s3 T R = some (0, s1', s2', R') ∧ cRs R' room (if plN Nm (nX nd e) n 0 = n then n + 1 else n) (fun k => if k = plN Nm (nX nd e) n 0 then nX nd e else Nm k) (fun k => if k = plN Nm (nX nd e) n 0 then cB 0 nd (nd.length - 1) else B k)))) := by
  obtain ⟨w, tg, bh, vs, ls, cs, rfl, hT, hB, hC⟩ := hT
  have l101 := w.2.2.2.2.1
  have g := w.2.2.2.1
  have hle := wS_any (syn := 0) (nd := nd) (by omega) w.2.2.2.2.2.2.1 (by omega)
  obtain ⟨b', e1, ⟨lq, q1⟩, q2⟩ := c_writeAll (syn := 0) w.1 w.2.1 l101 g w.2.2.2.2.2.1 hT hB hC (by omega) h1 (by omega)
  have hF : F_Rn_store s0 s1 s2 s3 (tg, bh, vs, ls, cs, nI nd.length, nI (ch nd).length) R = if (if fitA 0 nd (nd.length - 1) = true then (1 : Int32) else 0) = 0 then some (3, b', s2, R) else B_Rn_store_20 s0 s3 (tg, bh, vs, ls, cs, nI nd.length, nI (ch nd).length) b' s2 R := by
    unfold F_Rn_store B_Rn_store_0
    rw [show F_Rd_tree s3 = some () from rfl, Option.bind_some, show F_Tr_writeAll (tg, bh, vs, ls, cs, nI nd.length, nI (ch nd).length) s1 0 = _ from e1, Option.bind_some]
    rfl
  by_cases cf : fitA 0 nd (nd.length - 1) = true
  · rw [if_pos cf, if_neg (by decide : ¬ (1 : Int32) = 0)] at hF
    have q2 := q2 cf
    have hlc := cB_len (syn := 0) (nd := nd) (nd.length - 1)
    unfold B_Rn_store_20 at hF
    rw [rn_count q2, Option.bind_some] at hF
    by_cases cl : (cB 0 nd (nd.length - 1)).length ≤ 198
    · rw [if_pos (by simp (disch := omega) only [z_lt, z_le, z_eq, z_cl, z_ad, z_mu, z_sb, z_n1, z_em, z_me, z_lm, z_ml, z_mle, z_lme, z_ma, z_am, z_m2, not_false_eq_true, z_l0, z_l1, z_l2, z_l3, z_l4, z_l5, z_l6, z_l7, z_l8, z_l10, z_l14, z_l15, z_l16, z_l32, z_l80, z_l101, z_l120, z_l126, z_l127, z_l130, z_l160, z_l198, z_l200, z_l202, z_l240, z_l252, z_l253, z_l254, z_l255, z_l260, z_l480, z_l900, Rd_nodes, Rd_ends, Rd_isOpen, Rd_counts, Rd_lastTags, Rd_syntax, Rd_position, Rd_level, Rd_result, Rd_set_nodes, Rd_set_ends, Rd_set_isOpen, Rd_set_counts, Rd_set_lastTags, Rd_set_syntax, Rd_set_position, Rd_set_level, Rd_set_result, Tr_tags, Tr_behind, Tr_values, Tr_lengths, Tr_characters, Tr_count, Tr_characterCount, Tr_set_tags, Tr_set_behind, Tr_set_values, Tr_set_lengths, Tr_set_characters, Tr_set_count, Tr_set_characterCount, Bs_n, Bs_values, Bs_count, Bs_set_n, Bs_set_values, Bs_set_count] <;> omega)] at hF
      have hk : kep (cB 0 nd (nd.length - 1)) nd := ⟨w, hX, hr, cf, rfl, cl⟩
      have h10 : (kds nd 0).length ≤ 10 := by
        rw [kds_wf w g]
        exact (w.2.2.1 0 g).2.1
      unfold B_Rn_store_35 at hF
      rw [show F_Tr_find (tg, bh, vs, ls, cs, nI nd.length, nI (ch nd).length) 0 80 = _ from c_find (k := 0) (g := 80) w.1 l101 hT hB (by omega) g h10, Option.bind_some] at hF
      cases hf : fnd nd (kds nd 0) 80 with
      | none =>
        rw [hf, if_pos (by decide +kernel)] at hF
        exact ⟨b', s2, ⟨_, q2⟩, ⟨_, h2⟩, .inr (.inl ⟨⟨cf, cl⟩, by unfold nmO; rw [hf], hF⟩)⟩
      | some e =>
        have p1 : nT nd e = 80 := by simpa using List.find?_some hf
        have p2 := List.mem_of_find?_eq_some hf
        rw [kds_wf w g] at p2
        have he := (kf_mem p2).1
        have hk2 : kd (nT nd e) = 2 := by rw [p1]; rfl
        have h16 : (nX nd e).length ≤ 16 := ((w.1 _ (nG_mem he)).2.1 hk2).1
        rw [hf, show oI (some e) = nI e from rfl, if_neg (by show ¬ nI e = mI; simp (disch := omega) only [z_lt, z_le, z_eq, z_cl, z_ad, z_mu, z_sb, z_n1, z_em, z_me, z_lm, z_ml, z_mle, z_lme, z_ma, z_am, z_m2, not_false_eq_true, z_l0, z_l1, z_l2, z_l3, z_l4, z_l5, z_l6, z_l7, z_l8, z_l10, z_l14, z_l15, z_l16, z_l32, z_l80, z_l101, z_l120, z_l126, z_l127, z_l130, z_l160, z_l198, z_l200, z_l202, z_l240, z_l252, z_l253, z_l254, z_l255, z_l260, z_l480, z_l900, Rd_nodes, Rd_ends, Rd_isOpen, Rd_counts, Rd_lastTags, Rd_syntax, Rd_position, Rd_level, Rd_result, Rd_set_nodes, Rd_set_ends, Rd_set_isOpen, Rd_set_counts, Rd_set_lastTags, Rd_set_syntax, Rd_set_position, Rd_set_level, Rd_set_result, Tr_tags, Tr_behind, Tr_values, Tr_lengths, Tr_characters, Tr_count, Tr_characterCount, Tr_set_tags, Tr_set_behind, Tr_set_values, Tr_set_lengths, Tr_set_characters, Tr_set_count, Tr_set_characterCount, Bs_n, Bs_values, Bs_count, Bs_set_n, Bs_set_values, Bs_set_count])] at hF
        unfold B_Rn_store_48 at hF
        rw [c_textLength l101 hT he, Option.bind_some, show xl nd e = (nX nd e).length by unfold xl; rw [if_neg (by omega), if_pos hk2]] at hF
        by_cases z : (nX nd e).length = 0
        · rw [if_pos (by rw [z]; rfl)] at hF
          exact ⟨b', s2, ⟨_, q2⟩, ⟨_, h2⟩, .inr (.inl ⟨⟨cf, cl⟩, by unfold nmO; rw [hf]; dsimp only; rw [if_neg (by omega)], hF⟩)⟩
        · rw [if_neg (by simp (disch := omega) only [z_lt, z_le, z_eq, z_cl, z_ad, z_mu, z_sb, z_n1, z_em, z_me, z_lm, z_ml, z_mle, z_lme, z_ma, z_am, z_m2, not_false_eq_true, z_l0, z_l1, z_l2, z_l3, z_l4, z_l5, z_l6, z_l7, z_l8, z_l10, z_l14, z_l15, z_l16, z_l32, z_l80, z_l101, z_l120, z_l126, z_l127, z_l130, z_l160, z_l198, z_l200, z_l202, z_l240, z_l252, z_l253, z_l254, z_l255, z_l260, z_l480, z_l900, Rd_nodes, Rd_ends, Rd_isOpen, Rd_counts, Rd_lastTags, Rd_syntax, Rd_position, Rd_level, Rd_result, Rd_set_nodes, Rd_set_ends, Rd_set_isOpen, Rd_set_counts, Rd_set_lastTags, Rd_set_syntax, Rd_set_position, Rd_set_level, Rd_set_result, Tr_tags, Tr_behind, Tr_values, Tr_lengths, Tr_characters, Tr_count, Tr_characterCount, Tr_set_tags, Tr_set_behind, Tr_set_values, Tr_set_lengths, Tr_set_characters, Tr_set_count, Tr_set_characterCount, Bs_n, Bs_values, Bs_count, Bs_set_n, Bs_set_values, Bs_set_count, z])] at hF
          unfold B_Rn_store_58 at hF
          obtain ⟨b2, e2, r2⟩ := rn_reset h2
          obtain ⟨b3, e3, r3⟩ := c_copyText w.1 l101 w.2.2.2.2.2.1 hT hC he hk2 r2 (by simpa using h16)
          rw [List.nil_append] at r3
          obtain ⟨R', e4, k1, k2⟩ := c_keep hR r3 q2 cl
          rw [e2, Option.bind_some, e3, Option.bind_some, e4, Option.bind_some] at hF
          refine ⟨b', b3, ⟨_, q2⟩, ⟨_, r3⟩, .inr (.inr ⟨e, hk, by unfold nmO; rw [hf]; dsimp only; rw [if_pos (by omega)], ?_⟩)⟩
          by_cases c : plN Nm (nX nd e) n 0 = room
          · left
            rw [if_pos c, if_pos rfl, k1 c] at hF
            exact ⟨c, hF⟩
          · right
            rw [if_neg c, if_neg (by decide : ¬ (1 : Int32) = 0)] at hF
            exact ⟨c, R', hF, k2 c⟩
    · rw [if_neg (by simp (disch := omega) only [z_lt, z_le, z_eq, z_cl, z_ad, z_mu, z_sb, z_n1, z_em, z_me, z_lm, z_ml, z_mle, z_lme, z_ma, z_am, z_m2, not_false_eq_true, z_l0, z_l1, z_l2, z_l3, z_l4, z_l5, z_l6, z_l7, z_l8, z_l10, z_l14, z_l15, z_l16, z_l32, z_l80, z_l101, z_l120, z_l126, z_l127, z_l130, z_l160, z_l198, z_l200, z_l202, z_l240, z_l252, z_l253, z_l254, z_l255, z_l260, z_l480, z_l900, Rd_nodes, Rd_ends, Rd_isOpen, Rd_counts, Rd_lastTags, Rd_syntax, Rd_position, Rd_level, Rd_result, Rd_set_nodes, Rd_set_ends, Rd_set_isOpen, Rd_set_counts, Rd_set_lastTags, Rd_set_syntax, Rd_set_position, Rd_set_level, Rd_set_result, Tr_tags, Tr_behind, Tr_values, Tr_lengths, Tr_characters, Tr_count, Tr_characterCount, Tr_set_tags, Tr_set_behind, Tr_set_values, Tr_set_lengths, Tr_set_characters, Tr_set_count, Tr_set_characterCount, Bs_n, Bs_values, Bs_count, Bs_set_n, Bs_set_values, Bs_set_count] <;> omega)] at hF
      exact ⟨b', s2, ⟨_, q2⟩, ⟨_, h2⟩, .inl ⟨fun h => cl h.2, hF⟩⟩
  · rw [if_neg cf, if_pos rfl] at hF
    exact ⟨b', s2, ⟨_, q1⟩, ⟨_, h2⟩, .inl ⟨fun h => cf h.1, hF⟩⟩
end CST
