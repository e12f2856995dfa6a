/-! PURE: the model's store -/
def mSF (s s' : S_Mo) : Prop := (∀ i, i ≠ 3 → i ≠ 4 → i ≠ 5 → i ≠ 6 → i ≠ 19 → s'.1 i = s.1 i) ∧ ∀ j, j = 0 ∨ 21 ≤ j → j ≠ 28 → j ≠ 29 → s'.2 j = s.2 j
theorem mSF_c {s s' : S_Mo} (h : mOC s s') : mSF s s' := ⟨fun i _ _ _ h6 _ => h.1 i h6, fun j hj _ _ => h.2 j (by omega) (by omega)⟩
theorem mRec_c {s s' : S_Mo} {n : Nat} {B : Nat → List Nat} {N : Nat → List Nd} (h : mOC s s') (hr : mRec s n B N) : mRec s' n B N := by
  obtain ⟨r1, r2, r3⟩ := hr
  refine ⟨(h.1 19 (by omega)).trans r1, r2, fun k hk => ?_⟩
  obtain ⟨a, b, c⟩ := r3 k hk
  exact ⟨a, by rw [h.2 29 (by omega) (by omega)]; exact b, fun i hi => by rw [h.2 28 (by omega) (by omega)]; exact c i hi⟩
theorem nmO_is {nd : List Nd} (w : wfT nd) {e : Nat} (he : nmO nd = some e) : e < nd.length ∧ kd (nT nd e) = 2 ∧ nT nd e = 80 := by
  unfold nmO at he
  split at he
  · cases he
  · rename_i e' h'
    split at he
    · cases he
      have h1 := List.find?_some h'
      have h2 := List.mem_of_find?_eq_some h'
      rw [kds_wf w w.2.2.2.1] at h2
      have h3 := (kf_mem h2).1
      have h1 : nT nd e = 80 := by simpa using h1
      exact ⟨h3, by rw [h1]; rfl, h1⟩
    · cases he
section MSO
variable {s : S_Mo} {nd : List Nd} {n room : Nat} {B : Nat → List Nat} {N : Nat → List Nd}
theorem m_store (w : wfT nd) (hX : ∀ x ∈ nd, okX x) (hr : nG nd 0 = (0, 254, 0, [])) (hm : mtr s.2 0 nd) (hR : mRec s n B N) (h0 : s.1 0 = nI room) (hnr : n ≤ room) (hr8 : room ≤ 8) : (¬ (fitA 0 nd (nd.length - 1) = true ∧ (cB 0 nd (nd.length - 1)).length ≤ 198) ∧ ∃ s', F_Mo_store s 1 = B_Mo_store_227 s' 3 ∧ mSF s s' ∧ mRec s' n B N) ∨ ((fitA 0 nd (nd.length - 1) = true ∧ (cB 0 nd (nd.length - 1)).length ≤ 198) ∧ nmO nd = none ∧ ∃ s', F_Mo_store s 1 = B_Mo_store_227 s' 4 ∧ mSF s s' ∧ mRec s' n B N) ∨ ∃ e, kep (cB 0 nd (nd.length - 1)) nd ∧ nmO nd = some e ∧ ((plF N (nX nd e) n 0 = room ∧ ∃ s', F_Mo_store s 1 = B_Mo_store_227 s' 5 ∧ mSF s s' ∧ mRec s' n B N) ∨ (plF N (nX nd e) n 0 ≠ room ∧ ∃ s', F_Mo_store s 1 = B_Mo_store_227 s' 0 ∧ mSF s s' ∧ mRec s' (if plF N (nX nd e) n 0 = n then n + 1 else n) (fun k => if k = plF N (nX nd e) n 0 then cB 0 nd (nd.length - 1) else B k) (fun k => if k = plF N (nX nd e) n 0 then nd else N k))) := by
  have g := w.2.2.2.1
  have hb0 := wf_b0 w
  obtain ⟨s1, e1, o1, m1⟩ := m_canonical (t := 0) (syn := 0) (by omega) (by omega) w hm
  have hm1 : mtr s1.2 0 nd := mtr_c hm (fun j hj => o1.2 j (by omega) (by omega))
  have hF : F_Mo_store s 1 = if (if fitA 0 nd (nd.length - 1) = true then (1 : Int32) else 0) = 0 then B_Mo_store_27 s1 else B_Mo_store_13 s1 := by
    unfold F_Mo_store B_Mo_store_0
    rw [if_neg (by decide : ¬ (1 : Int32) = 0)]
    unfold B_Mo_store_4
    rw [show F_Mo_canonical s 0 0 = _ from e1, Option.bind_some]
  by_cases cf : fitA 0 nd (nd.length - 1) = true
  · rw [if_pos cf, if_neg (by decide : ¬ (1 : Int32) = 0)] at hF
    have m1 := m1 cf
    have h6 := m1.2.1
    have h1000 := m1.1
    by_cases cl : (cB 0 nd (nd.length - 1)).length ≤ 198
    · right
      have hk : kep (cB 0 nd (nd.length - 1)) nd := ⟨w, hX, hr, cf, rfl, cl⟩
      have a8 := (hm1.2.2.1 0 g).2.2.2.2.2.2.1
      have e13 : B_Mo_store_13 s1 = B_Mo_store_102 s1 1 0 (nmI (nmO nd)) := by
        unfold B_Mo_store_13
        rw [if_neg (by show ¬ (198 : Int32) < s1.1 6; rw [h6]; simp (disch := omega) only [z_lt, z_le, z_eq, z_cl, z_ad, z_mu, z_sb, z_n1, z_em, z_me, z_lm, z_ml, z_mle, z_lme, z_ma, z_am, z_m2, not_false_eq_true, z_l0, z_l1, z_l2, z_l3, z_l4, z_l5, z_l6, z_l7, z_l8, z_l10, z_l14, z_l15, z_l16, z_l32, z_l80, z_l101, z_l120, z_l126, z_l127, z_l130, z_l160, z_l198, z_l200, z_l202, z_l240, z_l252, z_l253, z_l254, z_l255, z_l260, z_l480, z_l900, Rd_nodes, Rd_ends, Rd_isOpen, Rd_counts, Rd_lastTags, Rd_syntax, Rd_position, Rd_level, Rd_result, Rd_set_nodes, Rd_set_ends, Rd_set_isOpen, Rd_set_counts, Rd_set_lastTags, Rd_set_syntax, Rd_set_position, Rd_set_level, Rd_set_result, Tr_tags, Tr_behind, Tr_values, Tr_lengths, Tr_characters, Tr_count, Tr_characterCount, Tr_set_tags, Tr_set_behind, Tr_set_values, Tr_set_lengths, Tr_set_characters, Tr_set_count, Tr_set_characterCount, Bs_n, Bs_values, Bs_count, Bs_set_n, Bs_set_values, Bs_set_count] <;> omega)]
        unfold B_Mo_store_23 B_Mo_store_28 B_Mo_store_37 B_Mo_store_38
        rw [if_neg (by decide : ¬ (1 : Int32) = 0), if_neg (by decide +kernel), show (Mo_first s1) (0 : Int32).toNatClampNeg = fiI 0 nd 0 from a8, fiI_kid g, hb0.1]
        have := m_storeName w hm1 nd.length (0 + 1) FU none (by omega) (by omega) g (fun h => by
          have hn0 := (w.2.2.1 0 g).1.2.2.2.2 (by omega)
          have hn1 := (w.2.2.1 (0 + 1) (by omega)).1.2.1 (by omega)
          omega) (by have := w.2.2.2.2.1; unfold FU; omega)
        rw [show kdsF nd nd.length nd.length (0 + 1) = kds nd 0 by unfold kds; rw [hb0.1], nmF_O w] at this
        exact this
      rw [e13] at hF
      cases ho : nmO nd with
      | none =>
        left
        refine ⟨⟨cf, cl⟩, rfl, s1, ?_, mSF_c o1, mRec_c o1 hR⟩
        rw [hF, ho]
        unfold B_Mo_store_102 B_Mo_store_106 B_Mo_store_111 B_Mo_store_113 B_Mo_store_117
        rw [if_neg (by decide : ¬ (1 : Int32) = 0), if_neg (by decide +kernel), if_neg (by decide : ¬ (1 : Int32) = 0), if_pos (by decide +kernel)]
      | some e =>
        right
        obtain ⟨he, hk2, _⟩ := nmO_is w ho
        have l1 := w.2.2.2.2.1
        refine ⟨e, hk, rfl, ?_⟩
        obtain ⟨s2, e2, o2⟩ := m_placeOf (n := n) (B := B) (N := N) w he hk2 n 0 FU s1 (by omega) (by have := hR.2.1; unfold FU; omega) hm1 (mRec_c o1 hR)
        have hp := plF_le (N := N) (x := nX nd e) n 0
        have hR2 := mRec_l o2 (mRec_c o1 hR)
        have hm2 := o2.2.2 nd l1 w.2.2.2.2.2.1 hm1
        have f2 : mSF s s2 := ⟨fun i h3 h4 h5 h6 h19 => by rw [o2.1 i h3 h4 h5, o1.1 i h6], fun j hj h28 h29 => by rw [o2.2.1 j (by omega), o1.2 j (by omega) (by omega)]⟩
        have r2 : Mo_room s2 = nI room := by
          show s2.1 0 = _
          rw [f2.1 0 (by omega) (by omega) (by omega) (by omega) (by omega), h0]
        have hF2 : F_Mo_store s 1 = if nI (plF N (nX nd e) n 0) = nI room then B_Mo_store_139 s2 else B_Mo_store_144 s2 0 (nI (plF N (nX nd e) n 0)) := by
          rw [hF, ho]
          unfold B_Mo_store_102 B_Mo_store_106 B_Mo_store_113 B_Mo_store_117
          show (if (1 : Int32) = 0 then _ else if 0 ≤ nI (130 * 0 + e) then _ else _) = _
          rw [if_neg (by decide : ¬ (1 : Int32) = 0), if_pos (by simp (disch := omega) only [z_lt, z_le, z_eq, z_cl, z_ad, z_mu, z_sb, z_n1, z_em, z_me, z_lm, z_ml, z_mle, z_lme, z_ma, z_am, z_m2, not_false_eq_true, z_l0, z_l1, z_l2, z_l3, z_l4, z_l5, z_l6, z_l7, z_l8, z_l10, z_l14, z_l15, z_l16, z_l32, z_l80, z_l101, z_l120, z_l126, z_l127, z_l130, z_l160, z_l198, z_l200, z_l202, z_l240, z_l252, z_l253, z_l254, z_l255, z_l260, z_l480, z_l900, Rd_nodes, Rd_ends, Rd_isOpen, Rd_counts, Rd_lastTags, Rd_syntax, Rd_position, Rd_level, Rd_result, Rd_set_nodes, Rd_set_ends, Rd_set_isOpen, Rd_set_counts, Rd_set_lastTags, Rd_set_syntax, Rd_set_position, Rd_set_level, Rd_set_result, Tr_tags, Tr_behind, Tr_values, Tr_lengths, Tr_characters, Tr_count, Tr_characterCount, Tr_set_tags, Tr_set_behind, Tr_set_values, Tr_set_lengths, Tr_set_characters, Tr_set_count, Tr_set_characterCount, Bs_n, Bs_values, Bs_count, Bs_set_n, Bs_set_values, Bs_set_count] <;> omega), if_neg (by decide : ¬ (1 : Int32) = 0)]
          rw [show nmI (some e) = nI (130 * 0 + e) from rfl]
          rw [if_neg (by first | omega | (simp (disch := omega) only [z_lt, z_le, z_eq, z_cl, z_ad, z_mu, z_sb, z_n1, z_em, z_me, z_lm, z_ml, z_mle, z_lme, z_ma, z_am, z_m2, not_false_eq_true, z_l0, z_l1, z_l2, z_l3, z_l4, z_l5, z_l6, z_l7, z_l8, z_l10, z_l14, z_l15, z_l16, z_l32, z_l80, z_l101, z_l120, z_l126, z_l127, z_l130, z_l160, z_l198, z_l200, z_l202, z_l240, z_l252, z_l253, z_l254, z_l255, z_l260, z_l480, z_l900, Rd_nodes, Rd_ends, Rd_isOpen, Rd_counts, Rd_lastTags, Rd_syntax, Rd_position, Rd_level, Rd_result, Rd_set_nodes, Rd_set_ends, Rd_set_isOpen, Rd_set_counts, Rd_set_lastTags, Rd_set_syntax, Rd_set_position, Rd_set_level, Rd_set_result, Tr_tags, Tr_behind, Tr_values, Tr_lengths, Tr_characters, Tr_count, Tr_characterCount, Tr_set_tags, Tr_set_behind, Tr_set_values, Tr_set_lengths, Tr_set_characters, Tr_set_count, Tr_set_characterCount, Bs_n, Bs_values, Bs_count, Bs_set_n, Bs_set_values, Bs_set_count] <;> omega))]
          unfold B_Mo_store_122 F_Mo_placeOf B_Mo_placeOf_0 L_Mo_placeOf_2
          rw [show lp (fun k2 v => B_Mo_placeOf_2 k2 v.1 v.2.1 v.2.2) FU (s1, nI (130 * 0 + e), 0) = _ from e2, Option.bind_some, r2]
        by_cases c : plF N (nX nd e) n 0 = room
        · left
          rw [if_pos (by rw [c])] at hF2
          exact ⟨c, s2, hF2, f2, hR2⟩
        · right
          rw [if_neg (by simp (disch := omega) only [z_lt, z_le, z_eq, z_cl, z_ad, z_mu, z_sb, z_n1, z_em, z_me, z_lm, z_ml, z_mle, z_lme, z_ma, z_am, z_m2, not_false_eq_true, z_l0, z_l1, z_l2, z_l3, z_l4, z_l5, z_l6, z_l7, z_l8, z_l10, z_l14, z_l15, z_l16, z_l32, z_l80, z_l101, z_l120, z_l126, z_l127, z_l130, z_l160, z_l198, z_l200, z_l202, z_l240, z_l252, z_l253, z_l254, z_l255, z_l260, z_l480, z_l900, Rd_nodes, Rd_ends, Rd_isOpen, Rd_counts, Rd_lastTags, Rd_syntax, Rd_position, Rd_level, Rd_result, Rd_set_nodes, Rd_set_ends, Rd_set_isOpen, Rd_set_counts, Rd_set_lastTags, Rd_set_syntax, Rd_set_position, Rd_set_level, Rd_set_result, Tr_tags, Tr_behind, Tr_values, Tr_lengths, Tr_characters, Tr_count, Tr_characterCount, Tr_set_tags, Tr_set_behind, Tr_set_values, Tr_set_lengths, Tr_set_characters, Tr_set_count, Tr_set_characterCount, Bs_n, Bs_values, Bs_count, Bs_set_n, Bs_set_values, Bs_set_count, c])] at hF2
          obtain ⟨s3, e3, a1, a2, a3⟩ := m_storePut (x3 := 0) hm2 hk hR2 (p := plF N (nX nd e) n 0) (by omega) (by omega)
          exact ⟨c, s3, hF2.trans e3, ⟨fun i h3 h4 h5 h6 h19 => by rw [a2 i h6 h19, f2.1 i h3 h4 h5 h6 h19], fun j hj h28 h29 => by rw [a3 j (by omega) (by omega) h28 h29, f2.2 j hj h28 h29]⟩, a1⟩
    · left
      refine ⟨fun h => cl h.2, s1, ?_, mSF_c o1, mRec_c o1 hR⟩
      rw [hF]
      unfold B_Mo_store_13
      rw [if_pos (by show (198 : Int32) < s1.1 6; rw [h6]; simp (disch := omega) only [z_lt, z_le, z_eq, z_cl, z_ad, z_mu, z_sb, z_n1, z_em, z_me, z_lm, z_ml, z_mle, z_lme, z_ma, z_am, z_m2, not_false_eq_true, z_l0, z_l1, z_l2, z_l3, z_l4, z_l5, z_l6, z_l7, z_l8, z_l10, z_l14, z_l15, z_l16, z_l32, z_l80, z_l101, z_l120, z_l126, z_l127, z_l130, z_l160, z_l198, z_l200, z_l202, z_l240, z_l252, z_l253, z_l254, z_l255, z_l260, z_l480, z_l900, Rd_nodes, Rd_ends, Rd_isOpen, Rd_counts, Rd_lastTags, Rd_syntax, Rd_position, Rd_level, Rd_result, Rd_set_nodes, Rd_set_ends, Rd_set_isOpen, Rd_set_counts, Rd_set_lastTags, Rd_set_syntax, Rd_set_position, Rd_set_level, Rd_set_result, Tr_tags, Tr_behind, Tr_values, Tr_lengths, Tr_characters, Tr_count, Tr_characterCount, Tr_set_tags, Tr_set_behind, Tr_set_values, Tr_set_lengths, Tr_set_characters, Tr_set_count, Tr_set_characterCount, Bs_n, Bs_values, Bs_count, Bs_set_n, Bs_set_values, Bs_set_count] <;> omega), m_store27]
  · rw [if_neg cf, if_pos rfl] at hF
    left
    exact ⟨fun h => cf h.1, s1, by rw [hF, m_store27], mSF_c o1, mRec_c o1 hR⟩
end MSO
