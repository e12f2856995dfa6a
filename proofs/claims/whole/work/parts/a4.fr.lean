/-! PURE: a fragment, class and model side by side -/
theorem fl_1 : ∀ f, f < 4 → ((nI f &&& 1 = 0) ↔ f % 2 = 0) := by decide +kernel
theorem fl_2 : ∀ f, f < 4 → ((nI f &&& 2 = 0) ↔ f < 2) := by decide +kernel
section XFG
variable {s0 : S_Rn} {I P : S_Bs} {C : S_Cs} {M : S_Mg} {s : S_Mo} {n m : Nat} {id sv re : Nat → Nat} {l q : List Nat} {st : Bool}
/-- what the model has when it took a fragment -/
def fgS (st : Bool) (c : Nat) (l : List Nat) (s s1 : S_Mo) : Prop := s1.1 15 = nI c ∧ (if st = true then s1.1 14 = nI l.length ∧ (∀ k, k < l.length → s1.2 27 k = nI (l.getD k 0)) else s1.1 13 = nI l.length ∧ s1.1 14 = nI 0 ∧ ∀ k, k < l.length → s1.2 26 k = nI (l.getD k 0)) ∧ (∀ i, i ≠ 13 → i ≠ 14 → i ≠ 15 → s1.1 i = s.1 i) ∧ ∀ j, j ≠ 26 → j ≠ 27 → s1.2 j = s.2 j
theorem cs_useless : F_Cs_isUsable C mI = some 0 := by
  unfold F_Cs_isUsable B_Cs_isUsable_0 F_Cs_has B_Cs_has_0
  rw [if_pos (by decide +kernel)]
  rfl
theorem mg_wants (hst : Mg_stage M = if st = true then nI 2 else nI 0) (set : Bool) (x : Int32) : F_Mg_wants M (if set = true then 1 else 0) x = some (if set = st ∧ (Mg_context M = mI ∨ Mg_context M = x) then 1 else 0) := by
  have h1 : F_Mg_wantsSet M = some (if st = true then 1 else 0) := by
    unfold F_Mg_wantsSet B_Mg_wantsSet_0
    rw [hst]
    cases st <;> rfl
  unfold F_Mg_wants B_Mg_wants_0
  rw [h1, Option.bind_some]
  have h8 : B_Mg_wants_8 M x = some (if Mg_context M = mI ∨ Mg_context M = x then 1 else 0) := by
    unfold B_Mg_wants_8
    by_cases a : Mg_context M = mI
    · rw [if_pos (show Mg_context M = (-1) from a), if_pos (.inl a)]
      rfl
    · rw [if_neg (show ¬ Mg_context M = (-1) from a)]
      unfold B_Mg_wants_16
      by_cases b : Mg_context M = x
      · rw [if_pos b, if_pos (.inr b)]
        rfl
      · rw [if_neg b, if_neg (fun h => h.elim a b)]
        rfl
  cases set <;> cases st
  · rw [if_pos rfl, h8]
    congr 1
    simp
  · rw [if_neg (by decide), if_neg (by simp)]
    rfl
  · rw [if_neg (by decide), if_neg (by simp)]
    rfl
  · rw [if_pos rfl, h8]
    congr 1
    simp
theorem x_frag (hq : rn I 202 q) (hqm : q.length = m + 2) (hm2 : m ≤ 200) (h21 : ∀ i, i < q.length → s.2 21 i = nI (q.getD i 0)) (hx : cxR C s n id sv re) (hP : rn P 200 l) (hcx : Mg_context M = s.1 15) (hsp : s.1 15 = mI ∨ ∃ c, c < n ∧ re c ≤ 1 ∧ s.1 15 = nI c) (hst : Mg_stage M = if st = true then nI 2 else nI 0) (h12 : s.1 12 = if st = true then nI 1 else nI 0) (hcnt : if st = true then s.1 14 = nI l.length ∧ (∀ k, k < l.length → s.2 27 k = nI (l.getD k 0)) else s.1 13 = nI l.length ∧ s.1 14 = nI 0 ∧ ∀ k, k < l.length → s.2 26 k = nI (l.getD k 0)) : (F_Rn_takeFragment s0 C I M P = some (0, M, P) ∧ F_Mo_fragment s (nI m) = some (0, s)) ∨ ∃ c P' s1, c < n ∧ re c ≤ 1 ∧ rn P' 200 (l ++ q.drop 4) ∧ F_Rn_takeFragment s0 C I M P = some (1, ((if 2 ≤ q.getD 3 0 then (if st = true then nI 3 else nI 1) else Mg_stage M), nI c, Mg_kind M, Mg_number M, Mg_hasSet M), P') ∧ F_Mo_fragment s (nI m) = (if 2 ≤ q.getD 3 0 then B_Mo_fragment_248 s1 (if st = true then 0 else 1) else some (1, s1)) ∧ fgS st c (l ++ q.drop 4) s s1 := by
  have n4 := hx.1
  have hlc := rn_cap hP
  have cl0 : F_Rn_takeFragment s0 C I M P = if (4 : Int32) ≤ nI (m + 2) then B_Rn_takeFragment_13 s0 C I M P else some (0, M, P) := by
    unfold F_Rn_takeFragment B_Rn_takeFragment_0
    rw [rn_count hq, hqm, Option.bind_some]
    rfl
  have mo0 : F_Mo_fragment s (nI m) = if (2 : Int32) ≤ nI m then B_Mo_fragment_9 s (nI m) else some (0, s) := by
    unfold F_Mo_fragment B_Mo_fragment_0 B_Mo_fragment_5 B_Mo_fragment_19
    rw [if_pos (by decide : (-1 : Int32) < 0)]
    rfl
  by_cases cm : 2 ≤ m
  · rw [if_pos (by rw [show (4 : Int32) = nI 4 from rfl, z_le (by omega) (by omega)]; omega)] at cl0
    rw [if_pos (by rw [show (2 : Int32) = nI 2 from rfl, z_le (by omega) (by omega)]; omega)] at mo0
    have b2 := hq.2 2
    have b3 := hq.2 3
    have cl1 : F_Rn_takeFragment s0 C I M P = (F_Cs_isUsable C (oI (cxF n id (nI (q.getD 2 0))))).bind fun o7 => if o7 = 0 then some (0, M, P) else B_Rn_takeFragment_49 s0 C I M P (oI (cxF n id (nI (q.getD 2 0)))) (nI (q.getD 3 0)) := by
      rw [cl0]
      unfold B_Rn_takeFragment_13
      rw [show F_Bs_get I (2 : Int32) = _ from rn_get hq (i := 2) (by omega), Option.bind_some, cs_find hx, Option.bind_some, show F_Bs_get I (3 : Int32) = _ from rn_get hq (i := 3) (by omega), Option.bind_some]
      rfl
    have mo1 : F_Mo_fragment s (nI m) = B_Mo_fragment_19 s (nI m) (oI (cxF n id (nI (q.getD 2 0)))) := by
      rw [mo0]
      unfold B_Mo_fragment_9
      rw [if_neg (by decide), show Mo_input s (2 : Int32).toNatClampNeg = nI (q.getD 2 0) from h21 2 (by omega), ms_find hx, Option.bind_some]
    cases hf : cxF n id (nI (q.getD 2 0)) with
    | none =>
      refine .inl ⟨?_, ?_⟩
      · rw [cl1, hf, show oI none = mI from rfl, cs_useless, Option.bind_some, if_pos rfl]
      · rw [mo1, hf]
        unfold B_Mo_fragment_19
        rw [if_pos (by decide +kernel)]
        rfl
    | some c =>
      have hc := cxF_lt hf
      have hre3 := (hx.2.2.2 c hc).2.2.1
      rw [hf, show oI (some c) = nI c from rfl, cs_usable hx hc, Option.bind_some] at cl1
      have mo2 : F_Mo_fragment s (nI m) = if (1 : Int32) < nI (re c) then some (0, s) else if nI (q.getD 3 0) ≤ (3 : Int32) then B_Mo_fragment_46 s (nI m) (nI c) else some (0, s) := by
        rw [mo1, hf, show oI (some c) = nI c from rfl]
        unfold B_Mo_fragment_19
        rw [if_neg (by show ¬ nI c < nI 0; rw [z_lt (by omega) (by omega)]; omega)]
        unfold B_Mo_fragment_24
        rw [z_cl (by omega), if_neg (by rw [show (0 : Int32) = nI 0 from rfl, z_lt (by omega) (by omega)]; omega), show Mo_results s c = nI (re c) from (hx.2.2.2 c hc).2.2.2.2.2.2.2.2]
        unfold B_Mo_fragment_34
        rw [if_neg (by decide : ¬ ((3 : Int32) < 0 ∨ 202 ≤ (3 : Int32).toNatClampNeg)), show Mo_input s (3 : Int32).toNatClampNeg = nI (q.getD 3 0) from h21 3 (by omega)]
        rfl
      by_cases cr : re c ≤ 1
      · rw [if_pos cr, if_neg (by decide)] at cl1
        rw [if_neg (by rw [show (1 : Int32) = nI 1 from rfl, z_lt (by omega) (by omega)]; omega)] at mo2
        unfold B_Rn_takeFragment_49 at cl1
        by_cases c3 : q.getD 3 0 ≤ 3
        · have z3 : nI (q.getD 3 0) ≤ (3 : Int32) := by rw [show (3 : Int32) = nI 3 from rfl, z_le (by omega) (by omega)]; exact c3
          rw [if_pos z3] at cl1 mo2
          -- which part it belongs to
          have cl2 : F_Rn_takeFragment s0 C I M P = (F_Mg_wants M (if decide (q.getD 3 0 % 2 = 0) = true then 1 else 0) (nI c)).bind fun o1 => if o1 = 0 then some (0, M, P) else B_Rn_takeFragment_80 s0 C I M P (nI c) (nI (q.getD 3 0)) := by
            rw [cl1]
            unfold B_Rn_takeFragment_56
            by_cases ev : q.getD 3 0 % 2 = 0
            · rw [if_pos ((fl_1 _ (by omega)).mpr ev), decide_eq_true ev, if_pos rfl]
              rfl
            · rw [if_neg (fun h => ev ((fl_1 _ (by omega)).mp h)), decide_eq_false ev, if_neg (by decide)]
              rfl
          rw [mg_wants hst, Option.bind_some] at cl2
          have mo3 : F_Mo_fragment s (nI m) = B_Mo_fragment_77 s (nI m) (nI c) (if decide (q.getD 3 0 % 2 = 0) = true then 0 else 1) (if st = true then 0 else 1) (if decide (q.getD 3 0 % 2 = 0) = true then 0 else 1) := by
            rw [mo2]
            unfold B_Mo_fragment_46
            rw [if_neg (by decide : ¬ ((3 : Int32) < 0 ∨ 202 ≤ (3 : Int32).toNatClampNeg)), show Mo_input s (3 : Int32).toNatClampNeg = nI (q.getD 3 0) from h21 3 (by omega), show (nI (q.getD 3 0) - nI (q.getD 3 0) / (2 : Int32) * (2 : Int32)) = nI (q.getD 3 0 % 2) from z_m2 _ b3]
            have e63 : ∀ y, B_Mo_fragment_63 s (nI m) (nI c) y = B_Mo_fragment_77 s (nI m) (nI c) y (if st = true then 0 else 1) y := by
              intro y
              unfold B_Mo_fragment_63
              rw [show Mo_wanted s = if st = true then nI 1 else nI 0 from h12]
              cases st <;> rfl
            by_cases ev : q.getD 3 0 % 2 = 0
            · rw [if_neg (by rw [ev]; decide), decide_eq_true ev, if_pos rfl]
              exact e63 0
            · rw [if_pos (by rw [show q.getD 3 0 % 2 = 1 by omega]; rfl), decide_eq_false ev, if_neg (by decide : ¬ false = true)]
              exact e63 1
          by_cases we : decide (q.getD 3 0 % 2 = 0) = st ∧ (Mg_context M = mI ∨ Mg_context M = nI c)
          · rw [if_pos we, if_neg (by decide)] at cl2
            rw [we.1] at mo3
            have mo4 : F_Mo_fragment s (nI m) = B_Mo_fragment_97 s (nI m) (nI c) (if st = true then 0 else 1) := by
              rw [mo3]
              unfold B_Mo_fragment_77
              rw [if_pos rfl]
              unfold B_Mo_fragment_80
              rcases we.2 with h | h
              · rw [if_pos (by show s.1 15 < 0; rw [← hcx, h]; decide +kernel)]
              · rw [if_neg (by show ¬ s.1 15 < nI 0; rw [← hcx, h, z_lt (by omega) (by omega)]; omega)]
                unfold B_Mo_fragment_87
                rw [if_pos (by show s.1 15 = nI c; rw [← hcx, h])]
            have mo5 : F_Mo_fragment s (nI m) = if nI l.length + nI (m - 2) ≤ (200 : Int32) then B_Mo_fragment_128 s (nI c) (if st = true then 0 else 1) (nI (m - 2)) else some (0, s) := by
              rw [mo4]
              unfold B_Mo_fragment_97
              rw [show nI m - (2 : Int32) = nI (m - 2) from z_sb (by omega)]
              cases st with
              | true =>
                rw [if_pos rfl] at hcnt
                rw [if_pos (rfl : true = true), if_pos rfl]
                unfold B_Mo_fragment_113 B_Mo_fragment_117
                rw [show Mo_bodies s = nI l.length from hcnt.1]
                rfl
              | false =>
                rw [if_neg (by decide)] at hcnt
                rw [if_neg (by decide : ¬ false = true), if_neg (by decide)]
                unfold B_Mo_fragment_106 B_Mo_fragment_117
                rw [show Mo_commands s = nI l.length from hcnt.1]
                rfl
            unfold B_Rn_takeFragment_80 at cl2
            rw [rn_count hq, Option.bind_some, hqm, show nI (m + 2) - (4 : Int32) = nI (m - 2) by rw [show (4 : Int32) = nI 4 from rfl, z_sb (by omega), show m + 2 - 4 = m - 2 by omega], rn_room hP (by omega), Option.bind_some] at cl2
            by_cases ro : m - 2 + l.length ≤ 200
            · rw [if_pos ro, if_neg (by decide)] at cl2
              rw [if_pos (by rw [z_ad, show (200 : Int32) = nI 200 from rfl, z_le (by omega) (by omega)]; omega)] at mo5
              obtain ⟨P', e1, r1⟩ := c_fragLoop (s0 := s0) (C := C) (M := M) (x1 := nI c) (x2 := nI (q.getD 3 0)) hq (m - 2) 4 FU P l (by omega) (by unfold FU; omega) hP (by omega)
              have cl3 : F_Rn_takeFragment s0 C I M P = some (1, ((if 2 ≤ q.getD 3 0 then (if st = true then nI 3 else nI 1) else Mg_stage M), nI c, Mg_kind M, Mg_number M, Mg_hasSet M), P') := by
                rw [cl2]
                unfold B_Rn_takeFragment_101 L_Rn_takeFragment_104
                rw [show (4 : Int32) = nI 4 from rfl, e1]
                unfold B_Rn_takeFragment_138
                by_cases la : 2 ≤ q.getD 3 0
                · rw [if_neg (fun h => by have := (fl_2 _ (by omega)).mp h; omega), if_pos la]
                  unfold B_Rn_takeFragment_149 B_Rn_takeFragment_154 F_Mg_addFragment B_Mg_addFragment_0
                  rw [if_neg (by decide : ¬ (1 : Int32) = 0)]
                  unfold B_Mg_addFragment_9
                  rw [show Mg_stage (Mg_set_context M (nI c)) = Mg_stage M from rfl, hst]
                  cases st <;> rfl
                · rw [if_pos ((fl_2 _ (by omega)).mpr (by omega)), if_neg la]
                  rfl
              have la2 : ((2 : Int32) ≤ nI (q.getD 3 0)) ↔ 2 ≤ q.getD 3 0 := by rw [show (2 : Int32) = nI 2 from rfl, z_le (by omega) (by omega)]
              cases st with
              | true =>
                rw [if_pos rfl] at hcnt
                obtain ⟨s1, g1, g2, g3, g4, g5, g6⟩ := m_frag0 hqm cm hm2 h21 hcnt.1 hcnt.2 (by omega) c
                refine .inr ⟨c, P', s1, hc, cr, r1, cl3, ?_, g2, ?_, g5, fun j _ h => g6 j h⟩
                · rw [mo5, if_pos (rfl : true = true), g1]
                  simp only [la2]
                · rw [if_pos rfl]
                  exact ⟨g3, g4⟩
              | false =>
                rw [if_neg (by decide)] at hcnt
                obtain ⟨s1, g1, g2, g3, g4, g5, g6, g7⟩ := m_frag1 hqm cm hm2 h21 hcnt.1 hcnt.2.1 hcnt.2.2 (by omega) c
                refine .inr ⟨c, P', s1, hc, cr, r1, cl3, ?_, g2, ?_, g6, fun j h _ => g7 j h⟩
                · rw [mo5, if_neg (by decide : ¬ false = true), g1]
                  simp only [la2]
                · rw [if_neg (by decide)]
                  exact ⟨g3, g4, g5⟩
            · rw [if_neg ro, if_pos rfl] at cl2
              rw [if_neg (by rw [z_ad, show (200 : Int32) = nI 200 from rfl, z_le (by omega) (by omega)]; omega)] at mo5
              exact .inl ⟨cl2, mo5⟩
          · rw [if_neg we, if_pos rfl] at cl2
            refine .inl ⟨cl2, ?_⟩
            rw [mo3]
            unfold B_Mo_fragment_77
            by_cases e1 : decide (q.getD 3 0 % 2 = 0) = st
            · rw [e1, if_pos rfl]
              unfold B_Mo_fragment_80
              have nc : ¬ s.1 15 = mI := fun h => we ⟨e1, .inl (by rw [hcx, h])⟩
              have nc2 : ¬ s.1 15 = nI c := fun h => we ⟨e1, .inr (by rw [hcx, h])⟩
              rcases hsp with h | ⟨d, d1, d2, d3⟩
              · exact absurd h nc
              · rw [if_neg (by show ¬ s.1 15 < nI 0; rw [d3, z_lt (by omega) (by omega)]; omega)]
                unfold B_Mo_fragment_87
                rw [if_neg (show ¬ Mo_speaker s = nI c from nc2)]
                rfl
            · rw [if_neg (by
                cases st <;> cases hd : decide (q.getD 3 0 % 2 = 0)
                · exact absurd hd e1
                · decide
                · decide
                · exact absurd hd e1)]
              rfl
        · have z3 : ¬ nI (q.getD 3 0) ≤ (3 : Int32) := by rw [show (3 : Int32) = nI 3 from rfl, z_le (by omega) (by omega)]; exact c3
          rw [if_neg z3] at cl1 mo2
          exact .inl ⟨cl1, mo2⟩
      · rw [if_neg cr, if_pos rfl] at cl1
        rw [if_pos (by rw [show (1 : Int32) = nI 1 from rfl, z_lt (by omega) (by omega)]; omega)] at mo2
        exact .inl ⟨cl1, mo2⟩
  · rw [if_neg (by rw [show (4 : Int32) = nI 4 from rfl, z_le (by omega) (by omega)]; omega)] at cl0
    rw [if_neg (by rw [show (2 : Int32) = nI 2 from rfl, z_le (by omega) (by omega)]; omega)] at mo0
    exact .inl ⟨cl0, mo0⟩
end XFG
