/-! PURE: more calls, class and model side by side -/
section XOQ
variable {s0 : S_Rn} {b can nm D I P : S_Bs} {C : S_Cs} {mr : S_Mr} {M : S_Mg} {O : S_Ou} {s : S_Mo} {rd rd1 : S_Rd} {T T1 : S_Tr} {R : S_Rs}
theorem x_m1 {k : Nat} (h : 1 ≤ k) : nI k + (-1) = nI (k - 1) := z_am h
theorem typeLoop (x : Int64) : ∀ (k fu fv : Nat) (D : S_Bs) (s : S_Mo), k ≤ 8 → k < fu → k < fv → (∃ l, rn D 120 l ∧ s.1 2 = nI l.length ∧ (∀ i, i < l.length → s.2 0 i = nI (l.getD i 0)) ∧ l.length + k ≤ 120) → ∃ D' s', lp (fun k25 v => B_Rn_type_25  k25 s0 v.1 v.2.1 v.2.2) fu (D, x, dI k) = some (1, D') ∧ lp (fun k33 v => B_Mo_type_33  k33  v.1 v.2.1 v.2.2) fv (s, x, dI k) = some (1, s') ∧ rDr D' s' ∧ (∀ i, i ≠ 2 → s'.1 i = s.1 i) ∧ ∀ j, j ≠ 0 → s'.2 j = s.2 j := by
  intro k
  induction k with
  | zero =>
    intro fu fv D s h8 hf hv ⟨l, a1, a2, a3, a4⟩
    obtain ⟨fu', rfl⟩ : ∃ fu', fu = fu' + 1 := ⟨fu - 1, by omega⟩
    obtain ⟨fv', rfl⟩ : ∃ fv', fv = fv' + 1 := ⟨fv - 1, by omega⟩
    refine ⟨D, s, ?_, ?_, ⟨l, a1, a2, a3⟩, fun _ _ => rfl, fun _ _ => rfl⟩
    · rw [lp_s]
      show B_Rn_type_25 _ s0 D x mI = _
      unfold B_Rn_type_25
      rw [if_pos (by decide +kernel)]
      rfl
    · rw [lp_s]
      show B_Mo_type_33 _ s x mI = _
      unfold B_Mo_type_33
      rw [if_pos (by decide +kernel)]
      rfl
  | succ k ih =>
    intro fu fv D s h8 hf hv ⟨l, a1, a2, a3, a4⟩
    obtain ⟨fu', rfl⟩ : ∃ fu', fu = fu' + 1 := ⟨fu - 1, by omega⟩
    obtain ⟨fv', rfl⟩ : ∃ fv', fv = fv' + 1 := ⟨fv - 1, by omega⟩
    obtain ⟨v, v1, v2, v3⟩ := by_v x (i := k) (by omega)
    obtain ⟨D1, e1, r1⟩ := rn_append' a1 (by omega) v1
    have dk : dI (k + 1) = nI k := by unfold dI; rw [if_neg (by omega)]; rfl
    have dk2 : nI k + (-1) = dI k := by
      unfold dI
      by_cases c : k = 0
      · rw [if_pos c, c]; decide +kernel
      · rw [if_neg c]; exact x_m1 (by omega)
    obtain ⟨s1, hs1⟩ : ∃ s1, s1 = Mo_set_drafted (Mo_set_draft s (upd (Mo_draft s) l.length (nI v))) (nI (l.length + 1)) := ⟨_, rfl⟩
    have w2 : s1.1 2 = nI (l.length + 1) := by rw [hs1]; exact pk_us (f := s.1) (k := 2)
    have w1 : ∀ i, i ≠ 2 → s1.1 i = s.1 i := fun i hi => by rw [hs1]; exact pk_un (f := s.1) (k := 2) hi
    have w0 : s1.2 0 = upd (s.2 0) l.length (nI v) := by rw [hs1]; rfl
    have wr : ∀ j, j ≠ 0 → s1.2 j = s.2 j := fun j hj => by rw [hs1]; exact ua_n hj
    obtain ⟨D', s', y1, y2, y3, y4, y5⟩ := ih fu' fv' D1 s1 (by omega) (by omega) (by omega) ⟨l ++ [v], r1, by simpa using w2, fun i hi => by
      rw [w0]
      by_cases c : i = l.length
      · rw [c, pk_us, gB]
      · rw [pk_un c, gA (by simp at hi; omega)]
        exact a3 i (by simp at hi; omega), by simp; omega⟩
    refine ⟨D', s', ?_, ?_, y3, fun i hi => (y4 i hi).trans (w1 i hi), fun j hj => (y5 j hj).trans (wr j hj)⟩
    · rw [lp_s, dk]
      show B_Rn_type_25 (lp (fun k25 v => B_Rn_type_25  k25 s0 v.1 v.2.1 v.2.2) fu') s0 D x (nI k) = _
      generalize lp (fun k25 v => B_Rn_type_25  k25 s0 v.1 v.2.1 v.2.2) fu' = K at y1 ⊢
      unfold B_Rn_type_25
      rw [if_neg (by rw [show (0 : Int32) = nI 0 from rfl, z_lt (by omega) (by omega)]; omega)]
      unfold B_Rn_type_30
      rw [v2, Option.bind_some, e1, Option.bind_some, dk2]
      exact y1
    · rw [lp_s, dk]
      show B_Mo_type_33 (lp (fun k33 v => B_Mo_type_33  k33  v.1 v.2.1 v.2.2) fv') s x (nI k) = _
      generalize lp (fun k33 v => B_Mo_type_33  k33  v.1 v.2.1 v.2.2) fv' = K at y2 ⊢
      unfold B_Mo_type_33
      rw [if_neg (by rw [show (0 : Int32) = nI 0 from rfl, z_lt (by omega) (by omega)]; omega)]
      unfold B_Mo_type_38
      rw [v3, show Mo_drafted s = nI l.length from a2, z_cl (by omega), if_neg (by rw [show (0 : Int32) = nI 0 from rfl, z_lt (by omega) (by omega)]; omega), show Mo_drafted (Mo_set_draft s (upd (Mo_draft s) l.length (nI v))) = nI l.length from a2, nI_1, ← hs1, dk2]
      exact y2
theorem o_type (hD : rDr D s) (h : Rl s0 C I M O P R s) (x : Int64) (n : Int32) : ∃ r D' s', F_Rn_type s0 D x n = some (r, D') ∧ F_Mo_type s x n = some (r, s') ∧ rDr D' s' ∧ Rl s0 C I M O P R s' := by
  have hc := rl_c h 0
  have hDc := rDr_c hD 0
  unfold F_Rn_type B_Rn_type_0 F_Mo_type B_Mo_type_0
  rw [c_isCount, m_inI, Option.bind_some, Option.bind_some]
  by_cases c : inR n 1 8
  · rw [if_pos c, if_neg (by decide), if_neg (by decide)]
    obtain ⟨k, k1, k8, rfl⟩ := inR_18 c
    obtain ⟨l, a1, a2, a3⟩ := hDc
    have hcap := rn_cap a1
    unfold B_Rn_type_7 B_Mo_type_15
    rw [rn_room a1 (by omega), Option.bind_some, show Mo_drafted (Mo_set_code s 0) = nI l.length from a2, z_ad]
    by_cases cr : k + l.length ≤ 120
    · rw [if_pos cr, if_neg (by decide), if_pos (by rw [show (120 : Int32) = nI 120 from rfl, z_le (by omega) (by omega)]; omega)]
      unfold B_Rn_type_20 B_Mo_type_28 L_Rn_type_25 L_Mo_type_33
      have dk : nI k - (1 : Int32) = dI k := by
        unfold dI
        rw [if_neg (by omega)]
        exact z_sb (a := k) (b := 1) (by omega)
      rw [dk]
      obtain ⟨D', s', y1, y2, y3, y4, y5⟩ := typeLoop (s0 := s0) x k FU FU D (Mo_set_code s 0) k8 (by unfold FU; omega) (by unfold FU; omega) ⟨l, a1, a2, a3, by omega⟩
      exact ⟨1, D', s', y1, y2, y3, rl_k hc (fun i hi => y4 i (by omega)) (fun j hj => y5 j (by omega))⟩
    · rw [if_neg cr, if_pos rfl, if_neg (by rw [show (120 : Int32) = nI 120 from rfl, z_le (by omega) (by omega)]; omega)]
      exact ⟨0, D, Mo_set_code s 0, rfl, rfl, ⟨l, a1, a2, a3⟩, hc⟩
  · rw [if_neg c, if_pos rfl, if_pos rfl]
    exact ⟨0, D, Mo_set_code s 0, rfl, rfl, hDc, hc⟩
/-- a call that may throw: either both answer, or both throw -/
theorem o_check (hD : rDr D s) (h : Rl s0 C I M O P R s) (x : Int32) : (∃ r rd' T' s', F_Rn_check s0 D rd T x = some (r, rd', T') ∧ F_Mo_check s x = some (r, s') ∧ s'.1 1 = 0 ∧ rDr D s' ∧ Rl s0 C I M O P R s') ∨ ∃ s', F_Rn_check_e1 s0 x = some () ∧ F_Mo_check s x = some (0, s') ∧ s'.1 1 = 1 ∧ rDr D s' ∧ Rl s0 C I M O P R s' := by
  unfold F_Rn_check B_Rn_check_0 F_Rn_check_e1 B_Rn_check_e1_0 F_Mo_check B_Mo_check_0
  rw [c_isSyntax, m_inI, Option.bind_some, Option.bind_some, Option.bind_some]
  by_cases c : inR x 0 1
  · left
    rw [if_pos c, if_neg (by decide), if_neg (by decide)]
    obtain ⟨k, k1, rfl⟩ := inR_syn c
    unfold B_Rn_check_15 B_Mo_check_10 B_Mo_check_15
    rw [show Mo_code (Mo_set_code s 0) = 0 from cd_1 s 0, if_pos (by decide)]
    obtain ⟨l, a1, a2, a3⟩ := rDr_c hD 0
    have hcap := rn_cap a1
    obtain ⟨r, e1, r1, r2⟩ := c_read a1 k1 (by omega) rd T
    obtain ⟨s', e2, g1, g2, g3, g4⟩ := m_readDraft (s := Mo_set_code s 0) k1 a1.2 (by omega) a2 a3
    refine ⟨nI (rD k l).1, r.2.1, r.2.2, s', ?_, ?_, by rw [g1.1 1 (by omega) (by omega) (by omega) (by omega)]; exact cd_1 s 0, rDr_k ⟨l, a1, a2, a3⟩ (g1.1 2 (by omega) (by omega) (by omega) (by omega)) (g1.2 0 (by omega)), rl_k (rl_c h 0) (fun i hi => g1.1 i (by omega) (by omega) (by omega) (by omega)) (fun j hj => g1.2 j (by omega))⟩
    · rw [e1, Option.bind_some, r1]
    · unfold B_Mo_check_27
      rw [e2, Option.bind_some]
      by_cases z : (rD k l).1 = 0
      · rw [if_pos z, if_neg (show ¬ (1 : Int32) = 0 by decide), z]
        rfl
      · rw [if_neg z, if_pos (show (0 : Int32) = 0 from rfl)]
        unfold B_Mo_check_39
        rw [show Mo_fault s' = nI (rD k l).1 from g3]
        rfl
  · right
    rw [if_neg c, if_pos rfl, if_pos rfl]
    refine ⟨Mo_set_code s 1, rfl, ?_, cd_1 s 1, rDr_c hD 1, rl_c h 1⟩
    unfold B_Mo_check_14 B_Mo_check_15
    rw [show Mo_code (Mo_set_code s 1) = 1 from cd_1 s 1, if_neg (by decide)]
    rfl
theorem o_at (hD : rDr D s) (h : Rl s0 C I M O P R s) (x : Int32) : (∃ r s', F_Rn_at s0 D x = some r ∧ F_Mo_at s x = some (r, s') ∧ s'.1 1 = 0 ∧ rDr D s' ∧ Rl s0 C I M O P R s') ∨ ∃ s', F_Rn_at_e1 s0 D x = some () ∧ F_Mo_at s x = some (0, s') ∧ s'.1 1 = 1 ∧ rDr D s' ∧ Rl s0 C I M O P R s' := by
  have hD' := hD
  obtain ⟨l, a1, a2, a3⟩ := hD'
  have hcap := rn_cap a1
  have hin : inR x (-1) (Mo_drafted s - 1) ↔ (¬ x < (-1) ∧ x < nI l.length) := by
    rw [show Mo_drafted s = nI l.length from a2]
    have e1 : (nI l.length - 1).toInt = (l.length : Int) - 1 := by
      by_cases c : l.length = 0
      · rw [c]; decide +kernel
      · rw [show nI l.length - (1 : Int32) = nI (l.length - 1) from z_sb (a := l.length) (b := 1) (by omega), nI_toInt (by omega)]; omega
    unfold inR
    rw [Int32.lt_iff_toInt_lt (x := nI l.length - 1), Int32.lt_iff_toInt_lt (x := x) (y := nI l.length), e1, nI_toInt (by omega)]
    constructor
    · rintro ⟨p, q⟩; exact ⟨p, by omega⟩
    · rintro ⟨p, q⟩; exact ⟨p, by omega⟩
  have cl : F_Rn_at s0 D x = if x < (-1) then none else if x < nI l.length then B_Rn_at_24 s0 D x else none := by
    unfold F_Rn_at B_Rn_at_0 B_Rn_at_5
    rw [rn_count a1, Option.bind_some]
    rfl
  have ce : F_Rn_at_e1 s0 D x = if x < (-1) then some () else if x < nI l.length then none else some () := by
    unfold F_Rn_at_e1 B_Rn_at_e1_0 B_Rn_at_e1_5
    rw [rn_count a1, Option.bind_some]
    rfl
  unfold F_Mo_at B_Mo_at_0
  rw [m_inI, Option.bind_some]
  by_cases c : inR x (-1) (Mo_drafted s - 1)
  · left
    rw [if_pos c, if_neg (by decide)]
    obtain ⟨p, q⟩ := hin.mp c
    rw [cl, if_neg p, if_pos q]
    unfold B_Mo_at_15 B_Mo_at_20
    rw [show Mo_code (Mo_set_code s 0) = 0 from cd_1 s 0, if_pos (by decide)]
    unfold B_Rn_at_24 B_Mo_at_34
    by_cases cm : x = mI
    · rw [if_pos (show x = (-1) from cm), if_neg (by rw [cm]; decide +kernel)]
      refine ⟨nI l.length, Mo_set_code s 0, ?_, ?_, cd_1 s 0, rDr_c hD 0, rl_c h 0⟩
      · unfold B_Rn_at_29
        rw [rn_count a1, Option.bind_some]
        rfl
      · unfold B_Mo_at_38
        rw [show Mo_drafted (Mo_set_code s 0) = nI l.length from (cd_n s 0 (by omega)).trans a2]
        rfl
    · have hx0 : ∃ k, k < l.length ∧ x = nI k := by
        rw [Int32.lt_iff_toInt_lt, nI_toInt (by omega)] at q
        rw [Int32.lt_iff_toInt_lt, show (-1 : Int32).toInt = -1 by decide +kernel] at p
        have : ¬ x.toInt = -1 := fun e => cm (Int32.toInt_inj.mp (by rw [e]; decide +kernel))
        exact ⟨x.toInt.toNat, by omega, nI_o2 (by omega) (by omega)⟩
      obtain ⟨k, hk, rfl⟩ := hx0
      rw [if_neg (show ¬ nI k = (-1) from cm), if_pos (by rw [show (0 : Int32) = nI 0 from rfl, z_le (by omega) (by omega)]; omega)]
      refine ⟨nI (l.getD k 0), Mo_set_code s 0, ?_, ?_, cd_1 s 0, rDr_c hD 0, rl_c h 0⟩
      · unfold B_Rn_at_39
        rw [rn_get a1 hk, Option.bind_some]
        rfl
      · unfold B_Mo_at_45
        rw [z_cl (by omega), if_neg (by rw [show (0 : Int32) = nI 0 from rfl, z_lt (by omega) (by omega)]; omega), show Mo_draft (Mo_set_code s 0) k = nI (l.getD k 0) from a3 k hk]
        rfl
  · right
    rw [if_neg c, if_pos rfl]
    refine ⟨Mo_set_code s 1, ?_, ?_, cd_1 s 1, rDr_c hD 1, rl_c h 1⟩
    · rw [ce]
      by_cases p : x < (-1)
      · rw [if_pos p]
      · rw [if_neg p, if_neg (fun q => c (hin.mpr ⟨p, q⟩))]
    · unfold B_Mo_at_19 B_Mo_at_20
      rw [show Mo_code (Mo_set_code s 1) = 1 from cd_1 s 1, if_neg (by decide)]
      rfl
end XOQ
