/-! PURE: convert, take, record, class and model side by side -/
section XOT
variable {s0 : S_Rn} {can D I P : S_Bs} {C : S_Cs} {M : S_Mg} {O : S_Ou} {s : S_Mo} {rd : S_Rd} {T : S_Tr} {R : S_Rs} {l : List Nat}
theorem m_convLoop {s1 : S_Mo} (hl : l.length ≤ 120) : ∀ (j i fu : Nat) (s : S_Mo), i + j = l.length → j < fu → mM s l → s.1 = s1.1 → (∀ j, j ≠ 0 → s.2 j = s1.2 j) → (∀ k, k < i → s.2 0 k = nI (l.getD k 0)) → ∃ s', lp (fun k81 v => B_Mo_convert_81  k81  v.1 v.2) fu (s, nI i) = B_Mo_convert_110 s' ∧ mM s' l ∧ s'.1 = s1.1 ∧ (∀ j, j ≠ 0 → s'.2 j = s1.2 j) ∧ ∀ k, k < l.length → s'.2 0 k = nI (l.getD k 0) := by
  intro j
  induction j with
  | zero =>
    intro i fu s hi hf hM h1 h2 h3
    obtain ⟨fu', rfl⟩ : ∃ fu', fu = fu' + 1 := ⟨fu - 1, by omega⟩
    refine ⟨s, ?_, hM, h1, h2, fun k hk => h3 k (by omega)⟩
    rw [lp_s]
    show B_Mo_convert_81 _ s (nI i) = _
    unfold B_Mo_convert_81
    rw [show Mo_makes s = nI l.length from hM.2.1, if_pos (by rw [z_le (by omega) (by omega)]; omega)]
  | succ j ih =>
    intro i fu s hi hf hM h1 h2 h3
    obtain ⟨fu', rfl⟩ : ∃ fu', fu = fu' + 1 := ⟨fu - 1, by omega⟩
    obtain ⟨s', e', y⟩ := ih (i + 1) fu' (s.1, ua s.2 0 (upd (s.2 0) i (nI (l.getD i 0)))) (by omega) (by omega) ⟨hM.1, hM.2.1, fun q hq => by dsimp only; rw [ua_n (by omega)]; exact hM.2.2 q hq⟩ h1 (fun j hj => by dsimp only; rw [ua_n hj]; exact h2 j hj) (fun k hk => by
      dsimp only
      rw [ua_s]
      by_cases c : k = i
      · rw [c, pk_us]
      · rw [pk_un c]
        exact h3 k (by omega))
    refine ⟨s', ?_, y⟩
    rw [lp_s]
    show B_Mo_convert_81 (lp (fun k81 v => B_Mo_convert_81  k81  v.1 v.2) fu') s (nI i) = _
    generalize lp (fun k81 v => B_Mo_convert_81  k81  v.1 v.2) fu' = K at e' ⊢
    unfold B_Mo_convert_81
    rw [show Mo_makes s = nI l.length from hM.2.1, if_neg (by rw [z_le (by omega) (by omega)]; omega)]
    unfold B_Mo_convert_90
    rw [z_cl (by omega), if_neg (by rw [show (0 : Int32) = nI 0 from rfl, z_lt (by omega) (by omega)]; omega), if_neg (by rw [show (0 : Int32) = nI 0 from rfl, z_lt (by omega) (by omega)]; omega), show Mo_made s i = nI (l.getD i 0) from hM.2.2 i (by omega), nI_1]
    exact e'
theorem o_convert (hcan : ∃ l, rn can 301 l) (hD : rDr D s) (h : Rl s0 C I M O P R s) (x y : Int32) : (∃ r can' D' rd' T' s', F_Rn_convert s0 can D rd T x y = some (r, can', D', rd', T') ∧ F_Mo_convert s x y = some (r, s') ∧ s'.1 1 = 0 ∧ (∃ l, rn can' 301 l) ∧ rDr D' s' ∧ Rl s0 C I M O P R s') ∨ (∃ s', F_Rn_convert_e1 s0 x y = some () ∧ F_Mo_convert s x y = some (0, s') ∧ s'.1 1 = 1 ∧ rDr D s' ∧ Rl s0 C I M O P R s') ∨ ∃ can' rd' T' s', F_Rn_convert_e2 s0 can D rd T x y = some (can', rd', T') ∧ F_Mo_convert s x y = some (0, s') ∧ s'.1 1 = 2 ∧ (∃ l, rn can' 301 l) ∧ rDr D s' ∧ Rl s0 C I M O P R s' := by
  have e1bad : ∀ z, B_Mo_convert_23 s x y = z → z = some (0, Mo_set_code s 1) := by
    intro z hz
    rw [← hz]
    unfold B_Mo_convert_23 B_Mo_convert_24
    rw [show Mo_code (Mo_set_code s 1) = 1 from cd_1 s 1, if_neg (by decide)]
    rfl
  by_cases cx : inR x 0 1
  · by_cases cy : inR y 0 1
    · obtain ⟨sx, k1, rfl⟩ := inR_syn cx
      obtain ⟨sy, k2, rfl⟩ := inR_syn cy
      obtain ⟨lc, hcan⟩ := hcan
      obtain ⟨l, a1, a2, a3⟩ := rDr_c hD 0
      have hcap := rn_cap a1
      obtain ⟨r, q1, q2, q3⟩ := c_read a1 k1 (by omega) rd T
      obtain ⟨s1, e2, g1, g2, g3, g4⟩ := m_readDraft (s := Mo_set_code s 0) k1 a1.2 (by omega) a2 a3
      have g11 : s1.1 1 = 0 := by rw [g1.1 1 (by omega) (by omega) (by omega) (by omega)]; exact cd_1 s 0
      have hD1 : rDr D s1 := rDr_k ⟨l, a1, a2, a3⟩ (g1.1 2 (by omega) (by omega) (by omega) (by omega)) (g1.2 0 (by omega))
      have hR1 : Rl s0 C I M O P R s1 := rl_k (rl_c h 0) (fun i hi => g1.1 i (by omega) (by omega) (by omega) (by omega)) (fun j hj => g1.2 j (by omega))
      have mo : F_Mo_convert s (nI sx) (nI sy) = if (if (rD sx l).1 = 0 then (1 : Int32) else 0) = 0 then B_Mo_convert_57 s1 else B_Mo_convert_44 s1 (nI sy) := by
        unfold F_Mo_convert B_Mo_convert_0
        rw [m_inI, if_pos cx, Option.bind_some, if_neg (by decide)]
        unfold B_Mo_convert_10
        rw [m_inI, if_pos cy, Option.bind_some, if_neg (by decide)]
        unfold B_Mo_convert_19 B_Mo_convert_24
        rw [show Mo_code (Mo_set_code s 0) = 0 from cd_1 s 0, if_pos (by decide)]
        unfold B_Mo_convert_36
        rw [e2, Option.bind_some]
      have cl : F_Rn_convert s0 can D rd T (nI sx) (nI sy) = if r.1 = 0 then B_Rn_convert_37 s0 can D r.2.1 r.2.2 (nI sy) else none := by
        unfold F_Rn_convert B_Rn_convert_0
        rw [c_isSyntax, if_pos cx, Option.bind_some, if_neg (by decide)]
        unfold B_Rn_convert_7
        rw [c_isSyntax, if_pos cy, Option.bind_some, if_neg (by decide)]
        unfold B_Rn_convert_22
        rw [q1, Option.bind_some]
        rfl
      have ce : F_Rn_convert_e2 s0 can D rd T (nI sx) (nI sy) = if r.1 = 0 then B_Rn_convert_e2_37 s0 D can r.2.1 r.2.2 (nI sy) else some (can, r.2.1, r.2.2) := by
        unfold F_Rn_convert_e2 B_Rn_convert_e2_0
        rw [c_isSyntax, if_pos cx, Option.bind_some, if_neg (by decide)]
        unfold B_Rn_convert_e2_7
        rw [c_isSyntax, if_pos cy, Option.bind_some, if_neg (by decide)]
        unfold B_Rn_convert_e2_22
        rw [q1, Option.bind_some]
        rfl
      have f2 : ∀ t : S_Mo, B_Mo_convert_72 t = some (0, Mo_set_code t 2) := fun t => rfl
      by_cases cz : (rD sx l).1 = 0
      · have w := rD_wfT (by omega) cz
        have hT := q3 cz
        rw [if_pos cz, if_neg (by decide)] at mo
        rw [if_pos (by rw [q2, cz]; rfl)] at cl ce
        obtain ⟨tg, bh, vs, ls, cs, hTe, hT1, hB, hC⟩ := hT
        have l101 := w.2.2.2.2.1
        have g := w.2.2.2.1
        have hle := wS_any (syn := sy) (nd := (rD sx l).2) k2 w.2.2.2.2.2.2.1 (by omega)
        obtain ⟨can', p1, ⟨lq, p2⟩, p3⟩ := c_writeAll w.1 w.2.1 l101 g w.2.2.2.2.2.1 hT1 hB hC k2 hcan (by omega)
        rw [← hTe] at p1
        obtain ⟨s2, m1, m2, m3⟩ := m_canonical (s := s1) (t := 0) (by omega) k2 w (g4 cz)
        have k12 := mK_C m2
        have hD2 : rDr D s2 := rDr_k hD1 (k12.1 2 (by omega) (by omega) (by omega) (by omega)) (k12.2 0 (by omega))
        have hR2 : Rl s0 C I M O P R s2 := rl_k hR1 (fun i hi => k12.1 i (by omega) (by omega) (by omega) (by omega)) (fun j hj => k12.2 j (by omega))
        have mo2 : F_Mo_convert s (nI sx) (nI sy) = if (if fitA sy (rD sx l).2 ((rD sx l).2.length - 1) = true then (1 : Int32) else 0) = 0 then B_Mo_convert_57 s2 else B_Mo_convert_53 s2 := by
          rw [mo]
          unfold B_Mo_convert_44
          rw [show F_Mo_canonical s1 (0 : Int32) (nI sy) = _ from m1, Option.bind_some]
        have cl2 : F_Rn_convert s0 can D rd T (nI sx) (nI sy) = if (if fitA sy (rD sx l).2 ((rD sx l).2.length - 1) = true then (1 : Int32) else 0) = 0 then none else B_Rn_convert_65 s0 can' D r.2.1 r.2.2 := by
          rw [cl]
          unfold B_Rn_convert_37
          rw [show F_Rd_tree r.2.1 = some () from rfl, Option.bind_some, p1, Option.bind_some]
          rfl
        have ce2 : F_Rn_convert_e2 s0 can D rd T (nI sx) (nI sy) = if (if fitA sy (rD sx l).2 ((rD sx l).2.length - 1) = true then (1 : Int32) else 0) = 0 then some (can', r.2.1, r.2.2) else B_Rn_convert_e2_65 s0 D can' r.2.1 r.2.2 := by
          rw [ce]
          unfold B_Rn_convert_e2_37
          rw [show F_Rd_tree r.2.1 = some () from rfl, Option.bind_some, p1, Option.bind_some]
          rfl
        by_cases cf : fitA sy (rD sx l).2 ((rD sx l).2.length - 1) = true
        · rw [if_pos cf, if_neg (by decide)] at mo2 cl2 ce2
          have hcb := p3 cf
          have hmm := m3 cf
          obtain ⟨L, hL⟩ : ∃ L, L = cB sy (rD sx l).2 ((rD sx l).2.length - 1) := ⟨_, rfl⟩
          rw [← hL] at hcb hmm
          have hcL := rn_cap hcb
          have mo3 : F_Mo_convert s (nI sx) (nI sy) = if nI L.length ≤ (120 : Int32) then B_Mo_convert_78 s2 else B_Mo_convert_72 s2 := by
            rw [mo2]
            unfold B_Mo_convert_53 B_Mo_convert_58
            rw [if_neg (by decide)]
            unfold B_Mo_convert_63
            rw [show Mo_makes s2 = nI L.length from hmm.2.1]
          by_cases c120 : L.length ≤ 120
          · left
            have z : nI L.length ≤ (120 : Int32) := by rw [show (120 : Int32) = nI 120 from rfl, z_le (by omega) (by omega)]; exact c120
            rw [if_pos z] at mo3
            obtain ⟨D', d1, d2⟩ := rn_become a1 hcb c120
            obtain ⟨s3, n1, n2, n3, n4, n5⟩ := m_convLoop (s1 := s2) c120 L.length 0 FU s2 (by omega) (by unfold FU; omega) hmm rfl (fun _ _ => rfl) (fun k hk => by omega)
            refine ⟨nI L.length, can', D', r.2.1, r.2.2, Mo_set_drafted s3 (nI L.length), ?_, ?_, ?_, ⟨_, p2⟩, ⟨L, d2, pk_us (f := s3.1) (k := 2), n5⟩, rl_k hR2 (fun i hi => ?_) (fun j hj => n4 j (by omega))⟩
            · rw [cl2]
              unfold B_Rn_convert_65
              rw [rn_count hcb, Option.bind_some, if_pos z]
              unfold B_Rn_convert_85
              rw [d1, Option.bind_some, rn_count d2, Option.bind_some]
            · rw [mo3]
              unfold B_Mo_convert_78 L_Mo_convert_81
              rw [show (0 : Int32) = nI 0 from rfl, n1]
              unfold B_Mo_convert_110
              rw [show Mo_makes s3 = nI L.length from n2.2.1]
              rw [show Mo_drafted (Mo_set_drafted s3 (nI L.length)) = nI L.length from pk_us (f := s3.1) (k := 2)]
            · show upd s3.1 2 (nI L.length) 1 = _
              rw [pk_un (by omega), n3, k12.1 1 (by omega) (by omega) (by omega) (by omega)]
              exact g11
            · show upd s3.1 2 (nI L.length) i = _
              rw [pk_un (by omega), n3]
          · right
            right
            have z : ¬ nI L.length ≤ (120 : Int32) := by rw [show (120 : Int32) = nI 120 from rfl, z_le (by omega) (by omega)]; exact c120
            rw [if_neg z] at mo3
            refine ⟨can', r.2.1, r.2.2, Mo_set_code s2 2, ?_, by rw [mo3, f2], cd_1 s2 2, ⟨_, p2⟩, rDr_c hD2 2, rl_c hR2 2⟩
            rw [ce2]
            unfold B_Rn_convert_e2_65
            rw [rn_count hcb, Option.bind_some, if_neg z]
            rfl
        · rw [if_neg cf, if_pos rfl] at mo2 cl2 ce2
          right
          right
          exact ⟨can', r.2.1, r.2.2, Mo_set_code s2 2, ce2, by rw [mo2]; rfl, cd_1 s2 2, ⟨_, p2⟩, rDr_c hD2 2, rl_c hR2 2⟩
      · rw [if_neg cz, if_pos rfl] at mo
        have nz : ¬ r.1 = 0 := by rw [q2, show (0 : Int32) = nI 0 from rfl, z_eq (by have := rD_lt (syn := sx) (src := l) (by omega); omega) (by omega)]; exact cz
        rw [if_neg nz] at ce
        right
        right
        exact ⟨can, r.2.1, r.2.2, Mo_set_code s1 2, ce, by rw [mo]; rfl, cd_1 s1 2, ⟨_, hcan⟩, rDr_c hD1 2, rl_c hR1 2⟩
    · right
      left
      refine ⟨Mo_set_code s 1, ?_, ?_, cd_1 s 1, rDr_c hD 1, rl_c h 1⟩
      · unfold F_Rn_convert_e1 B_Rn_convert_e1_0
        rw [c_isSyntax, if_pos cx, Option.bind_some, if_neg (by decide)]
        unfold B_Rn_convert_e1_7
        rw [c_isSyntax, if_neg cy, Option.bind_some, if_pos rfl]
        rfl
      · unfold F_Mo_convert B_Mo_convert_0
        rw [m_inI, if_pos cx, Option.bind_some, if_neg (by decide)]
        unfold B_Mo_convert_10
        rw [m_inI, if_neg cy, Option.bind_some, if_pos rfl]
        exact e1bad _ rfl
  · right
    left
    refine ⟨Mo_set_code s 1, ?_, ?_, cd_1 s 1, rDr_c hD 1, rl_c h 1⟩
    · unfold F_Rn_convert_e1 B_Rn_convert_e1_0
      rw [c_isSyntax, if_neg cx, Option.bind_some, if_pos rfl]
      rfl
    · unfold F_Mo_convert B_Mo_convert_0
      rw [m_inI, if_neg cx, Option.bind_some, if_pos rfl]
      exact e1bad _ rfl
theorem m_takeLoop {o : List Nat} {n : Nat} {x1 : Int32} (hn : o.length = n + 1) (h9 : n < 900) : ∀ (j i fu : Nat) (s : S_Mo), i + j = n → j < fu → s.1 10 = nI n → (∀ k, k < i → s.2 22 k = nI (o.getD (k + 1) 0)) → (∀ k, i ≤ k → k ≤ n → s.2 22 k = nI (o.getD k 0)) → ∃ s', lp (fun k44 v => B_Mo_take_44  k44  v.1 v.2.1 v.2.2) fu (s, x1, nI i) = some (x1, s') ∧ s'.1 = s.1 ∧ (∀ j, j ≠ 22 → s'.2 j = s.2 j) ∧ ∀ k, k < n → s'.2 22 k = nI (o.getD (k + 1) 0) := by
  intro j
  induction j with
  | zero =>
    intro i fu s hi hf h10 h1 h2
    obtain ⟨fu', rfl⟩ : ∃ fu', fu = fu' + 1 := ⟨fu - 1, by omega⟩
    refine ⟨s, ?_, rfl, fun _ _ => rfl, fun k hk => h1 k (by omega)⟩
    rw [lp_s]
    show B_Mo_take_44 _ s x1 (nI i) = _
    unfold B_Mo_take_44
    rw [show Mo_outputs s = nI n from h10, if_pos (by rw [z_le (by omega) (by omega)]; omega)]
    rfl
  | succ j ih =>
    intro i fu s hi hf h10 h1 h2
    obtain ⟨fu', rfl⟩ : ∃ fu', fu = fu' + 1 := ⟨fu - 1, by omega⟩
    obtain ⟨s', e', y1, y2, y3⟩ := ih (i + 1) fu' (s.1, ua s.2 22 (upd (s.2 22) i (nI (o.getD (i + 1) 0)))) (by omega) (by omega) h10 (fun k hk => by
      dsimp only
      rw [ua_s]
      by_cases c : k = i
      · rw [c, pk_us]
      · rw [pk_un c]
        exact h1 k (by omega)) (fun k k1 k2 => by
      dsimp only
      rw [ua_s, pk_un (by omega)]
      exact h2 k (by omega) k2)
    refine ⟨s', ?_, y1, fun j hj => by rw [y2 j hj]; exact ua_n hj, y3⟩
    rw [lp_s]
    show B_Mo_take_44 (lp (fun k44 v => B_Mo_take_44  k44  v.1 v.2.1 v.2.2) fu') s x1 (nI i) = _
    generalize lp (fun k44 v => B_Mo_take_44  k44  v.1 v.2.1 v.2.2) fu' = K at e' ⊢
    unfold B_Mo_take_44
    rw [show Mo_outputs s = nI n from h10, if_neg (by rw [z_le (by omega) (by omega)]; omega)]
    unfold B_Mo_take_52
    rw [show nI i + (1 : Int32) = nI (i + 1) from nI_1 i, z_cl (by omega), z_cl (by omega), if_neg (by rw [show (0 : Int32) = nI 0 from rfl, z_lt (by omega) (by omega)]; omega), if_neg (by rw [show (0 : Int32) = nI 0 from rfl, z_lt (by omega) (by omega)]; omega), show Mo_output s (i + 1) = nI (o.getD (i + 1) 0) from h2 (i + 1) (by omega) (by omega)]
    exact e'
theorem o_take (hD : rDr D s) (h : Rl s0 C I M O P R s) : (∃ r O' s', F_Rn_take s0 O = some (r, O') ∧ F_Mo_take s = some (r, s') ∧ s'.1 1 = 0 ∧ rDr D s' ∧ Rl s0 C I M O' P R s') ∨ ∃ s', F_Rn_take_e1 s0 O = some () ∧ F_Mo_take s = some (0, s') ∧ s'.1 1 = 1 ∧ rDr D s' ∧ Rl s0 C I M O P R s' := by
  have hc := rl_c h 0
  have hc' := hc
  obtain ⟨ph, tm, a1, a2, a3, a4, a5, a6, ⟨o, o1, o2⟩, a8, a9⟩ := hc'
  have ol := o2.1
  have h10 : Mo_outputs s = nI o.length := (cd_n s 0 (i := 10) (by omega)).symm.trans o2.2.1
  unfold F_Rn_take B_Rn_take_0 F_Rn_take_e1 B_Rn_take_e1_0 F_Mo_take B_Mo_take_0
  rw [ou_count o1, Option.bind_some, Option.bind_some, h10]
  match o, o1, o2, ol with
  | [], o1, o2, ol =>
    right
    refine ⟨Mo_set_code s 1, rfl, ?_, cd_1 s 1, rDr_c hD 1, rl_c h 1⟩
    rw [if_pos (by decide)]
    unfold B_Mo_take_12 B_Mo_take_13
    rw [show Mo_code (Mo_set_code s 1) = 1 from cd_1 s 1, if_neg (by decide)]
    rfl
  | x :: o, o1, o2, ol =>
    left
    have ol : o.length + 1 ≤ 900 := ol
    rw [if_neg (by show ¬ nI (o.length + 1) = nI 0; rw [z_eq (by omega) (by omega)]; omega), if_neg (by show ¬ nI (o.length + 1) ≤ nI 0; rw [z_le (by omega) (by omega)]; omega)]
    obtain ⟨O', e1, p1⟩ := ou_pull o1
    unfold B_Mo_take_8 B_Mo_take_13
    rw [show Mo_code (Mo_set_code s 0) = 0 from cd_1 s 0, if_pos (by decide)]
    unfold B_Mo_take_25
    have n10 : Mo_outputs (Mo_set_code s 0) = nI (o.length + 1) := o2.2.1
    rw [if_neg (by decide), n10, show nI (o.length + 1) - (1 : Int32) = nI o.length from z_sb (a := o.length + 1) (b := 1) (by omega), show Mo_output (Mo_set_code s 0) (0 : Int32).toNatClampNeg = nI x from o2.2.2 0 (by simp)]
    obtain ⟨s1, hs1⟩ : ∃ s1, s1 = Mo_set_outputs (Mo_set_code s 0) (nI o.length) := ⟨_, rfl⟩
    have w10 : s1.1 10 = nI o.length := by rw [hs1]; exact pk_us (f := (Mo_set_code s 0).1) (k := 10)
    have w1 : ∀ i, i ≠ 10 → s1.1 i = (Mo_set_code s 0).1 i := fun i hi => by rw [hs1]; exact pk_un (f := (Mo_set_code s 0).1) (k := 10) hi
    have w2 : s1.2 = (Mo_set_code s 0).2 := by rw [hs1]; rfl
    rw [← hs1]
    unfold L_Mo_take_44
    obtain ⟨s', e2, y1, y2, y3⟩ := m_takeLoop (o := x :: o) (n := o.length) (x1 := nI x) rfl (by omega) o.length 0 FU s1 (by omega) (by unfold FU; omega) w10 (fun k hk => by omega) (fun k _ hk => by rw [w2]; exact o2.2.2 k (by simp; omega))
    have v1 : ∀ i, i ≠ 10 → s'.1 i = (Mo_set_code s 0).1 i := fun i hi => by rw [y1]; exact w1 i hi
    have v2 : ∀ j, j ≠ 22 → s'.2 j = (Mo_set_code s 0).2 j := fun j hj => by rw [y2 j hj, w2]
    refine ⟨nI x, O', s', ?_, e2, ?_, rDr_k (rDr_c hD 0) (v1 2 (by omega)) (v2 0 (by omega)), ph, tm, a1, a2, by rw [v1 18 (by omega)]; exact a3, by rw [v1 7 (by omega)]; exact a4, by rw [v1 8 (by omega)]; exact a5, rI_k a6 (v1 9 (by omega)) (v2 21 (by omega)), ⟨o, p1, by omega, by rw [y1]; exact w10, fun i hi => by rw [y3 i hi]; rfl⟩, rR_k a8 (v1 0 (by omega)) (v1 19 (by omega)) (v2 28 (by omega)) (v2 29 (by omega)), ?_⟩
    · unfold B_Rn_take_18
      rw [e1, Option.bind_some]
    · rw [v1 1 (by omega)]; exact cd_1 s 0
    · unfold rM cxR at a9 ⊢
      rw [v1 11 (by omega), v1 12 (by omega), v1 13 (by omega), v1 14 (by omega), v1 15 (by omega), v1 16 (by omega), v1 17 (by omega), v2 23 (by omega), v2 24 (by omega), v2 25 (by omega), v2 26 (by omega), v2 27 (by omega)]
      exact a9
end XOT
