/-! PURE: byteIn and comes side by side -/
section XBY
variable {s0 : S_Rn} {b can nm I P : S_Bs} {C : S_Cs} {mr : S_Mr} {M : S_Mg} {O : S_Ou} {s : S_Mo} {rd rd1 : S_Rd} {T T1 : S_Tr} {R : S_Rs} {q l : List Nat} {m : Nat}
theorem mD_r (s : S_Mo) : mD s s := ⟨rfl, rfl, rfl⟩
theorem is_cmd (h : Mg_stage M = nI 0 ∨ Mg_stage M = nI 2 ∨ Mg_stage M = nI 3) : F_Mg_isCommandThere M = some 0 := by
  unfold F_Mg_isCommandThere B_Mg_isCommandThere_0
  rw [if_neg (by rcases h with h | h | h <;> rw [h] <;> decide)]
  rfl
/-- a piece that leaves no whole part behind -/
theorem pc_fin {o : Option (S_Rn × S_Bs × S_Cs × S_Bs × S_Mg × S_Ou × S_Bs)} {mo : Option S_Mo} (h : pcO R s o mo) (e : F_Rn_lookAtPiece s0 b C I M O P = o) (hw : wK b can nm) : xOut s (B_Rn_byteIn_76 s0 b can C I mr M nm O P rd T rd1 T1 R) mo := by
  obtain ⟨s0', b', C', I', M', O', P', s', a1, a2, a3, ⟨li, a4⟩, a5, a6, a7, a8⟩ := h
  obtain ⟨I'', e2, r2⟩ := rn_reset a4
  refine ⟨s0', b', can, C', I'', mr, M', nm, O', P', rd, T, rd1, T1, R, s', ?_, a2, ⟨a3, hw.2⟩, rp_l a6 (rI_0 r2 a5), a7⟩
  unfold B_Rn_byteIn_76
  rw [e, a1, Option.bind_some, e2, Option.bind_some, is_cmd (a8.imp id .inl), Option.bind_some, if_pos rfl]
  exact x_rest a8
theorem x_fragPiece {tm n : Nat} {id sv re : Nat → Nat} {st : Bool} (cl0 : F_Rn_lookAtPiece s0 b C I M O P = B_Rn_lookAtPiece_71 s0 b C I M O P) (hq : rn I 202 q) (hqm : q.length = m + 2) (hm : m ≤ 200) (h21 : ∀ i, i < q.length → s.2 21 i = nI (q.getD i 0)) (h9 : s.1 9 = nI 0) (htm : tm ≤ 5) (h0 : s0 = (nI 2, nI tm, s.1 18)) (h7 : s.1 7 = nI 2) (h8 : s.1 8 = nI tm) (hO : rO O s) (hR : rR R s) (hw : wK b can nm) (hx : cxR C s n id sv re) (hP : rn P 200 l) (hcx : Mg_context M = s.1 15) (hsp : s.1 15 = mI ∨ ∃ c, c < n ∧ re c ≤ 1 ∧ s.1 15 = nI c) (hst : Mg_stage M = if st = true then nI 2 else nI 0) (h12 : s.1 12 = if st = true then nI 1 else nI 0) (hcnt : if st = true then s.1 14 = nI l.length ∧ (∀ k, k < l.length → s.2 27 k = nI (l.getD k 0)) else s.1 13 = nI l.length ∧ s.1 14 = nI 0 ∧ ∀ k, k < l.length → s.2 26 k = nI (l.getD k 0)) (hset : st = true → Mg_hasSet M = nI 1 ∧ Mg_kind M = s.1 16 ∧ Mg_number M = s.1 17) : xOut s (B_Rn_byteIn_76 s0 b can C I mr M nm O P rd T rd1 T1 R) (B_Mo_piece_89 s (nI m)) := by
  have han : Rn_answered s0 = s.1 18 := by rw [h0]; rfl
  have hst2 : Mg_stage M = nI 0 ∨ Mg_stage M = nI 2 := by rw [hst]; cases st <;> simp
  rcases x_frag (s0 := s0) hq hqm hm h21 hx hP hcx hsp hst h12 hcnt with ⟨p1, p2⟩ | ⟨c, P', s1, hc, hre, hP', p1, p2, g15, gc, gn, gr⟩
  · unfold B_Mo_piece_89
    rw [p2, Option.bind_some]
    refine pc_fin (o := B_Rn_lookAtPiece_78 s0 b C I M O P) (pc_break (C := C) (b := b) (I := I) (M := M) (O := O) (P := P) (R := R) han hw.1 ⟨_, hq⟩ h9 ⟨_, hP⟩ hst2 hO hR) ?_ hw
    rw [cl0]
    unfold B_Rn_lookAtPiece_71
    rw [p1, Option.bind_some]
    rfl
  · obtain ⟨I', e2, r2⟩ := rn_reset hq
    have hx1 : cxR C s1 n id sv re := by
      unfold cxR at hx ⊢
      rw [gn 11 (by omega) (by omega) (by omega), gr 23 (by omega) (by omega), gr 24 (by omega) (by omega), gr 25 (by omega) (by omega)]
      exact hx
    have hO1 : rO O s1 := rO_k hO (gn 10 (by omega) (by omega) (by omega)) (gr 22 (by omega) (by omega))
    have hR1 : rR R s1 := rR_k hR (gn 0 (by omega) (by omega) (by omega)) (gn 19 (by omega) (by omega) (by omega)) (gr 28 (by omega) (by omega)) (gr 29 (by omega) (by omega))
    have hD1 : mD s s1 := ⟨gn 1 (by omega) (by omega) (by omega), gn 2 (by omega) (by omega) (by omega), gr 0 (by omega) (by omega)⟩
    have h01 : s0 = (nI 2, nI tm, s1.1 18) := by rw [gn 18 (by omega) (by omega) (by omega)]; exact h0
    have h71 : s1.1 7 = nI 2 := by rw [gn 7 (by omega) (by omega) (by omega)]; exact h7
    have h81 : s1.1 8 = nI tm := by rw [gn 8 (by omega) (by omega) (by omega)]; exact h8
    have h91 : s1.1 9 = nI 0 := by rw [gn 9 (by omega) (by omega) (by omega)]; exact h9
    obtain ⟨M', hM'⟩ : ∃ M' : S_Mg, M' = ((if 2 ≤ q.getD 3 0 then (if st = true then nI 3 else nI 1) else Mg_stage M), nI c, Mg_kind M, Mg_number M, Mg_hasSet M) := ⟨_, rfl⟩
    rw [← hM'] at p1
    have hcl : B_Rn_byteIn_76 s0 b can C I mr M nm O P rd T rd1 T1 R = (F_Mg_isCommandThere M').bind fun o5 => if o5 = 0 then B_Rn_byteIn_101 s0 b can C I' mr M' nm O P' rd T rd1 T1 R else B_Rn_byteIn_97 s0 b can C I' mr M' nm O P' rd T rd1 T1 R := by
      unfold B_Rn_byteIn_76
      rw [cl0]
      unfold B_Rn_lookAtPiece_71
      rw [p1, Option.bind_some, if_neg (show ¬ (1 : Int32) = 0 by decide)]
      unfold B_Rn_lookAtPiece_82
      rw [Option.bind_some, e2, Option.bind_some]
    have hct : Mg_context M' = nI c := by rw [hM']; rfl
    unfold B_Mo_piece_89
    rw [hcl, p2]
    by_cases la : 2 ≤ q.getD 3 0
    · rw [if_pos la]
      rw [if_pos la] at hM'
      cases st with
      | true =>
        rw [if_pos rfl] at hM' gc
        rw [if_pos rfl]
        obtain ⟨t1, t2, t3⟩ := hset rfl
        rw [is_cmd (.inr (.inr (by rw [hM']; rfl))), Option.bind_some, if_pos rfl]
        have key := x_answerW (mr := mr) (rd := rd) (T := T) (rd1 := rd1) (T1 := T1) (h := true) (M := M') h01 htm h71 h81 hw r2 h91 hP' hO1 hR1 hx1 hc hre hct g15 (by rw [gn 16 (by omega) (by omega) (by omega), hM']; exact t2) (by rw [gn 17 (by omega) (by omega) (by omega), hM']; exact t3) (by rw [hM']; exact t1) (fun _ => gc) (by rw [hM']; rfl)
        have key := xOut_D key hD1
        rw [if_pos rfl] at key
        unfold B_Mo_fragment_248 B_Mo_fragment_252 B_Mo_fragment_257
        rw [if_pos rfl]
        rw [show (((F_Mo_answer s1 1).bind fun o1 => if (0 : Int32) = 0 then B_Mo_fragment_268 o1 else B_Mo_fragment_261 o1).bind fun o1 => if o1.1 = 0 then B_Mo_piece_97 o1.2 else B_Mo_piece_101 o1.2) = F_Mo_answer s1 1 by
          cases F_Mo_answer s1 1 with
          | none => rfl
          | some v => rfl]
        exact key
      | false =>
        rw [if_neg (by decide)] at hM' gc
        rw [if_neg (by decide)]
        rw [show F_Mg_isCommandThere M' = some 1 by
          rw [hM']
          rfl, Option.bind_some, if_neg (by decide)]
        have key := x_command (mr := mr) (rd := rd) (T := T) (rd1 := rd1) (T1 := T1) (M := M') h01 htm h71 h81 hw r2 h91 hP' hO1 hR1 hx1 hc hre hct g15 (by rw [gn 12 (by omega) (by omega) (by omega)]; exact h12) gc.2.1 gc.1 gc.2.2
        have key := xOut_D key hD1
        unfold B_Mo_fragment_248 B_Mo_fragment_257 B_Mo_fragment_261
        rw [if_neg (by decide), if_neg (by decide)]
        rw [show (((F_Mo_commanded s1).bind fun o1 => if o1.1 = 0 then B_Mo_fragment_272 o1.2 else B_Mo_fragment_268 o1.2).bind fun o1 => if o1.1 = 0 then B_Mo_piece_97 o1.2 else B_Mo_piece_101 o1.2) = (F_Mo_commanded s1).bind fun o => if o.1 = 0 then F_Mo_breakOff o.2 else some o.2 by
          cases F_Mo_commanded s1 with
          | none => rfl
          | some v =>
            rw [Option.bind_some, Option.bind_some]
            by_cases z : v.1 = 0
            · rw [if_pos z, if_pos z]
              show (F_Mo_breakOff v.2).bind (fun o1 => some o1) = _
              cases F_Mo_breakOff v.2 <;> rfl
            · rw [if_neg z, if_neg z]
              rfl]
        exact key
    · rw [if_neg la]
      rw [if_neg la] at hM'
      have hstM : Mg_stage M' = nI 0 ∨ Mg_stage M' = nI 2 := by rw [hM']; exact hst2
      rw [is_cmd (hstM.imp (fun h => h) .inl), Option.bind_some, if_pos rfl]
      refine ⟨s0, b, can, C, I', mr, M', nm, O, P', rd, T, rd1, T1, R, s1, x_rest hstM, ?_, hw, ?_, hD1⟩
      · rw [Option.bind_some, if_neg (show ¬ (1 : Int32) = 0 by decide)]
        rfl
      · refine ⟨2, tm, by omega, htm, h01, h71, h81, rI_0 r2 h91, hO1, hR1, fun h => absurd rfl h, fun _ => ⟨n, id, sv, re, l ++ q.drop 4, hx1, hP', by rw [hct, g15], .inr ⟨c, hc, hre, g15⟩, ?_⟩⟩
        have s12 : s1.1 12 = s.1 12 := gn 12 (by omega) (by omega) (by omega)
        cases st with
        | true =>
          rw [if_pos rfl] at gc hst h12
          obtain ⟨t1, t2, t3⟩ := hset rfl
          refine .inr ⟨by rw [hM']; exact hst, by rw [s12]; exact h12, gc.1, gc.2, by rw [hM']; exact t1, by rw [gn 16 (by omega) (by omega) (by omega), hM']; exact t2, by rw [gn 17 (by omega) (by omega) (by omega), hM']; exact t3, ?_⟩
          rw [g15]
          have := hx.1
          exact fun e => (z_em (by omega)).mp e
        | false =>
          rw [if_neg (by decide)] at gc hst h12
          exact .inl ⟨by rw [hM']; exact hst, by rw [s12]; exact h12, gc.1, gc.2.2, gc.2.1⟩
theorem x_piece {ph tm q0 : Nat} (hq : rn I 202 q) (hqm : q.length = m + 2) (hm : m ≤ 200) (h21 : ∀ i, i < q.length → s.2 21 i = nI (q.getD i 0)) (hq0 : q.getD 0 0 = q0) (h9 : s.1 9 = nI 0) (hph : ph ≤ 3) (hp0 : ph ≠ 0) (htm : tm ≤ 5) (h0 : s0 = (nI ph, nI tm, s.1 18)) (h7 : s.1 7 = nI ph) (h8 : s.1 8 = nI tm) (hO : rO O s) (hR : rR R s) (hM : rM ph C M P s) (hw : wK b can nm) : xOut s (B_Rn_byteIn_76 s0 b can C I mr M nm O P rd T rd1 T1 R) (F_Mo_piece s (nI q0) (nI m)) := by
  have b0 : q0 < 256 := by rw [← hq0]; exact hq.2 0
  have hphase : Rn_phase s0 = nI ph := by rw [h0]; rfl
  have han : Rn_answered s0 = s.1 18 := by rw [h0]; rfl
  have hP : ∃ lp, rn P 200 lp := by
    by_cases c : ph = 2
    · obtain ⟨n, id, sv, re, l, x1, x2, _⟩ := hM.2 c
      exact ⟨_, x2⟩
    · exact (hM.1 c).2.2.2.2.1
  have hst : Mg_stage M = nI 0 ∨ Mg_stage M = nI 2 := by
    by_cases c : ph = 2
    · obtain ⟨n, id, sv, re, l, x1, x2, x3, x4, x5⟩ := hM.2 c
      exact x5.imp (fun h => h.1) (fun h => h.1)
    · exact (hM.1 c).2.2.2.2.2.1
  have cl0 : F_Rn_lookAtPiece s0 b C I M O P = if nI q0 = (7 : Int32) then B_Rn_lookAtPiece_15 s0 b C I M O P else B_Rn_lookAtPiece_22 s0 b C I M O P (nI q0) := by
    unfold F_Rn_lookAtPiece B_Rn_lookAtPiece_0
    rw [show F_Bs_get I (0 : Int32) = _ from rn_get hq (i := 0) (by omega), hq0, Option.bind_some]
  have mo0 : F_Mo_piece s (nI q0) (nI m) = if nI q0 = (7 : Int32) then B_Mo_piece_6 s else B_Mo_piece_13 s (nI q0) (nI m) := rfl
  by_cases c7 : nI q0 = (7 : Int32)
  · rw [if_pos c7] at cl0 mo0
    refine pc_fin (o := B_Rn_lookAtPiece_15 s0 b C I M O P) (s := s) ?_ cl0 hw
    obtain ⟨lq, hP⟩ := hP
    obtain ⟨I', P', e1, p1, p2⟩ := c_shut (s0 := s0) (s2 := M) hq hP
    obtain ⟨s', e2, k1, k2, k3⟩ := m_shut s
    refine ⟨(0, 0, Rn_answered s0), b, C, I', (0, mI, Mg_kind M, Mg_number M, 0), O, P', s', ?_, ?_, hw.1, ⟨_, p1⟩, k1.2.2.1, ?_, mD_C k1, .inl rfl⟩
    · unfold B_Rn_lookAtPiece_15
      rw [e1]
      rfl
    · rw [mo0]
      unfold B_Mo_piece_6
      rw [e2]
      rfl
    · exact (rl_p (rl_closed (C := C) (I := I') (s := s) (by rw [han]) p1 ⟨rfl, rfl⟩ p2 (rO_k hO k2 (by rw [k3])) hR k1)).1
  · rw [if_neg c7] at cl0 mo0
    unfold B_Rn_lookAtPiece_22 at cl0
    unfold B_Mo_piece_13 at mo0
    rw [hphase] at cl0
    rw [show Mo_line s = nI ph from h7] at mo0
    by_cases c1 : ph = 1
    · -- a request, while it waits
      rw [if_pos (by rw [c1]; rfl)] at cl0 mo0
      obtain ⟨x1, x2, x3, x4, x5, x6, x7⟩ := hM.1 (by omega)
      obtain ⟨y1, y2, y3⟩ := x7 (by omega)
      unfold B_Rn_lookAtPiece_30 F_Rn_lookAtRequest B_Rn_lookAtRequest_0 at cl0
      unfold B_Mo_piece_21 at mo0
      by_cases cr : nI q0 = (1 : Int32)
      · rw [if_pos cr] at cl0 mo0
        unfold B_Rn_lookAtRequest_5 at cl0
        unfold B_Mo_piece_26 at mo0
        obtain ⟨C', e1, hC'⟩ := c_readRequest (C := C) hq hqm hm
        rw [e1, Option.bind_some] at cl0
        rw [m_isRequest hq.2 h21 hqm hm, Option.bind_some] at mo0
        cases ck : rqK q m with
        | false =>
          rw [ck] at cl0 mo0
          have key := pc_break (C := C') (b := b) (I := I) (M := M) (O := O) (P := P) (R := R) han hw.1 ⟨_, hq⟩ h9 hP hst hO hR
          rw [mo0]
          refine pc_fin key ?_ hw
          rw [cl0, if_pos (by rfl)]
          unfold B_Rn_lookAtRequest_19
          cases F_Rn_breakOff s0 b I M O P <;> rfl
        | true =>
          have ck' := ck
          unfold rqK at ck'
          rw [Bool.and_eq_true, decide_eq_true_eq] at ck'
          have hCC := hC' ck
          rw [ck, if_neg (by decide)] at mo0
          rw [ck] at cl0
          rw [if_neg (show ¬ (if true = true then (1 : Int32) else 0) = 0 by decide)] at cl0
          unfold B_Rn_lookAtRequest_26 at cl0
          have b2 := hq.2 2
          have b3 := hq.2 3
          rw [show F_Bs_get I (2 : Int32) = _ from rn_get hq (i := 2) (by omega), Option.bind_some, show (nI (q.getD 2 0) - nI (q.getD 2 0) / (2 : Int32) * (2 : Int32)) = nI (q.getD 2 0 % 2) from z_m2 _ b2] at cl0
          have mo1 : F_Mo_piece s (nI q0) (nI m) = (if nI (q.getD 2 0 % 2) = (0 : Int32) then B_Mo_request_43 (Mo_set_makes s 0) (nI 1) else if nI (q.getD 3 0) = (1 : Int32) then L_Mo_request_71 (Mo_set_contexts (Mo_set_makes s 0) (nI ((m - 2) / 3)), 0) else B_Mo_request_43 (Mo_set_makes s 0) (nI 2)).bind fun o1 => some o1 := by
            rw [mo0]
            unfold B_Mo_piece_34 F_Mo_request B_Mo_request_0
            rw [if_neg (by decide : ¬ ((2 : Int32) < 0 ∨ 202 ≤ (2 : Int32).toNatClampNeg)), show Mo_input (Mo_set_makes s 0) (2 : Int32).toNatClampNeg = nI (q.getD 2 0) from h21 2 (by omega), show (nI (q.getD 2 0) - nI (q.getD 2 0) / (2 : Int32) * (2 : Int32)) = nI (q.getD 2 0 % 2) from z_m2 _ b2]
            have e26 : B_Mo_request_26 (Mo_set_makes s 0) = if nI (q.getD 2 0 % 2) = (0 : Int32) then B_Mo_request_43 (Mo_set_makes s 0) 1 else B_Mo_request_43 (Mo_set_makes s 0) 2 := by
              unfold B_Mo_request_26
              rw [if_neg (by decide : ¬ ((2 : Int32) < 0 ∨ 202 ≤ (2 : Int32).toNatClampNeg)), show Mo_input (Mo_set_makes s 0) (2 : Int32).toNatClampNeg = nI (q.getD 2 0) from h21 2 (by omega), show (nI (q.getD 2 0) - nI (q.getD 2 0) / (2 : Int32) * (2 : Int32)) = nI (q.getD 2 0 % 2) from z_m2 _ b2]
              rfl
            have e16 : B_Mo_request_16 (Mo_set_makes s 0) (nI m) = if nI (q.getD 3 0) = (1 : Int32) then L_Mo_request_71 (Mo_set_contexts (Mo_set_makes s 0) (nI ((m - 2) / 3)), 0) else B_Mo_request_26 (Mo_set_makes s 0) := by
              unfold B_Mo_request_16 B_Mo_request_60
              rw [if_neg (by decide : ¬ ((3 : Int32) < 0 ∨ 202 ≤ (3 : Int32).toNatClampNeg)), show Mo_input (Mo_set_makes s 0) (3 : Int32).toNatClampNeg = nI (q.getD 3 0) from h21 3 (by omega), show nI m - (2 : Int32) = nI (m - 2) from z_sb (a := m) (b := 2) (by omega), show nI (m - 2) / (3 : Int32) = nI ((m - 2) / 3) from z_dv (a := m - 2) (d := 3) (by omega) (by omega) (by omega)]
            rw [e16, e26]
            by_cases ce : nI (q.getD 2 0 % 2) = (0 : Int32)
            · rw [if_pos ce, if_pos ce, if_pos ce]; rfl
            · rw [if_neg ce, if_neg ce, if_neg ce]; rfl
          rw [show ∀ o : Option S_Mo, (o.bind fun o1 => some o1) = o from fun o => by cases o <;> rfl] at mo1
          rw [mo1]
          by_cases ce : nI (q.getD 2 0 % 2) = (0 : Int32)
          · rw [if_pos ce]
            rw [if_pos ce] at cl0
            refine pc_fin (pc_refuse (C := C') (x := 1) (by omega) han hw.1 ⟨_, hq⟩ h9 hP hst hO hR) ?_ hw
            rw [cl0]
            unfold B_Rn_lookAtRequest_39
            rw [show (1 : Int32) = nI 1 from rfl]
            cases F_Rn_refuse s0 b I M O P (nI 1) <;> rfl
          · rw [if_neg ce]
            rw [if_neg ce] at cl0
            unfold B_Rn_lookAtRequest_47 at cl0
            rw [show F_Bs_get I (3 : Int32) = _ from rn_get hq (i := 3) (by omega), Option.bind_some] at cl0
            by_cases c3 : nI (q.getD 3 0) = (1 : Int32)
            · rw [if_pos c3]
              rw [if_pos c3] at cl0
              refine pc_fin (pc_accept (C := C') (a := (m - 2) / 3) hq (by omega) (by omega) hCC h21 han hw.1 h9 y3 y1 y2 hO hR) ?_ hw
              rw [cl0]
              unfold B_Rn_lookAtRequest_67
              cases F_Rn_accept s0 b C' I M O P <;> rfl
            · rw [if_neg c3]
              rw [if_neg c3] at cl0
              refine pc_fin (pc_refuse (C := C') (x := 2) (by omega) han hw.1 ⟨_, hq⟩ h9 hP hst hO hR) ?_ hw
              rw [cl0]
              unfold B_Rn_lookAtRequest_59
              rw [show (2 : Int32) = nI 2 from rfl]
              cases F_Rn_refuse s0 b I M O P (nI 2) <;> rfl
      · rw [if_neg cr] at cl0 mo0
        rw [mo0]
        refine pc_fin (pc_break (C := C) (b := b) (I := I) (M := M) (O := O) (P := P) (R := R) han hw.1 ⟨_, hq⟩ h9 hP hst hO hR) ?_ hw
        rw [cl0]
        unfold B_Rn_lookAtRequest_19
        cases F_Rn_breakOff s0 b I M O P <;> rfl
    · have n1 : ¬ nI ph = (1 : Int32) := by rw [show (1 : Int32) = nI 1 from rfl, z_eq (by omega) (by omega)]; exact c1
      rw [if_neg n1] at cl0 mo0
      unfold B_Rn_lookAtPiece_38 B_Rn_lookAtPiece_58 at cl0
      unfold B_Mo_piece_49 at mo0
      rw [hphase] at cl0
      rw [show Mo_line s = nI ph from h7] at mo0
      by_cases c2 : ph = 2
      · have n2 : nI ph = (2 : Int32) := by rw [c2]; rfl
        rw [if_pos n2] at cl0 mo0
        unfold B_Rn_lookAtPiece_46 at cl0
        unfold B_Mo_piece_57 at mo0
        by_cases c5 : nI q0 = (5 : Int32)
        · rw [if_pos c5] at cl0 mo0
          rw [mo0]
          exact pc_fin (pc_release (C := C) han hw.1 ⟨_, hq⟩ h9 hP hst hO hR) (by rw [cl0]; rfl) hw
        · rw [if_neg c5] at cl0 mo0
          unfold B_Rn_lookAtPiece_58 at cl0
          rw [hphase, if_pos n2] at cl0
          unfold B_Rn_lookAtPiece_66 at cl0
          unfold B_Mo_piece_84 at mo0
          by_cases c4 : nI q0 = (4 : Int32)
          · rw [if_pos c4] at cl0 mo0
            rw [mo0]
            obtain ⟨n, id, sv, re, l, x1, x2, x3, x4, x5⟩ := hM.2 c2
            subst c2
            rcases x5 with ⟨y1, y2, y3, y4, y5⟩ | ⟨y1, y2, y3, y4, y5, y6, y7, y8⟩
            · exact x_fragPiece (st := false) cl0 hq hqm hm h21 h9 htm h0 h7 h8 hO hR hw x1 x2 x3 x4 y1 y2 ⟨y3, y5, y4⟩ (fun h => by cases h)
            · exact x_fragPiece (st := true) cl0 hq hqm hm h21 h9 htm h0 h7 h8 hO hR hw x1 x2 x3 x4 y1 y2 ⟨y3, y4⟩ (fun _ => ⟨y5, y6, y7⟩)
          · rw [if_neg c4] at cl0 mo0
            rw [mo0]
            exact pc_fin (pc_break (C := C) (b := b) (I := I) (M := M) (O := O) (P := P) (R := R) han hw.1 ⟨_, hq⟩ h9 hP hst hO hR) (by rw [cl0]; rfl) hw
      · -- ending
        have n2 : ¬ nI ph = (2 : Int32) := by rw [show (2 : Int32) = nI 2 from rfl, z_eq (by omega) (by omega)]; exact c2
        rw [if_neg n2, if_neg n2] at cl0
        rw [if_neg n2] at mo0
        rw [mo0]
        exact pc_fin (o := some (s0, b, C, I, M, O, P)) ⟨s0, b, C, I, M, O, P, s, rfl, rfl, hw.1, ⟨_, hq⟩, h9, ⟨ph, tm, hph, htm, h0, h7, h8, hO, hR, hM⟩, mD_r s, hst⟩ (by rw [cl0]; rfl) hw
theorem x_byteIn {v : Nat} (hv : v < 256) (hRl : Rl s0 C I M O P R s) (hw : wK b can nm) : xOut s (F_Rn_byteIn s0 b can C I mr M nm O P rd T rd1 T1 R (nI v)) (F_Mo_comes s (nI v)) := by
  have hRl' := hRl
  obtain ⟨ph, tm, hph, htm, h0, h7, h8, ⟨l, hI, h9, h21, hl⟩, hO, hR, hM⟩ := hRl'
  have hphase : Rn_phase s0 = nI ph := by rw [h0]; rfl
  unfold F_Rn_byteIn B_Rn_byteIn_0 F_Mo_comes B_Mo_comes_0
  rw [hphase, show Mo_line s = nI ph from h7]
  by_cases c0 : ph = 0
  · rw [if_pos (by rw [c0]; rfl), if_pos (by rw [c0]; rfl)]
    exact ⟨s0, b, can, C, I, mr, M, nm, O, P, rd, T, rd1, T1, R, s, rfl, rfl, hw, hRl, mD_r s⟩
  · have n0 : ¬ nI ph = (0 : Int32) := by rw [show (0 : Int32) = nI 0 from rfl, z_eq (by omega) (by omega)]; exact c0
    rw [if_neg n0, if_neg n0]
    have hl2 : l.length < 202 := by
      by_cases c : 2 ≤ l.length
      · have := hl c; omega
      · omega
    obtain ⟨I1, e1, r1⟩ := rn_append' hI hl2 hv
    have ln1 : (l ++ [v]).length = l.length + 1 := by simp
    obtain ⟨s1, hs1⟩ : ∃ s1, s1 = Mo_set_inputs (Mo_set_input s (upd (Mo_input s) l.length (nI v))) (nI (l.length + 1)) := ⟨_, rfl⟩
    have w9 : s1.1 9 = nI (l.length + 1) := by rw [hs1]; exact pk_us (f := s.1) (k := 9)
    have w1 : ∀ i, i ≠ 9 → s1.1 i = s.1 i := fun i hi => by rw [hs1]; exact pk_un (f := s.1) (k := 9) hi
    have w21 : s1.2 21 = upd (s.2 21) l.length (nI v) := by rw [hs1]; rfl
    have w2 : ∀ j, j ≠ 21 → s1.2 j = s.2 j := fun j hj => by rw [hs1]; exact ua_n hj
    have q21 : ∀ i, i < (l ++ [v]).length → s1.2 21 i = nI ((l ++ [v]).getD i 0) := fun i hi => by
      rw [w21]
      by_cases c : i = l.length
      · rw [c, pk_us, gB]
      · rw [pk_un c, gA (by omega)]
        exact h21 i (by omega)
    unfold B_Rn_byteIn_8 B_Mo_comes_8
    rw [e1, Option.bind_some, rn_count r1, ln1, Option.bind_some]
    rw [show Mo_inputs s = nI l.length from h9, z_cl (by omega), if_neg (c := nI l.length < 0 ∨ 202 ≤ l.length) (by rw [show (0 : Int32) = nI 0 from rfl, z_lt (by omega) (by omega)]; omega), show Mo_inputs (Mo_set_input s (upd (Mo_input s) l.length (nI v))) = nI l.length from h9, nI_1, ← hs1, show Mo_inputs s1 = nI (l.length + 1) from w9]
    have hM1 : rM ph C M P s1 := by
      unfold rM cxR at hM ⊢
      rw [w1 11 (by omega), w1 12 (by omega), w1 13 (by omega), w1 14 (by omega), w1 15 (by omega), w1 16 (by omega), w1 17 (by omega), w2 23 (by omega), w2 24 (by omega), w2 25 (by omega), w2 26 (by omega), w2 27 (by omega)]
      exact hM
    have hO1 : rO O s1 := rO_k hO (w1 10 (by omega)) (w2 22 (by omega))
    have hR1 : rR R s1 := rR_k hR (w1 0 (by omega)) (w1 19 (by omega)) (w2 28 (by omega)) (w2 29 (by omega))
    have hD1 : mD s s1 := ⟨w1 1 (by omega), w1 2 (by omega), w2 0 (by omega)⟩
    have h01 : s0 = (nI ph, nI tm, s1.1 18) := by rw [w1 18 (by omega)]; exact h0
    have h71 : s1.1 7 = nI ph := by rw [w1 7 (by omega)]; exact h7
    have h81 : s1.1 8 = nI tm := by rw [w1 8 (by omega)]; exact h8
    -- nothing more is to be done
    have rest : (2 ≤ (l ++ [v]).length → (l ++ [v]).getD 1 0 ≤ 200 ∧ (l ++ [v]).length < 2 + (l ++ [v]).getD 1 0) → xOut s (some (s0, b, can, C, I1, mr, M, nm, O, P, rd, T, rd1, T1, R)) (some s1) := fun h => ⟨s0, b, can, C, I1, mr, M, nm, O, P, rd, T, rd1, T1, R, s1, rfl, rfl, hw, ⟨ph, tm, hph, htm, h01, h71, h81, ⟨_, r1, by rw [ln1]; exact w9, q21, h⟩, hO1, hR1, hM1⟩, hD1⟩
    by_cases c1 : l.length = 0
    · rw [if_neg (by rw [c1]; decide), if_neg (by rw [c1]; decide)]
      unfold B_Mo_comes_70
      rw [show Mo_inputs s1 = nI (l.length + 1) from w9, if_pos (by rw [c1]; decide)]
      exact rest (fun h => by omega)
    · rw [if_pos (by rw [show (2 : Int32) = nI 2 from rfl, z_le (by omega) (by omega)]; omega)]
      unfold B_Rn_byteIn_28
      rw [show F_Bs_get I1 (1 : Int32) = _ from rn_get r1 (i := 1) (by omega), Option.bind_some]
      obtain ⟨k, hk⟩ : ∃ k, k = (l ++ [v]).getD 1 0 := ⟨_, rfl⟩
      have hk8 : k < 256 := by rw [hk]; exact r1.2 1
      rw [← hk]
      have in1 : Mo_input s1 (1 : Int32).toNatClampNeg = nI k := by rw [hk]; exact q21 1 (by omega)
      -- the model's zero inputs
      obtain ⟨s2, hs2⟩ : ∃ s2, s2 = Mo_set_inputs s1 0 := ⟨_, rfl⟩
      have v9 : s2.1 9 = nI 0 := by rw [hs2]; exact pk_us (f := s1.1) (k := 9)
      have v1 : ∀ i, i ≠ 9 → s2.1 i = s1.1 i := fun i hi => by rw [hs2]; exact pk_un (f := s1.1) (k := 9) hi
      have v2 : s2.2 = s1.2 := by rw [hs2]; rfl
      have hM2 : rM ph C M P s2 := by
        unfold rM cxR at hM1 ⊢
        rw [v1 11 (by omega), v1 12 (by omega), v1 13 (by omega), v1 14 (by omega), v1 15 (by omega), v1 16 (by omega), v1 17 (by omega), v2]
        exact hM1
      have hO2 : rO O s2 := rO_k hO1 (v1 10 (by omega)) (by rw [v2])
      have hR2 : rR R s2 := rR_k hR1 (v1 0 (by omega)) (v1 19 (by omega)) (by rw [v2]) (by rw [v2])
      have hD2 : mD s s2 := mD_t hD1 ⟨v1 1 (by omega), v1 2 (by omega), by rw [v2]⟩
      have h02 : s0 = (nI ph, nI tm, s2.1 18) := by rw [v1 18 (by omega)]; exact h01
      have h72 : s2.1 7 = nI ph := by rw [v1 7 (by omega)]; exact h71
      have h82 : s2.1 8 = nI tm := by rw [v1 8 (by omega)]; exact h81
      by_cases ck : k ≤ 200
      · have zk : nI k ≤ (200 : Int32) := by rw [show (200 : Int32) = nI 200 from rfl, z_le (by omega) (by omega)]; exact ck
        rw [if_pos zk]
        have m70 : (if nI (l.length + 1) = (2 : Int32) then B_Mo_comes_36 s1 (nI v) else B_Mo_comes_70 s1) = B_Mo_comes_70 s1 := by
          by_cases c2 : l.length = 1
          · rw [if_pos (by rw [c2]; rfl)]
            unfold B_Mo_comes_36
            have : k = v := by
              rw [hk]
              have := gB (l := l) (x := v) (d := 0)
              rw [c2] at this
              exact this
            rw [if_pos (by rw [← this]; exact zk)]
          · rw [if_neg (by rw [show (2 : Int32) = nI 2 from rfl, z_eq (by omega) (by omega)]; omega)]
        rw [m70]
        unfold B_Rn_byteIn_56 B_Mo_comes_70
        rw [rn_count r1, ln1, Option.bind_some, show F_Bs_get I1 (1 : Int32) = _ from rn_get r1 (i := 1) (by omega), ← hk, Option.bind_some, show (2 : Int32) + nI k = nI (2 + k) from z_ad 2 k, show Mo_inputs s1 = nI (l.length + 1) from w9, if_neg (c := nI (l.length + 1) ≤ (1 : Int32)) (by rw [show (1 : Int32) = nI 1 from rfl, z_le (by omega) (by omega)]; omega)]
        unfold B_Mo_comes_78
        rw [if_neg (c := (1 : Int32) < 0 ∨ 202 ≤ (1 : Int32).toNatClampNeg) (by decide), in1, show (2 : Int32) + nI k = nI (2 + k) from z_ad 2 k, show Mo_inputs s1 = nI (l.length + 1) from w9]
        by_cases cw : l.length + 1 = 2 + k
        · rw [if_pos (by rw [cw]), if_pos (by rw [cw])]
          have key := x_piece (mr := mr) (rd := rd) (T := T) (rd1 := rd1) (T1 := T1) (s := s2) (q := l ++ [v]) (m := k) (q0 := (l ++ [v]).getD 0 0) r1 (by omega) ck (fun i hi => by rw [v2]; exact q21 i hi) rfl v9 hph c0 htm h02 h72 h82 hO2 hR2 hM2 hw
          have key := xOut_D key hD2
          unfold B_Mo_comes_93
          rw [if_neg (by decide : ¬ ((0 : Int32) < 0 ∨ 202 ≤ (0 : Int32).toNatClampNeg)), if_neg (by decide : ¬ ((1 : Int32) < 0 ∨ 202 ≤ (1 : Int32).toNatClampNeg)), ← hs2, show Mo_input s2 (0 : Int32).toNatClampNeg = nI ((l ++ [v]).getD 0 0) by show s2.2 21 0 = _; rw [v2]; exact q21 0 (by omega), show Mo_input s2 (1 : Int32).toNatClampNeg = nI k by show s2.2 21 1 = _; rw [v2]; exact in1]
          rw [show ((F_Mo_piece s2 (nI ((l ++ [v]).getD 0 0)) (nI k)).bind fun o3 => B_Mo_comes_114 o3) = F_Mo_piece s2 (nI ((l ++ [v]).getD 0 0)) (nI k) by
            cases F_Mo_piece s2 (nI ((l ++ [v]).getD 0 0)) (nI k) <;> rfl]
          exact key
        · have zw : ¬ nI (l.length + 1) = nI (2 + k) := by rw [z_eq (by omega) (by omega)]; exact cw
          rw [if_neg zw, if_neg zw]
          refine rest (fun _ => ⟨by rw [← hk]; exact ck, ?_⟩)
          rw [← hk, ln1]
          by_cases c2 : 2 ≤ l.length
          · have h1 := (hl c2).2
            have : k = l.getD 1 0 := by rw [hk, gA (by omega)]
            omega
          · omega
      · have zk : ¬ nI k ≤ (200 : Int32) := by rw [show (200 : Int32) = nI 200 from rfl, z_le (by omega) (by omega)]; exact ck
        have c2 : l.length = 1 := by
          by_cases c : 2 ≤ l.length
          · have h1 := (hl c).1
            have : k = l.getD 1 0 := by rw [hk, gA (by omega)]
            omega
          · omega
        have kv : k = v := by
          rw [hk]
          have := gB (l := l) (x := v) (d := 0)
          rw [c2] at this
          exact this
        rw [if_neg zk, if_pos (by rw [c2]; rfl)]
        unfold B_Rn_byteIn_42 B_Mo_comes_36
        rw [if_neg (by rw [← kv]; exact zk)]
        obtain ⟨I2, e2, r2⟩ := rn_reset r1
        unfold B_Mo_comes_43
        rw [e2, Option.bind_some, ← hs2, show Mo_line s2 = nI ph from h72]
        have han : Rn_answered s0 = s2.1 18 := by rw [h02]; rfl
        unfold F_Rn_refuseLength B_Rn_refuseLength_0
        rw [hphase]
        have hP : ∃ lp, rn P 200 lp := by
          by_cases c : ph = 2
          · obtain ⟨n, id, sv, re, l, x1, x2, _⟩ := hM.2 c
            exact ⟨_, x2⟩
          · exact (hM.1 c).2.2.2.2.1
        have hst : Mg_stage M = nI 0 ∨ Mg_stage M = nI 2 := by
          by_cases c : ph = 2
          · obtain ⟨n, id, sv, re, l, x1, x2, x3, x4, x5⟩ := hM.2 c
            exact x5.imp (fun h => h.1) (fun h => h.1)
          · exact (hM.1 c).2.2.2.2.2.1
        by_cases c3 : nI ph = (3 : Int32)
        · rw [if_pos c3, if_pos c3]
          obtain ⟨lq, hP⟩ := hP
          obtain ⟨I', P', f1, p1, p2⟩ := c_shut (s0 := s0) (s2 := M) r2 hP
          obtain ⟨s', f2, k1, k2, k3⟩ := m_shut s2
          refine ⟨(0, 0, Rn_answered s0), b, can, C, I', mr, (0, mI, Mg_kind M, Mg_number M, 0), nm, O, P', rd, T, rd1, T1, R, s', ?_, ?_, hw, ?_, mD_t hD2 (mD_C k1)⟩
          · unfold B_Rn_refuseLength_8
            rw [f1]
            rfl
          · unfold B_Mo_comes_56
            rw [f2]
            rfl
          · exact rl_closed (s := s2) (by rw [han]) p1 ⟨rfl, rfl⟩ p2 (rO_k hO2 k2 (by rw [k3])) hR2 k1
        · rw [if_neg c3, if_neg c3]
          obtain ⟨s0', b', I', M', O', P', s', a1, a2, a3, a4, a5, a6, a7, a8, a9⟩ := x_breakOff (C := C) (s0 := s0) (M := M) (P := P) (O := O) (R := R) (I := I2) (b := b) (s := s2) han hw.1 ⟨_, r2⟩ v9 hP hst hO2 hR2
          refine ⟨s0', b', can, C, I', mr, M', nm, O', P', rd, T, rd1, T1, R, s', ?_, ?_, ⟨a3, hw.2⟩, rp_l a6 (rI_0 (a9 r2) a5), mD_t hD2 a7⟩
          · unfold B_Rn_refuseLength_15
            rw [a1]
            rfl
          · unfold B_Mo_comes_63
            rw [a2]
            rfl
end XBY
