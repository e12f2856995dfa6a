/-! PURE: a command that has come, class and model side by side -/
section XCM
variable {s0 : S_Rn} {b can nm I P : S_Bs} {C : S_Cs} {mr : S_Mr} {M : S_Mg} {O : S_Ou} {s : S_Mo} {n c tm : Nat} {id sv re : Nat → Nat} {rd rd1 : S_Rd} {T T1 : S_Tr} {R : S_Rs} {l : List Nat}
/-- all that byteIn works with -/
abbrev XS : Type := S_Rn × S_Bs × S_Bs × S_Cs × S_Bs × S_Mr × S_Mg × S_Bs × S_Ou × S_Bs × S_Rd × S_Tr × S_Rd × S_Tr × S_Rs
/-- the rows that class and model don't share have their lengths -/
def wK (b can nm : S_Bs) : Prop := (∃ l, rn b 200 l) ∧ (∃ l, rn can 301 l) ∧ ∃ l, rn nm 16 l
def xOut (s : S_Mo) (o : Option XS) (m : Option S_Mo) : Prop := ∃ s0' b' can' C' I' mr' M' nm' O' P' rd' T' rd1' T1' R' s', o = some (s0', b', can', C', I', mr', M', nm', O', P', rd', T', rd1', T1', R') ∧ m = some s' ∧ wK b' can' nm' ∧ Rl s0' C' I' M' O' P' R' s' ∧ mD s s'
theorem xOut_D {s s1 : S_Mo} {o : Option XS} {m : Option S_Mo} (h : xOut s1 o m) (k : mD s s1) : xOut s o m := by
  obtain ⟨a1, a2, a3, a4, a5, a6, a7, a8, a9, a10, a11, a12, a13, a14, a15, s', e1, e2, e3, e4, e5⟩ := h
  exact ⟨a1, a2, a3, a4, a5, a6, a7, a8, a9, a10, a11, a12, a13, a14, a15, s', e1, e2, e3, e4, mD_t k e5⟩
theorem bd1 {o : Option S_Mo} : (o.bind fun o1 => some ((1 : Int32), o1)).bind (fun o => if o.1 = 0 then F_Mo_breakOff o.2 else some o.2) = o := by
  cases o with
  | none => rfl
  | some v =>
    show (if (1 : Int32) = 0 then F_Mo_breakOff v else some v) = some v
    rw [if_neg (by decide)]
/-- nothing is whole: byteIn ends -/
theorem x_rest (h : Mg_stage M = nI 0 ∨ Mg_stage M = nI 2) : B_Rn_byteIn_101 s0 b can C I mr M nm O P rd T rd1 T1 R = some (s0, b, can, C, I, mr, M, nm, O, P, rd, T, rd1, T1, R) := by
  unfold B_Rn_byteIn_101 F_Mg_isWhole B_Mg_isWhole_0
  rw [if_neg (by rcases h with h | h <;> rw [h] <;> decide)]
  rfl
theorem x_whole (h : Mg_stage M = nI 3) : B_Rn_byteIn_101 s0 b can C I mr M nm O P rd T rd1 T1 R = (F_Rn_answer s0 b can C I mr M nm O P rd T rd1 T1 R).bind fun o1 => some (o1.1, o1.2.1, o1.2.2.1, C, o1.2.2.2.1, o1.2.2.2.2.1, o1.2.2.2.2.2.1, o1.2.2.2.2.2.2.1, o1.2.2.2.2.2.2.2.1, o1.2.2.2.2.2.2.2.2.1, o1.2.2.2.2.2.2.2.2.2.1, o1.2.2.2.2.2.2.2.2.2.2.1, o1.2.2.2.2.2.2.2.2.2.2.2.1, o1.2.2.2.2.2.2.2.2.2.2.2.2.1, o1.2.2.2.2.2.2.2.2.2.2.2.2.2) := by
  unfold B_Rn_byteIn_101 F_Mg_isWhole B_Mg_isWhole_0
  rw [if_pos (by rw [h]; rfl)]
  rfl
theorem x_answerW {h : Bool} (h0 : s0 = (nI 2, nI tm, s.1 18)) (htm : tm ≤ 5) (h7 : s.1 7 = nI 2) (h8 : s.1 8 = nI tm) (hw : wK b can nm) (hI : rn I 202 []) (h9 : s.1 9 = nI 0) (hP : rn P 200 l) (hO : rO O s) (hR : rR R s) (hx : cxR C s n id sv re) (hc : c < n) (hre : re c ≤ 1) (hm : Mg_context M = nI c) (hsp : s.1 15 = nI c) (hk : Mg_kind M = s.1 16) (hn : Mg_number M = s.1 17) (hS : Mg_hasSet M = if h = true then 1 else 0) (hbo : h = true → s.1 14 = nI l.length ∧ ∀ i, i < l.length → s.2 27 i = nI (l.getD i 0)) (hst : Mg_stage M = nI 3) : xOut s (B_Rn_byteIn_101 s0 b can C I mr M nm O P rd T rd1 T1 R) (F_Mo_answer s (if h = true then 1 else 0)) := by
  obtain ⟨s0', b', can', I', mr', M', nm', O', P', rd', T', rd1', T1', R', s', a1, a2, a3, a4, a5, a6, a7⟩ := x_answer (mr := mr) (rd := rd) (T := T) (rd1 := rd1) (T1 := T1) h0 htm h7 h8 hw.1 hw.2.1 hw.2.2 hI h9 hP hO hR hx hc hre hm hsp hk hn hS hbo
  refine ⟨s0', b', can', C, I', mr', M', nm', O', P', rd', T', rd1', T1', R', s', ?_, a2, ⟨a3, a4, a5⟩, a6, a7⟩
  rw [x_whole hst, a1]
  rfl
theorem x_command (h0 : s0 = (nI 2, nI tm, s.1 18)) (htm : tm ≤ 5) (h7 : s.1 7 = nI 2) (h8 : s.1 8 = nI tm) (hw : wK b can nm) (hI : rn I 202 []) (h9 : s.1 9 = nI 0) (hP : rn P 200 l) (hO : rO O s) (hR : rR R s) (hx : cxR C s n id sv re) (hc : c < n) (hre : re c ≤ 1) (hm : Mg_context M = nI c) (hsp : s.1 15 = nI c) (h12 : s.1 12 = nI 0) (h14 : s.1 14 = nI 0) (h13 : s.1 13 = nI l.length) (h26 : ∀ i, i < l.length → s.2 26 i = nI (l.getD i 0)) : xOut s (B_Rn_byteIn_97 s0 b can C I mr M nm O P rd T rd1 T1 R) ((F_Mo_commanded s).bind fun o => if o.1 = 0 then F_Mo_breakOff o.2 else some o.2) := by
  have hcap := rn_cap hP
  obtain ⟨s1, e1, g1, m1⟩ := m_comLoop hcap.1 h13 h26
  obtain ⟨x, s2, e2, f1, f2, f3, f4⟩ := m_read (s := s1) (t := 0) (syn := 1) (by omega) (by omega) hP.2 hcap.1 m1
  obtain ⟨r, e3, r1, r2⟩ := c_read (syn := 1) hP (by omega) hcap.1 rd T
  obtain ⟨P', e4, r4⟩ := rn_reset hP
  have k : mK s s2 := mK_t (mK_G g1) (mK_f f1)
  have kf := mF1_k k
  have u : ∀ i, i ≠ 3 → i ≠ 4 → i ≠ 5 → i ≠ 6 → s2.1 i = s.1 i := k.1
  have mo : F_Mo_commanded s = if x = 0 then some (0, s2) else B_Mo_commanded_43 s2 := by
    rw [e1]
    unfold B_Mo_commanded_28
    rw [show Mo_commands s1 = nI l.length by show s1.1 13 = _; rw [g1.1]; exact h13, show F_Mo_read s1 (0 : Int32) (nI l.length) (1 : Int32) = _ from e2, Option.bind_some]
    rfl
  -- what is no command breaks off
  have bad : ∀ M1 rd' T', F_Rn_lookAtCommand s0 b I M O P rd T = B_Rn_lookAtCommand_36 s0 b I M1 O P rd' T' → F_Mo_commanded s = some (0, s2) → xOut s (B_Rn_byteIn_97 s0 b can C I mr M nm O P rd T rd1 T1 R) ((F_Mo_commanded s).bind fun o => if o.1 = 0 then F_Mo_breakOff o.2 else some o.2) := by
    intro M1 rd' T' h1 h2
    obtain ⟨s0', b', I', M', O', P'', s', a1, a2, a3, a4, a5, a6, a7, a8, a9⟩ := x_breakOff (C := C) (s0 := s0) (b := b) (I := I) (M := (0, mI, Mg_kind M1, Mg_number M1, 0)) (O := O) (P := P') (R := R) (s := s2) (by rw [h0, u 18 (by omega) (by omega) (by omega) (by omega)]; rfl) hw.1 ⟨_, hI⟩ (by rw [u 9 (by omega) (by omega) (by omega) (by omega)]; exact h9) ⟨_, r4⟩ (.inl rfl) (rO_K hO k) (rR_F hR kf)
    have hI' : rn I' 202 [] := a9 hI
    refine ⟨s0', b', can, C, I', mr, M', nm, O', P'', rd', T', rd1, T1, R, s', ?_, ?_, ⟨a3, hw.2⟩, rp_l a6 (rI_0 hI' a5), mD_t (mD_F kf) a7⟩
    · unfold B_Rn_byteIn_97
      rw [h1]
      unfold B_Rn_lookAtCommand_36 B_Rn_lookAtCommand_37
      rw [e4, Option.bind_some, if_pos rfl]
      unfold B_Rn_lookAtCommand_49
      rw [show F_Mg_reset M1 = some (0, mI, Mg_kind M1, Mg_number M1, 0) from rfl, Option.bind_some, a1, Option.bind_some]
      exact x_rest a8
    · rw [h2, Option.bind_some, if_pos rfl]
      exact a2
  by_cases cz : (rD 1 l).1 = 0
  · have hw1 := rD_wfT hcap.1 cz
    have hT : tR r.2.2 (rD 1 l).2 := ⟨hw1, r2 cz⟩
    rw [f2, if_pos cz, if_neg (by decide)] at mo
    have cl : F_Rn_lookAtCommand s0 b I M O P rd T = B_Rn_lookAtCommand_15 s0 b I M O P r.2.1 r.2.2 := by
      unfold F_Rn_lookAtCommand B_Rn_lookAtCommand_0
      rw [show F_Rd_read rd T P (1 : Int32) = _ from e3, Option.bind_some, if_pos (by rw [r1, cz]; rfl)]
    obtain ⟨q1, q2⟩ := m_und hw1 (f4 cz)
    rcases c_und (M := M) hT with ⟨p1, M1, p2⟩ | ⟨kk, v, h, p1, p2⟩
    · refine bad M1 r.2.1 r.2.2 ?_ (by rw [mo, q1 p1])
      rw [cl]
      unfold B_Rn_lookAtCommand_15
      rw [show F_Rd_tree r.2.1 = some () from rfl, Option.bind_some, p2, Option.bind_some, if_pos rfl]
    · obtain ⟨s3, t1, t2, t3, t4, t5⟩ := q2 kk v h p1
      have u3 : ∀ i, i ≠ 3 → i ≠ 4 → i ≠ 5 → i ≠ 6 → i ≠ 16 → i ≠ 17 → s3.1 i = s.1 i := fun i a b c d e f => (t3 i e f).trans (u i a b c d)
      have hx3 : cxR C s3 n id sv re := by
        have := cxR_F hx kf
        unfold cxR at this ⊢
        rw [t3 11 (by omega) (by omega), t4]
        exact this
      have hO3 : rO O s3 := rO_k (rO_K hO k) (t3 10 (by omega) (by omega)) (by rw [t4])
      have hR3 : rR R s3 := rR_k (rR_F hR kf) (t3 0 (by omega) (by omega)) (t3 19 (by omega) (by omega)) (by rw [t4]) (by rw [t4])
      have hD3 : mD s s3 := mD_t (mD_F kf) ⟨t3 1 (by omega) (by omega), t3 2 (by omega) (by omega), by rw [t4]⟩
      have cl2 : B_Rn_byteIn_97 s0 b can C I mr M nm O P rd T rd1 T1 R = B_Rn_byteIn_101 s0 b can C I mr ((if h = true then 2 else 3), Mg_context M, kk, v, (if h = true then 1 else 0)) nm O P' r.2.1 r.2.2 rd1 T1 R := by
        unfold B_Rn_byteIn_97
        rw [cl]
        unfold B_Rn_lookAtCommand_15
        rw [show F_Rd_tree r.2.1 = some () from rfl, Option.bind_some, p2, Option.bind_some, if_neg (show ¬ (1 : Int32) = 0 by decide)]
        unfold B_Rn_lookAtCommand_32 B_Rn_lookAtCommand_37
        rw [e4, Option.bind_some, if_neg (by decide)]
        rfl
      rw [cl2, mo, t5]
      cases h with
      | false =>
        have key := x_answerW (s0 := s0) (tm := tm) (mr := mr) (rd := r.2.1) (T := r.2.2) (rd1 := rd1) (T1 := T1) (M := (3, Mg_context M, kk, v, 0)) (h := false) (s := s3) (l := []) (by rw [u3 18 (by omega) (by omega) (by omega) (by omega) (by omega) (by omega)]; exact h0) htm (by rw [u3 7 (by omega) (by omega) (by omega) (by omega) (by omega) (by omega)]; exact h7) (by rw [u3 8 (by omega) (by omega) (by omega) (by omega) (by omega) (by omega)]; exact h8) hw hI (by rw [u3 9 (by omega) (by omega) (by omega) (by omega) (by omega) (by omega)]; exact h9) r4 hO3 hR3 hx3 hc hre hm (by rw [u3 15 (by omega) (by omega) (by omega) (by omega) (by omega) (by omega)]; exact hsp) t1.symm t2.symm rfl (fun h => by cases h) rfl
        have key := xOut_D key hD3
        simp only [Bool.false_eq_true, ↓reduceIte] at key ⊢
        rw [bd1]
        exact key
      | true =>
        simp only [↓reduceIte]
        refine ⟨s0, b, can, C, I, mr, (2, Mg_context M, kk, v, 1), nm, O, P', r.2.1, r.2.2, rd1, T1, R, Mo_set_wanted s3 1, x_rest (.inr rfl), ?_, hw, ?_, mD_t hD3 ⟨pk_un (f := s3.1) (k := 12) (x := 1) (j := 1) (by omega), pk_un (f := s3.1) (k := 12) (x := 1) (j := 2) (by omega), rfl⟩⟩
        · rw [Option.bind_some]
          exact if_neg (show ¬ (1 : Int32) = 0 by decide)
        · have v : ∀ i, i ≠ 12 → (Mo_set_wanted s3 1).1 i = s3.1 i := fun i hi => pk_un (f := s3.1) (k := 12) (x := 1) hi
          refine ⟨2, tm, by omega, htm, ?_, ?_, ?_, rI_0 hI ?_, rO_k hO3 (v 10 (by omega)) rfl, rR_k hR3 (v 0 (by omega)) (v 19 (by omega)) rfl rfl, fun h => absurd rfl h, fun _ => ⟨n, id, sv, re, [], ?_, r4, ?_, .inr ⟨c, hc, hre, ?_⟩, .inr ⟨rfl, rfl, ?_, fun i hi => by simp at hi, rfl, ?_, ?_, ?_⟩⟩⟩
          · rw [v 18 (by omega), u3 18 (by omega) (by omega) (by omega) (by omega) (by omega) (by omega)]; exact h0
          · rw [v 7 (by omega), u3 7 (by omega) (by omega) (by omega) (by omega) (by omega) (by omega)]; exact h7
          · rw [v 8 (by omega), u3 8 (by omega) (by omega) (by omega) (by omega) (by omega) (by omega)]; exact h8
          · rw [v 9 (by omega), u3 9 (by omega) (by omega) (by omega) (by omega) (by omega) (by omega)]; exact h9
          · unfold cxR at hx3 ⊢
            rw [v 11 (by omega)]
            exact hx3
          · rw [v 15 (by omega), u3 15 (by omega) (by omega) (by omega) (by omega) (by omega) (by omega), hsp]; exact hm
          · rw [v 15 (by omega), u3 15 (by omega) (by omega) (by omega) (by omega) (by omega) (by omega)]; exact hsp
          · rw [v 14 (by omega), u3 14 (by omega) (by omega) (by omega) (by omega) (by omega) (by omega)]; exact h14
          · rw [v 16 (by omega)]; exact t1.symm
          · rw [v 17 (by omega)]; exact t2.symm
          · rw [v 15 (by omega), u3 15 (by omega) (by omega) (by omega) (by omega) (by omega) (by omega), hsp]
            intro e
            have := hx.1
            exact (z_em (by omega)).mp e
  · rw [f2, if_neg cz, if_pos rfl] at mo
    refine bad M r.2.1 r.2.2 ?_ mo
    unfold F_Rn_lookAtCommand B_Rn_lookAtCommand_0
    rw [show F_Rd_read rd T P (1 : Int32) = _ from e3, Option.bind_some, if_neg (by rw [r1, show (0 : Int32) = nI 0 from rfl, z_eq (by have := rD_lt (syn := 1) (src := l) hcap.1; omega) (by omega)]; exact cz)]
end XCM
