/-! PURE: feed and send, class and model side by side -/
section XOF
variable {D : S_Bs}
/-- all 15 of them after a run of bytes -/
def fOut (s : S_Mo) (o : Option (Int32 × XS)) (m : Option (Int32 × S_Mo)) : Prop := ∃ r s0' b' can' C' I' mr' M' nm' O' P' rd' T' rd1' T1' R' s', o = some (r, s0', b', can', C', I', mr', M', nm', O', P', rd', T', rd1', T1', R') ∧ m = some (r, s') ∧ wK b' can' nm' ∧ Rl s0' C' I' M' O' P' R' s' ∧ mD s s'
theorem fOut_D {s s1 : S_Mo} {o : Option (Int32 × XS)} {m : Option (Int32 × S_Mo)} (h : fOut s1 o m) (k : mD s s1) : fOut s o m := by
  obtain ⟨r, a1, a2, a3, a4, a5, a6, a7, a8, a9, a10, a11, a12, a13, a14, a15, s', e1, e2, e3, e4, e5⟩ := h
  exact ⟨r, a1, a2, a3, a4, a5, a6, a7, a8, a9, a10, a11, a12, a13, a14, a15, s', e1, e2, e3, e4, mD_t k e5⟩
theorem feedLoop (x : Int64) : ∀ (k fu fv : Nat) (s0 : S_Rn) (b can : S_Bs) (C : S_Cs) (I : S_Bs) (mr : S_Mr) (M : S_Mg) (nm : S_Bs) (O : S_Ou) (P : S_Bs) (rd : S_Rd) (T : S_Tr) (rd1 : S_Rd) (T1 : S_Tr) (R : S_Rs) (s : S_Mo), k ≤ 8 → k < fu → k < fv → wK b can nm → Rl s0 C I M O P R s → fOut s (lp (fun k29 v => B_Rn_feed_29  k29  v.1 v.2.1 v.2.2.1 v.2.2.2.1 v.2.2.2.2.1 v.2.2.2.2.2.1 v.2.2.2.2.2.2.1 v.2.2.2.2.2.2.2.1 v.2.2.2.2.2.2.2.2.1 v.2.2.2.2.2.2.2.2.2.1 v.2.2.2.2.2.2.2.2.2.2.1 v.2.2.2.2.2.2.2.2.2.2.2.1 v.2.2.2.2.2.2.2.2.2.2.2.2.1 v.2.2.2.2.2.2.2.2.2.2.2.2.2.1 v.2.2.2.2.2.2.2.2.2.2.2.2.2.2.1 v.2.2.2.2.2.2.2.2.2.2.2.2.2.2.2.1 v.2.2.2.2.2.2.2.2.2.2.2.2.2.2.2.2) fu (s0, b, can, C, I, mr, M, nm, O, P, rd, T, rd1, T1, R, x, dI k)) (lp (fun k40 v => B_Mo_feed_40  k40  v.1 v.2.1 v.2.2) fv (s, x, dI k)) := by
  intro k
  induction k with
  | zero =>
    intro fu fv s0 b can C I mr M nm O P rd T rd1 T1 R s h8 hf hv hw hR
    obtain ⟨fu', rfl⟩ : ∃ fu', fu = fu' + 1 := ⟨fu - 1, by omega⟩
    obtain ⟨fv', rfl⟩ : ∃ fv', fv = fv' + 1 := ⟨fv - 1, by omega⟩
    refine ⟨1, s0, b, can, C, I, mr, M, nm, O, P, rd, T, rd1, T1, R, s, ?_, ?_, hw, hR, mD_r s⟩
    · rw [lp_s]
      show B_Rn_feed_29 _ s0 b can C I mr M nm O P rd T rd1 T1 R x mI = _
      unfold B_Rn_feed_29
      rw [if_pos (by decide +kernel)]
      rfl
    · rw [lp_s]
      show B_Mo_feed_40 _ s x mI = _
      unfold B_Mo_feed_40
      rw [if_pos (by decide +kernel)]
      rfl
  | succ k ih =>
    intro fu fv s0 b can C I mr M nm O P rd T rd1 T1 R s h8 hf hv hw hR
    obtain ⟨fu', rfl⟩ : ∃ fu', fu = fu' + 1 := ⟨fu - 1, by omega⟩
    obtain ⟨fv', rfl⟩ : ∃ fv', fv = fv' + 1 := ⟨fv - 1, by omega⟩
    obtain ⟨v, v1, v2, v3⟩ := by_v x (i := k) (by omega)
    have dk : dI (k + 1) = nI k := by unfold dI; rw [if_neg (by omega)]; rfl
    have dk2 : nI k + (-1) = dI k := by
      unfold dI
      by_cases c : k = 0
      · rw [if_pos c, c]; decide +kernel
      · rw [if_neg c]; exact x_m1 (by omega)
    obtain ⟨s0', b', can', C', I', mr', M', nm', O', P', rd', T', rd1', T1', R', s', e1, e2, e3, e4, e5⟩ := x_byteIn (mr := mr) (rd := rd) (T := T) (rd1 := rd1) (T1 := T1) v1 hR hw
    have key := fOut_D (ih fu' fv' s0' b' can' C' I' mr' M' nm' O' P' rd' T' rd1' T1' R' s' (by omega) (by omega) (by omega) e3 e4) e5
    have c1 : lp (fun k29 v => B_Rn_feed_29  k29  v.1 v.2.1 v.2.2.1 v.2.2.2.1 v.2.2.2.2.1 v.2.2.2.2.2.1 v.2.2.2.2.2.2.1 v.2.2.2.2.2.2.2.1 v.2.2.2.2.2.2.2.2.1 v.2.2.2.2.2.2.2.2.2.1 v.2.2.2.2.2.2.2.2.2.2.1 v.2.2.2.2.2.2.2.2.2.2.2.1 v.2.2.2.2.2.2.2.2.2.2.2.2.1 v.2.2.2.2.2.2.2.2.2.2.2.2.2.1 v.2.2.2.2.2.2.2.2.2.2.2.2.2.2.1 v.2.2.2.2.2.2.2.2.2.2.2.2.2.2.2.1 v.2.2.2.2.2.2.2.2.2.2.2.2.2.2.2.2) (fu' + 1) (s0, b, can, C, I, mr, M, nm, O, P, rd, T, rd1, T1, R, x, dI (k + 1)) = lp (fun k29 v => B_Rn_feed_29  k29  v.1 v.2.1 v.2.2.1 v.2.2.2.1 v.2.2.2.2.1 v.2.2.2.2.2.1 v.2.2.2.2.2.2.1 v.2.2.2.2.2.2.2.1 v.2.2.2.2.2.2.2.2.1 v.2.2.2.2.2.2.2.2.2.1 v.2.2.2.2.2.2.2.2.2.2.1 v.2.2.2.2.2.2.2.2.2.2.2.1 v.2.2.2.2.2.2.2.2.2.2.2.2.1 v.2.2.2.2.2.2.2.2.2.2.2.2.2.1 v.2.2.2.2.2.2.2.2.2.2.2.2.2.2.1 v.2.2.2.2.2.2.2.2.2.2.2.2.2.2.2.1 v.2.2.2.2.2.2.2.2.2.2.2.2.2.2.2.2) fu' (s0', b', can', C', I', mr', M', nm', O', P', rd', T', rd1', T1', R', x, dI k) := by
      rw [lp_s, dk]
      show B_Rn_feed_29 _ s0 b can C I mr M nm O P rd T rd1 T1 R x (nI k) = _
      unfold B_Rn_feed_29
      rw [if_neg (by rw [show (0 : Int32) = nI 0 from rfl, z_lt (by omega) (by omega)]; omega)]
      unfold B_Rn_feed_34
      rw [v2, Option.bind_some, e1, Option.bind_some, dk2]
    have c2 : lp (fun k40 v => B_Mo_feed_40  k40  v.1 v.2.1 v.2.2) (fv' + 1) (s, x, dI (k + 1)) = lp (fun k40 v => B_Mo_feed_40  k40  v.1 v.2.1 v.2.2) fv' (s', x, dI k) := by
      rw [lp_s, dk]
      show B_Mo_feed_40 _ s x (nI k) = _
      unfold B_Mo_feed_40
      rw [if_neg (by rw [show (0 : Int32) = nI 0 from rfl, z_lt (by omega) (by omega)]; omega)]
      unfold B_Mo_feed_45
      rw [v3, e2, Option.bind_some, dk2]
    rw [c1, c2]
    exact key
theorem o_feed {s0 : S_Rn} {b can : S_Bs} {C : S_Cs} {I : S_Bs} {mr : S_Mr} {M : S_Mg} {nm : S_Bs} {O : S_Ou} {P : S_Bs} {rd : S_Rd} {T : S_Tr} {rd1 : S_Rd} {T1 : S_Tr} {R : S_Rs} {s : S_Mo} (hw : wK b can nm) (h : Rl s0 C I M O P R s) (x : Int64) (n : Int32) : (∃ s1, fOut s1 (F_Rn_feed s0 b can C I mr M nm O P rd T rd1 T1 R x n) (F_Mo_feed s x n) ∧ s1 = Mo_set_code s 0) ∨ (F_Rn_feed_e1 s0 x n = some () ∧ F_Mo_feed s x n = some (0, Mo_set_code s 1)) := by
  unfold F_Rn_feed B_Rn_feed_0 F_Rn_feed_e1 B_Rn_feed_e1_0 F_Mo_feed B_Mo_feed_0
  rw [c_isCount, m_inI, Option.bind_some, Option.bind_some, Option.bind_some]
  by_cases c : inR n 1 8
  · left
    refine ⟨_, ?_, rfl⟩
    rw [if_pos c, if_neg (by decide), if_neg (by decide)]
    obtain ⟨k, k1, k8, rfl⟩ := inR_18 c
    unfold B_Mo_feed_11 B_Mo_feed_16
    rw [show Mo_code (Mo_set_code s 0) = 0 from cd_1 s 0, if_neg (by decide)]
    unfold B_Rn_feed_15 B_Mo_feed_26
    have hc := rl_c h 0
    have hc' := hc
    obtain ⟨ph, tm, a1, a2, a3, a4, _⟩ := hc'
    rw [show Rn_phase s0 = nI ph by rw [a3]; rfl, show Mo_line (Mo_set_code s 0) = nI ph from a4]
    by_cases cp : ph = 0
    · rw [if_pos (by rw [cp]; rfl), if_pos (by rw [cp]; rfl)]
      exact ⟨0, s0, b, can, C, I, mr, M, nm, O, P, rd, T, rd1, T1, R, Mo_set_code s 0, rfl, rfl, hw, hc, mD_r _⟩
    · have n0 : ¬ nI ph = (0 : Int32) := by rw [show (0 : Int32) = nI 0 from rfl, z_eq (by omega) (by omega)]; exact cp
      rw [if_neg n0, if_neg n0]
      unfold B_Rn_feed_24 B_Mo_feed_35 L_Rn_feed_29 L_Mo_feed_40
      have dk : nI k - (1 : Int32) = dI k := by
        unfold dI
        rw [if_neg (by omega)]
        exact z_sb (a := k) (b := 1) (by omega)
      rw [dk]
      exact feedLoop x k FU FU s0 b can C I mr M nm O P rd T rd1 T1 R (Mo_set_code s 0) k8 (by unfold FU; omega) (by unfold FU; omega) hw hc
  · right
    rw [if_neg c, if_pos rfl, if_pos rfl]
    refine ⟨rfl, ?_⟩
    unfold B_Mo_feed_15 B_Mo_feed_16
    rw [show Mo_code (Mo_set_code s 1) = 1 from cd_1 s 1, if_pos (by decide)]
    rfl
theorem sendLoop {l : List Nat} (hD : rn D 120 l) : ∀ (j i fu fv : Nat) (s0 : S_Rn) (b can : S_Bs) (C : S_Cs) (I : S_Bs) (mr : S_Mr) (M : S_Mg) (nm : S_Bs) (O : S_Ou) (P : S_Bs) (rd : S_Rd) (T : S_Tr) (rd1 : S_Rd) (T1 : S_Tr) (R : S_Rs) (s : S_Mo), i + j = l.length → j < fu → j < fv → wK b can nm → Rl s0 C I M O P R s → s.1 2 = nI l.length → (∀ i, i < l.length → s.2 0 i = nI (l.getD i 0)) → fOut s (lp (fun k11 v => B_Rn_send_11  k11 D v.1 v.2.1 v.2.2.1 v.2.2.2.1 v.2.2.2.2.1 v.2.2.2.2.2.1 v.2.2.2.2.2.2.1 v.2.2.2.2.2.2.2.1 v.2.2.2.2.2.2.2.2.1 v.2.2.2.2.2.2.2.2.2.1 v.2.2.2.2.2.2.2.2.2.2.1 v.2.2.2.2.2.2.2.2.2.2.2.1 v.2.2.2.2.2.2.2.2.2.2.2.2.1 v.2.2.2.2.2.2.2.2.2.2.2.2.2.1 v.2.2.2.2.2.2.2.2.2.2.2.2.2.2.1 v.2.2.2.2.2.2.2.2.2.2.2.2.2.2.2) fu (s0, b, can, C, I, mr, M, nm, O, P, rd, T, rd1, T1, R, nI i)) (lp (fun k16 v => B_Mo_send_16  k16  v.1 v.2) fv (s, nI i)) := by
  have hcap := rn_cap hD
  intro j
  induction j with
  | zero =>
    intro i fu fv s0 b can C I mr M nm O P rd T rd1 T1 R s hi hf hv hw hR h2 h0
    obtain ⟨fu', rfl⟩ : ∃ fu', fu = fu' + 1 := ⟨fu - 1, by omega⟩
    obtain ⟨fv', rfl⟩ : ∃ fv', fv = fv' + 1 := ⟨fv - 1, by omega⟩
    refine ⟨1, s0, b, can, C, I, mr, M, nm, O, P, rd, T, rd1, T1, R, s, ?_, ?_, hw, hR, mD_r s⟩
    · rw [lp_s]
      show B_Rn_send_11 _ D s0 b can C I mr M nm O P rd T rd1 T1 R (nI i) = _
      unfold B_Rn_send_11
      rw [rn_count hD, Option.bind_some, if_pos (by rw [z_le (by omega) (by omega)]; omega)]
      rfl
    · rw [lp_s]
      show B_Mo_send_16 _ s (nI i) = _
      unfold B_Mo_send_16
      rw [show Mo_drafted s = nI l.length from h2, if_pos (by rw [z_le (by omega) (by omega)]; omega)]
      rfl
  | succ j ih =>
    intro i fu fv s0 b can C I mr M nm O P rd T rd1 T1 R s hi hf hv hw hR h2 h0
    obtain ⟨fu', rfl⟩ : ∃ fu', fu = fu' + 1 := ⟨fu - 1, by omega⟩
    obtain ⟨fv', rfl⟩ : ∃ fv', fv = fv' + 1 := ⟨fv - 1, by omega⟩
    obtain ⟨s0', b', can', C', I', mr', M', nm', O', P', rd', T', rd1', T1', R', s', e1, e2, e3, e4, e5⟩ := x_byteIn (mr := mr) (rd := rd) (T := T) (rd1 := rd1) (T1 := T1) (hD.2 i) hR hw
    have key := fOut_D (ih (i + 1) fu' fv' s0' b' can' C' I' mr' M' nm' O' P' rd' T' rd1' T1' R' s' (by omega) (by omega) (by omega) e3 e4 (e5.2.1.trans h2) (fun k hk => by rw [e5.2.2]; exact h0 k hk)) e5
    have c1 : lp (fun k11 v => B_Rn_send_11  k11 D v.1 v.2.1 v.2.2.1 v.2.2.2.1 v.2.2.2.2.1 v.2.2.2.2.2.1 v.2.2.2.2.2.2.1 v.2.2.2.2.2.2.2.1 v.2.2.2.2.2.2.2.2.1 v.2.2.2.2.2.2.2.2.2.1 v.2.2.2.2.2.2.2.2.2.2.1 v.2.2.2.2.2.2.2.2.2.2.2.1 v.2.2.2.2.2.2.2.2.2.2.2.2.1 v.2.2.2.2.2.2.2.2.2.2.2.2.2.1 v.2.2.2.2.2.2.2.2.2.2.2.2.2.2.1 v.2.2.2.2.2.2.2.2.2.2.2.2.2.2.2) (fu' + 1) (s0, b, can, C, I, mr, M, nm, O, P, rd, T, rd1, T1, R, nI i) = lp (fun k11 v => B_Rn_send_11  k11 D v.1 v.2.1 v.2.2.1 v.2.2.2.1 v.2.2.2.2.1 v.2.2.2.2.2.1 v.2.2.2.2.2.2.1 v.2.2.2.2.2.2.2.1 v.2.2.2.2.2.2.2.2.1 v.2.2.2.2.2.2.2.2.2.1 v.2.2.2.2.2.2.2.2.2.2.1 v.2.2.2.2.2.2.2.2.2.2.2.1 v.2.2.2.2.2.2.2.2.2.2.2.2.1 v.2.2.2.2.2.2.2.2.2.2.2.2.2.1 v.2.2.2.2.2.2.2.2.2.2.2.2.2.2.1 v.2.2.2.2.2.2.2.2.2.2.2.2.2.2.2) fu' (s0', b', can', C', I', mr', M', nm', O', P', rd', T', rd1', T1', R', nI (i + 1)) := by
      rw [lp_s]
      show B_Rn_send_11 _ D s0 b can C I mr M nm O P rd T rd1 T1 R (nI i) = _
      unfold B_Rn_send_11
      rw [rn_count hD, Option.bind_some, if_neg (by rw [z_le (by omega) (by omega)]; omega)]
      unfold B_Rn_send_22
      rw [rn_get hD (by omega), Option.bind_some, e1, Option.bind_some, nI_1]
    have c2 : lp (fun k16 v => B_Mo_send_16  k16  v.1 v.2) (fv' + 1) (s, nI i) = lp (fun k16 v => B_Mo_send_16  k16  v.1 v.2) fv' (s', nI (i + 1)) := by
      rw [lp_s]
      show B_Mo_send_16 _ s (nI i) = _
      unfold B_Mo_send_16
      rw [show Mo_drafted s = nI l.length from h2, if_neg (by rw [z_le (by omega) (by omega)]; omega)]
      unfold B_Mo_send_24
      rw [z_cl (by omega), if_neg (by rw [show (0 : Int32) = nI 0 from rfl, z_lt (by omega) (by omega)]; omega), show Mo_draft s i = nI (l.getD i 0) from h0 i (by omega), e2, Option.bind_some, nI_1]
    rw [c1, c2]
    exact key
theorem o_send {s0 : S_Rn} {b can : S_Bs} {C : S_Cs} {I : S_Bs} {mr : S_Mr} {M : S_Mg} {nm : S_Bs} {O : S_Ou} {P : S_Bs} {rd : S_Rd} {T : S_Tr} {rd1 : S_Rd} {T1 : S_Tr} {R : S_Rs} {s : S_Mo} (hD : rDr D s) (hw : wK b can nm) (h : Rl s0 C I M O P R s) : fOut (Mo_set_code s 0) (F_Rn_send s0 b can C D I mr M nm O P rd T rd1 T1 R) (F_Mo_send s) := by
  have hc := rl_c h 0
  have hc' := hc
  obtain ⟨l, d1, d2, d3⟩ := rDr_c hD 0
  have hcap := rn_cap d1
  obtain ⟨ph, tm, a1, a2, a3, a4, _⟩ := hc'
  unfold F_Rn_send B_Rn_send_0 F_Mo_send B_Mo_send_0
  rw [show Rn_phase s0 = nI ph by rw [a3]; rfl, show Mo_line (Mo_set_code s 0) = nI ph from a4]
  by_cases cp : ph = 0
  · rw [if_pos (by rw [cp]; rfl), if_pos (by rw [cp]; rfl)]
    exact ⟨0, s0, b, can, C, I, mr, M, nm, O, P, rd, T, rd1, T1, R, Mo_set_code s 0, rfl, rfl, hw, hc, mD_r _⟩
  · have n0 : ¬ nI ph = (0 : Int32) := by rw [show (0 : Int32) = nI 0 from rfl, z_eq (by omega) (by omega)]; exact cp
    rw [if_neg n0, if_neg n0]
    unfold B_Rn_send_9 B_Mo_send_14 L_Rn_send_11 L_Mo_send_16
    exact sendLoop d1 l.length 0 FU FU s0 b can C I mr M nm O P rd T rd1 T1 R (Mo_set_code s 0) (by omega) (by unfold FU; omega) (by unfold FU; omega) hw hc d2 d3
end XOF
