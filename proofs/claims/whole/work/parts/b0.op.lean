/-! PURE: the calls, class and model side by side -/
theorem sh_1 (x : Int64) (k : Nat) (hk : k + 8 ≤ 64) : ((x >>> (Int64.ofNat k)) &&& (255 : Int64)).toInt32 = ((x.toUInt64 >>> UInt64.ofNat k).toInt64.toInt32) &&& (255 : Int32) := by
  apply Int32.toBitVec_inj.mp
  have e1 : (Int64.ofNat k).toBitVec.smod 64 = BitVec.ofNat 64 k := by
    have : ∀ k, k ≤ 56 → (Int64.ofNat k).toBitVec.smod 64 = BitVec.ofNat 64 k := by decide +kernel
    exact this k (by omega)
  have e2 : (UInt64.ofNat k).toBitVec % 64 = BitVec.ofNat 64 k := by
    have : ∀ k, k ≤ 56 → (UInt64.ofNat k).toBitVec % 64 = BitVec.ofNat 64 k := by decide +kernel
    exact this k (by omega)
  simp only [Int64.toBitVec_toInt32, Int64.toBitVec_and, Int64.toBitVec_shiftRight, Int32.toBitVec_and, UInt64.toBitVec_toInt64, UInt64.toBitVec_shiftRight, Int64.toBitVec_toUInt64, e1, e2]
  have h5 : ∀ j, j < 32 → (255 : Int32).toBitVec.getLsbD j = decide (j < 8) := by decide +kernel
  have h6 : ∀ j, j < 64 → (255 : Int64).toBitVec.getLsbD j = decide (j < 8) := by decide +kernel
  apply BitVec.eq_of_getLsbD_eq
  intro j hj
  have hkk : (BitVec.ofNat 64 k).toNat = k := by simp; omega
  simp only [BitVec.getLsbD_and, BitVec.getLsbD_signExtend, BitVec.sshiftRight', hkk, BitVec.getLsbD_sshiftRight, BitVec.ushiftRight_eq', BitVec.getLsbD_ushiftRight, h5 j hj, h6 j (by omega)]
  rw [if_pos (by omega : j < 64), if_pos (by omega : j < 64), decide_eq_true hj, decide_eq_false (by omega : ¬ 64 ≤ j)]
  by_cases c : j < 8
  · rw [if_pos (by omega)]
    simp
  · rw [decide_eq_false c]
    simp
theorem by_v (x : Int64) {i : Nat} (hi : i < 8) : ∃ v, v < 256 ∧ F_Rn_byteOf x (nI i) = some (nI v) ∧ ((x >>> (((8 : Int32) * nI i).toInt64 &&& 63)) &&& (255 : Int64)).toInt32 = nI v := by
  have e1 : ((8 : Int32) * nI i).toInt64 &&& 63 = Int64.ofNat (8 * i) := by
    have : ∀ i, i < 8 → ((8 : Int32) * nI i).toInt64 &&& 63 = Int64.ofNat (8 * i) := by decide +kernel
    exact this i hi
  have e2 : ((8 : Int32) * nI i).toInt64.toUInt64 &&& Int64.toUInt64 63 = UInt64.ofNat (8 * i) := by
    have : ∀ i, i < 8 → ((8 : Int32) * nI i).toInt64.toUInt64 &&& Int64.toUInt64 63 = UInt64.ofNat (8 * i) := by decide +kernel
    exact this i hi
  obtain ⟨z1, z2⟩ := z_byte (x.toUInt64 >>> UInt64.ofNat (8 * i)).toInt64.toInt32
  refine ⟨_, z1, ?_, ?_⟩
  · unfold F_Rn_byteOf B_Rn_byteOf_0
    rw [e2, z2]
    congr 1
    rw [← z2, ← z2]
  · rw [e1, sh_1 x (8 * i) (by omega), ← z2]
theorem c_isCount (n : Int32) : F_Rn_isCount n = some (if inR n 1 8 then 1 else 0) := by
  unfold F_Rn_isCount B_Rn_isCount_0
  by_cases h1 : n < 1
  · rw [if_pos h1, if_neg (fun h : inR n 1 8 => h.1 h1)]
    rfl
  · rw [if_neg h1]
    unfold B_Rn_isCount_5
    by_cases h2 : (8 : Int32) < n
    · rw [if_pos h2, if_neg (fun h : inR n 1 8 => h.2 h2)]
      rfl
    · rw [if_neg h2, if_pos (show inR n 1 8 from ⟨h1, h2⟩)]
      rfl
theorem c_isSyntax (n : Int32) : F_Rn_isSyntax n = some (if inR n 0 1 then 1 else 0) := by
  unfold F_Rn_isSyntax B_Rn_isSyntax_0 B_Rn_isSyntax_4
  by_cases h0 : n = 0
  · rw [if_pos h0, if_pos ((inR_01 n).mpr (.inl h0))]
    rfl
  · rw [if_neg h0]
    by_cases h1 : n = 1
    · rw [if_pos h1, if_pos ((inR_01 n).mpr (.inr h1))]
      rfl
    · rw [if_neg h1, if_neg (fun h => ((inR_01 n).mp h).elim h0 h1)]
      rfl
theorem nI_o2 {n : Int32} {k : Nat} (h : n.toInt = (k : Int)) (hk : k < 2 ^ 31) : n = nI k := Int32.toInt_inj.mp (by rw [h, nI_toInt hk])
theorem inR_18 {n : Int32} (h : inR n 1 8) : ∃ k, 1 ≤ k ∧ k ≤ 8 ∧ n = nI k := by
  obtain ⟨a, b⟩ := h
  rw [Int32.lt_iff_toInt_lt, show (1 : Int32).toInt = 1 by decide +kernel] at a
  rw [Int32.lt_iff_toInt_lt, show (8 : Int32).toInt = 8 by decide +kernel] at b
  exact ⟨n.toInt.toNat, by omega, by omega, nI_o2 (by omega) (by omega)⟩
theorem inR_syn {n : Int32} (h : inR n 0 1) : ∃ k, k ≤ 1 ∧ n = nI k := by
  rcases (inR_01 n).mp h with h | h
  · exact ⟨0, by omega, h⟩
  · exact ⟨1, by omega, h⟩
/-- the same draft -/
def rDr (D : S_Bs) (s : S_Mo) : Prop := ∃ l, rn D 120 l ∧ s.1 2 = nI l.length ∧ ∀ i, i < l.length → s.2 0 i = nI (l.getD i 0)
theorem rDr_k {D : S_Bs} {s s' : S_Mo} (h : rDr D s) (h2 : s'.1 2 = s.1 2) (h0 : s'.2 0 = s.2 0) : rDr D s' := by
  obtain ⟨l, a, b, c⟩ := h
  exact ⟨l, a, h2.trans b, fun i hi => by rw [h0]; exact c i hi⟩
theorem rl_k {s0 : S_Rn} {C : S_Cs} {I : S_Bs} {M : S_Mg} {O : S_Ou} {P : S_Bs} {R : S_Rs} {s s' : S_Mo} (h : Rl s0 C I M O P R s) (h1 : ∀ i, i = 0 ∨ 7 ≤ i → s'.1 i = s.1 i) (h2 : ∀ j, 21 ≤ j → s'.2 j = s.2 j) : Rl s0 C I M O P R s' := by
  obtain ⟨ph, tm, a1, a2, a3, a4, a5, a6, a7, a8, a9⟩ := h
  refine ⟨ph, tm, a1, a2, by rw [h1 18 (by omega)]; exact a3, by rw [h1 7 (by omega)]; exact a4, by rw [h1 8 (by omega)]; exact a5, rI_k a6 (h1 9 (by omega)) (h2 21 (by omega)), rO_k a7 (h1 10 (by omega)) (h2 22 (by omega)), rR_k a8 (h1 0 (by omega)) (h1 19 (by omega)) (h2 28 (by omega)) (h2 29 (by omega)), ?_⟩
  unfold rM cxR at a9 ⊢
  rw [h1 11 (by omega), h1 12 (by omega), h1 13 (by omega), h1 14 (by omega), h1 15 (by omega), h1 16 (by omega), h1 17 (by omega), h2 23 (by omega), h2 24 (by omega), h2 25 (by omega), h2 26 (by omega), h2 27 (by omega)]
  exact a9
/-- the code is set -/
theorem cd_1 (s : S_Mo) (y : Int32) : (Mo_set_code s y).1 1 = y := pk_us (f := s.1) (k := 1)
theorem cd_n (s : S_Mo) (y : Int32) {i : Nat} (h : i ≠ 1) : (Mo_set_code s y).1 i = s.1 i := pk_un (f := s.1) (k := 1) h
theorem rl_c {s0 : S_Rn} {C : S_Cs} {I : S_Bs} {M : S_Mg} {O : S_Ou} {P : S_Bs} {R : S_Rs} {s : S_Mo} (h : Rl s0 C I M O P R s) (y : Int32) : Rl s0 C I M O P R (Mo_set_code s y) := rl_k h (fun i hi => cd_n s y (by omega)) (fun _ _ => rfl)
theorem rDr_c {D : S_Bs} {s : S_Mo} (h : rDr D s) (y : Int32) : rDr D (Mo_set_code s y) := rDr_k h (cd_n s y (by omega)) rfl
section XOP
variable {s0 : S_Rn} {D I P can : S_Bs} {C : S_Cs} {M : S_Mg} {O : S_Ou} {s : S_Mo} {rd : S_Rd} {T : S_Tr} {R : S_Rs}
theorem o_clear (hD : rDr D s) (h : Rl s0 C I M O P R s) : ∃ D' s', F_Rn_clear s0 D = some D' ∧ F_Mo_clear s = some s' ∧ rDr D' s' ∧ Rl s0 C I M O P R s' := by
  obtain ⟨l, hD, _, _⟩ := hD
  obtain ⟨D', e1, r1⟩ := rn_reset hD
  refine ⟨D', Mo_set_drafted (Mo_set_code s 0) 0, ?_, rfl, ⟨[], r1, pk_us (f := (Mo_set_code s 0).1) (k := 2), fun i hi => by simp at hi⟩, rl_k (rl_c h 0) (fun i hi => pk_un (f := (Mo_set_code s 0).1) (k := 2) (by omega)) (fun _ _ => rfl)⟩
  unfold F_Rn_clear B_Rn_clear_0
  rw [e1, Option.bind_some]
theorem o_open (hD : rDr D s) (h : Rl s0 C I M O P R s) : ∃ r s0' s', F_Rn_open s0 = some (r, s0') ∧ F_Mo_open s = some (r, s') ∧ rDr D s' ∧ Rl s0' C I M O P R s' := by
  have hc := rl_c h 0
  have hDc := rDr_c hD 0
  obtain ⟨ph, tm, a1, a2, a3, a4, a5, a6, a7, a8, a9⟩ := hc
  unfold F_Rn_open B_Rn_open_0 F_Mo_open B_Mo_open_0
  rw [show Rn_phase s0 = nI ph by rw [a3]; rfl, show Mo_line (Mo_set_code s 0) = nI ph from a4]
  by_cases c : ph = 0
  · rw [if_pos (by rw [c]; rfl), if_pos (by rw [c]; rfl)]
    obtain ⟨s', e, f1, f2, f3, f4, f5, f6, f7, f8⟩ := m_comesTo (Mo_set_code s 0) 1 (by omega)
    rw [if_neg (by omega)] at f2
    obtain ⟨x1, x2, x3, x4, x5, x6, x7⟩ := a9.1 (by omega)
    obtain ⟨y1, y2, y3⟩ := x7 (by omega)
    refine ⟨1, (nI 1, nI 5, Rn_answered s0), s', rfl, ?_, rDr_k hDc (f7 2 (by omega) (by omega) (by omega) (by omega) (by omega) (by omega)) (by rw [f8]), 1, 5, by omega, by omega, ?_, f1, f2, rI_k a6 (f7 9 (by omega) (by omega) (by omega) (by omega) (by omega) (by omega)) (by rw [f8]), rO_k a7 (f7 10 (by omega) (by omega) (by omega) (by omega) (by omega) (by omega)) (by rw [f8]), rR_k a8 (f7 0 (by omega) (by omega) (by omega) (by omega) (by omega) (by omega)) (f7 19 (by omega) (by omega) (by omega) (by omega) (by omega) (by omega)) (by rw [f8]) (by rw [f8]), fun _ => ⟨f3, f4, f5, fun _ => f6, x5, x6, fun _ => ⟨y1, y2, y3⟩⟩, fun h => by omega⟩
    · unfold B_Mo_open_14
      rw [show F_Mo_comesTo (Mo_set_code s 0) (1 : Int32) = _ from e]
      rfl
    · rw [f7 18 (by omega) (by omega) (by omega) (by omega) (by omega) (by omega), a3]; rfl
  · have n0 : ¬ nI ph = (0 : Int32) := by rw [show (0 : Int32) = nI 0 from rfl, z_eq (by omega) (by omega)]; exact c
    rw [if_neg n0, if_neg n0]
    exact ⟨0, s0, Mo_set_code s 0, rfl, rfl, hDc, rl_c h 0⟩
/-- the line is shut -/
theorem o_shut {s0 : S_Rn} {s : S_Mo} (h18 : Rn_answered s0 = s.1 18) (hI : ∃ l, rn I 202 l) (hP : ∃ l, rn P 200 l) (hO : rO O s) (hR : rR R s) : ∃ s0' I' M' P' s', F_Rn_shut s0 I M P = some (s0', I', M', P') ∧ F_Mo_shut s = some s' ∧ Rl s0' C I' M' O P' R s' ∧ mD s s' ∧ Rn_timer s0' = s'.1 8 := by
  obtain ⟨li, hI⟩ := hI
  obtain ⟨lp, hP⟩ := hP
  obtain ⟨I', P', e1, p1, p2⟩ := c_shut (s0 := s0) (s2 := M) hI hP
  obtain ⟨s', e2, k1, k2, k3⟩ := m_shut s
  exact ⟨_, I', _, P', s', e1, e2, rl_closed (s := s) (by rw [h18]) p1 ⟨rfl, rfl⟩ p2 (rO_k hO k2 (by rw [k3])) hR k1, mD_C k1, k1.2.1.symm⟩
theorem rl_P (h : Rl s0 C I M O P R s) : (∃ l, rn I 202 l) ∧ (∃ l, rn P 200 l) ∧ rO O s ∧ rR R s ∧ Rn_answered s0 = s.1 18 := by
  obtain ⟨ph, tm, a1, a2, a3, a4, a5, ⟨l, a6, _⟩, a7, a8, a9⟩ := h
  refine ⟨⟨_, a6⟩, ?_, a7, a8, by rw [a3]; rfl⟩
  by_cases c : ph = 2
  · obtain ⟨n, id, sv, re, l, x1, x2, _⟩ := a9.2 c
    exact ⟨_, x2⟩
  · exact (a9.1 c).2.2.2.2.1
theorem o_close (hD : rDr D s) (h : Rl s0 C I M O P R s) : ∃ r s0' I' M' P' s', F_Rn_close s0 I M P = some (r, s0', I', M', P') ∧ F_Mo_close s = some (r, s') ∧ rDr D s' ∧ Rl s0' C I' M' O P' R s' := by
  have hc := rl_c h 0
  have hDc := rDr_c hD 0
  have hc' := hc
  obtain ⟨ph, tm, a1, a2, a3, a4, a5, a6, a7, a8, a9⟩ := hc'
  unfold F_Rn_close B_Rn_close_0 F_Mo_close B_Mo_close_0
  rw [show Rn_phase s0 = nI ph by rw [a3]; rfl, show Mo_line (Mo_set_code s 0) = nI ph from a4]
  by_cases c : ph = 0
  · rw [if_pos (by rw [c]; rfl), if_pos (by rw [c]; rfl)]
    exact ⟨0, s0, I, M, P, Mo_set_code s 0, rfl, rfl, hDc, hc⟩
  · have n0 : ¬ nI ph = (0 : Int32) := by rw [show (0 : Int32) = nI 0 from rfl, z_eq (by omega) (by omega)]; exact c
    rw [if_neg n0, if_neg n0]
    obtain ⟨q1, q2, q3, q4, q5⟩ := rl_P hc
    obtain ⟨s0', I', M', P', s', e1, e2, k1, k2, k3⟩ := o_shut (C := C) (M := M) q5 q1 q2 q3 q4
    refine ⟨1, s0', I', M', P', s', ?_, ?_, rDr_k hDc k2.2.1 k2.2.2, k1⟩
    · unfold B_Rn_close_9
      rw [e1]
      rfl
    · unfold B_Mo_close_14
      rw [e2]
      rfl
theorem o_tick (hD : rDr D s) (h : Rl s0 C I M O P R s) : ∃ r s0' I' M' P' s', F_Rn_tick s0 I M P = some (r, s0', I', M', P') ∧ F_Mo_tick s = some (r, s') ∧ rDr D s' ∧ Rl s0' C I' M' O P' R s' := by
  have hc := rl_c h 0
  have hDc := rDr_c hD 0
  have hc' := hc
  obtain ⟨ph, tm, a1, a2, a3, a4, a5, a6, a7, a8, a9⟩ := hc'
  have ht : Rn_timer s0 = nI tm := by rw [a3]; rfl
  unfold F_Rn_tick B_Rn_tick_0 F_Mo_tick B_Mo_tick_0
  rw [ht, show Mo_timer (Mo_set_code s 0) = nI tm from a5]
  by_cases c : tm = 0
  · rw [if_pos (by rw [c]; decide), if_pos (by rw [c]; decide)]
    refine ⟨nI tm, s0, I, M, P, Mo_set_code s 0, ?_, ?_, hDc, hc⟩
    · unfold B_Rn_tick_28
      rw [ht]
    · unfold B_Mo_tick_33
      rw [show Mo_timer (Mo_set_code s 0) = nI tm from a5]
  · have n0 : ¬ nI tm ≤ (0 : Int32) := by rw [show (0 : Int32) = nI 0 from rfl, z_le (by omega) (by omega)]; omega
    rw [if_neg n0, if_neg n0]
    unfold B_Rn_tick_7 B_Mo_tick_12
    rw [ht, show Mo_timer (Mo_set_code s 0) = nI tm from a5, show nI tm - (1 : Int32) = nI (tm - 1) from z_sb (a := tm) (b := 1) (by omega)]
    rw [show Rn_timer (Rn_set_timer s0 (nI (tm - 1))) = nI (tm - 1) from rfl]
    obtain ⟨s1, hs1⟩ : ∃ s1, s1 = Mo_set_timer (Mo_set_code s 0) (nI (tm - 1)) := ⟨_, rfl⟩
    have w8 : s1.1 8 = nI (tm - 1) := by rw [hs1]; exact pk_us (f := (Mo_set_code s 0).1) (k := 8)
    have w1 : ∀ i, i ≠ 8 → s1.1 i = (Mo_set_code s 0).1 i := fun i hi => by rw [hs1]; exact pk_un (f := (Mo_set_code s 0).1) (k := 8) hi
    have w2 : s1.2 = (Mo_set_code s 0).2 := by rw [hs1]; rfl
    rw [← hs1, show Mo_timer s1 = nI (tm - 1) from w8]
    by_cases c1 : tm = 1
    · rw [if_pos (by rw [c1]; rfl), if_pos (by rw [c1]; rfl)]
      obtain ⟨q1, q2, q3, q4, q5⟩ := rl_P hc
      obtain ⟨s0', I', M', P', s', e1, e2, k1, k2, k3⟩ := o_shut (C := C) (M := M) (I := I) (P := P) (O := O) (R := R) (s0 := Rn_set_timer s0 (nI (tm - 1))) (s := s1) (by rw [w1 18 (by omega)]; exact q5) q1 q2 (rO_k q3 (w1 10 (by omega)) (by rw [w2])) (rR_k q4 (w1 0 (by omega)) (w1 19 (by omega)) (by rw [w2]) (by rw [w2]))
      refine ⟨s'.1 8, s0', I', M', P', s', ?_, ?_, rDr_k (rDr_k hDc (w1 2 (by omega)) (by rw [w2])) k2.2.1 k2.2.2, k1⟩
      · unfold B_Rn_tick_24
        rw [e1, Option.bind_some]
        unfold B_Rn_tick_28
        rw [k3]
      · unfold B_Mo_tick_29
        rw [e2]
        rfl
    · have n1 : ¬ nI (tm - 1) = (0 : Int32) := by rw [show (0 : Int32) = nI 0 from rfl, z_eq (by omega) (by omega)]; omega
      rw [if_neg n1, if_neg n1]
      refine ⟨nI (tm - 1), Rn_set_timer s0 (nI (tm - 1)), I, M, P, s1, rfl, ?_, rDr_k hDc (w1 2 (by omega)) (by rw [w2]), ph, tm - 1, a1, by omega, ?_, by rw [w1 7 (by omega)]; exact a4, w8, rI_k a6 (w1 9 (by omega)) (by rw [w2]), rO_k a7 (w1 10 (by omega)) (by rw [w2]), rR_k a8 (w1 0 (by omega)) (w1 19 (by omega)) (by rw [w2]) (by rw [w2]), ?_⟩
      · unfold B_Mo_tick_33
        rw [show Mo_timer s1 = nI (tm - 1) from w8]
      · rw [a3, w1 18 (by omega)]; rfl
      · unfold rM cxR at a9 ⊢
        rw [w1 11 (by omega), w1 12 (by omega), w1 13 (by omega), w1 14 (by omega), w1 15 (by omega), w1 16 (by omega), w1 17 (by omega), w2]
        exact a9
theorem o_state (hD : rDr D s) (h : Rl s0 C I M O P R s) (x : Int32) : ∃ r, F_Rn_state s0 I M O P R x = some r ∧ F_Mo_state s x = some (r, Mo_set_code s 0) := by
  have hc := rl_c h 0
  obtain ⟨ph, tm, a1, a2, a3, a4, a5, ⟨l, i1, i2, i3, i4⟩, ⟨o, o1, o2⟩, ⟨room, n, Nm, B, N, r1, r2, r3, r4⟩, a9⟩ := hc
  unfold F_Rn_state B_Rn_state_0 F_Mo_state B_Mo_state_0
  split
  · exact ⟨_, rfl, by unfold B_Mo_state_52; rw [show Mo_line (Mo_set_code s 0) = nI ph from a4, a3]; rfl⟩
  · split
    · exact ⟨_, rfl, by unfold B_Mo_state_57; rw [show Mo_timer (Mo_set_code s 0) = nI tm from a5, a3]; rfl⟩
    · split
      · refine ⟨nI o.length, ?_, ?_⟩
        · unfold B_Rn_state_58
          rw [ou_count o1, Option.bind_some]
        · unfold B_Mo_state_62
          rw [show Mo_outputs (Mo_set_code s 0) = nI o.length from o2.2.1]
      · split
        · refine ⟨nI l.length, ?_, ?_⟩
          · unfold B_Rn_state_66
            rw [rn_count i1, Option.bind_some]
          · unfold B_Mo_state_67
            rw [show Mo_inputs (Mo_set_code s 0) = nI l.length from i2]
        · have hphs : Rn_phase s0 = nI ph := by rw [a3]; rfl
          split
          · unfold B_Rn_state_74 B_Mo_state_72
            rw [hphs]
            by_cases c : ph = 2
            · rw [if_pos (by rw [c]; rfl)]
              obtain ⟨n, id, sv, re, l, x1, x2, x3, x4, x5⟩ := a9.2 c
              unfold B_Rn_state_82 F_Mg_wantsSet B_Mg_wantsSet_0
              rcases x5 with x5 | x5
              · rw [x5.1, show Mo_wanted (Mo_set_code s 0) = nI 0 from x5.2.1]
                exact ⟨0, rfl, rfl⟩
              · rw [x5.1, show Mo_wanted (Mo_set_code s 0) = nI 1 from x5.2.1]
                exact ⟨1, rfl, rfl⟩
            · rw [if_neg (by rw [show (2 : Int32) = nI 2 from rfl, z_eq (by omega) (by omega)]; exact c), show Mo_wanted (Mo_set_code s 0) = nI 0 from (a9.1 c).1]
              exact ⟨0, rfl, rfl⟩
          · split
            · unfold B_Rn_state_98 B_Mo_state_77
              rw [hphs]
              by_cases c : ph = 2
              · rw [if_pos (by rw [c]; rfl)]
                obtain ⟨n, id, sv, re, l, x1, x2, x3, x4, x5⟩ := a9.2 c
                unfold B_Rn_state_106
                rw [rn_count x2, Option.bind_some]
                rcases x5 with x5 | x5
                · rw [show Mo_wanted (Mo_set_code s 0) = nI 0 from x5.2.1, if_pos (by rfl)]
                  unfold B_Mo_state_84
                  rw [show Mo_commands (Mo_set_code s 0) = nI l.length from x5.2.2.1]
                  exact ⟨_, rfl, rfl⟩
                · rw [show Mo_wanted (Mo_set_code s 0) = nI 1 from x5.2.1, if_neg (by decide)]
                  unfold B_Mo_state_91
                  rw [show Mo_bodies (Mo_set_code s 0) = nI l.length from x5.2.2.1]
                  exact ⟨_, rfl, rfl⟩
              · rw [if_neg (by rw [show (2 : Int32) = nI 2 from rfl, z_eq (by omega) (by omega)]; exact c), show Mo_wanted (Mo_set_code s 0) = nI 0 from (a9.1 c).1, if_pos (by rfl)]
                unfold B_Mo_state_84
                rw [show Mo_commands (Mo_set_code s 0) = nI 0 from (a9.1 c).2.1]
                exact ⟨0, rfl, rfl⟩
            · split
              · refine ⟨nI n, ?_, ?_⟩
                · unfold B_Rn_state_118
                  rw [show F_Rs_count R = some (nI n) by show some (Rs_count R) = _; rw [r2.2.2.2.1], Option.bind_some]
                · unfold B_Mo_state_96
                  rw [show Mo_records (Mo_set_code s 0) = nI n from r3.1]
              · split
                · exact ⟨_, rfl, by unfold B_Mo_state_101; rw [a3]; rfl⟩
                · exact ⟨_, rfl, rfl⟩
theorem cs_nores : F_Cs_result C mI = some mI := by
  unfold F_Cs_result B_Cs_result_0 F_Cs_has B_Cs_has_0
  rw [if_pos (by decide +kernel)]
  rfl
theorem o_context (h : Rl s0 C I M O P R s) (x : Int32) : ∃ r, F_Rn_context s0 C x = some r ∧ F_Mo_context s x = some (r, Mo_set_code s 0) := by
  have hc := rl_c h 0
  obtain ⟨ph, tm, a1, a2, a3, a4, a5, a6, a7, a8, a9⟩ := hc
  unfold F_Rn_context B_Rn_context_0 F_Mo_context B_Mo_context_0
  rw [show Rn_phase s0 = nI ph by rw [a3]; rfl, show Mo_line (Mo_set_code s 0) = nI ph from a4]
  by_cases c : ph = 2
  · rw [if_pos (by rw [c]; rfl), if_pos (by rw [c]; rfl)]
    obtain ⟨n, id, sv, re, l, x1, x2, x3, x4, x5⟩ := a9.2 c
    have n4 := x1.1
    unfold B_Rn_context_8 B_Mo_context_13
    rw [cs_find x1, Option.bind_some, ms_find x1, Option.bind_some]
    cases hf : cxF n id x with
    | none =>
      rw [show oI none = mI from rfl, cs_nores]
      refine ⟨mI, rfl, ?_⟩
      unfold B_Mo_context_22
      rw [if_neg (by decide +kernel)]
      rfl
    | some c =>
      have hc := cxF_lt hf
      rw [show oI (some c) = nI c from rfl, cs_result x1 hc]
      refine ⟨nI (re c), rfl, ?_⟩
      unfold B_Mo_context_22
      rw [if_pos (by rw [show (0 : Int32) = nI 0 from rfl, z_le (by omega) (by omega)]; omega)]
      unfold B_Mo_context_31
      rw [z_cl (by omega), if_neg (by rw [show (0 : Int32) = nI 0 from rfl, z_lt (by omega) (by omega)]; omega), show Mo_results (Mo_set_code s 0) c = nI (re c) from (x1.2.2.2 c hc).2.2.2.2.2.2.2.2]
      rfl
  · have n2 : ¬ nI ph = (2 : Int32) := by rw [show (2 : Int32) = nI 2 from rfl, z_eq (by omega) (by omega)]; exact c
    rw [if_neg n2, if_neg n2]
    refine ⟨-1, rfl, ?_⟩
    unfold B_Mo_context_21 B_Mo_context_22
    rw [if_neg (by decide)]
    rfl
end XOP
