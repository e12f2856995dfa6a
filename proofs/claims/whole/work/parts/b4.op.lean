/-! PURE: record, and how it all begins -/
section XRC
variable {s0 : S_Rn} {D I P : S_Bs} {C : S_Cs} {M : S_Mg} {O : S_Ou} {s : S_Mo} {R : S_Rs}
theorem inR_lt {x : Int32} {n : Nat} {lo : Int32} (hn : n ≤ 1000) : inR x lo (nI n - 1) ↔ (¬ x < lo ∧ x < nI n) := by
  have e1 : (nI n - 1).toInt = (n : Int) - 1 := by
    by_cases c : n = 0
    · rw [c]; decide +kernel
    · rw [show nI n - (1 : Int32) = nI (n - 1) from z_sb (a := n) (b := 1) (by omega), nI_toInt (by omega)]; omega
  unfold inR
  rw [Int32.lt_iff_toInt_lt (x := nI n - 1), Int32.lt_iff_toInt_lt (x := x) (y := nI n), e1, nI_toInt (by omega)]
  constructor
  · rintro ⟨p, q⟩; exact ⟨p, by omega⟩
  · rintro ⟨p, q⟩; exact ⟨p, by omega⟩
theorem nat_of {x : Int32} {n : Nat} (h0 : ¬ x < 0) (h1 : x < nI n) (hn : n ≤ 1000) : ∃ k, k < n ∧ x = nI k := by
  rw [Int32.lt_iff_toInt_lt, nI_toInt (by omega)] at h1
  rw [Int32.lt_iff_toInt_lt, show (0 : Int32).toInt = 0 by decide +kernel] at h0
  exact ⟨x.toInt.toNat, by omega, nI_o2 (by omega) (by omega)⟩
theorem nle_lt {x y : Int32} : (¬ x ≤ y) ↔ y < x := by rw [Int32.le_iff_toInt_le, Int32.lt_iff_toInt_lt]; omega
theorem o_record (hD : rDr D s) (h : Rl s0 C I M O P R s) (x y : Int32) : (∃ r s', F_Rn_record s0 R x y = some r ∧ F_Mo_record s x y = some (r, s') ∧ s'.1 1 = 0 ∧ rDr D s' ∧ Rl s0 C I M O P R s') ∨ ∃ s', F_Rn_record_e1 s0 R x y = some () ∧ F_Mo_record s x y = some (0, s') ∧ s'.1 1 = 1 ∧ rDr D s' ∧ Rl s0 C I M O P R s' := by
  have hc' := h
  obtain ⟨ph, tm, a1, a2, a3, a4, a5, a6, a7, ⟨room, n, Nm, B, N, r1, r2, r3, r4, r5⟩, a9⟩ := hc'
  have hn8 := r3.2.1
  have cnt : F_Rs_count R = some (nI n) := by show some (Rs_count R) = _; rw [r2.2.2.2.1]
  have bad : F_Rn_record_e1 s0 R x y = some () → B_Mo_record_35 s x y = F_Mo_record s x y → (∃ r s', F_Rn_record s0 R x y = some r ∧ F_Mo_record s x y = some (r, s') ∧ s'.1 1 = 0 ∧ rDr D s' ∧ Rl s0 C I M O P R s') ∨ ∃ s', F_Rn_record_e1 s0 R x y = some () ∧ F_Mo_record s x y = some (0, s') ∧ s'.1 1 = 1 ∧ rDr D s' ∧ Rl s0 C I M O P R s' := by
    intro p q
    right
    refine ⟨Mo_set_code s 1, p, ?_, cd_1 s 1, rDr_c hD 1, rl_c h 1⟩
    rw [← q]
    unfold B_Mo_record_35 B_Mo_record_36
    rw [show Mo_code (Mo_set_code s 1) = 1 from cd_1 s 1, if_neg (by decide)]
    rfl
  have mo : F_Mo_record s x y = if inR x 0 (nI n - 1) then B_Mo_record_15 s x y else B_Mo_record_35 s x y := by
    unfold F_Mo_record B_Mo_record_0
    rw [show Mo_records s = nI n from r3.1, m_inI, Option.bind_some]
    by_cases c : inR x 0 (nI n - 1)
    · rw [if_pos c, if_neg (by decide), if_pos c]
    · rw [if_neg c, if_pos rfl, if_neg c]
  by_cases c : inR x 0 (nI n - 1)
  · rw [if_pos c] at mo
    obtain ⟨p, q⟩ := (inR_lt (by omega)).mp c
    obtain ⟨k, hk, rfl⟩ := nat_of p q (by omega)
    have hkr : k < room := by have := r2.2.2.1; omega
    have hrn := (r2.2.2.2.2.2.2 k hk).2
    have hcap := rn_cap hrn
    obtain ⟨kp, k29, k28⟩ := r3.2.2 k hk
    have rb : F_Rs_bytes R (nI k) = some () := by
      unfold F_Rs_bytes B_Rs_bytes_0
      rw [z_cl (by omega), r2.1, if_neg (by rw [show (0 : Int32) = nI 0 from rfl, z_lt (by omega) (by omega)]; omega)]
    have mo2 : F_Mo_record s (nI k) y = if inR y (-1) (nI (B k).length - 1) then B_Mo_record_31 s (nI k) y else B_Mo_record_35 s (nI k) y := by
      rw [mo]
      unfold B_Mo_record_15
      rw [z_cl (by omega), if_neg (by rw [show (0 : Int32) = nI 0 from rfl, z_lt (by omega) (by omega)]; omega), show Mo_lengths s k = nI (B k).length from k29, m_inI, Option.bind_some]
      by_cases c : inR y (-1) (nI (B k).length - 1)
      · rw [if_pos c, if_neg (by decide), if_pos c]
      · rw [if_neg c, if_pos rfl, if_neg c]
    have ce : F_Rn_record_e1 s0 R (nI k) y = if y < (-1) then some () else if y < nI (B k).length then none else some () := by
      unfold F_Rn_record_e1 B_Rn_record_e1_0 B_Rn_record_e1_4
      rw [if_neg p, cnt, Option.bind_some, if_neg (by rw [z_le (by omega) (by omega)]; omega)]
      unfold B_Rn_record_e1_15 B_Rn_record_e1_20
      rw [rb, Option.bind_some, z_cl (by omega), r2.1, if_pos hkr, rn_count hrn, Option.bind_some]
      rfl
    have cl : F_Rn_record s0 R (nI k) y = if y < (-1) then none else if y < nI (B k).length then B_Rn_record_43 s0 R (nI k) y else none := by
      unfold F_Rn_record B_Rn_record_0 B_Rn_record_4
      rw [if_neg p, cnt, Option.bind_some, if_neg (by rw [z_le (by omega) (by omega)]; omega)]
      unfold B_Rn_record_15 B_Rn_record_20
      rw [rb, Option.bind_some, z_cl (by omega), r2.1, if_pos hkr, rn_count hrn, Option.bind_some]
      rfl
    by_cases cy : inR y (-1) (nI (B k).length - 1)
    · left
      obtain ⟨p2, q2⟩ := (inR_lt (by omega)).mp cy
      rw [mo2, if_pos cy, cl, if_neg p2, if_pos q2]
      unfold B_Mo_record_31 B_Mo_record_36
      rw [show Mo_code (Mo_set_code s 0) = 0 from cd_1 s 0, if_pos (by decide)]
      unfold B_Rn_record_43 B_Mo_record_50
      by_cases cm : y = mI
      · rw [if_pos (show y = (-1) from cm), if_neg (by rw [cm]; decide +kernel)]
        refine ⟨nI (B k).length, Mo_set_code s 0, ?_, ?_, cd_1 s 0, rDr_c hD 0, rl_c h 0⟩
        · unfold B_Rn_record_48
          rw [rb, Option.bind_some, z_cl (by omega), r2.1, if_pos hkr, rn_count hrn, Option.bind_some]
          rfl
        · unfold B_Mo_record_54
          rw [z_cl (by omega), if_neg (by rw [show (0 : Int32) = nI 0 from rfl, z_lt (by omega) (by omega)]; omega), show Mo_lengths (Mo_set_code s 0) k = nI (B k).length from k29]
          rfl
      · have y0 : ¬ y < 0 := by
          intro hy
          rw [Int32.lt_iff_toInt_lt, show (0 : Int32).toInt = 0 by decide +kernel] at hy
          rw [Int32.lt_iff_toInt_lt, show (-1 : Int32).toInt = -1 by decide +kernel] at p2
          exact cm (Int32.toInt_inj.mp (by rw [show mI.toInt = -1 by decide +kernel]; omega))
        obtain ⟨i, hi, rfl⟩ := nat_of y0 q2 (by omega)
        rw [if_neg (show ¬ nI i = (-1) from cm), if_pos (by rw [show (0 : Int32) = nI 0 from rfl, z_le (by omega) (by omega)]; omega)]
        refine ⟨nI ((B k).getD i 0), Mo_set_code s 0, ?_, ?_, cd_1 s 0, rDr_c hD 0, rl_c h 0⟩
        · unfold B_Rn_record_62
          rw [rb, Option.bind_some, z_cl (by omega), r2.1, if_pos hkr, rn_get hrn hi, Option.bind_some]
          rfl
        · unfold B_Mo_record_63
          rw [show ((200 : Int32) * nI k) + nI i = nI (200 * k + i) by rw [show (200 : Int32) * nI k = nI (200 * k) from z_mu 200 k, z_ad], z_cl (by omega), if_neg (by rw [show (0 : Int32) = nI 0 from rfl, z_lt (by omega) (by omega)]; omega), show Mo_kept (Mo_set_code s 0) (200 * k + i) = nI ((B k).getD i 0) from k28 i hi]
          rfl
    · rw [if_neg cy] at mo2
      refine bad ?_ mo2.symm
      rw [ce]
      by_cases p2 : y < (-1)
      · rw [if_pos p2]
      · rw [if_neg p2, if_neg (fun q2 => cy ((inR_lt (by omega)).mpr ⟨p2, q2⟩))]
  · rw [if_neg c] at mo
    refine bad ?_ mo.symm
    unfold F_Rn_record_e1 B_Rn_record_e1_0 B_Rn_record_e1_4
    by_cases p : x < 0
    · rw [if_pos p]
      rfl
    · rw [if_neg p, cnt, Option.bind_some, if_pos (Decidable.byContradiction fun q => c ((inR_lt (by omega)).mpr ⟨p, nle_lt.mp q⟩))]
      rfl
end XRC
theorem rn_init {n : Nat} (h : n ≤ 1000) : rn (i_Bs n) n [] := ⟨rb_init h, fun i => by simp⟩
theorem o_init {n : Nat} (h1 : 1 ≤ n) (h8 : n ≤ 8) : wK (i_Bs 200) (i_Bs 301) (i_Bs 16) ∧ rDr (i_Bs 120) (i_Mo (nI n)) ∧ Rl i_Rn i_Cs (i_Bs 202) i_Mg i_Ou (i_Bs 200) (i_Rs n) (i_Mo (nI n)) := by
  refine ⟨⟨⟨_, rn_init (by omega)⟩, ⟨_, rn_init (by omega)⟩, _, rn_init (by omega)⟩, ⟨[], rn_init (by omega), rfl, fun i hi => by simp at hi⟩, 0, 0, by omega, by omega, rfl, rfl, rfl, rI_0 (rn_init (by omega)) rfl, ⟨[], ⟨0, by omega, rfl, by simp, rfl, fun i hi => by simp at hi⟩, by simp, rfl, fun i hi => by simp at hi⟩, ⟨n, 0, fun _ => [], fun _ => [], fun _ => [], h1, ⟨rfl, h8, by omega, rfl, fun k hk => ⟨_, rn_init (by omega)⟩, fun k hk => ⟨_, rn_init (by omega)⟩, fun k hk => by omega⟩, ⟨rfl, by omega, fun k hk => by omega⟩, rfl, fun k hk => by omega⟩, fun _ => ⟨rfl, rfl, rfl, fun h => absurd rfl h, ⟨_, rn_init (by omega)⟩, .inl rfl, fun _ => ⟨rfl, rfl, rn_init (by omega)⟩⟩, fun h => by omega⟩
