/-! PURE: find, class and model side by side -/
theorem wS_10 {nd : List Nd} (a : Nat) : ∀ m, wS 1 nd a m ≤ wS 0 nd a m
  | 0 => Nat.le_refl _
  | m + 1 => by
    have := wS_10 (nd := nd) a m
    rw [wS_s, wS_s]
    have h : hd 1 (nT nd (a + m)) ≤ hd 0 (nT nd (a + m)) := by unfold hd; split <;> split <;> omega
    omega
theorem vln_10 {syn : Nat} {nd : List Nd} {k : Nat} (hsy : syn ≤ 1) : vln syn nd k ≤ vln 0 nd k := by
  have := wS_10 (nd := nd) (k + 1) (bhf nd k - (k + 1))
  unfold vln
  match syn, hsy with
  | 0, _ => exact Nat.le_refl _
  | 1, _ => omega
theorem ch_len {l : List Nat} {pd nd : List Nd} {syn : Nat} (hsy : syn ≤ 1) (h : kep l nd) : (chB syn pd nd).length ≤ 198 := by
  have hw := h.1
  have hb := (wf_b0 hw).1
  have h1 := sg_len (syn := syn) (pd := pd) (nd := nd) nd.length 1 (by have := hw.2.2.2.1; omega)
  have h2 : (cB 0 nd (nd.length - 1)).length ≤ 198 := by rw [← h.2.2.2.2.1]; exact h.2.2.2.2.2
  rw [cB_len] at h2
  have h3 : (sB syn nd 1 (nd.length - 1)).length ≤ wS 0 nd 1 (nd.length - 1) := by
    rw [← sB_cB, cB_len]
    match syn, hsy with
    | 0, _ => exact Nat.le_refl _
    | 1, _ => exact wS_10 _ _
  unfold chB kds
  rw [hb, Nat.zero_add]
  omega
theorem mtr_k {s s' : S_Mo} {t : Nat} {nd : List Nd} (h : mtr s.2 t nd) (k : ∀ j, 2 ≤ j → j ≤ 15 → j ≠ 12 → j ≠ 13 → s'.2 j = s.2 j) : mtr s'.2 t nd := by
  unfold mtr mtk at h ⊢
  rw [k 2 (by omega) (by omega) (by omega) (by omega), k 3 (by omega) (by omega) (by omega) (by omega), k 4 (by omega) (by omega) (by omega) (by omega), k 5 (by omega) (by omega) (by omega) (by omega), k 6 (by omega) (by omega) (by omega) (by omega), k 7 (by omega) (by omega) (by omega) (by omega), k 8 (by omega) (by omega) (by omega) (by omega), k 9 (by omega) (by omega) (by omega) (by omega), k 11 (by omega) (by omega) (by omega) (by omega), k 14 (by omega) (by omega) (by omega) (by omega), k 15 (by omega) (by omega) (by omega) (by omega)]
  exact h
theorem mRec_F {s s' : S_Mo} {n : Nat} {B : Nat → List Nat} {N : Nat → List Nd} (k : mF1 s s') (hr : mRec s n B N) : mRec s' n B N := by
  obtain ⟨h1, h2, h3⟩ := hr
  refine ⟨by rw [k.1 19 (by omega) (by omega) (by omega) (by omega) (by omega)]; exact h1, h2, fun i hi => ?_⟩
  rw [k.2 29 (by omega) (by omega), k.2 28 (by omega) (by omega)]
  exact h3 i hi
theorem pO_t {s0 s1 s2 : S_Rn} {I I1 I2 : S_Bs} {M M1 M2 : S_Mg} {P P1 P2 : S_Bs} {s t u : S_Mo} {f : Bool} (h : pO s0 s1 I I1 M M1 P P1 s t true) (k : pO s1 s2 I1 I2 M1 M2 P1 P2 t u f) : pO s0 s2 I I2 M M2 P P2 s u f := by
  obtain ⟨a, b, c, d, e⟩ := h
  subst a b c d
  exact pO_K k e
section XFI
variable {s0 : S_Rn} {b I P : S_Bs} {C : S_Cs} {mr : S_Mr} {M : S_Mg} {O : S_Ou} {s : S_Mo} {n c nr room k : Nat} {id sv re : Nat → Nat} {rd rd1 : S_Rd} {T T1 : S_Tr} {R : S_Rs} {pd : List Nd} {Nm B : Nat → List Nat} {N : Nat → List Nd}
theorem x_findStep (hph : Rn_phase s0 = nI 2) (hb : ∃ l, rn b 200 l) (hI : ∃ li, rn I 202 li) (hP : ∃ lp, rn P 200 lp) (hO : rO O s) (hx : cxR C s n id sv re) (hc : c < n) (hre : re c ≤ 1) (hm : Mg_context M = nI c) (hsp : s.1 15 = nI c) (hk : Mg_kind M = s.1 16) (hn : Mg_number M = s.1 17) (hT : tR T pd) (hmt : mtr s.2 0 pd) (hR : cRs R room nr Nm B) (hmR : mRec s nr B N) (hkn : k < nr) : ∃ f s0' b' I' mr' M' O' P' rd' T' s', (∀ K, B_Rn_find_34 K C rd T R s0 b I mr M O P rd1 T1 (nI (re c)) (nI k) = K (s0', b', I', mr', M', O', P', rd', T', nI (re c), nI (k + 1))) ∧ (∀ K, B_Mo_find_4 K s (nI (re c)) 1 (nI k) = K (s', nI (re c), (if f = true then 1 else 0), nI (k + 1))) ∧ (∃ l, rn b' 200 l) ∧ rO O' s' ∧ pO s0 s0' I I' M M' P P' s s' f ∧ (f = true → mtr s'.2 0 pd) := by
  obtain ⟨h1, h2, h3, h4, h5, h6, h7⟩ := hR
  obtain ⟨g1, g2, g3⟩ := hmR
  obtain ⟨kp, k29, k28⟩ := g3 k hkn
  have kl := kp.2.2.2.2.2
  have hpl := hT.1.2.2.2.2.1
  have hpc := hT.1.2.2.2.2.2.1
  have hp0 := hT.1.2.2.2.1
  have hn0 := kp.1.2.2.2.1
  -- the class reads and matches
  obtain ⟨r, e1, q1, q2⟩ := c_read (syn := 0) (h7 k hkn).2 (by omega) (by omega) rd1 T1
  rw [kep_read kp] at q1 q2
  have hT2 : tR r.2.2 (N k) := ⟨kp.1, q2 rfl⟩
  obtain ⟨mr', e2⟩ := c_matches0 (q := 0) (r := 0) (a := mr) hT hT2 (by omega) (by omega) (by rw [(wf_b0 hT.1).2])
  -- the model loads and matches
  obtain ⟨t1, e3, m3, d3⟩ := m_load (s := s) (by omega) kp k29 k28
  have hmt1 : mtr t1.2 0 pd := d3.2.2 pd hpl hpc hmt
  obtain ⟨t2, e4, d4⟩ := m_matches hT.1 kp.1 hmt1 m3
  have hmt2 : mtr t2.2 0 pd := mtr_k hmt1 (fun j _ _ _ _ => d4.2 j (by omega) (by omega))
  have hm2 : mtr t2.2 1 (N k) := mtr_k m3 (fun j _ _ _ _ => d4.2 j (by omega) (by omega))
  have k02 : mK s t2 := mK_t (mK_L d3) (mK_X d4)
  have f02 := mF1_k k02
  have cls : ∀ K, B_Rn_find_34 K C rd T R s0 b I mr M O P rd1 T1 (nI (re c)) (nI k) = if (if mt pd (N k) 3 0 0 = true then (1 : Int32) else 0) = 0 then B_Rn_find_122 K C rd T R s0 b I mr' M O P r.2.1 r.2.2 (nI (re c)) (nI k) else B_Rn_find_87 K C rd T R s0 b I mr' M O P r.2.1 r.2.2 (nI (re c)) (nI k) := by
    intro K
    unfold B_Rn_find_34
    rw [show F_Rs_count R = some (nI nr) by show some (Rs_count R) = _; rw [h4], Option.bind_some, if_neg (by rw [z_le (by omega) (by omega)]; omega)]
    unfold B_Rn_find_46
    rw [if_pos (show Rn_phase s0 = (2 : Int32) from hph)]
    unfold B_Rn_find_54
    rw [show F_Rs_bytes R (nI k) = some () by
      unfold F_Rs_bytes B_Rs_bytes_0
      rw [if_neg (by rw [z_cl (by omega), show (0 : Int32) = nI 0 from rfl, z_lt (by omega) (by omega)]; omega)], Option.bind_some, z_cl (by omega), if_pos (by omega), show F_Rd_read rd1 T1 (Rs_bytes R k) (0 : Int32) = _ from e1, Option.bind_some, show F_Mr_matches0 mr T r.2.2 (0 : Int32) (0 : Int32) (0 : Int32) = _ from e2, Option.bind_some]
  have mod : ∀ K, B_Mo_find_4 K s (nI (re c)) 1 (nI k) = if (if mt pd (N k) 3 0 0 = true then (1 : Int32) else 0) = 0 then B_Mo_find_45 K t2 (nI (re c)) 1 (nI k) else B_Mo_find_28 K t2 (nI (re c)) (nI k) := by
    intro K
    unfold B_Mo_find_4
    rw [show Mo_records s = nI nr from g1, if_neg (by rw [z_le (by omega) (by omega)]; omega)]
    unfold B_Mo_find_12
    rw [if_neg (by decide)]
    unfold B_Mo_find_16
    rw [e3, Option.bind_some, e4, Option.bind_some]
  by_cases cm : mt pd (N k) 3 0 0 = true
  · -- it matches: a reply goes out
    have hx2 := cxR_F hx f02
    obtain ⟨f, s0', b', I', M', O', P', t3, a1, a2, a3, a4, a5, a6⟩ := x_reply (s0 := s0) (st := 1) (fo := true) hb hI hP (rO_K hO k02) hx2 hc hm (by rw [f02.1 15 (by omega) (by omega) (by omega) (by omega) (by omega)]; exact hsp) (by rw [f02.1 16 (by omega) (by omega) (by omega) (by omega) (by omega)]; exact hk) (by rw [f02.1 17 (by omega) (by omega) (by omega) (by omega) (by omega)]; exact hn)
    rw [if_pos rfl] at a1 a2
    have cl2 : ∀ K, B_Rn_find_34 K C rd T R s0 b I mr M O P rd1 T1 (nI (re c)) (nI k) = if Rn_phase s0' = (2 : Int32) then B_Rn_find_101 K C rd T R s0' b' I' mr' M' O' P' r.2.1 r.2.2 (nI (re c)) (nI k) else B_Rn_find_122 K C rd T R s0' b' I' mr' M' O' P' r.2.1 r.2.2 (nI (re c)) (nI k) := by
      intro K
      rw [cls K, if_pos cm, if_neg (by decide)]
      unfold B_Rn_find_87
      rw [a1, Option.bind_some]
    have mo2 : ∀ K, B_Mo_find_4 K s (nI (re c)) 1 (nI k) = if (if f = true then (1 : Int32) else 0) = 0 then B_Mo_find_45 K t3 (nI (re c)) (if f = true then 1 else 0) (nI k) else B_Mo_find_39 K t3 (nI (re c)) (nI k) := by
      intro K
      rw [mod K, if_pos cm, if_neg (by decide)]
      unfold B_Mo_find_28
      rw [a2, Option.bind_some]
    cases f with
    | false =>
      refine ⟨false, s0', b', I', mr', M', O', P', r.2.1, r.2.2, t3, fun K => ?_, fun K => ?_, a3, a4, pO_K a5 f02, fun h => by cases h⟩
      · rw [cl2 K]
        have : s0' = (0, 0, Rn_answered s0) := a5.1
        rw [this, if_neg (by show ¬ (0 : Int32) = 2; decide)]
        unfold B_Rn_find_122
        rw [nI_1]
      · rw [mo2 K, if_pos (by decide : (if false = true then (1 : Int32) else 0) = 0)]
        unfold B_Mo_find_45
        rw [nI_1]
    | true =>
      obtain ⟨z1, z2, z3, z4, z5⟩ := a5
      subst z1 z2 z3 z4
      have f03 := mF1_t f02 z5
      have hx3 := cxR_F hx f03
      have hsp3 : t3.1 15 = nI c := by rw [f03.1 15 (by omega) (by omega) (by omega) (by omega) (by omega)]; exact hsp
      -- the trees of the model are where they were
      have hid := (hx3.2.2.2 c hc).2.2.2.2.1
      have hmt3 : mtr t3.2 0 pd := mtr_k hmt2 (fun j _ _ _ _ => a6 rfl j (by omega) (by omega))
      have hm3 : mtr t3.2 1 (N k) := mtr_k hm2 (fun j _ _ _ _ => a6 rfl j (by omega) (by omega))
      have hn4 := hx.1
      obtain ⟨t4, e5, m5, d5⟩ := m_shows hre hT.1 kp.1 hmt3 hm3 (by omega) hsp3 hid
      obtain ⟨b3, e6, r6⟩ := c_startData (s0 := s0') (f := 2) a3 hx3 hc hm (by omega)
      have hcl := ch_len (pd := pd) hre kp
      obtain ⟨b4, e7, r7⟩ := c_writeChosen hT2 hT hre r6 (fun i i1 i2 => (kep_fit kp i i1 i2).imp (fun h => h) (fun h => Nat.le_trans (vln_10 hre) h)) (by simp; omega)
      obtain ⟨f, s0'', I'', M'', O'', P'', t5, y1, y2, y3, y4, y5⟩ := x_put (t := 4) (s0 := s0') (M := M') r7 hI hP (rO_K a4 (mK_C d5)) m5
      refine ⟨f, s0'', b4, I'', mr', M'', O'', P'', r.2.1, r.2.2, t5, fun K => ?_, fun K => ?_, ⟨_, r7⟩, y3, pO_K y4 (mF1_t f03 (mF1_k (mK_C d5))), fun hf => mtr_k (s := t4) (mtr_k hmt3 (fun j _ _ _ _ => d5.2 j (by omega) (by omega))) (fun j _ _ _ _ => y5 hf j (by omega))⟩
      · rw [cl2 K, if_pos (show Rn_phase s0' = (2 : Int32) from hph)]
        unfold B_Rn_find_101
        rw [show F_Rn_startData s0' b' C M' (2 : Int32) = _ from e6, Option.bind_some, e7, Option.bind_some, show F_Rn_put s0' b4 I' M' O' P' (4 : Int32) = _ from y1, Option.bind_some]
        unfold B_Rn_find_122
        rw [nI_1]
      · rw [mo2 K, if_neg (by decide : ¬ (if true = true then (1 : Int32) else 0) = 0)]
        unfold B_Mo_find_39
        rw [e5]
        unfold B_Mo_shows_144
        rw [show F_Mo_sends t4 (4 : Int32) = _ from y2, Option.bind_some, if_pos (bl01 f), Option.bind_some]
        unfold B_Mo_find_45
        rw [nI_1]
  · refine ⟨true, s0, b, I, mr', M, O, P, r.2.1, r.2.2, t2, fun K => ?_, fun K => ?_, hb, rO_K hO k02, ⟨rfl, rfl, rfl, rfl, f02⟩, fun _ => hmt2⟩
    · rw [cls K, if_neg cm, if_pos rfl]
      unfold B_Rn_find_122
      rw [nI_1]
    · rw [mod K, if_neg cm, if_pos rfl]
      unfold B_Mo_find_45
      rw [nI_1]
      rfl
theorem find_off {fu : Nat} {s0 : S_Rn} (h : Rn_phase s0 = 0) (x4 : Int32) : lp (fun k34 v => B_Rn_find_34  k34 C rd T R v.1 v.2.1 v.2.2.1 v.2.2.2.1 v.2.2.2.2.1 v.2.2.2.2.2.1 v.2.2.2.2.2.2.1 v.2.2.2.2.2.2.2.1 v.2.2.2.2.2.2.2.2.1 v.2.2.2.2.2.2.2.2.2.1 v.2.2.2.2.2.2.2.2.2.2) (fu + 1) (s0, b, I, mr, M, O, P, rd1, T1, nI (re c), x4) = some (s0, b, I, mr, M, O, P, rd1, T1) := by
  rw [lp_s]
  show B_Rn_find_34 (lp (fun k34 v => B_Rn_find_34  k34 C rd T R v.1 v.2.1 v.2.2.1 v.2.2.2.1 v.2.2.2.2.1 v.2.2.2.2.2.1 v.2.2.2.2.2.2.1 v.2.2.2.2.2.2.2.1 v.2.2.2.2.2.2.2.2.1 v.2.2.2.2.2.2.2.2.2.1 v.2.2.2.2.2.2.2.2.2.2) fu) C rd T R s0 b I mr M O P rd1 T1 (nI (re c)) x4 = _
  generalize lp (fun k34 v => B_Rn_find_34  k34 C rd T R v.1 v.2.1 v.2.2.1 v.2.2.2.1 v.2.2.2.2.1 v.2.2.2.2.2.1 v.2.2.2.2.2.2.1 v.2.2.2.2.2.2.2.1 v.2.2.2.2.2.2.2.2.1 v.2.2.2.2.2.2.2.2.2.1 v.2.2.2.2.2.2.2.2.2.2) fu = K
  unfold B_Rn_find_34
  rw [show F_Rs_count R = some (Rs_count R) from rfl, Option.bind_some]
  have e : B_Rn_find_128 C rd T R s0 b I mr M O P rd1 T1 = some (s0, b, I, mr, M, O, P, rd1, T1) := by
    unfold B_Rn_find_128
    rw [if_neg (by rw [h]; decide)]
    rfl
  split
  · exact e
  · unfold B_Rn_find_46
    rw [if_neg (by rw [h]; decide)]
    exact e
theorem mfind_off {fu : Nat} {x1 x3 : Int32} : lp (fun k4 v => B_Mo_find_4  k4  v.1 v.2.1 v.2.2.1 v.2.2.2) (fu + 1) (s, x1, 0, x3) = some s := by
  rw [lp_s]
  show B_Mo_find_4 (lp (fun k4 v => B_Mo_find_4  k4  v.1 v.2.1 v.2.2.1 v.2.2.2) fu) s x1 0 x3 = _
  generalize lp (fun k4 v => B_Mo_find_4  k4  v.1 v.2.1 v.2.2.1 v.2.2.2) fu = K
  unfold B_Mo_find_4 B_Mo_find_12
  rw [if_pos (rfl : (0 : Int32) = 0)]
  have e : B_Mo_find_51 s 0 = some s := by
    unfold B_Mo_find_51
    rw [if_pos rfl]
    rfl
  split <;> exact e
theorem x_findLoop (hph : Rn_phase s0 = nI 2) (hI : ∃ li, rn I 202 li) (hP : ∃ lp, rn P 200 lp) (hc : c < n) (hre : re c ≤ 1) (hm : Mg_context M = nI c) (hT : tR T pd) (hR : cRs R room nr Nm B) : ∀ (j k fu fv : Nat) (b : S_Bs) (mr : S_Mr) (O : S_Ou) (rd1 : S_Rd) (T1 : S_Tr) (s : S_Mo), k + j = nr → j + 1 < fu → j + 1 < fv → (∃ l, rn b 200 l) → rO O s → cxR C s n id sv re → s.1 15 = nI c → Mg_kind M = s.1 16 → Mg_number M = s.1 17 → mtr s.2 0 pd → mRec s nr B N → ∃ f s0' b' I' mr' M' O' P' rd' T' s', lp (fun k34 v => B_Rn_find_34  k34 C rd T R v.1 v.2.1 v.2.2.1 v.2.2.2.1 v.2.2.2.2.1 v.2.2.2.2.2.1 v.2.2.2.2.2.2.1 v.2.2.2.2.2.2.2.1 v.2.2.2.2.2.2.2.2.1 v.2.2.2.2.2.2.2.2.2.1 v.2.2.2.2.2.2.2.2.2.2) fu (s0, b, I, mr, M, O, P, rd1, T1, nI (re c), nI k) = some (s0', b', I', mr', M', O', P', rd', T') ∧ lp (fun k4 v => B_Mo_find_4  k4  v.1 v.2.1 v.2.2.1 v.2.2.2) fv (s, nI (re c), 1, nI k) = some s' ∧ (∃ l, rn b' 200 l) ∧ rO O' s' ∧ pO s0 s0' I I' M M' P P' s s' f := by
  intro j
  induction j with
  | zero =>
    intro k fu fv b mr O rd1 T1 s hk hf hv hb hO hx hsp hkd hnu hmt hmR
    obtain ⟨fu', rfl⟩ : ∃ fu', fu = fu' + 1 := ⟨fu - 1, by omega⟩
    obtain ⟨fv', rfl⟩ : ∃ fv', fv = fv' + 1 := ⟨fv - 1, by omega⟩
    have hr8 := hmR.2.1
    obtain ⟨f, s0', b', I', M', O', P', t3, a1, a2, a3, a4, a5, a6⟩ := x_reply (s0 := s0) (st := 0) (fo := false) hb hI hP hO hx hc hm hsp hkd hnu
    rw [if_neg (by decide)] at a1 a2
    refine ⟨f, s0', b', I', mr, M', O', P', rd1, T1, t3, ?_, ?_, a3, a4, a5⟩
    · rw [lp_s]
      show B_Rn_find_34 (lp (fun k34 v => B_Rn_find_34  k34 C rd T R v.1 v.2.1 v.2.2.1 v.2.2.2.1 v.2.2.2.2.1 v.2.2.2.2.2.1 v.2.2.2.2.2.2.1 v.2.2.2.2.2.2.2.1 v.2.2.2.2.2.2.2.2.1 v.2.2.2.2.2.2.2.2.2.1 v.2.2.2.2.2.2.2.2.2.2) fu') C rd T R s0 b I mr M O P rd1 T1 (nI (re c)) (nI k) = _
      generalize lp (fun k34 v => B_Rn_find_34  k34 C rd T R v.1 v.2.1 v.2.2.1 v.2.2.2.1 v.2.2.2.2.1 v.2.2.2.2.2.1 v.2.2.2.2.2.2.1 v.2.2.2.2.2.2.2.1 v.2.2.2.2.2.2.2.2.1 v.2.2.2.2.2.2.2.2.2.1 v.2.2.2.2.2.2.2.2.2.2) fu' = K
      unfold B_Rn_find_34
      rw [show F_Rs_count R = some (nI nr) by show some (Rs_count R) = _; rw [hR.2.2.2.1], Option.bind_some, if_pos (by rw [z_le (by omega) (by omega)]; omega)]
      unfold B_Rn_find_128
      rw [if_pos (show Rn_phase s0 = (2 : Int32) from hph)]
      unfold B_Rn_find_136
      rw [a1, Option.bind_some]
      rfl
    · rw [lp_s]
      show B_Mo_find_4 (lp (fun k4 v => B_Mo_find_4  k4  v.1 v.2.1 v.2.2.1 v.2.2.2) fv') s (nI (re c)) 1 (nI k) = _
      generalize lp (fun k4 v => B_Mo_find_4  k4  v.1 v.2.1 v.2.2.1 v.2.2.2) fv' = K
      unfold B_Mo_find_4
      rw [show Mo_records s = nI nr from hmR.1, if_pos (by rw [z_le (by omega) (by omega)]; omega)]
      unfold B_Mo_find_51
      rw [if_neg (by decide)]
      unfold B_Mo_find_55
      rw [a2, Option.bind_some]
      rfl
  | succ j ih =>
    intro k fu fv b mr O rd1 T1 s hk hf hv hb hO hx hsp hkd hnu hmt hmR
    obtain ⟨fu', rfl⟩ : ∃ fu', fu = fu' + 1 := ⟨fu - 1, by omega⟩
    obtain ⟨fv', rfl⟩ : ∃ fv', fv = fv' + 1 := ⟨fv - 1, by omega⟩
    obtain ⟨f, s0', b', I', mr', M', O', P', rd', T', t, a1, a2, a3, a4, a5, a6⟩ := x_findStep (rd := rd) (rd1 := rd1) (T1 := T1) (mr := mr) hph hb hI hP hO hx hc hre hm hsp hkd hnu hT hmt hR hmR (k := k) (by omega)
    have c1 : lp (fun k34 v => B_Rn_find_34  k34 C rd T R v.1 v.2.1 v.2.2.1 v.2.2.2.1 v.2.2.2.2.1 v.2.2.2.2.2.1 v.2.2.2.2.2.2.1 v.2.2.2.2.2.2.2.1 v.2.2.2.2.2.2.2.2.1 v.2.2.2.2.2.2.2.2.2.1 v.2.2.2.2.2.2.2.2.2.2) (fu' + 1) (s0, b, I, mr, M, O, P, rd1, T1, nI (re c), nI k) = lp (fun k34 v => B_Rn_find_34  k34 C rd T R v.1 v.2.1 v.2.2.1 v.2.2.2.1 v.2.2.2.2.1 v.2.2.2.2.2.1 v.2.2.2.2.2.2.1 v.2.2.2.2.2.2.2.1 v.2.2.2.2.2.2.2.2.1 v.2.2.2.2.2.2.2.2.2.1 v.2.2.2.2.2.2.2.2.2.2) fu' (s0', b', I', mr', M', O', P', rd', T', nI (re c), nI (k + 1)) := by
      rw [lp_s]
      exact a1 _
    have c2 : lp (fun k4 v => B_Mo_find_4  k4  v.1 v.2.1 v.2.2.1 v.2.2.2) (fv' + 1) (s, nI (re c), 1, nI k) = lp (fun k4 v => B_Mo_find_4  k4  v.1 v.2.1 v.2.2.1 v.2.2.2) fv' (t, nI (re c), (if f = true then 1 else 0), nI (k + 1)) := by
      rw [lp_s]
      exact a2 _
    cases f with
    | false =>
      obtain ⟨fu'', rfl⟩ : ∃ fu'', fu' = fu'' + 1 := ⟨fu' - 1, by omega⟩
      obtain ⟨fv'', rfl⟩ : ∃ fv'', fv' = fv'' + 1 := ⟨fv' - 1, by omega⟩
      refine ⟨false, s0', b', I', mr', M', O', P', rd', T', t, ?_, ?_, a3, a4, a5⟩
      · rw [c1]
        exact find_off (by rw [show s0' = (0, 0, Rn_answered s0) from a5.1]; rfl) _
      · rw [c2, if_neg (by decide)]
        exact mfind_off
    | true =>
      obtain ⟨z1, z2, z3, z4, z5⟩ := a5
      subst z1 z2 z3 z4
      obtain ⟨f, s0'', b'', I'', mr'', M'', O'', P'', rd'', T'', t', y1, y2, y3, y4, y5⟩ := ih (k + 1) fu' fv' b' mr' O' rd' T' t (by omega) (by omega) (by omega) a3 a4 (cxR_F hx z5) (by rw [z5.1 15 (by omega) (by omega) (by omega) (by omega) (by omega)]; exact hsp) (by rw [z5.1 16 (by omega) (by omega) (by omega) (by omega) (by omega)]; exact hkd) (by rw [z5.1 17 (by omega) (by omega) (by omega) (by omega) (by omega)]; exact hnu) (a6 rfl) (mRec_F z5 hmR)
      exact ⟨f, s0'', b'', I'', mr'', M'', O'', P'', rd'', T'', t', by rw [c1]; exact y1, by rw [c2, if_pos rfl]; exact y2, y3, y4, pO_K y5 z5⟩
theorem x_find (hph : Rn_phase s0 = nI 2) (hb : ∃ l, rn b 200 l) (hI : ∃ li, rn I 202 li) (hP : ∃ lp, rn P 200 lp) (hO : rO O s) (hx : cxR C s n id sv re) (hc : c < n) (hre : re c ≤ 1) (hm : Mg_context M = nI c) (hsp : s.1 15 = nI c) (hk : Mg_kind M = s.1 16) (hn : Mg_number M = s.1 17) (hT : tR T pd) (hmt : mtr s.2 0 pd) (hR : cRs R room nr Nm B) (hmR : mRec s nr B N) : ∃ f s0' b' I' mr' M' O' P' rd' T' s', F_Rn_find s0 b C I mr M O P rd T rd1 T1 R = some (s0', b', I', mr', M', O', P', rd', T') ∧ F_Mo_find s (nI (re c)) = some s' ∧ (∃ l, rn b' 200 l) ∧ rO O' s' ∧ pO s0 s0' I I' M M' P P' s s' f := by
  have hr8 := hmR.2.1
  obtain ⟨f, s0', b', I', mr', M', O', P', rd', T', s', a1, a2, a3, a4, a5⟩ := x_findLoop (rd := rd) hph hI hP hc hre hm hT hR nr 0 FU FU b mr O rd1 T1 s (by omega) (by unfold FU; omega) (by unfold FU; omega) hb hO hx hsp hk hn hmt hmR
  refine ⟨f, s0', b', I', mr', M', O', P', rd', T', s', ?_, ?_, a3, a4, a5⟩
  · unfold F_Rn_find B_Rn_find_0
    rw [show F_Rd_tree rd = some () from rfl, Option.bind_some, show F_Rd_tree rd1 = some () from rfl, Option.bind_some, show F_Mg_contextIndex M = some (nI c) by show some (Mg_context M) = _; rw [hm], Option.bind_some, cs_result hx hc, Option.bind_some]
    exact a1
  · exact a2
end XFI
