/-! PURE: contexts are found, fragments are taken -/
def cxF (n : Nat) (id : Nat → Nat) (x : Int32) : Option Nat := (List.range' 0 n).find? (fun k => decide (nI (id k) = x))
theorem cxF_lt {n : Nat} {id : Nat → Nat} {x : Int32} {c : Nat} (h : cxF n id x = some c) : c < n := by
  have := List.mem_of_find?_eq_some h
  rw [List.mem_range'_1] at this
  omega
section XFD
variable {C : S_Cs} {s : S_Mo} {n : Nat} {id sv re : Nat → Nat} {x : Int32}
theorem cs_findLoop (h : cxR C s n id sv re) : ∀ (j k fu : Nat), k + j = n → j < fu → lp (fun k2 v => B_Cs_find_2  k2 C v.1 v.2) fu (x, nI k) = some (oI ((List.range' k j).find? (fun k => decide (nI (id k) = x)))) := by
  have h4 := h.1
  intro j
  induction j with
  | zero =>
    intro k fu hk hf
    obtain ⟨fu', rfl⟩ : ∃ fu', fu = fu' + 1 := ⟨fu - 1, by omega⟩
    rw [lp_s]
    show B_Cs_find_2 _ C x (nI k) = _
    unfold B_Cs_find_2
    rw [h.2.1, if_pos (by rw [z_le (by omega) (by omega)]; omega)]
    rfl
  | succ j ih =>
    intro k fu hk hf
    obtain ⟨fu', rfl⟩ : ∃ fu', fu = fu' + 1 := ⟨fu - 1, by omega⟩
    rw [lp_s]
    show B_Cs_find_2 (lp (fun k2 v => B_Cs_find_2  k2 C v.1 v.2) fu') C x (nI k) = _
    have ih' := ih (k + 1) fu' (by omega) (by omega)
    generalize lp (fun k2 v => B_Cs_find_2  k2 C v.1 v.2) fu' = K at ih' ⊢
    unfold B_Cs_find_2
    rw [h.2.1, if_neg (by rw [z_le (by omega) (by omega)]; omega)]
    unfold B_Cs_find_10
    rw [z_cl (by omega), if_neg (by rw [show (0 : Int32) = nI 0 from rfl, z_lt (by omega) (by omega)]; omega), (h.2.2.2 k (by omega)).2.2.2.1, List.range'_succ]
    by_cases c : nI (id k) = x
    · rw [if_pos c, List.find?_cons_of_pos (by exact decide_eq_true c)]
      rfl
    · rw [if_neg c, List.find?_cons_of_neg (by rw [decide_eq_false c]; decide)]
      unfold B_Cs_find_22
      rw [nI_1]
      exact ih'
theorem cs_find (h : cxR C s n id sv re) : F_Cs_find C x = some (oI (cxF n id x)) := cs_findLoop h n 0 FU (by omega) (by have := h.1; unfold FU; omega)
theorem ms_findLoop (h : cxR C s n id sv re) : ∀ (j k fu : Nat), k + j = n → j < fu → lp (fun k2 v => B_Mo_contextOf_2  k2 s v.1 v.2) fu (x, nI k) = some (oI ((List.range' k j).find? (fun k => decide (nI (id k) = x)))) := by
  have h4 := h.1
  intro j
  induction j with
  | zero =>
    intro k fu hk hf
    obtain ⟨fu', rfl⟩ : ∃ fu', fu = fu' + 1 := ⟨fu - 1, by omega⟩
    rw [lp_s]
    show B_Mo_contextOf_2 _ s x (nI k) = _
    unfold B_Mo_contextOf_2
    rw [show Mo_contexts s = nI n from h.2.2.1, if_pos (by rw [z_le (by omega) (by omega)]; omega)]
    rfl
  | succ j ih =>
    intro k fu hk hf
    obtain ⟨fu', rfl⟩ : ∃ fu', fu = fu' + 1 := ⟨fu - 1, by omega⟩
    rw [lp_s]
    show B_Mo_contextOf_2 (lp (fun k2 v => B_Mo_contextOf_2  k2 s v.1 v.2) fu') s x (nI k) = _
    have ih' := ih (k + 1) fu' (by omega) (by omega)
    generalize lp (fun k2 v => B_Mo_contextOf_2  k2 s v.1 v.2) fu' = K at ih' ⊢
    unfold B_Mo_contextOf_2
    rw [show Mo_contexts s = nI n from h.2.2.1, if_neg (by rw [z_le (by omega) (by omega)]; omega)]
    unfold B_Mo_contextOf_10
    rw [z_cl (by omega), if_neg (by rw [show (0 : Int32) = nI 0 from rfl, z_lt (by omega) (by omega)]; omega), show Mo_ids s k = nI (id k) from (h.2.2.2 k (by omega)).2.2.2.2.1, List.range'_succ]
    by_cases c : nI (id k) = x
    · rw [if_pos c, List.find?_cons_of_pos (by exact decide_eq_true c)]
      rfl
    · rw [if_neg c, List.find?_cons_of_neg (by rw [decide_eq_false c]; decide)]
      unfold B_Mo_contextOf_22
      rw [nI_1]
      exact ih'
theorem ms_find (h : cxR C s n id sv re) : F_Mo_contextOf s x = some (oI (cxF n id x)) := ms_findLoop h n 0 FU (by omega) (by have := h.1; unfold FU; omega)
end XFD
section XFR
variable {s0 : S_Rn} {I P : S_Bs} {C : S_Cs} {M : S_Mg} {s : S_Mo} {n m : Nat} {id sv re : Nat → Nat} {l q : List Nat}
theorem c_fragLoop {x1 x2 : Int32} (hq : rn I 202 q) : ∀ (j i fu : Nat) (P : S_Bs) (l : List Nat), i + j = q.length → j < fu → rn P 200 l → l.length + j ≤ 200 → ∃ P', lp (fun k104 v => B_Rn_takeFragment_104  k104 s0 C I v.1 v.2.1 v.2.2.1 v.2.2.2.1 v.2.2.2.2) fu (M, P, x1, x2, nI i) = B_Rn_takeFragment_138 s0 C I M P' x1 x2 ∧ rn P' 200 (l ++ q.drop i) := by
  have hcap := rn_cap hq
  intro j
  induction j with
  | zero =>
    intro i fu P l hi hf hP hl
    obtain ⟨fu', rfl⟩ : ∃ fu', fu = fu' + 1 := ⟨fu - 1, by omega⟩
    refine ⟨P, ?_, by rw [List.drop_eq_nil_of_le (by omega), List.append_nil]; exact hP⟩
    rw [lp_s]
    show B_Rn_takeFragment_104 _ s0 C I M P x1 x2 (nI i) = _
    unfold B_Rn_takeFragment_104
    rw [rn_count hq, Option.bind_some, if_pos (by rw [z_le (by omega) (by omega)]; omega)]
  | succ j ih =>
    intro i fu P l hi hf hP hl
    obtain ⟨fu', rfl⟩ : ∃ fu', fu = fu' + 1 := ⟨fu - 1, by omega⟩
    obtain ⟨P1, e1, r1⟩ := rn_append' hP (by omega) (hq.2 i)
    obtain ⟨P', e', r'⟩ := ih (i + 1) fu' P1 _ (by omega) (by omega) r1 (by simp; omega)
    refine ⟨P', ?_, by rw [gd_dr (by omega)]; simpa using r'⟩
    rw [lp_s]
    show B_Rn_takeFragment_104 (lp (fun k104 v => B_Rn_takeFragment_104  k104 s0 C I v.1 v.2.1 v.2.2.1 v.2.2.2.1 v.2.2.2.2) fu') s0 C I M P x1 x2 (nI i) = _
    generalize lp (fun k104 v => B_Rn_takeFragment_104  k104 s0 C I v.1 v.2.1 v.2.2.1 v.2.2.2.1 v.2.2.2.2) fu' = K at e' ⊢
    unfold B_Rn_takeFragment_104
    rw [rn_count hq, Option.bind_some, if_neg (by rw [z_le (by omega) (by omega)]; omega)]
    unfold B_Rn_takeFragment_116
    rw [rn_get hq (by omega), Option.bind_some, e1, Option.bind_some, nI_1]
    exact e'
theorem m_fragLoop {L more r : Nat} {x3 : Int32} {s0 : S_Mo} (hm : more ≤ 200) (hstep : ∀ K (s : S_Mo) i, i < more → s.1 = s0.1 → (∀ j, j ≠ r → s.2 j = s0.2 j) → B_Mo_fragment_143 K s x3 (nI more) (nI i) = K ((s.1, ua s.2 r (upd (s.2 r) (L + i) (nI (q.getD (4 + i) 0)))), x3, nI more, nI (i + 1))) : ∀ (j i fu : Nat) (s : S_Mo), i + j = more → j < fu → s.1 = s0.1 → (∀ j, j ≠ r → s.2 j = s0.2 j) → (∀ k, k < L → s.2 r k = s0.2 r k) → (∀ k, k < i → s.2 r (L + k) = nI (q.getD (4 + k) 0)) → ∃ s', lp (fun k136 v => B_Mo_fragment_136  k136  v.1 v.2.1 v.2.2.1 v.2.2.2) fu (s, x3, nI more, nI i) = B_Mo_fragment_198 s' x3 (nI more) ∧ s'.1 = s0.1 ∧ (∀ j, j ≠ r → s'.2 j = s0.2 j) ∧ (∀ k, k < L → s'.2 r k = s0.2 r k) ∧ ∀ k, k < more → s'.2 r (L + k) = nI (q.getD (4 + k) 0) := by
  intro j
  induction j with
  | zero =>
    intro i fu s hi hf h1 h2 h3 h4
    obtain ⟨fu', rfl⟩ : ∃ fu', fu = fu' + 1 := ⟨fu - 1, by omega⟩
    refine ⟨s, ?_, h1, h2, h3, fun k hk => h4 k (by omega)⟩
    rw [lp_s]
    show B_Mo_fragment_136 _ s x3 (nI more) (nI i) = _
    unfold B_Mo_fragment_136
    rw [if_pos (by rw [z_le (by omega) (by omega)]; omega)]
  | succ j ih =>
    intro i fu s hi hf h1 h2 h3 h4
    obtain ⟨fu', rfl⟩ : ∃ fu', fu = fu' + 1 := ⟨fu - 1, by omega⟩
    obtain ⟨s', e', a⟩ := ih (i + 1) fu' (s.1, ua s.2 r (upd (s.2 r) (L + i) (nI (q.getD (4 + i) 0)))) (by omega) (by omega) h1 (fun j hj => by dsimp only; rw [ua_n hj]; exact h2 j hj) (fun k hk => by dsimp only; rw [ua_s, pk_un (by omega)]; exact h3 k hk) (fun k hk => by
      dsimp only
      rw [ua_s]
      by_cases c : k = i
      · rw [c, pk_us]
      · rw [pk_un (by omega)]
        exact h4 k (by omega))
    refine ⟨s', ?_, a⟩
    rw [lp_s]
    show B_Mo_fragment_136 (lp (fun k136 v => B_Mo_fragment_136  k136  v.1 v.2.1 v.2.2.1 v.2.2.2) fu') s x3 (nI more) (nI i) = _
    generalize lp (fun k136 v => B_Mo_fragment_136  k136  v.1 v.2.1 v.2.2.1 v.2.2.2) fu' = K at e' ⊢
    unfold B_Mo_fragment_136
    rw [if_neg (by rw [z_le (by omega) (by omega)]; omega), hstep K s i (by omega) h1 h2]
    exact e'
theorem gd_dp {q : List Nat} {k d : Nat} : (q.drop d).getD k 0 = q.getD (d + k) 0 := by
  simp [List.getD, List.getElem?_drop]
theorem row_ap {l q : List Nat} {more r : Nat} {s s0 : S_Mo} (hq : q.length = more + 4) (h0 : ∀ k, k < l.length → s0.2 r k = nI (l.getD k 0)) (h1 : ∀ k, k < l.length → s.2 r k = s0.2 r k) (h2 : ∀ k, k < more → s.2 r (l.length + k) = nI (q.getD (4 + k) 0)) : ∀ k, k < (l ++ q.drop 4).length → s.2 r k = nI ((l ++ q.drop 4).getD k 0) := by
  intro k hk
  by_cases c : k < l.length
  · rw [gd_al c, h1 k c, h0 k c]
  · obtain ⟨d, rfl⟩ : ∃ d, k = l.length + d := ⟨k - l.length, by omega⟩
    rw [gd_ap, gd_dp, h2 d (by simp at hk; omega)]
/-- the model takes a fragment of a command, or of a set -/
theorem m_frag1 (hq : q.length = m + 2) (hm : 2 ≤ m) (hm2 : m ≤ 200) (h21 : ∀ i, i < q.length → s.2 21 i = nI (q.getD i 0)) (h13 : s.1 13 = nI l.length) (h14 : s.1 14 = nI 0) (h26 : ∀ k, k < l.length → s.2 26 k = nI (l.getD k 0)) (hl : l.length + (m - 2) ≤ 200) (c : Nat) : ∃ s', B_Mo_fragment_128 s (nI c) 1 (nI (m - 2)) = (if (2 : Int32) ≤ nI (q.getD 3 0) then B_Mo_fragment_248 s' 1 else some (1, s')) ∧ s'.1 15 = nI c ∧ s'.1 13 = nI (l ++ q.drop 4).length ∧ s'.1 14 = nI 0 ∧ (∀ k, k < (l ++ q.drop 4).length → s'.2 26 k = nI ((l ++ q.drop 4).getD k 0)) ∧ (∀ i, i ≠ 13 → i ≠ 14 → i ≠ 15 → s'.1 i = s.1 i) ∧ ∀ j, j ≠ 26 → s'.2 j = s.2 j := by
  have hS : ∀ i, i ≠ 15 → (Mo_set_speaker s (nI c)).1 i = s.1 i := fun i hi => pk_un (f := s.1) (k := 15) hi
  obtain ⟨s1, e1, a1, a2, a3, a4⟩ := m_fragLoop (q := q) (L := l.length) (more := m - 2) (r := 26) (x3 := 1) (s0 := Mo_set_speaker s (nI c)) (by omega) (fun K t i hi t1 t2 => by
    unfold B_Mo_fragment_143
    rw [if_neg (by decide)]
    unfold B_Mo_fragment_147
    rw [show (4 : Int32) + nI i = nI (4 + i) from z_ad 4 i, show Mo_commands t = nI l.length by show t.1 13 = _; rw [t1, hS 13 (by omega)]; exact h13, z_ad, z_cl (by omega), z_cl (by omega), show (0 : Int32) = nI 0 from rfl, if_neg (by rw [z_lt (by omega) (by omega)]; omega), if_neg (by rw [z_lt (by omega) (by omega)]; omega), show Mo_input t (4 + i) = nI (q.getD (4 + i) 0) by show t.2 21 _ = _; rw [t2 21 (by omega)]; exact h21 _ (by omega)]
    unfold B_Mo_fragment_192
    rw [nI_1]
    rfl) (m - 2) 0 FU (Mo_set_speaker s (nI c)) (by omega) (by unfold FU; omega) rfl (fun _ _ => rfl) (fun _ _ => rfl) (fun k hk => by omega)
  have hlen : (l ++ q.drop 4).length = l.length + (m - 2) := by simp; omega
  have c1 : Mo_commands s1 = nI l.length := by show s1.1 13 = _; rw [a1, hS 13 (by omega)]; exact h13
  have c2 : ∀ y, Mo_bodies (Mo_set_commands s1 y) = nI 0 := fun y => by
    show upd s1.1 13 y 14 = _
    rw [pk_un (by omega), a1, hS 14 (by omega)]; exact h14
  obtain ⟨s2, hs2⟩ : ∃ s2, s2 = Mo_set_bodies (Mo_set_commands s1 (nI l.length + nI (m - 2))) (nI 0 + 0) := ⟨_, rfl⟩
  have w : ∀ i, s2.1 i = upd (upd s1.1 13 (nI l.length + nI (m - 2))) 14 (nI 0 + 0) i := fun i => by rw [hs2]; rfl
  have w2 : s2.2 = s1.2 := by rw [hs2]; rfl
  refine ⟨s2, ?_, ?_, ?_, ?_, ?_, fun i h13 h14 h15 => ?_, fun j hj => ?_⟩
  · unfold B_Mo_fragment_128 L_Mo_fragment_136
    rw [show (0 : Int32) = nI 0 from rfl, e1]
    unfold B_Mo_fragment_198
    rw [c1, if_neg (by decide)]
    unfold B_Mo_fragment_207 B_Mo_fragment_213
    rw [c2, if_neg (by decide)]
    unfold B_Mo_fragment_226 B_Mo_fragment_232
    rw [if_neg (by decide), ← hs2, show Mo_input s2 (3 : Int32).toNatClampNeg = nI (q.getD 3 0) by
      show s2.2 21 3 = _
      rw [w2, a2 21 (by omega)]
      exact h21 3 (by omega)]
    rfl
  · rw [w, pk_un (by omega), pk_un (by omega), a1]; exact pk_us (f := s.1) (k := 15)
  · rw [w, pk_un (by omega), pk_us, z_ad, hlen]
  · rw [w, pk_us]; rfl
  · rw [w2]
    exact row_ap (s0 := s) (by omega) h26 (fun k hk => a3 k hk) a4
  · rw [w, pk_un h14, pk_un h13, a1, hS i h15]
  · rw [w2, a2 j hj]; rfl
theorem m_frag0 (hq : q.length = m + 2) (hm : 2 ≤ m) (hm2 : m ≤ 200) (h21 : ∀ i, i < q.length → s.2 21 i = nI (q.getD i 0)) (h14 : s.1 14 = nI l.length) (h27 : ∀ k, k < l.length → s.2 27 k = nI (l.getD k 0)) (hl : l.length + (m - 2) ≤ 200) (c : Nat) : ∃ s', B_Mo_fragment_128 s (nI c) 0 (nI (m - 2)) = (if (2 : Int32) ≤ nI (q.getD 3 0) then B_Mo_fragment_248 s' 0 else some (1, s')) ∧ s'.1 15 = nI c ∧ s'.1 14 = nI (l ++ q.drop 4).length ∧ (∀ k, k < (l ++ q.drop 4).length → s'.2 27 k = nI ((l ++ q.drop 4).getD k 0)) ∧ (∀ i, i ≠ 13 → i ≠ 14 → i ≠ 15 → s'.1 i = s.1 i) ∧ ∀ j, j ≠ 27 → s'.2 j = s.2 j := by
  have hS : ∀ i, i ≠ 15 → (Mo_set_speaker s (nI c)).1 i = s.1 i := fun i hi => pk_un (f := s.1) (k := 15) hi
  obtain ⟨s1, e1, a1, a2, a3, a4⟩ := m_fragLoop (q := q) (L := l.length) (more := m - 2) (r := 27) (x3 := 0) (s0 := Mo_set_speaker s (nI c)) (by omega) (fun K t i hi t1 t2 => by
    unfold B_Mo_fragment_143
    rw [if_pos rfl]
    unfold B_Mo_fragment_171
    rw [show (4 : Int32) + nI i = nI (4 + i) from z_ad 4 i, show Mo_bodies t = nI l.length by show t.1 14 = _; rw [t1, hS 14 (by omega)]; exact h14, z_ad, z_cl (by omega), z_cl (by omega), if_neg (by rw [show (0 : Int32) = nI 0 from rfl, z_lt (by omega) (by omega)]; omega), if_neg (by rw [show (0 : Int32) = nI 0 from rfl, z_lt (by omega) (by omega)]; omega), show Mo_input t (4 + i) = nI (q.getD (4 + i) 0) by show t.2 21 _ = _; rw [t2 21 (by omega)]; exact h21 _ (by omega)]
    unfold B_Mo_fragment_192
    rw [nI_1]
    rfl) (m - 2) 0 FU (Mo_set_speaker s (nI c)) (by omega) (by unfold FU; omega) rfl (fun _ _ => rfl) (fun _ _ => rfl) (fun k hk => by omega)
  have hlen : (l ++ q.drop 4).length = l.length + (m - 2) := by simp; omega
  have c2 : ∀ y, Mo_bodies (Mo_set_commands s1 y) = nI l.length := fun y => by
    show upd s1.1 13 y 14 = _
    rw [pk_un (by omega), a1, hS 14 (by omega)]; exact h14
  obtain ⟨s2, hs2⟩ : ∃ s2, s2 = Mo_set_bodies (Mo_set_commands s1 (Mo_commands s1 + 0)) (nI l.length + nI (m - 2)) := ⟨_, rfl⟩
  have w : ∀ i, s2.1 i = upd (upd s1.1 13 (Mo_commands s1 + 0)) 14 (nI l.length + nI (m - 2)) i := fun i => by rw [hs2]; rfl
  have w2 : s2.2 = s1.2 := by rw [hs2]; rfl
  refine ⟨s2, ?_, ?_, ?_, ?_, fun i h13 h14 h15 => ?_, fun j hj => ?_⟩
  · unfold B_Mo_fragment_128 L_Mo_fragment_136
    rw [show (Mo_set_speaker s (nI c), (0 : Int32), nI (m - 2), (0 : Int32)) = (Mo_set_speaker s (nI c), (0 : Int32), nI (m - 2), nI 0) from rfl, e1]
    unfold B_Mo_fragment_198
    rw [if_pos rfl]
    unfold B_Mo_fragment_212 B_Mo_fragment_213
    rw [c2, if_pos rfl]
    unfold B_Mo_fragment_230 B_Mo_fragment_232
    rw [if_neg (by decide), ← hs2, show Mo_input s2 (3 : Int32).toNatClampNeg = nI (q.getD 3 0) by
      show s2.2 21 3 = _
      rw [w2, a2 21 (by omega)]
      exact h21 3 (by omega)]
    rfl
  · rw [w, pk_un (by omega), pk_un (by omega), a1]; exact pk_us (f := s.1) (k := 15)
  · rw [w, pk_us, z_ad, hlen]
  · rw [w2]
    exact row_ap (s0 := s) (by omega) h27 (fun k hk => a3 k hk) a4
  · rw [w, pk_un h14, pk_un h13, a1, hS i h15]
  · rw [w2, a2 j hj]; rfl
end XFR
