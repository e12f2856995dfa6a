/-! PURE: the model looks at a request -/
section MIQ
variable {s : S_Mo} {q : List Nat} {m a i : Nat}
theorem m_iqInner (K : Int32 × Int32 × Int32 → Option Int32) (h8 : ∀ i, q.getD i 0 < 256) (h21 : ∀ i, i < q.length → s.2 21 i = nI (q.getD i 0)) (hq : 4 + 3 * i < q.length) (hq2 : q.length ≤ 202) (x1 : Int32) : ∀ (d j fu : Nat) (g : Bool), j + d = i → d < fu → lp (fun k59 v => B_Mo_isRequest_59 K k59 s v.1 v.2.1 v.2.2.1 v.2.2.2) fu (x1, (if g = true then 1 else 0), nI (4 + 3 * i), nI (4 + 3 * j)) = K (x1, (if (g && (List.range' j d).all (fun j => decide (qI q j ≠ qI q i))) = true then 1 else 0), nI (4 + 3 * (i + 1))) := by
  intro d
  induction d with
  | zero =>
    intro j fu g hj hf
    obtain ⟨fu', rfl⟩ : ∃ fu', fu = fu' + 1 := ⟨fu - 1, by omega⟩
    rw [lp_s]
    show B_Mo_isRequest_59 K _ s x1 (if g = true then 1 else 0) (nI (4 + 3 * i)) (nI (4 + 3 * j)) = _
    unfold B_Mo_isRequest_59
    rw [if_pos (by rw [z_le (by omega) (by omega)]; omega)]
    unfold B_Mo_isRequest_97
    rw [show nI (4 + 3 * i) + (3 : Int32) = nI (4 + 3 * (i + 1)) by rw [show (3 : Int32) = nI 3 from rfl, z_ad]; congr 1]
    simp
  | succ d ih =>
    intro j fu g hj hf
    obtain ⟨fu', rfl⟩ : ∃ fu', fu = fu' + 1 := ⟨fu - 1, by omega⟩
    rw [lp_s]
    show B_Mo_isRequest_59 K (lp (fun k59 v => B_Mo_isRequest_59 K k59 s v.1 v.2.1 v.2.2.1 v.2.2.2) fu') s x1 (if g = true then 1 else 0) (nI (4 + 3 * i)) (nI (4 + 3 * j)) = _
    have ih' := fun g => ih (j + 1) fu' g (by omega) (by omega)
    generalize lp (fun k59 v => B_Mo_isRequest_59 K k59 s v.1 v.2.1 v.2.2.1 v.2.2.2) fu' = K2 at ih' ⊢
    unfold B_Mo_isRequest_59
    rw [if_neg (by rw [z_le (by omega) (by omega)]; omega)]
    have e90 : ∀ b : Bool, B_Mo_isRequest_90 K K2 s x1 (nI (4 + 3 * i)) (nI (4 + 3 * j)) (if b = true then 1 else 0) = K (x1, (if (b && (List.range' (j + 1) d).all (fun j => decide (qI q j ≠ qI q i))) = true then 1 else 0), nI (4 + 3 * (i + 1))) := by
      intro b
      unfold B_Mo_isRequest_90
      rw [show nI (4 + 3 * j) + (3 : Int32) = nI (4 + 3 * (j + 1)) by rw [show (3 : Int32) = nI 3 from rfl, z_ad]; congr 1]
      exact ih' b
    have e89 := e90 false
    have e85 := e90 true
    rw [List.range'_succ, List.all_cons]
    unfold B_Mo_isRequest_65
    cases g with
    | false =>
      rw [if_pos (by rfl)]
      exact e89
    | true =>
      rw [if_neg (by decide)]
      unfold B_Mo_isRequest_69
      rw [z_cl (by omega), z_cl (by omega), if_neg (by rw [show (0 : Int32) = nI 0 from rfl, z_lt (by omega) (by omega)]; omega), if_neg (by rw [show (0 : Int32) = nI 0 from rfl, z_lt (by omega) (by omega)]; omega), show Mo_input s (4 + 3 * j) = nI (q.getD (4 + 3 * j) 0) from h21 _ (by omega), show Mo_input s (4 + 3 * i) = nI (q.getD (4 + 3 * i) 0) from h21 _ (by omega)]
      have b1 := h8 (4 + 3 * j)
      have b2 := h8 (4 + 3 * i)
      by_cases c : qI q j = qI q i
      · rw [if_pos (by rw [show q.getD (4 + 3 * j) 0 = q.getD (4 + 3 * i) 0 from c]), decide_eq_false (by simp [c])]
        exact e89
      · rw [if_neg (by rw [z_eq (by omega) (by omega)]; exact c), decide_eq_true c]
        exact e85
theorem m_iqOuter (h8 : ∀ i, q.getD i 0 < 256) (h21 : ∀ i, i < q.length → s.2 21 i = nI (q.getD i 0)) (hq : q.length = 3 * a + 4) (ha : a ≤ 4) (hm : m = 3 * a + 2) : ∀ (d i fu : Nat) (g : Bool), i + d = a → d < fu → lp (fun k27 v => B_Mo_isRequest_27  k27 s v.1 v.2.1 v.2.2) fu (nI m, (if g = true then 1 else 0), nI (4 + 3 * i)) = some (if (g && (List.range' i d).all (okI q)) = true then 1 else 0) := by
  intro d
  induction d with
  | zero =>
    intro i fu g hi hf
    obtain ⟨fu', rfl⟩ : ∃ fu', fu = fu' + 1 := ⟨fu - 1, by omega⟩
    rw [lp_s]
    show B_Mo_isRequest_27 _ s (nI m) (if g = true then 1 else 0) (nI (4 + 3 * i)) = _
    unfold B_Mo_isRequest_27
    rw [show (2 : Int32) + nI m = nI (2 + m) from z_ad 2 m, if_pos (by rw [z_le (by omega) (by omega)]; omega)]
    unfold B_Mo_isRequest_103
    rw [if_pos (bl01 g)]
    simp
  | succ d ih =>
    intro i fu g hi hf
    obtain ⟨fu', rfl⟩ : ∃ fu', fu = fu' + 1 := ⟨fu - 1, by omega⟩
    rw [lp_s]
    show B_Mo_isRequest_27 (lp (fun k27 v => B_Mo_isRequest_27  k27 s v.1 v.2.1 v.2.2) fu') s (nI m) (if g = true then 1 else 0) (nI (4 + 3 * i)) = _
    have ih' := fun g => ih (i + 1) fu' g (by omega) (by omega)
    generalize lp (fun k27 v => B_Mo_isRequest_27  k27 s v.1 v.2.1 v.2.2) fu' = K at ih' ⊢
    unfold B_Mo_isRequest_27
    rw [show (2 : Int32) + nI m = nI (2 + m) from z_ad 2 m, if_neg (by rw [z_le (by omega) (by omega)]; omega)]
    unfold B_Mo_isRequest_34
    cases g with
    | false =>
      rw [if_pos (by rfl)]
      rfl
    | true =>
      rw [if_neg (by decide)]
      unfold B_Mo_isRequest_38
      have b1 := h8 (4 + 3 * i)
      rw [z_cl (by omega), if_neg (by rw [show (0 : Int32) = nI 0 from rfl, z_lt (by omega) (by omega)]; omega), show Mo_input s (4 + 3 * i) = nI (q.getD (4 + 3 * i) 0) from h21 _ (by omega), show (nI (q.getD (4 + 3 * i) 0) - nI (q.getD (4 + 3 * i) 0) / (2 : Int32) * (2 : Int32)) = nI (q.getD (4 + 3 * i) 0 % 2) from z_m2 _ b1]
      have e55 : ∀ b : Bool, B_Mo_isRequest_55 K s (nI m) (nI (4 + 3 * i)) (if b = true then 1 else 0) = some (if ((b && (List.range' 0 i).all (fun j => decide (qI q j ≠ qI q i))) && (List.range' (i + 1) d).all (okI q)) = true then 1 else 0) := by
        intro b
        unfold B_Mo_isRequest_55 L_Mo_isRequest_59
        rw [show (4 : Int32) = nI (4 + 3 * 0) from rfl, m_iqInner K h8 h21 (by omega) (by omega) (nI m) i 0 FU b (by omega) (by unfold FU; omega)]
        exact ih' _
      rw [List.range'_succ, List.all_cons, show okI q i = (decide (qI q i % 2 = 1) && (List.range' 0 i).all (fun j => decide (qI q j ≠ qI q i))) from rfl]
      by_cases c : qI q i % 2 = 1
      · rw [if_pos (by rw [show q.getD (4 + 3 * i) 0 % 2 = 1 from c]; rfl), decide_eq_true c]
        unfold B_Mo_isRequest_50
        rw [show B_Mo_isRequest_55 K s (nI m) (nI (4 + 3 * i)) (1 : Int32) = _ from e55 true]
        simp only [Bool.true_and]
      · rw [if_neg (by rw [show q.getD (4 + 3 * i) 0 % 2 = 0 by unfold qI at c; omega]; decide), decide_eq_false c]
        unfold B_Mo_isRequest_54
        rw [show B_Mo_isRequest_55 K s (nI m) (nI (4 + 3 * i)) (0 : Int32) = _ from e55 false]
        simp only [Bool.true_and, Bool.false_and]
theorem m_isRequest (h8 : ∀ i, q.getD i 0 < 256) (h21 : ∀ i, i < q.length → s.2 21 i = nI (q.getD i 0)) (hqm : q.length = m + 2) (hm : m ≤ 200) : F_Mo_isRequest s (nI m) = some (if rqK q m = true then 1 else 0) := by
  have no : ¬ ((m - 2) % 3 = 0 ∧ 5 ≤ m ∧ m ≤ 14) → B_Mo_isRequest_23 s (nI m) = some (if rqK q m = true then 1 else 0) := by
    intro h
    have : rqK q m = false := by unfold rqK; rw [decide_eq_false h]; rfl
    rw [this]
    unfold B_Mo_isRequest_23 B_Mo_isRequest_24 L_Mo_isRequest_27
    rw [show FU = 99999 + 1 from rfl, lp_s]
    show B_Mo_isRequest_27 _ s (nI m) 0 4 = _
    generalize lp (fun k27 v => B_Mo_isRequest_27  k27 s v.1 v.2.1 v.2.2) 99999 = K
    unfold B_Mo_isRequest_27 B_Mo_isRequest_34
    rw [if_pos (rfl : (0 : Int32) = 0), ite_self]
    rfl
  unfold F_Mo_isRequest B_Mo_isRequest_0
  by_cases c5 : m < 5
  · rw [if_pos (by rw [show (5 : Int32) = nI 5 from rfl, z_lt (by omega) (by omega)]; exact c5)]
    exact no (by omega)
  · rw [if_neg (by rw [show (5 : Int32) = nI 5 from rfl, z_lt (by omega) (by omega)]; exact c5)]
    unfold B_Mo_isRequest_5
    by_cases c14 : 14 < m
    · rw [if_pos (by rw [show (14 : Int32) = nI 14 from rfl, z_lt (by omega) (by omega)]; exact c14)]
      exact no (by omega)
    · rw [if_neg (by rw [show (14 : Int32) = nI 14 from rfl, z_lt (by omega) (by omega)]; exact c14)]
      unfold B_Mo_isRequest_11
      rw [show nI m - (2 : Int32) = nI (m - 2) from z_sb (a := m) (b := 2) (by omega), show (nI (m - 2) - nI (m - 2) / (3 : Int32) * (3 : Int32)) = nI ((m - 2) % 3) from z_md (a := m - 2) (d := 3) (by omega) (by omega) (by omega)]
      by_cases c3 : (m - 2) % 3 = 0
      · rw [if_pos (by rw [c3]; rfl)]
        unfold B_Mo_isRequest_19 B_Mo_isRequest_24 L_Mo_isRequest_27
        have e : rqK q m = rqA q ((m - 2) / 3) := by unfold rqK; rw [decide_eq_true (by omega)]; rfl
        rw [e]
        have := m_iqOuter (s := s) (m := m) (a := (m - 2) / 3) h8 h21 (by omega) (by omega) (by omega) ((m - 2) / 3) 0 FU true (by omega) (by unfold FU; omega)
        rw [Bool.true_and] at this
        exact this
      · rw [if_neg (by rw [show (0 : Int32) = nI 0 from rfl, z_eq (by omega) (by omega)]; exact c3)]
        exact no (by omega)
end MIQ
