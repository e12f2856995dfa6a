/-! PURE: a request is read -/
def qI (q : List Nat) (k : Nat) : Nat := q.getD (4 + 3 * k) 0
def qS (q : List Nat) (k : Nat) : Nat := q.getD (5 + 3 * k) 0
def reO (sv sx : Nat) : Nat := if 1 ≤ sv ∧ sv ≤ 3 then (if sx % 2 = 1 then 0 else if sx / 2 % 2 = 1 then 1 else 3) else 2
def qR (q : List Nat) (k : Nat) : Nat := reO (qS q k) (q.getD (6 + 3 * k) 0)
def okI (q : List Nat) (i : Nat) : Bool := decide (qI q i % 2 = 1) && (List.range' 0 i).all (fun j => decide (qI q j ≠ qI q i))
def rqA (q : List Nat) (a : Nat) : Bool := (List.range' 0 a).all (okI q)
def rqK (q : List Nat) (m : Nat) : Bool := decide ((m - 2) % 3 = 0 ∧ 5 ≤ m ∧ m ≤ 14) && rqA q ((m - 2) / 3)
theorem reO_le (sv sx : Nat) : reO sv sx ≤ 3 := by unfold reO; split <;> (try split) <;> (try split) <;> omega
theorem rqA_no {q : List Nat} {a i : Nat} (hi : i < a) (h : okI q i = false) : rqA q a = false := by
  unfold rqA
  rw [List.all_eq_false]
  exact ⟨i, by rw [List.mem_range'_1]; omega, by rw [h]; decide⟩
theorem rqA_s {q : List Nat} {i : Nat} (h : rqA q i = true) (k : okI q i = true) : rqA q (i + 1) = true := by
  unfold rqA at h ⊢
  rw [List.all_eq_true] at h ⊢
  intro j hj
  rw [List.mem_range'_1] at hj
  by_cases c : j = i
  · rw [c]; exact k
  · exact h j (by rw [List.mem_range'_1]; omega)
theorem by_1 : ∀ f, f < 256 → ((nI f &&& 1 = 0) ↔ f % 2 = 0) := by decide +kernel
theorem by_2 : ∀ f, f < 256 → ((nI f &&& 2 = 0) ↔ f / 2 % 2 = 0) := by decide +kernel
theorem cs_resultOf {sv sx : Nat} (h1 : sv < 256) (h2 : sx < 256) : F_Cs_resultOf (nI sv) (nI sx) = some (nI (reO sv sx)) := by
  unfold F_Cs_resultOf B_Cs_resultOf_0 reO
  by_cases a : sv < 1
  · rw [if_pos (by rw [show (1 : Int32) = nI 1 from rfl, z_lt (by omega) (by omega)]; exact a), if_neg (by omega)]
    rfl
  · rw [if_neg (by rw [show (1 : Int32) = nI 1 from rfl, z_lt (by omega) (by omega)]; exact a)]
    unfold B_Cs_resultOf_5
    by_cases b : sv ≤ 3
    · rw [if_pos (by rw [show (3 : Int32) = nI 3 from rfl, z_le (by omega) (by omega)]; exact b), if_pos (by omega)]
      unfold B_Cs_resultOf_12
      by_cases c : sx % 2 = 0
      · rw [if_pos ((by_1 sx h2).mpr c), if_neg (by omega)]
        unfold B_Cs_resultOf_20
        by_cases d : sx / 2 % 2 = 0
        · rw [if_pos ((by_2 sx h2).mpr d), if_neg (by omega)]
          rfl
        · rw [if_neg (fun h => d ((by_2 sx h2).mp h)), if_pos (by omega)]
          rfl
      · rw [if_neg (fun h => c ((by_1 sx h2).mp h)), if_pos (by omega)]
        rfl
    · rw [if_neg (by rw [show (3 : Int32) = nI 3 from rfl, z_le (by omega) (by omega)]; exact b), if_neg (by omega)]
      rfl
/-- the contexts of the class are the first n of the request -/
def csC (C : S_Cs) (n : Nat) (q : List Nat) : Prop := Cs_count C = nI n ∧ ∀ k, k < n → Cs_ids C k = nI (qI q k) ∧ Cs_services C k = nI (qS q k) ∧ Cs_results C k = nI (qR q k)
def fkM (n : Nat) (q : List Nat) : S_Mo := (fun _ => nI n, fun r k => if r = 23 then nI (qI q k) else if r = 24 then nI (qS q k) else nI (qR q k))
theorem csC_x {C : S_Cs} {n : Nat} {q : List Nat} (h8 : ∀ i, q.getD i 0 < 256) (h : csC C n q) (hn : n ≤ 4) : cxR C (fkM n q) n (qI q) (qS q) (qR q) :=
  ⟨hn, h.1, rfl, fun k hk => ⟨h8 _, h8 _, reO_le _ _, (h.2 k hk).1, rfl, (h.2 k hk).2.1, rfl, (h.2 k hk).2.2, rfl⟩⟩
theorem cxF_none {n : Nat} {id : Nat → Nat} {x : Nat} (hi : ∀ k, id k < 256) (hx : x < 256) : cxF n id (nI x) = none ↔ ∀ j, j < n → id j ≠ x := by
  unfold cxF
  rw [List.find?_eq_none]
  constructor
  · intro h j hj e
    have := h j (by rw [List.mem_range'_1]; omega)
    rw [e] at this
    simp at this
  · intro h j hj
    rw [List.mem_range'_1] at hj
    have := h j (by omega)
    have h1 := hi j
    simp only [decide_eq_true_eq]
    rw [z_eq (by omega) (by omega)]
    exact this
section CRQ
variable {I : S_Bs} {q : List Nat} {m a : Nat}
theorem c_rqLoop (hq : rn I 202 q) (hqm : q.length = 3 * a + 4) (ha : a ≤ 4) : ∀ (j i fu : Nat) (C : S_Cs), i + j = a → j < fu → csC C i q → rqA q i = true → ∃ C', lp (fun k39 v => B_Cs_readRequest_39  k39 I v.1 v.2.1 v.2.2) fu (C, nI a, nI i) = some ((if rqA q a = true then 1 else 0), C') ∧ (rqA q a = true → csC C' a q) := by
  intro j
  induction j with
  | zero =>
    intro i fu C hi hf hC hA
    obtain ⟨fu', rfl⟩ : ∃ fu', fu = fu' + 1 := ⟨fu - 1, by omega⟩
    have e : i = a := by omega
    subst e
    refine ⟨C, ?_, fun _ => hC⟩
    rw [lp_s]
    show B_Cs_readRequest_39 _ I C (nI i) (nI i) = _
    unfold B_Cs_readRequest_39
    rw [if_pos (by rw [z_le (by omega) (by omega)]; omega), if_pos hA]
    rfl
  | succ j ih =>
    intro i fu C hi hf hC hA
    obtain ⟨fu', rfl⟩ : ∃ fu', fu = fu' + 1 := ⟨fu - 1, by omega⟩
    rw [lp_s]
    show ∃ C', B_Cs_readRequest_39 (lp (fun k39 v => B_Cs_readRequest_39  k39 I v.1 v.2.1 v.2.2) fu') I C (nI a) (nI i) = _ ∧ _
    have ih' := fun C => ih (i + 1) fu' C (by omega) (by omega)
    generalize lp (fun k39 v => B_Cs_readRequest_39  k39 I v.1 v.2.1 v.2.2) fu' = K at ih' ⊢
    unfold B_Cs_readRequest_39
    rw [if_neg (by rw [z_le (by omega) (by omega)]; omega)]
    unfold B_Cs_readRequest_45
    have b4 := hq.2 (4 + 3 * i)
    have e4 : (4 : Int32) + (3 : Int32) * nI i = nI (4 + 3 * i) := by rw [show (3 : Int32) * nI i = nI (3 * i) from z_mu 3 i]; exact z_ad 4 _
    rw [e4, rn_get hq (by omega), Option.bind_some, show (nI (q.getD (4 + 3 * i) 0) - nI (q.getD (4 + 3 * i) 0) / (2 : Int32) * (2 : Int32)) = nI (q.getD (4 + 3 * i) 0 % 2) from z_m2 _ b4]
    by_cases ev : q.getD (4 + 3 * i) 0 % 2 = 0
    · have no : rqA q a = false := rqA_no (i := i) (by omega) (by unfold okI qI; rw [decide_eq_false (by omega)]; rfl)
      rw [if_pos (by rw [ev]; rfl), no]
      exact ⟨C, rfl, fun h => by cases h⟩
    · rw [if_neg (by rw [show q.getD (4 + 3 * i) 0 % 2 = 1 by omega]; decide)]
      unfold B_Cs_readRequest_68
      have hx := csC_x hq.2 hC (by omega)
      rw [cs_find hx, Option.bind_some]
      by_cases fd : ∀ j, j < i → qI q j ≠ qI q i
      · have hn := (cxF_none (n := i) (id := qI q) (x := qI q i) (fun k => hq.2 _) (hq.2 _)).mpr fd
        rw [show cxF i (qI q) (nI (q.getD (4 + 3 * i) 0)) = none from hn, if_pos (by rfl)]
        have ok : okI q i = true := by
          unfold okI
          rw [Bool.and_eq_true]
          refine ⟨decide_eq_true (by unfold qI; omega), ?_⟩
          rw [List.all_eq_true]
          intro j hj
          rw [List.mem_range'_1] at hj
          exact decide_eq_true (fd j (by omega))
        obtain ⟨C', k1, k2⟩ := ih' (upd C.1 i (nI (qI q i)), upd C.2.1 i (nI (qS q i)), upd C.2.2.1 i (nI (qR q i)), nI (i + 1)) ⟨rfl, fun k hk => by
          by_cases c : k = i
          · subst c
            exact ⟨pk_us, pk_us, pk_us⟩
          · have := hC.2 k (by omega)
            exact ⟨by show upd C.1 i _ k = _; rw [pk_un c]; exact this.1, by show upd C.2.1 i _ k = _; rw [pk_un c]; exact this.2.1, by show upd C.2.2.1 i _ k = _; rw [pk_un c]; exact this.2.2⟩⟩ (rqA_s hA ok)
        refine ⟨C', ?_, k2⟩
        rw [← k1]
        unfold B_Cs_readRequest_80
        have i0 : ¬ (nI i < 0 ∨ 4 ≤ (nI i).toNatClampNeg) := by rw [z_cl (by omega), show (0 : Int32) = nI 0 from rfl, z_lt (by omega) (by omega)]; omega
        rw [if_neg i0, show nI (4 + 3 * i) + (1 : Int32) = nI (5 + 3 * i) by rw [nI_1]; congr 1; omega, rn_get hq (i := 5 + 3 * i) (by omega), Option.bind_some, if_neg i0, if_neg i0, show nI (4 + 3 * i) + (2 : Int32) = nI (6 + 3 * i) by rw [show (2 : Int32) = nI 2 from rfl, z_ad]; congr 1; omega, rn_get hq (i := 6 + 3 * i) (by omega), Option.bind_some, z_cl (by omega)]
        rw [show Cs_services (Cs_set_services (Cs_set_ids C (upd (Cs_ids C) i (nI (q.getD (4 + 3 * i) 0)))) (upd (Cs_services (Cs_set_ids C (upd (Cs_ids C) i (nI (q.getD (4 + 3 * i) 0))))) i (nI (q.getD (5 + 3 * i) 0)))) i = nI (q.getD (5 + 3 * i) 0) from pk_us, cs_resultOf (hq.2 _) (hq.2 _), Option.bind_some, if_neg (by rw [show (0 : Int32) = nI 0 from rfl, z_lt (by omega) (by omega)]; omega)]
        rw [show ∀ x y z, Cs_count (Cs_set_results (Cs_set_services (Cs_set_ids C x) y) z) = nI i from fun _ _ _ => hC.1, nI_1]
        rfl
      · have no : rqA q a = false := rqA_no (i := i) (by omega) (by
          unfold okI
          rw [Bool.and_eq_false_iff]
          right
          rw [List.all_eq_false]
          obtain ⟨j, hj⟩ := Classical.not_forall.mp fd
          obtain ⟨hj1, hj2⟩ := Classical.not_imp.mp hj
          exact ⟨j, by rw [List.mem_range'_1]; omega, by simp only [decide_eq_true_eq]; exact hj2⟩)
        have hs : ∃ c, cxF i (qI q) (nI (q.getD (4 + 3 * i) 0)) = some c := by
          cases h : cxF i (qI q) (nI (q.getD (4 + 3 * i) 0)) with
          | none => exact absurd ((cxF_none (n := i) (id := qI q) (x := qI q i) (fun k => hq.2 _) (hq.2 _)).mp h) fd
          | some c => exact ⟨c, rfl⟩
        obtain ⟨c, hs⟩ := hs
        have := cxF_lt hs
        rw [hs, if_neg (show ¬ oI (some c) = (-1) from fun h => (z_em (a := c) (by omega)).mp h), no]
        exact ⟨C, rfl, fun h => by cases h⟩
theorem c_readRequest {C : S_Cs} (hq : rn I 202 q) (hqm : q.length = m + 2) (hm : m ≤ 200) : ∃ C', F_Cs_readRequest C I = some ((if rqK q m = true then 1 else 0), C') ∧ (rqK q m = true → csC C' ((m - 2) / 3) q) := by
  have no : ∀ C, ¬ ((m - 2) % 3 = 0 ∧ 5 ≤ m ∧ m ≤ 14) → ∃ C', some ((0 : Int32), C) = some ((if rqK q m = true then 1 else 0), C') ∧ (rqK q m = true → csC C' ((m - 2) / 3) q) := by
    intro C h
    have : rqK q m = false := by unfold rqK; rw [decide_eq_false h]; rfl
    rw [this]
    exact ⟨C, rfl, fun h => by cases h⟩
  unfold F_Cs_readRequest B_Cs_readRequest_0
  rw [rn_count hq, hqm, Option.bind_some]
  by_cases m2 : 2 ≤ m
  · rw [show nI (m + 2) - (2 : Int32) - (2 : Int32) = nI (m - 2) by rw [show (2 : Int32) = nI 2 from rfl, z_sb (by omega), z_sb (by omega)]; congr 1, show (nI (m - 2) - nI (m - 2) / (3 : Int32) * (3 : Int32)) = nI ((m - 2) % 3) from z_md (a := m - 2) (d := 3) (by omega) (by omega) (by omega), show nI (m - 2) / (3 : Int32) = nI ((m - 2) / 3) from z_dv (a := m - 2) (d := 3) (by omega) (by omega) (by omega)]
    by_cases c3 : (m - 2) % 3 = 0
    · rw [if_pos (by rw [c3]; rfl)]
      unfold B_Cs_readRequest_24
      by_cases c1 : (m - 2) / 3 < 1
      · rw [if_pos (by rw [show (1 : Int32) = nI 1 from rfl, z_lt (by omega) (by omega)]; exact c1)]
        exact no _ (by omega)
      · rw [if_neg (by rw [show (1 : Int32) = nI 1 from rfl, z_lt (by omega) (by omega)]; exact c1)]
        unfold B_Cs_readRequest_29
        by_cases c4 : (m - 2) / 3 ≤ 4
        · rw [if_pos (by rw [show (4 : Int32) = nI 4 from rfl, z_le (by omega) (by omega)]; exact c4)]
          have e : rqK q m = rqA q ((m - 2) / 3) := by unfold rqK; rw [decide_eq_true (by omega)]; rfl
          rw [e]
          exact c_rqLoop hq (by omega) c4 ((m - 2) / 3) 0 FU _ (by omega) (by unfold FU; omega) ⟨rfl, fun k hk => by omega⟩ rfl
        · rw [if_neg (by rw [show (4 : Int32) = nI 4 from rfl, z_le (by omega) (by omega)]; exact c4)]
          exact no _ (by omega)
    · rw [if_neg (by rw [show (0 : Int32) = nI 0 from rfl, z_eq (by omega) (by omega)]; exact c3)]
      exact no _ (by omega)
  · have h0 : m = 0 ∨ m = 1 := by omega
    rcases h0 with h | h <;> subst h
    · rw [if_neg (by decide +kernel)]
      exact no _ (by omega)
    · rw [if_neg (by decide +kernel)]
      exact no _ (by omega)
end CRQ
