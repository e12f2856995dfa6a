/-! PURE: the class's output, put and shut -/
theorem z_dv {a d : Nat} (ha : a < 2 ^ 31) (h0 : 0 < d) (hd : d < 2 ^ 31) : nI a / nI d = nI (a / d) := pk_div ha h0 hd
theorem z_md {a d : Nat} (ha : a < 2 ^ 31) (h0 : 0 < d) (hd : d < 2 ^ 31) : nI a - nI a / nI d * nI d = nI (a % d) := by
  rw [pk_div ha h0 hd, z_mu, z_sb (Nat.div_mul_le_self a d)]
  congr 1
  have := Nat.div_add_mod a d
  rw [Nat.mul_comm (a / d) d]
  omega
/-- the ring O holds the bytes o -/
def ou (O : S_Ou) (o : List Nat) : Prop := ∃ f, f < 900 ∧ Ou_first O = nI f ∧ o.length ≤ 900 ∧ Ou_count O = nI o.length ∧ ∀ i, i < o.length → Ou_values O ((f + i) % 900) = nI (o.getD i 0)
theorem ou_count {O : S_Ou} {o : List Nat} (h : ou O o) : F_Ou_count O = some (nI o.length) := by
  obtain ⟨f, h1, h2, h3, h4, h5⟩ := h
  unfold F_Ou_count B_Ou_count_0
  rw [h4]
theorem ou_room {O : S_Ou} {o : List Nat} (h : ou O o) {k : Nat} (hk : k < 2 ^ 30) : F_Ou_hasRoom O (nI k) = some (if o.length + k ≤ 900 then 1 else 0) := by
  obtain ⟨f, h1, h2, h3, h4, h5⟩ := h
  unfold F_Ou_hasRoom B_Ou_hasRoom_0
  rw [h4, show (900 : Int32) - nI o.length = nI (900 - o.length) by rw [show (900 : Int32) = nI 900 from rfl, z_sb h3]]
  by_cases c : o.length + k ≤ 900
  · rw [if_pos c, if_neg (by rw [z_lt (by omega) (by omega)]; omega)]
    rfl
  · rw [if_neg c, if_pos (by rw [z_lt (by omega) (by omega)]; omega)]
    rfl
theorem ou_push {O : S_Ou} {o : List Nat} (h : ou O o) (hl : o.length < 900) (x : Nat) : ∃ O', F_Ou_push O (nI x) = some O' ∧ ou O' (o ++ [x]) := by
  obtain ⟨V, F, C⟩ := O
  obtain ⟨f, h1, h2, h3, h4, h5⟩ := h
  have h2 : F = nI f := h2
  have h4 : C = nI o.length := h4
  subst h2 h4
  refine ⟨(upd V ((f + o.length) % 900) (nI x), nI f, nI (o.length + 1)), ?_, f, h1, rfl, by simp; omega, by simp [Ou_count], fun i hi => ?_⟩
  · unfold F_Ou_push B_Ou_push_0
    rw [if_neg (by show ¬ (900 : Int32) ≤ nI o.length; rw [show (900 : Int32) = nI 900 from rfl, z_le (by omega) (by omega)]; omega)]
    unfold B_Ou_push_10
    rw [show (Ou_first (V, nI f, nI o.length) + Ou_count (V, nI f, nI o.length) - (Ou_first (V, nI f, nI o.length) + Ou_count (V, nI f, nI o.length)) / (900 : Int32) * (900 : Int32)) = nI ((f + o.length) % 900) by
      show (nI f + nI o.length - (nI f + nI o.length) / nI 900 * nI 900) = _
      rw [z_ad, z_md (by omega) (by omega) (by omega)]]
    rw [if_neg (by rw [z_cl (by omega), show (0 : Int32) = nI 0 from rfl, z_lt (by omega) (by omega)]; omega), z_cl (by omega)]
    show some (upd V ((f + o.length) % 900) (nI x), nI f, nI o.length + 1) = _
    rw [nI_1]
  · show upd V ((f + o.length) % 900) (nI x) ((f + i) % 900) = _
    by_cases c : i = o.length
    · rw [c, gB, pk_us]
    · rw [gA (by simp at hi; omega), pk_un (by simp at hi; omega)]
      exact h5 i (by simp at hi; omega)
theorem ou_pull {O : S_Ou} {x : Nat} {o : List Nat} (h : ou O (x :: o)) : ∃ O', F_Ou_pull O = some (nI x, O') ∧ ou O' o := by
  obtain ⟨V, F, C⟩ := O
  obtain ⟨f, h1, h2, h3, h4, h5⟩ := h
  have h2 : F = nI f := h2
  have h4 : C = nI (o.length + 1) := h4
  have h3 : o.length + 1 ≤ 900 := h3
  subst h2 h4
  refine ⟨(V, nI ((f + 1) % 900), nI o.length), ?_, (f + 1) % 900, by omega, rfl, by omega, rfl, fun i hi => ?_⟩
  · unfold F_Ou_pull B_Ou_pull_0
    rw [if_neg (by show ¬ nI (o.length + 1) = nI 0; rw [z_eq (by omega) (by omega)]; omega)]
    unfold B_Ou_pull_9
    rw [if_neg (by show ¬ (nI f < nI 0 ∨ 900 ≤ (nI f).toNatClampNeg); rw [z_cl (by omega), z_lt (by omega) (by omega)]; omega)]
    show some (V (nI f).toNatClampNeg, (V, nI f + nI 1 - (nI f + nI 1) / nI 900 * nI 900, nI (o.length + 1) - nI 1)) = _
    rw [z_ad, z_md (by omega) (by omega) (by omega), z_sb (by omega), z_cl (by omega)]
    have := h5 0 (by simp)
    rw [show (f + 0) % 900 = f by omega] at this
    rw [show V f = nI x from this]
    rfl
  · show V (((f + 1) % 900 + i) % 900) = _
    rw [show ((f + 1) % 900 + i) % 900 = (f + (i + 1)) % 900 by omega]
    exact h5 (i + 1) (by simp; omega)
theorem gd_dr {l : List Nat} {i : Nat} (h : i < l.length) : l.drop i = l.getD i 0 :: l.drop (i + 1) := by
  rw [List.drop_eq_getElem_cons h]
  simp [List.getD, h]
theorem c_putLoop {s1 : S_Bs} {n : Nat} {l : List Nat} (hb : rn s1 n l) (s0 : S_Rn) (s2 : S_Bs) (s3 : S_Mg) (s5 : S_Bs) : ∀ (j i fu : Nat) (O : S_Ou) (o : List Nat), i + j = l.length → j < fu → ou O o → o.length + j ≤ 900 → ∃ O', lp (fun k49 v => B_Rn_put_49  k49 s1 v.1 v.2.1 v.2.2.1 v.2.2.2.1 v.2.2.2.2.1 v.2.2.2.2.2) fu (s0, s2, s3, O, s5, nI i) = some (1, s0, s2, s3, O', s5) ∧ ou O' (o ++ l.drop i) := by
  have hcap := rn_cap hb
  intro j
  induction j with
  | zero =>
    intro i fu O o hi hf hO ho
    obtain ⟨fu', rfl⟩ : ∃ fu', fu = fu' + 1 := ⟨fu - 1, by omega⟩
    refine ⟨O, ?_, by rw [List.drop_eq_nil_of_le (by omega), List.append_nil]; exact hO⟩
    rw [lp_s]
    show B_Rn_put_49 _ s1 s0 s2 s3 O s5 (nI i) = _
    unfold B_Rn_put_49
    rw [rn_count hb, Option.bind_some, if_pos (by rw [z_le (by omega) (by omega)]; omega)]
    rfl
  | succ j ih =>
    intro i fu O o hi hf hO ho
    obtain ⟨fu', rfl⟩ : ∃ fu', fu = fu' + 1 := ⟨fu - 1, by omega⟩
    obtain ⟨O1, e1, h1⟩ := ou_push hO (by omega) (l.getD i 0)
    obtain ⟨O', e', h'⟩ := ih (i + 1) fu' O1 _ (by omega) (by omega) h1 (by simp; omega)
    refine ⟨O', ?_, by rw [gd_dr (by omega)]; simpa using h'⟩
    rw [lp_s]
    show B_Rn_put_49 (lp (fun k49 v => B_Rn_put_49  k49 s1 v.1 v.2.1 v.2.2.1 v.2.2.2.1 v.2.2.2.2.1 v.2.2.2.2.2) fu') s1 s0 s2 s3 O s5 (nI i) = _
    generalize lp (fun k49 v => B_Rn_put_49  k49 s1 v.1 v.2.1 v.2.2.1 v.2.2.2.1 v.2.2.2.2.1 v.2.2.2.2.2) fu' = K at e' ⊢
    unfold B_Rn_put_49
    rw [rn_count hb, Option.bind_some, if_neg (by rw [z_le (by omega) (by omega)]; omega)]
    unfold B_Rn_put_60
    rw [rn_get hb (by omega), Option.bind_some, e1, Option.bind_some, nI_1, e']
/-- put, when the piece fits -/
theorem c_put1 {s0 : S_Rn} {s1 s2 s5 : S_Bs} {s3 : S_Mg} {O : S_Ou} {n t : Nat} {l o : List Nat} (hb : rn s1 n l) (hO : ou O o) (hf : o.length + 2 + l.length ≤ 900) : ∃ O', F_Rn_put s0 s1 s2 s3 O s5 (nI t) = some (1, s0, s2, s3, O', s5) ∧ ou O' (o ++ ([t, l.length] ++ l)) := by
  have hcap := rn_cap hb
  obtain ⟨O1, e1, h1⟩ := ou_push hO (by omega) t
  obtain ⟨O2, e2, h2⟩ := ou_push h1 (by simp; omega) l.length
  obtain ⟨O3, e3, h3⟩ := c_putLoop hb s0 s2 s3 s5 l.length 0 FU O2 _ (by omega) (by unfold FU; omega) h2 (by simp; omega)
  refine ⟨O3, ?_, by simpa using h3⟩
  unfold F_Rn_put B_Rn_put_0
  rw [rn_count hb, Option.bind_some, show (2 : Int32) + nI l.length = nI (2 + l.length) from z_ad 2 l.length, ou_room hO (by omega), if_pos (by omega), Option.bind_some, if_neg (by decide)]
  unfold B_Rn_put_25
  rw [e1, Option.bind_some, rn_count hb, Option.bind_some, e2, Option.bind_some]
  unfold L_Rn_put_49
  exact e3
/-- put, when it doesn't -/
theorem c_put0 {s0 : S_Rn} {s1 s2 s5 : S_Bs} {s3 : S_Mg} {O : S_Ou} {n : Nat} {l o : List Nat} {t : Int32} (hb : rn s1 n l) (hO : ou O o) (hf : ¬ o.length + 2 + l.length ≤ 900) : F_Rn_put s0 s1 s2 s3 O s5 t = (F_Rn_shut s0 s2 s3 s5).bind fun o1 => some (0, o1.1, o1.2.1, o1.2.2.1, O, o1.2.2.2) := by
  have hcap := rn_cap hb
  unfold F_Rn_put B_Rn_put_0
  rw [rn_count hb, Option.bind_some, show (2 : Int32) + nI l.length = nI (2 + l.length) from z_ad 2 l.length, ou_room hO (by omega), if_neg (by omega), Option.bind_some, if_pos rfl]
  rfl
theorem c_shut {s0 : S_Rn} {s1 s3 : S_Bs} {s2 : S_Mg} {n1 n3 : Nat} {l1 l3 : List Nat} (h1 : rn s1 n1 l1) (h3 : rn s3 n3 l3) : ∃ s1' s3', F_Rn_shut s0 s1 s2 s3 = some ((0, 0, Rn_answered s0), s1', (0, mI, Mg_kind s2, Mg_number s2, 0), s3') ∧ rn s1' n1 [] ∧ rn s3' n3 [] := by
  obtain ⟨s1', e1, r1⟩ := rn_reset h1
  obtain ⟨s3', e3, r3⟩ := rn_reset h3
  refine ⟨s1', s3', ?_, r1, r3⟩
  unfold F_Rn_shut B_Rn_shut_0
  rw [show F_Rn_begin s0 0 = some (0, 0, Rn_answered s0) from rfl, Option.bind_some, e1, Option.bind_some, e3, Option.bind_some, show F_Mg_reset s2 = some (0, mI, Mg_kind s2, Mg_number s2, 0) from rfl, Option.bind_some]
