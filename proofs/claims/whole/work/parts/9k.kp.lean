/-! PURE: the class keeps a record -/
theorem rn_val {a : S_Bs} {n : Nat} {l : List Nat} (h : rn a n l) {i : Nat} (hi : i < l.length) : Bs_values a i = nI (l.getD i 0) := by
  have := h.1.2.2.2.2 i (by simpa using hi)
  rw [this]
  simp [List.getD, hi]
theorem rn_become {a b : S_Bs} {n m : Nat} {l r : List Nat} (ha : rn a n l) (hb : rn b m r) (hr : r.length ≤ n) : ∃ a', F_Bs_become a b = some a' ∧ rn a' n r := by
  obtain ⟨a', e, h⟩ := rb_become ha.1 hb.1 (by simpa using hr) (fun i hi => by
    have hi : i < r.length := by simpa using hi
    have h8 := hb.2 i
    rw [show (r.map nI).getD i 0 = nI (r.getD i 0) by simp [List.getD, hi]]
    generalize r.getD i 0 = x at h8
    have : ∀ x : Nat, x < 256 → nI x &&& 255 = nI x := by decide +kernel
    exact this x h8)
  exact ⟨a', e, h, hb.2⟩
theorem c_isSame {a b : S_Bs} {n m : Nat} {l r : List Nat} (ha : rn a n l) (hb : rn b m r) : F_Bs_isSame a b = some (if l = r then 1 else 0) := by
  have ca : Bs_count a = nI l.length := by have := ha.1.2.2.1; simpa using this
  have cb : Bs_count b = nI r.length := by have := hb.1.2.2.1; simpa using this
  have na : Bs_n a = n := ha.1.1
  have nb' : Bs_n b = m := hb.1.1
  have la : l.length ≤ n := by have := ha.1.2.2.2.1; simpa using this
  have lb : r.length ≤ m := by have := hb.1.2.2.2.1; simpa using this
  have hn := ha.1.2.1
  have hm := hb.1.2.1
  have loop : l.length = r.length → ∀ (j i fu : Nat) (c : Bool), i + j = l.length → j < fu → lp (fun k19 v => B_Bs_isSame_19 k19 a b v.1 v.2) fu ((if c = true then 1 else 0), nI i) = some (if (c && decide (l.drop i = r.drop i)) = true then 1 else 0) := by
    intro hlr j
    have e58 : ∀ c : Bool, B_Bs_isSame_58 a b (if c = true then 1 else 0) = some (if c = true then 1 else 0) := by
      intro c
      unfold B_Bs_isSame_58
      rw [if_pos (by cases c <;> decide)]
    induction j with
    | zero =>
      intro i fu c hi hf
      obtain ⟨fu', rfl⟩ : ∃ fu', fu = fu' + 1 := ⟨fu - 1, by omega⟩
      rw [lp_s]
      show B_Bs_isSame_19 _ a b (if c = true then 1 else 0) (nI i) = _
      rw [List.drop_eq_nil_of_le (by omega : l.length ≤ i), List.drop_eq_nil_of_le (by omega : r.length ≤ i), decide_eq_true rfl, Bool.and_true]
      unfold B_Bs_isSame_19
      rw [ca, if_pos (by simp (disch := omega) only [z_lt, z_le, z_eq, z_cl, z_ad, z_mu, z_sb, z_n1, z_em, z_me, z_lm, z_ml, z_mle, z_lme, z_ma, z_am, z_m2, not_false_eq_true, z_l0, z_l1, z_l2, z_l3, z_l4, z_l5, z_l6, z_l7, z_l8, z_l10, z_l14, z_l15, z_l16, z_l32, z_l80, z_l101, z_l120, z_l126, z_l127, z_l130, z_l160, z_l198, z_l200, z_l202, z_l240, z_l252, z_l253, z_l254, z_l255, z_l260, z_l480, z_l900, Rd_nodes, Rd_ends, Rd_isOpen, Rd_counts, Rd_lastTags, Rd_syntax, Rd_position, Rd_level, Rd_result, Rd_set_nodes, Rd_set_ends, Rd_set_isOpen, Rd_set_counts, Rd_set_lastTags, Rd_set_syntax, Rd_set_position, Rd_set_level, Rd_set_result, Tr_tags, Tr_behind, Tr_values, Tr_lengths, Tr_characters, Tr_count, Tr_characterCount, Tr_set_tags, Tr_set_behind, Tr_set_values, Tr_set_lengths, Tr_set_characters, Tr_set_count, Tr_set_characterCount, Bs_n, Bs_values, Bs_count, Bs_set_n, Bs_set_values, Bs_set_count] <;> omega), e58]
    | succ j ih =>
      intro i fu c hi hf
      obtain ⟨fu', rfl⟩ : ∃ fu', fu = fu' + 1 := ⟨fu - 1, by omega⟩
      rw [lp_s]
      show B_Bs_isSame_19 (lp (fun k19 v => B_Bs_isSame_19 k19 a b v.1 v.2) fu') a b (if c = true then 1 else 0) (nI i) = _
      have i1 := ih (i + 1) fu' true (by omega) (by omega)
      have i0 := ih (i + 1) fu' false (by omega) (by omega)
      generalize lp (fun k19 v => B_Bs_isSame_19 k19 a b v.1 v.2) fu' = K at i1 i0 ⊢
      unfold B_Bs_isSame_19
      rw [ca, if_neg (by simp (disch := omega) only [z_lt, z_le, z_eq, z_cl, z_ad, z_mu, z_sb, z_n1, z_em, z_me, z_lm, z_ml, z_mle, z_lme, z_ma, z_am, z_m2, not_false_eq_true, z_l0, z_l1, z_l2, z_l3, z_l4, z_l5, z_l6, z_l7, z_l8, z_l10, z_l14, z_l15, z_l16, z_l32, z_l80, z_l101, z_l120, z_l126, z_l127, z_l130, z_l160, z_l198, z_l200, z_l202, z_l240, z_l252, z_l253, z_l254, z_l255, z_l260, z_l480, z_l900, Rd_nodes, Rd_ends, Rd_isOpen, Rd_counts, Rd_lastTags, Rd_syntax, Rd_position, Rd_level, Rd_result, Rd_set_nodes, Rd_set_ends, Rd_set_isOpen, Rd_set_counts, Rd_set_lastTags, Rd_set_syntax, Rd_set_position, Rd_set_level, Rd_set_result, Tr_tags, Tr_behind, Tr_values, Tr_lengths, Tr_characters, Tr_count, Tr_characterCount, Tr_set_tags, Tr_set_behind, Tr_set_values, Tr_set_lengths, Tr_set_characters, Tr_set_count, Tr_set_characterCount, Bs_n, Bs_values, Bs_count, Bs_set_n, Bs_set_values, Bs_set_count] <;> omega)]
      unfold B_Bs_isSame_27
      cases c with
      | false =>
        rw [Bool.false_and, if_neg (by decide : ¬ false = true), if_pos rfl]
        exact e58 false
      | true =>
        rw [Bool.true_and, if_pos (rfl : true = true), if_neg (by decide : ¬ (1 : Int32) = 0)]
        have d1 : l.drop i = l.getD i 0 :: l.drop (i + 1) := by
          rw [List.drop_eq_getElem_cons (by omega)]
          simp [List.getD, show i < l.length by omega]
        have d2 : r.drop i = r.getD i 0 :: r.drop (i + 1) := by
          rw [List.drop_eq_getElem_cons (by omega)]
          simp [List.getD, show i < r.length by omega]
        have b1 := ha.2 i
        have b2 := hb.2 i
        unfold B_Bs_isSame_31
        rw [na, nb', if_neg (by simp (disch := omega) only [z_lt, z_le, z_eq, z_cl, z_ad, z_mu, z_sb, z_n1, z_em, z_me, z_lm, z_ml, z_mle, z_lme, z_ma, z_am, z_m2, not_false_eq_true, z_l0, z_l1, z_l2, z_l3, z_l4, z_l5, z_l6, z_l7, z_l8, z_l10, z_l14, z_l15, z_l16, z_l32, z_l80, z_l101, z_l120, z_l126, z_l127, z_l130, z_l160, z_l198, z_l200, z_l202, z_l240, z_l252, z_l253, z_l254, z_l255, z_l260, z_l480, z_l900, Rd_nodes, Rd_ends, Rd_isOpen, Rd_counts, Rd_lastTags, Rd_syntax, Rd_position, Rd_level, Rd_result, Rd_set_nodes, Rd_set_ends, Rd_set_isOpen, Rd_set_counts, Rd_set_lastTags, Rd_set_syntax, Rd_set_position, Rd_set_level, Rd_set_result, Tr_tags, Tr_behind, Tr_values, Tr_lengths, Tr_characters, Tr_count, Tr_characterCount, Tr_set_tags, Tr_set_behind, Tr_set_values, Tr_set_lengths, Tr_set_characters, Tr_set_count, Tr_set_characterCount, Bs_n, Bs_values, Bs_count, Bs_set_n, Bs_set_values, Bs_set_count] <;> omega), if_neg (by simp (disch := omega) only [z_lt, z_le, z_eq, z_cl, z_ad, z_mu, z_sb, z_n1, z_em, z_me, z_lm, z_ml, z_mle, z_lme, z_ma, z_am, z_m2, not_false_eq_true, z_l0, z_l1, z_l2, z_l3, z_l4, z_l5, z_l6, z_l7, z_l8, z_l10, z_l14, z_l15, z_l16, z_l32, z_l80, z_l101, z_l120, z_l126, z_l127, z_l130, z_l160, z_l198, z_l200, z_l202, z_l240, z_l252, z_l253, z_l254, z_l255, z_l260, z_l480, z_l900, Rd_nodes, Rd_ends, Rd_isOpen, Rd_counts, Rd_lastTags, Rd_syntax, Rd_position, Rd_level, Rd_result, Rd_set_nodes, Rd_set_ends, Rd_set_isOpen, Rd_set_counts, Rd_set_lastTags, Rd_set_syntax, Rd_set_position, Rd_set_level, Rd_set_result, Tr_tags, Tr_behind, Tr_values, Tr_lengths, Tr_characters, Tr_count, Tr_characterCount, Tr_set_tags, Tr_set_behind, Tr_set_values, Tr_set_lengths, Tr_set_characters, Tr_set_count, Tr_set_characterCount, Bs_n, Bs_values, Bs_count, Bs_set_n, Bs_set_values, Bs_set_count] <;> omega), z_cl (by omega), rn_val ha (by omega), rn_val hb (by omega), d1, d2]
        by_cases q : l.getD i 0 = r.getD i 0
        · rw [if_pos (by rw [q])]
          unfold B_Bs_isSame_46 B_Bs_isSame_51
          rw [show nI i + 1 = nI (i + 1) by simp (disch := omega) only [z_lt, z_le, z_eq, z_cl, z_ad, z_mu, z_sb, z_n1, z_em, z_me, z_lm, z_ml, z_mle, z_lme, z_ma, z_am, z_m2, not_false_eq_true, z_l0, z_l1, z_l2, z_l3, z_l4, z_l5, z_l6, z_l7, z_l8, z_l10, z_l14, z_l15, z_l16, z_l32, z_l80, z_l101, z_l120, z_l126, z_l127, z_l130, z_l160, z_l198, z_l200, z_l202, z_l240, z_l252, z_l253, z_l254, z_l255, z_l260, z_l480, z_l900, Rd_nodes, Rd_ends, Rd_isOpen, Rd_counts, Rd_lastTags, Rd_syntax, Rd_position, Rd_level, Rd_result, Rd_set_nodes, Rd_set_ends, Rd_set_isOpen, Rd_set_counts, Rd_set_lastTags, Rd_set_syntax, Rd_set_position, Rd_set_level, Rd_set_result, Tr_tags, Tr_behind, Tr_values, Tr_lengths, Tr_characters, Tr_count, Tr_characterCount, Tr_set_tags, Tr_set_behind, Tr_set_values, Tr_set_lengths, Tr_set_characters, Tr_set_count, Tr_set_characterCount, Bs_n, Bs_values, Bs_count, Bs_set_n, Bs_set_values, Bs_set_count]]
          rw [Bool.true_and] at i1
          rw [show decide (l.getD i 0 :: l.drop (i + 1) = r.getD i 0 :: r.drop (i + 1)) = decide (l.drop (i + 1) = r.drop (i + 1)) by rw [q]; simp only [List.cons.injEq, true_and]]
          exact i1
        · rw [if_neg (by simp (disch := omega) only [z_lt, z_le, z_eq, z_cl, z_ad, z_mu, z_sb, z_n1, z_em, z_me, z_lm, z_ml, z_mle, z_lme, z_ma, z_am, z_m2, not_false_eq_true, z_l0, z_l1, z_l2, z_l3, z_l4, z_l5, z_l6, z_l7, z_l8, z_l10, z_l14, z_l15, z_l16, z_l32, z_l80, z_l101, z_l120, z_l126, z_l127, z_l130, z_l160, z_l198, z_l200, z_l202, z_l240, z_l252, z_l253, z_l254, z_l255, z_l260, z_l480, z_l900, Rd_nodes, Rd_ends, Rd_isOpen, Rd_counts, Rd_lastTags, Rd_syntax, Rd_position, Rd_level, Rd_result, Rd_set_nodes, Rd_set_ends, Rd_set_isOpen, Rd_set_counts, Rd_set_lastTags, Rd_set_syntax, Rd_set_position, Rd_set_level, Rd_set_result, Tr_tags, Tr_behind, Tr_values, Tr_lengths, Tr_characters, Tr_count, Tr_characterCount, Tr_set_tags, Tr_set_behind, Tr_set_values, Tr_set_lengths, Tr_set_characters, Tr_set_count, Tr_set_characterCount, Bs_n, Bs_values, Bs_count, Bs_set_n, Bs_set_values, Bs_set_count, q])]
          unfold B_Bs_isSame_50 B_Bs_isSame_51
          rw [show nI i + 1 = nI (i + 1) by simp (disch := omega) only [z_lt, z_le, z_eq, z_cl, z_ad, z_mu, z_sb, z_n1, z_em, z_me, z_lm, z_ml, z_mle, z_lme, z_ma, z_am, z_m2, not_false_eq_true, z_l0, z_l1, z_l2, z_l3, z_l4, z_l5, z_l6, z_l7, z_l8, z_l10, z_l14, z_l15, z_l16, z_l32, z_l80, z_l101, z_l120, z_l126, z_l127, z_l130, z_l160, z_l198, z_l200, z_l202, z_l240, z_l252, z_l253, z_l254, z_l255, z_l260, z_l480, z_l900, Rd_nodes, Rd_ends, Rd_isOpen, Rd_counts, Rd_lastTags, Rd_syntax, Rd_position, Rd_level, Rd_result, Rd_set_nodes, Rd_set_ends, Rd_set_isOpen, Rd_set_counts, Rd_set_lastTags, Rd_set_syntax, Rd_set_position, Rd_set_level, Rd_set_result, Tr_tags, Tr_behind, Tr_values, Tr_lengths, Tr_characters, Tr_count, Tr_characterCount, Tr_set_tags, Tr_set_behind, Tr_set_values, Tr_set_lengths, Tr_set_characters, Tr_set_count, Tr_set_characterCount, Bs_n, Bs_values, Bs_count, Bs_set_n, Bs_set_values, Bs_set_count]]
          rw [Bool.false_and] at i0
          rw [decide_eq_false (fun x => q (List.cons.inj x).1)]
          exact i0
  unfold F_Bs_isSame B_Bs_isSame_0
  rw [ca, cb]
  by_cases c : l.length = r.length
  · rw [if_pos (by rw [c])]
    have := loop c l.length 0 FU true (by omega) (by unfold FU; omega)
    rw [Bool.true_and, List.drop_zero, List.drop_zero, if_pos (rfl : true = true)] at this
    unfold B_Bs_isSame_11 B_Bs_isSame_16 L_Bs_isSame_19
    rw [show (0 : Int32) = nI 0 from rfl, this]
    by_cases q : l = r
    · rw [if_pos q, if_pos (decide_eq_true q)]
    · rw [if_neg q, if_neg (by rw [decide_eq_false q]; decide)]
      rfl
  · rw [if_neg (by simp (disch := omega) only [z_lt, z_le, z_eq, z_cl, z_ad, z_mu, z_sb, z_n1, z_em, z_me, z_lm, z_ml, z_mle, z_lme, z_ma, z_am, z_m2, not_false_eq_true, z_l0, z_l1, z_l2, z_l3, z_l4, z_l5, z_l6, z_l7, z_l8, z_l10, z_l14, z_l15, z_l16, z_l32, z_l80, z_l101, z_l120, z_l126, z_l127, z_l130, z_l160, z_l198, z_l200, z_l202, z_l240, z_l252, z_l253, z_l254, z_l255, z_l260, z_l480, z_l900, Rd_nodes, Rd_ends, Rd_isOpen, Rd_counts, Rd_lastTags, Rd_syntax, Rd_position, Rd_level, Rd_result, Rd_set_nodes, Rd_set_ends, Rd_set_isOpen, Rd_set_counts, Rd_set_lastTags, Rd_set_syntax, Rd_set_position, Rd_set_level, Rd_set_result, Tr_tags, Tr_behind, Tr_values, Tr_lengths, Tr_characters, Tr_count, Tr_characterCount, Tr_set_tags, Tr_set_behind, Tr_set_values, Tr_set_lengths, Tr_set_characters, Tr_set_count, Tr_set_characterCount, Bs_n, Bs_values, Bs_count, Bs_set_n, Bs_set_values, Bs_set_count, c]), if_neg (fun q => c (by rw [q]))]
    unfold B_Bs_isSame_15 B_Bs_isSame_16 L_Bs_isSame_19
    rw [show FU = (FU - 1) + 1 by unfold FU; rfl, lp_s]
    show B_Bs_isSame_19 _ a b 0 0 = _
    unfold B_Bs_isSame_19 B_Bs_isSame_27 B_Bs_isSame_58
    by_cases z : Bs_count a ≤ 0
    · rw [if_pos z]
      rfl
    · rw [if_neg z]
      rfl
def plN (Nm : Nat → List Nat) (x : List Nat) : Nat → Nat → Nat
  | 0, k => k
  | m + 1, k => if Nm k = x then k else plN Nm x m (k + 1)
theorem plN_le {Nm : Nat → List Nat} {x : List Nat} : ∀ (m k : Nat), k ≤ plN Nm x m k ∧ plN Nm x m k ≤ k + m ∧ (plN Nm x m k < k + m → Nm (plN Nm x m k) = x)
  | 0, k => ⟨Nat.le_refl _, Nat.le_refl _, fun h => absurd h (Nat.lt_irrefl _)⟩
  | m + 1, k => by
    have := plN_le (Nm := Nm) (x := x) m (k + 1)
    unfold plN
    split
    · rename_i h
      exact ⟨Nat.le_refl _, by omega, fun _ => h⟩
    · exact ⟨by omega, by omega, fun h => this.2.2 (by omega)⟩
/-- the class's records: room of them, n in use, their names and bytes -/
def cRs (R : S_Rs) (room n : Nat) (Nm B : Nat → List Nat) : Prop := Rs_n R = room ∧ room ≤ 8 ∧ n ≤ room ∧ Rs_count R = nI n ∧ (∀ k, k < room → ∃ l, rn (Rs_names R k) 16 l) ∧ (∀ k, k < room → ∃ l, rn (Rs_bytes R k) 198 l) ∧ ∀ k, k < n → rn (Rs_names R k) 16 (Nm k) ∧ rn (Rs_bytes R k) 198 (B k)
section CKP
variable {R : S_Rs} {room n cap : Nat} {Nm B : Nat → List Nat} {b1 b2 : S_Bs} {x l : List Nat}
theorem c_keepAt {p : Nat} (h : cRs R room n Nm B) (hx : rn b1 16 x) (hl : rn b2 cap l) (hll : l.length ≤ 198) (hp : p ≤ n) (hpx : p < n → Nm p = x) : ∃ R', B_Rs_keep_29 b1 b2 R (nI p) = some ((if p = room then 0 else 1), R') ∧ (p = room → R' = R) ∧ (p ≠ room → cRs R' room (if p = n then n + 1 else n) (fun k => if k = p then x else Nm k) (fun k => if k = p then l else B k)) := by
  obtain ⟨h1, h2, h3, h4, h5, h6, h7⟩ := h
  unfold B_Rs_keep_29
  rw [h1, show Int32.ofNat room = nI room from rfl]
  by_cases c : p = room
  · rw [if_pos (by rw [c]), if_pos c]
    exact ⟨R, rfl, fun _ => rfl, fun e => absurd c e⟩
  · rw [if_neg (by simp (disch := omega) only [z_lt, z_le, z_eq, z_cl, z_ad, z_mu, z_sb, z_n1, z_em, z_me, z_lm, z_ml, z_mle, z_lme, z_ma, z_am, z_m2, not_false_eq_true, z_l0, z_l1, z_l2, z_l3, z_l4, z_l5, z_l6, z_l7, z_l8, z_l10, z_l14, z_l15, z_l16, z_l32, z_l80, z_l101, z_l120, z_l126, z_l127, z_l130, z_l160, z_l198, z_l200, z_l202, z_l240, z_l252, z_l253, z_l254, z_l255, z_l260, z_l480, z_l900, Rd_nodes, Rd_ends, Rd_isOpen, Rd_counts, Rd_lastTags, Rd_syntax, Rd_position, Rd_level, Rd_result, Rd_set_nodes, Rd_set_ends, Rd_set_isOpen, Rd_set_counts, Rd_set_lastTags, Rd_set_syntax, Rd_set_position, Rd_set_level, Rd_set_result, Tr_tags, Tr_behind, Tr_values, Tr_lengths, Tr_characters, Tr_count, Tr_characterCount, Tr_set_tags, Tr_set_behind, Tr_set_values, Tr_set_lengths, Tr_set_characters, Tr_set_count, Tr_set_characterCount, Bs_n, Bs_values, Bs_count, Bs_set_n, Bs_set_values, Bs_set_count, c]), if_neg c]
    have hpr : p < room := by omega
    -- the bytes
    have put : ∀ (Q : S_Rs), Rs_n Q = room → (∀ k, Rs_bytes Q k = Rs_bytes R k) → ∃ o, B_Rs_keep_68 b1 b2 Q (nI p) = some (1, Rs_putB Q p o) ∧ rn o 198 l := by
      intro Q q1 q2
      obtain ⟨l0, r0⟩ := h6 p hpr
      obtain ⟨o, e, ho⟩ := rn_become r0 hl hll
      refine ⟨o, ?_, ho⟩
      unfold B_Rs_keep_68
      rw [q1, z_cl (by omega), q2, if_neg (by simp (disch := omega) only [z_lt, z_le, z_eq, z_cl, z_ad, z_mu, z_sb, z_n1, z_em, z_me, z_lm, z_ml, z_mle, z_lme, z_ma, z_am, z_m2, not_false_eq_true, z_l0, z_l1, z_l2, z_l3, z_l4, z_l5, z_l6, z_l7, z_l8, z_l10, z_l14, z_l15, z_l16, z_l32, z_l80, z_l101, z_l120, z_l126, z_l127, z_l130, z_l160, z_l198, z_l200, z_l202, z_l240, z_l252, z_l253, z_l254, z_l255, z_l260, z_l480, z_l900, Rd_nodes, Rd_ends, Rd_isOpen, Rd_counts, Rd_lastTags, Rd_syntax, Rd_position, Rd_level, Rd_result, Rd_set_nodes, Rd_set_ends, Rd_set_isOpen, Rd_set_counts, Rd_set_lastTags, Rd_set_syntax, Rd_set_position, Rd_set_level, Rd_set_result, Tr_tags, Tr_behind, Tr_values, Tr_lengths, Tr_characters, Tr_count, Tr_characterCount, Tr_set_tags, Tr_set_behind, Tr_set_values, Tr_set_lengths, Tr_set_characters, Tr_set_count, Tr_set_characterCount, Bs_n, Bs_values, Bs_count, Bs_set_n, Bs_set_values, Bs_set_count] <;> omega), if_pos hpr, e]
      rfl
    unfold B_Rs_keep_40
    rw [h4]
    by_cases d : p = n
    · rw [if_pos (by rw [d]), if_pos d]
      unfold B_Rs_keep_48
      obtain ⟨l0, r0⟩ := h5 p hpr
      have h16 : x.length ≤ 16 := (rn_cap hx).1
      obtain ⟨o1, e1, ho1⟩ := rn_become r0 hx h16
      rw [h1, z_cl (by omega), if_neg (by simp (disch := omega) only [z_lt, z_le, z_eq, z_cl, z_ad, z_mu, z_sb, z_n1, z_em, z_me, z_lm, z_ml, z_mle, z_lme, z_ma, z_am, z_m2, not_false_eq_true, z_l0, z_l1, z_l2, z_l3, z_l4, z_l5, z_l6, z_l7, z_l8, z_l10, z_l14, z_l15, z_l16, z_l32, z_l80, z_l101, z_l120, z_l126, z_l127, z_l130, z_l160, z_l198, z_l200, z_l202, z_l240, z_l252, z_l253, z_l254, z_l255, z_l260, z_l480, z_l900, Rd_nodes, Rd_ends, Rd_isOpen, Rd_counts, Rd_lastTags, Rd_syntax, Rd_position, Rd_level, Rd_result, Rd_set_nodes, Rd_set_ends, Rd_set_isOpen, Rd_set_counts, Rd_set_lastTags, Rd_set_syntax, Rd_set_position, Rd_set_level, Rd_set_result, Tr_tags, Tr_behind, Tr_values, Tr_lengths, Tr_characters, Tr_count, Tr_characterCount, Tr_set_tags, Tr_set_behind, Tr_set_values, Tr_set_lengths, Tr_set_characters, Tr_set_count, Tr_set_characterCount, Bs_n, Bs_values, Bs_count, Bs_set_n, Bs_set_values, Bs_set_count] <;> omega), if_pos hpr, e1, Option.bind_some]
      obtain ⟨o2, e2, ho2⟩ := put (Rs_set_count (Rs_putN R p o1) (Rs_count (Rs_putN R p o1) + 1)) h1 (fun _ => rfl)
      refine ⟨_, e2, fun e => absurd e c, fun _ => ⟨h1, h2, by omega, ?_, fun k hk => ?_, fun k hk => ?_, fun k hk => ⟨?_, ?_⟩⟩⟩
      · show Rs_count R + 1 = _
        rw [h4]
        simp (disch := omega) only [z_lt, z_le, z_eq, z_cl, z_ad, z_mu, z_sb, z_n1, z_em, z_me, z_lm, z_ml, z_mle, z_lme, z_ma, z_am, z_m2, not_false_eq_true, z_l0, z_l1, z_l2, z_l3, z_l4, z_l5, z_l6, z_l7, z_l8, z_l10, z_l14, z_l15, z_l16, z_l32, z_l80, z_l101, z_l120, z_l126, z_l127, z_l130, z_l160, z_l198, z_l200, z_l202, z_l240, z_l252, z_l253, z_l254, z_l255, z_l260, z_l480, z_l900, Rd_nodes, Rd_ends, Rd_isOpen, Rd_counts, Rd_lastTags, Rd_syntax, Rd_position, Rd_level, Rd_result, Rd_set_nodes, Rd_set_ends, Rd_set_isOpen, Rd_set_counts, Rd_set_lastTags, Rd_set_syntax, Rd_set_position, Rd_set_level, Rd_set_result, Tr_tags, Tr_behind, Tr_values, Tr_lengths, Tr_characters, Tr_count, Tr_characterCount, Tr_set_tags, Tr_set_behind, Tr_set_values, Tr_set_lengths, Tr_set_characters, Tr_set_count, Tr_set_characterCount, Bs_n, Bs_values, Bs_count, Bs_set_n, Bs_set_values, Bs_set_count]
      · show ∃ l, rn (if k = p then o1 else Rs_names R k) 16 l
        split
        · exact ⟨x, ho1⟩
        · exact h5 k hk
      · show ∃ l, rn (if k = p then o2 else Rs_bytes R k) 198 l
        split
        · exact ⟨l, ho2⟩
        · exact h6 k hk
      · show rn (if k = p then o1 else Rs_names R k) 16 (if k = p then x else Nm k)
        split
        · exact ho1
        · exact (h7 k (by omega)).1
      · show rn (if k = p then o2 else Rs_bytes R k) 198 (if k = p then l else B k)
        split
        · exact ho2
        · exact (h7 k (by omega)).2
    · rw [if_neg (by simp (disch := omega) only [z_lt, z_le, z_eq, z_cl, z_ad, z_mu, z_sb, z_n1, z_em, z_me, z_lm, z_ml, z_mle, z_lme, z_ma, z_am, z_m2, not_false_eq_true, z_l0, z_l1, z_l2, z_l3, z_l4, z_l5, z_l6, z_l7, z_l8, z_l10, z_l14, z_l15, z_l16, z_l32, z_l80, z_l101, z_l120, z_l126, z_l127, z_l130, z_l160, z_l198, z_l200, z_l202, z_l240, z_l252, z_l253, z_l254, z_l255, z_l260, z_l480, z_l900, Rd_nodes, Rd_ends, Rd_isOpen, Rd_counts, Rd_lastTags, Rd_syntax, Rd_position, Rd_level, Rd_result, Rd_set_nodes, Rd_set_ends, Rd_set_isOpen, Rd_set_counts, Rd_set_lastTags, Rd_set_syntax, Rd_set_position, Rd_set_level, Rd_set_result, Tr_tags, Tr_behind, Tr_values, Tr_lengths, Tr_characters, Tr_count, Tr_characterCount, Tr_set_tags, Tr_set_behind, Tr_set_values, Tr_set_lengths, Tr_set_characters, Tr_set_count, Tr_set_characterCount, Bs_n, Bs_values, Bs_count, Bs_set_n, Bs_set_values, Bs_set_count, d]), if_neg d]
      obtain ⟨o2, e2, ho2⟩ := put R h1 (fun _ => rfl)
      refine ⟨_, e2, fun e => absurd e c, fun _ => ⟨h1, h2, h3, h4, h5, fun k hk => ?_, fun k hk => ⟨?_, ?_⟩⟩⟩
      · show ∃ l, rn (if k = p then o2 else Rs_bytes R k) 198 l
        split
        · exact ⟨l, ho2⟩
        · exact h6 k hk
      · show rn (Rs_names R k) 16 (if k = p then x else Nm k)
        split
        · rename_i q
          have := (h7 k hk).1
          rw [q, hpx (by omega)] at this
          rw [q]
          exact this
        · exact (h7 k hk).1
      · show rn (if k = p then o2 else Rs_bytes R k) 198 (if k = p then l else B k)
        split
        · exact ho2
        · exact (h7 k hk).2
theorem c_keep (h : cRs R room n Nm B) (hx : rn b1 16 x) (hl : rn b2 cap l) (hll : l.length ≤ 198) : ∃ R', F_Rs_keep R b1 b2 = some ((if plN Nm x n 0 = room then 0 else 1), R') ∧ (plN Nm x n 0 = room → R' = R) ∧ (plN Nm x n 0 ≠ room → cRs R' room (if plN Nm x n 0 = n then n + 1 else n) (fun k => if k = plN Nm x n 0 then x else Nm k) (fun k => if k = plN Nm x n 0 then l else B k)) := by
  have hle := plN_le (Nm := Nm) (x := x) n 0
  obtain ⟨R', e, h'⟩ := c_keepAt h hx hl hll (p := plN Nm x n 0) (by omega) (fun q => hle.2.2 (by omega))
  refine ⟨R', ?_, h'⟩
  rw [← e]
  obtain ⟨h1, h2, h3, h4, h5, h6, h7⟩ := h
  have loop : ∀ (m k fu : Nat), k + m = n → m < fu → lp (fun k2 v => B_Rs_keep_2 k2 b1 b2 v.1 v.2) fu (R, nI k) = B_Rs_keep_29 b1 b2 R (nI (plN Nm x m k)) := by
    intro m
    induction m with
    | zero =>
      intro k fu hk hf
      obtain ⟨fu', rfl⟩ : ∃ fu', fu = fu' + 1 := ⟨fu - 1, by omega⟩
      rw [lp_s]
      show B_Rs_keep_2 _ b1 b2 R (nI k) = B_Rs_keep_29 b1 b2 R (nI k)
      unfold B_Rs_keep_2
      rw [h4, if_pos (by simp (disch := omega) only [z_lt, z_le, z_eq, z_cl, z_ad, z_mu, z_sb, z_n1, z_em, z_me, z_lm, z_ml, z_mle, z_lme, z_ma, z_am, z_m2, not_false_eq_true, z_l0, z_l1, z_l2, z_l3, z_l4, z_l5, z_l6, z_l7, z_l8, z_l10, z_l14, z_l15, z_l16, z_l32, z_l80, z_l101, z_l120, z_l126, z_l127, z_l130, z_l160, z_l198, z_l200, z_l202, z_l240, z_l252, z_l253, z_l254, z_l255, z_l260, z_l480, z_l900, Rd_nodes, Rd_ends, Rd_isOpen, Rd_counts, Rd_lastTags, Rd_syntax, Rd_position, Rd_level, Rd_result, Rd_set_nodes, Rd_set_ends, Rd_set_isOpen, Rd_set_counts, Rd_set_lastTags, Rd_set_syntax, Rd_set_position, Rd_set_level, Rd_set_result, Tr_tags, Tr_behind, Tr_values, Tr_lengths, Tr_characters, Tr_count, Tr_characterCount, Tr_set_tags, Tr_set_behind, Tr_set_values, Tr_set_lengths, Tr_set_characters, Tr_set_count, Tr_set_characterCount, Bs_n, Bs_values, Bs_count, Bs_set_n, Bs_set_values, Bs_set_count] <;> omega)]
    | succ m ih =>
      intro k fu hk hf
      obtain ⟨fu', rfl⟩ : ∃ fu', fu = fu' + 1 := ⟨fu - 1, by omega⟩
      rw [lp_s]
      show B_Rs_keep_2 (lp (fun k2 v => B_Rs_keep_2 k2 b1 b2 v.1 v.2) fu') b1 b2 R (nI k) = _
      have i1 := ih (k + 1) fu' (by omega) (by omega)
      generalize lp (fun k2 v => B_Rs_keep_2 k2 b1 b2 v.1 v.2) fu' = K at i1 ⊢
      unfold B_Rs_keep_2
      rw [h4, if_neg (by simp (disch := omega) only [z_lt, z_le, z_eq, z_cl, z_ad, z_mu, z_sb, z_n1, z_em, z_me, z_lm, z_ml, z_mle, z_lme, z_ma, z_am, z_m2, not_false_eq_true, z_l0, z_l1, z_l2, z_l3, z_l4, z_l5, z_l6, z_l7, z_l8, z_l10, z_l14, z_l15, z_l16, z_l32, z_l80, z_l101, z_l120, z_l126, z_l127, z_l130, z_l160, z_l198, z_l200, z_l202, z_l240, z_l252, z_l253, z_l254, z_l255, z_l260, z_l480, z_l900, Rd_nodes, Rd_ends, Rd_isOpen, Rd_counts, Rd_lastTags, Rd_syntax, Rd_position, Rd_level, Rd_result, Rd_set_nodes, Rd_set_ends, Rd_set_isOpen, Rd_set_counts, Rd_set_lastTags, Rd_set_syntax, Rd_set_position, Rd_set_level, Rd_set_result, Tr_tags, Tr_behind, Tr_values, Tr_lengths, Tr_characters, Tr_count, Tr_characterCount, Tr_set_tags, Tr_set_behind, Tr_set_values, Tr_set_lengths, Tr_set_characters, Tr_set_count, Tr_set_characterCount, Bs_n, Bs_values, Bs_count, Bs_set_n, Bs_set_values, Bs_set_count] <;> omega)]
      unfold B_Rs_keep_10
      rw [h1, z_cl (by omega), if_neg (by simp (disch := omega) only [z_lt, z_le, z_eq, z_cl, z_ad, z_mu, z_sb, z_n1, z_em, z_me, z_lm, z_ml, z_mle, z_lme, z_ma, z_am, z_m2, not_false_eq_true, z_l0, z_l1, z_l2, z_l3, z_l4, z_l5, z_l6, z_l7, z_l8, z_l10, z_l14, z_l15, z_l16, z_l32, z_l80, z_l101, z_l120, z_l126, z_l127, z_l130, z_l160, z_l198, z_l200, z_l202, z_l240, z_l252, z_l253, z_l254, z_l255, z_l260, z_l480, z_l900, Rd_nodes, Rd_ends, Rd_isOpen, Rd_counts, Rd_lastTags, Rd_syntax, Rd_position, Rd_level, Rd_result, Rd_set_nodes, Rd_set_ends, Rd_set_isOpen, Rd_set_counts, Rd_set_lastTags, Rd_set_syntax, Rd_set_position, Rd_set_level, Rd_set_result, Tr_tags, Tr_behind, Tr_values, Tr_lengths, Tr_characters, Tr_count, Tr_characterCount, Tr_set_tags, Tr_set_behind, Tr_set_values, Tr_set_lengths, Tr_set_characters, Tr_set_count, Tr_set_characterCount, Bs_n, Bs_values, Bs_count, Bs_set_n, Bs_set_values, Bs_set_count] <;> omega), if_pos (by omega), c_isSame (h7 k (by omega)).1 hx, Option.bind_some]
      rw [show plN Nm x (m + 1) k = if Nm k = x then k else plN Nm x m (k + 1) from rfl]
      by_cases c : Nm k = x
      · rw [if_pos c, if_pos c, if_neg (by decide : ¬ (1 : Int32) = 0)]
      · rw [if_neg c, if_neg c, if_pos rfl]
        unfold B_Rs_keep_23
        rw [show nI k + 1 = nI (k + 1) by simp (disch := omega) only [z_lt, z_le, z_eq, z_cl, z_ad, z_mu, z_sb, z_n1, z_em, z_me, z_lm, z_ml, z_mle, z_lme, z_ma, z_am, z_m2, not_false_eq_true, z_l0, z_l1, z_l2, z_l3, z_l4, z_l5, z_l6, z_l7, z_l8, z_l10, z_l14, z_l15, z_l16, z_l32, z_l80, z_l101, z_l120, z_l126, z_l127, z_l130, z_l160, z_l198, z_l200, z_l202, z_l240, z_l252, z_l253, z_l254, z_l255, z_l260, z_l480, z_l900, Rd_nodes, Rd_ends, Rd_isOpen, Rd_counts, Rd_lastTags, Rd_syntax, Rd_position, Rd_level, Rd_result, Rd_set_nodes, Rd_set_ends, Rd_set_isOpen, Rd_set_counts, Rd_set_lastTags, Rd_set_syntax, Rd_set_position, Rd_set_level, Rd_set_result, Tr_tags, Tr_behind, Tr_values, Tr_lengths, Tr_characters, Tr_count, Tr_characterCount, Tr_set_tags, Tr_set_behind, Tr_set_values, Tr_set_lengths, Tr_set_characters, Tr_set_count, Tr_set_characterCount, Bs_n, Bs_values, Bs_count, Bs_set_n, Bs_set_values, Bs_set_count]]
        exact i1
  unfold F_Rs_keep B_Rs_keep_0 L_Rs_keep_2
  rw [show (0 : Int32) = nI 0 from rfl]
  exact loop n 0 FU (by omega) (by unfold FU; omega)
end CKP
