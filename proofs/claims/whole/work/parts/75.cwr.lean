/-! PURE: how a set is written; the class's tree writes so -/
def okN (x : Nd) : Prop := (x.2.1 ≤ 200 ∨ x.2.1 = 254) ∧ (kd x.2.1 = 2 → x.2.2.2.length ≤ 16 ∧ ∀ c ∈ x.2.2.2, 32 ≤ c ∧ c ≤ 126) ∧ (kd x.2.1 ≠ 2 → x.2.2.2 = [])
def wfA (nd : List Nd) : Prop := ∀ x ∈ nd, okN x
theorem nG_mem {nd : List Nd} {k : Nat} (h : k < nd.length) : nG nd k ∈ nd := by
  unfold nG
  rw [show nd.getD k nz = nd[k] by simp [List.getD, h]]
  exact List.getElem_mem h
theorem nG_out {nd : List Nd} {k : Nat} (h : ¬ k < nd.length) : nG nd k = nz := by
  unfold nG
  simp [List.getD, List.getElem?_eq_none (by omega : nd.length ≤ k)]
theorem okN_z : okN nz := ⟨by decide, by decide, by decide⟩
theorem okN_at {nd : List Nd} (h : wfA nd) (k : Nat) : okN (nG nd k) := by
  by_cases e : k < nd.length
  · exact h _ (nG_mem e)
  · rw [nG_out e]; exact okN_z
theorem nb_le (v : Int32) : 1 ≤ nb v ∧ nb v ≤ 4 := by
  unfold nb
  split
  · split
    · split <;> omega
    · omega
  · omega
theorem xl_le {nd : List Nd} (h : wfA nd) (k : Nat) : xl nd k ≤ 16 := by
  have h1 := okN_at h k
  unfold xl
  split
  · have := nb_le (nV nd k); omega
  · split
    · rename_i h2
      exact (h1.2.1 h2).1
    · omega
theorem nT_lt {nd : List Nd} (h : wfA nd) (k : Nat) : nT nd k < 256 := by
  have := (okN_at h k).1
  unfold nT
  omega
theorem nX_lt {nd : List Nd} (h : wfA nd) (k i : Nat) : (nX nd k).getD i 0 < 127 := by
  by_cases e : i < (nX nd k).length
  · have h1 := okN_at h k
    by_cases h2 : kd (nG nd k).2.1 = 2
    · have : (nX nd k).getD i 0 ∈ nX nd k := by
        rw [show (nX nd k).getD i 0 = (nX nd k)[i] by simp [List.getD, e]]
        exact List.getElem_mem e
      have := (h1.2.1 h2).2 _ this
      omega
    · have := h1.2.2 h2
      unfold nX at e
      rw [this] at e
      simp at e
  · simp [List.getD, List.getElem?_eq_none (by omega : (nX nd k).length ≤ i)]
def bhg (nd : List Nd) (lv : Nat) : Nat → Nat → Nat
  | 0, j => j
  | m + 1, j => if lv < nL nd j then bhg nd lv m (j + 1) else j
def bhf (nd : List Nd) (k : Nat) : Nat := bhg nd (nL nd k) (nd.length - (k + 1)) (k + 1)
theorem bhg_isB {nd : List Nd} {k : Nat} : ∀ (m j : Nat), j + m = nd.length → k < j → (∀ i, k < i → i < j → nL nd k < nL nd i) → isB nd k (bhg nd (nL nd k) m j)
  | 0, j, h1, h2, h3 => ⟨h2, by simp only [bhg]; omega, h3, fun e => by simp only [bhg] at e; omega⟩
  | m + 1, j, h1, h2, h3 => by
    unfold bhg
    split
    · rename_i h4
      refine bhg_isB m (j + 1) (by omega) (by omega) (fun i a1 a2 => ?_)
      by_cases e : i = j
      · rw [e]; exact h4
      · exact h3 i a1 (by omega)
    · rename_i h4
      exact ⟨h2, by omega, h3, fun _ => by omega⟩
theorem bhf_isB {nd : List Nd} {k : Nat} (h : k < nd.length) : isB nd k (bhf nd k) := bhg_isB _ _ (by omega) (by omega) (fun i a1 a2 => by omega)
theorem bhf_lt {nd : List Nd} {k : Nat} (h : k < nd.length) : k < bhf nd k ∧ bhf nd k ≤ nd.length := ⟨(bhf_isB h).1, (bhf_isB h).2.1⟩
def ow (nd : List Nd) (k : Nat) : Nat := if kd (nT nd k) = 2 then xl nd k + xl nd k % 2 else xl nd k
def hd (syn g : Nat) : Nat := if syn = 0 ∧ kd g ≠ 4 then 3 else 2
def wS (syn : Nat) (nd : List Nd) (a : Nat) : Nat → Nat
  | 0 => 0
  | m + 1 => wS syn nd a m + (hd syn (nT nd (a + m)) + ow nd (a + m))
def vln (syn : Nat) (nd : List Nd) (k : Nat) : Nat := ow nd k + wS syn nd (k + 1) (bhf nd k - (k + 1))
theorem ow_le {nd : List Nd} (h : wfA nd) (k : Nat) : ow nd k ≤ 17 := by
  have := xl_le h k
  unfold ow
  split <;> omega
theorem hd_le (syn g : Nat) : 2 ≤ hd syn g ∧ hd syn g ≤ 3 := by unfold hd; split <;> omega
theorem wS_le {syn : Nat} {nd : List Nd} (h : wfA nd) (a : Nat) : ∀ m, wS syn nd a m ≤ 20 * m
  | 0 => Nat.le_refl _
  | m + 1 => by
    have := wS_le (syn := syn) h a m
    have := ow_le h (a + m)
    have := hd_le syn (nT nd (a + m))
    unfold wS
    omega
theorem wS_s {syn : Nat} {nd : List Nd} {a m : Nat} : wS syn nd a (m + 1) = wS syn nd a m + (hd syn (nT nd (a + m)) + ow nd (a + m)) := rfl
theorem wS_split {syn : Nat} {nd : List Nd} (a : Nat) (m : Nat) : ∀ k, wS syn nd a (m + k) = wS syn nd a m + wS syn nd (a + m) k
  | 0 => rfl
  | k + 1 => by
    rw [show m + (k + 1) = (m + k) + 1 from rfl, wS_s, wS_s, wS_split a m k, Nat.add_assoc a m k]
    omega
/-- what has no nodes inside -/
def wfL (nd : List Nd) : Prop := ∀ k, k < nd.length → kd (nT nd k) ≤ 2 → isB nd k (k + 1)
theorem vln_leaf {syn : Nat} {nd : List Nd} {k : Nat} (h : wfL nd) (hk : k < nd.length) (h2 : kd (nT nd k) ≤ 2) : vln syn nd k = ow nd k := by
  have := isB_uniq (bhf_isB hk) (h k hk h2)
  unfold vln
  rw [this, Nat.sub_self]
  rfl
/-- the value of a byte -/
def by8 (v : Int32) (i : Nat) : Nat := ((v >>> (((8 : Int32) * nI i) &&& 31)) &&& 255).toBitVec.toNat
theorem z_byte (x : Int32) : (x &&& 255).toBitVec.toNat < 256 ∧ x &&& 255 = nI (x &&& 255).toBitVec.toNat := by
  refine ⟨?_, ?_⟩
  · rw [Int32.toBitVec_and, BitVec.toNat_and]
    exact Nat.lt_of_le_of_lt Nat.and_le_right (by decide +kernel)
  · apply Int32.toBitVec_inj.mp
    show _ = BitVec.ofNat 32 _
    rw [BitVec.ofNat_toNat, BitVec.setWidth_eq]
def numB (syn g : Nat) (v : Int32) : List Nat := [g] ++ (if syn = 0 then [1] else []) ++ [nb v] ++ (List.range (nb v)).map (by8 v)
def txB (l : List Nat) : List Nat := (List.range (l.length + l.length % 2)).map (fun i => if i < l.length then l.getD i 0 else 32)
def nB (syn : Nat) (nd : List Nd) (k : Nat) : List Nat :=
  if kd (nT nd k) = 1 then numB syn (nT nd k) (nV nd k)
  else [nT nd k] ++ (if syn = 0 ∧ kd (nT nd k) ≠ 4 then [kd (nT nd k)] else []) ++ [vln syn nd k] ++ (if kd (nT nd k) = 2 then txB (nX nd k) else [])
def cB (syn : Nat) (nd : List Nd) : Nat → List Nat
  | 0 => []
  | m + 1 => cB syn nd m ++ nB syn nd (m + 1)
theorem nB_len {syn : Nat} {nd : List Nd} {k : Nat} : (nB syn nd k).length = hd syn (nT nd k) + ow nd k := by
  have hk := kd_le (nT nd k)
  unfold nB hd ow xl numB txB
  by_cases h1 : kd (nT nd k) = 1
  · by_cases h2 : syn = 0 <;> simp [h1, h2] <;> omega
  · by_cases h3 : kd (nT nd k) = 2
    · by_cases h2 : syn = 0 <;> simp [h2, h3] <;> omega
    · by_cases h4 : kd (nT nd k) = 4
      · by_cases h2 : syn = 0 <;> simp [h2, h4]
      · by_cases h2 : syn = 0 <;> simp [h1, h2, h3, h4]
theorem cB_len {syn : Nat} {nd : List Nd} : ∀ m, (cB syn nd m).length = wS syn nd 1 m
  | 0 => rfl
  | m + 1 => by
    unfold cB wS
    rw [List.length_append, cB_len m, nB_len, Nat.add_comm 1 m]
/-! appending -/
theorem rn_two {b : S_Bs} {n : Nat} {l r : List Nat} (h : rn b n l) (e : l = r) : rn b n r := e ▸ h
section CWR
variable {b : S_Bs} {cap : Nat} {l : List Nat}
theorem c_wnLoop {v : Int32} {n : Nat} (hn : n ≤ 4) : ∀ (j i f : Nat) (b : S_Bs), i + j = n → j < f → rn b cap (l ++ (List.range i).map (by8 v)) → l.length + n ≤ cap → ∃ b', lp (fun k29 v => B_Tr_writeNumber_29 k29 v.1 v.2.1 v.2.2.1 v.2.2.2) f (b, v, nI n, nI i) = some b' ∧ rn b' cap (l ++ (List.range n).map (by8 v)) := by
  intro j
  induction j with
  | zero =>
    intro i f b hi hf hb hl
    obtain ⟨f', rfl⟩ : ∃ f', f = f' + 1 := ⟨f - 1, by omega⟩
    have : i = n := by omega
    subst this
    refine ⟨b, ?_, hb⟩
    show B_Tr_writeNumber_29 _ b v (nI i) (nI i) = _
    unfold B_Tr_writeNumber_29
    rw [if_pos (by first | omega | (simp (disch := omega) only [z_lt, z_le, z_eq, z_cl, z_ad, z_mu, z_sb, z_n1, z_em, z_me, z_lm, z_ml, z_mle, z_lme, z_ma, z_am, z_m2, not_false_eq_true, z_l0, z_l1, z_l2, z_l3, z_l4, z_l5, z_l6, z_l7, z_l8, z_l10, z_l14, z_l15, z_l16, z_l32, z_l80, z_l101, z_l120, z_l126, z_l127, z_l130, z_l160, z_l198, z_l200, z_l202, z_l240, z_l252, z_l253, z_l254, z_l255, z_l260, z_l480, z_l900, Rd_nodes, Rd_ends, Rd_isOpen, Rd_counts, Rd_lastTags, Rd_syntax, Rd_position, Rd_level, Rd_result, Rd_set_nodes, Rd_set_ends, Rd_set_isOpen, Rd_set_counts, Rd_set_lastTags, Rd_set_syntax, Rd_set_position, Rd_set_level, Rd_set_result, Tr_tags, Tr_behind, Tr_values, Tr_lengths, Tr_characters, Tr_count, Tr_characterCount, Tr_set_tags, Tr_set_behind, Tr_set_values, Tr_set_lengths, Tr_set_characters, Tr_set_count, Tr_set_characterCount, Bs_n, Bs_values, Bs_count, Bs_set_n, Bs_set_values, Bs_set_count] <;> omega))]
    rfl
  | succ j ih =>
    intro i f b hi hf hb hl
    obtain ⟨f', rfl⟩ : ∃ f', f = f' + 1 := ⟨f - 1, by omega⟩
    obtain ⟨b1, e1, h1⟩ := rn_append hb (by simp; omega) (x := by8 v i) (z_byte _).1 (z_byte (v >>> (((8 : Int32) * nI i) &&& 31))).2
    obtain ⟨b', e2, h2⟩ := ih (i + 1) f' b1 (by omega) (by omega) (rn_two h1 (by rw [List.range_succ, List.map_append, List.append_assoc]; rfl)) hl
    refine ⟨b', ?_, h2⟩
    show B_Tr_writeNumber_29 _ b v (nI n) (nI i) = _
    unfold B_Tr_writeNumber_29
    rw [if_neg (by first | omega | (simp (disch := omega) only [z_lt, z_le, z_eq, z_cl, z_ad, z_mu, z_sb, z_n1, z_em, z_me, z_lm, z_ml, z_mle, z_lme, z_ma, z_am, z_m2, not_false_eq_true, z_l0, z_l1, z_l2, z_l3, z_l4, z_l5, z_l6, z_l7, z_l8, z_l10, z_l14, z_l15, z_l16, z_l32, z_l80, z_l101, z_l120, z_l126, z_l127, z_l130, z_l160, z_l198, z_l200, z_l202, z_l240, z_l252, z_l253, z_l254, z_l255, z_l260, z_l480, z_l900, Rd_nodes, Rd_ends, Rd_isOpen, Rd_counts, Rd_lastTags, Rd_syntax, Rd_position, Rd_level, Rd_result, Rd_set_nodes, Rd_set_ends, Rd_set_isOpen, Rd_set_counts, Rd_set_lastTags, Rd_set_syntax, Rd_set_position, Rd_set_level, Rd_set_result, Tr_tags, Tr_behind, Tr_values, Tr_lengths, Tr_characters, Tr_count, Tr_characterCount, Tr_set_tags, Tr_set_behind, Tr_set_values, Tr_set_lengths, Tr_set_characters, Tr_set_count, Tr_set_characterCount, Bs_n, Bs_values, Bs_count, Bs_set_n, Bs_set_values, Bs_set_count] <;> omega))]
    unfold B_Tr_writeNumber_36
    rw [e1, Option.bind_some, nI_1]
    exact e2
theorem c_writeNumber {syn g : Nat} {v : Int32} (hb : rn b cap l) (hsy : syn ≤ 1) (hg : g < 256) (hl : l.length + (numB syn g v).length ≤ cap) : ∃ b', F_Tr_writeNumber b (nI g) v (nI syn) = some b' ∧ rn b' cap (l ++ numB syn g v) := by
  have hv := nb_le v
  have key : ∀ (b : S_Bs) (l : List Nat), rn b cap l → l.length + 1 + nb v ≤ cap → ∃ b', B_Tr_writeNumber_20 b v (nI (nb v)) = some b' ∧ rn b' cap (l ++ [nb v] ++ (List.range (nb v)).map (by8 v)) := by
    intro b l hb hl
    unfold B_Tr_writeNumber_20
    obtain ⟨b1, e1, h1⟩ := rn_append' hb (by omega) (x := nb v) (by omega)
    rw [e1, Option.bind_some]
    exact c_wnLoop hv.2 (nb v) 0 FU b1 (by omega) (by unfold FU; omega) (rn_two h1 (by simp)) (by simp; omega)
  unfold F_Tr_writeNumber B_Tr_writeNumber_0
  rw [c_numberLength, Option.bind_some]
  unfold numB at hl ⊢
  by_cases h0 : syn = 0
  · rw [if_pos h0] at hl ⊢
    simp only [List.length_append, List.length_cons, List.length_nil, List.length_map, List.length_range] at hl
    obtain ⟨b1, e1, h1⟩ := rn_append' hb (by omega) hg
    rw [e1, Option.bind_some]
    rw [if_pos (by first | omega | (simp (disch := omega) only [z_lt, z_le, z_eq, z_cl, z_ad, z_mu, z_sb, z_n1, z_em, z_me, z_lm, z_ml, z_mle, z_lme, z_ma, z_am, z_m2, not_false_eq_true, z_l0, z_l1, z_l2, z_l3, z_l4, z_l5, z_l6, z_l7, z_l8, z_l10, z_l14, z_l15, z_l16, z_l32, z_l80, z_l101, z_l120, z_l126, z_l127, z_l130, z_l160, z_l198, z_l200, z_l202, z_l240, z_l252, z_l253, z_l254, z_l255, z_l260, z_l480, z_l900, Rd_nodes, Rd_ends, Rd_isOpen, Rd_counts, Rd_lastTags, Rd_syntax, Rd_position, Rd_level, Rd_result, Rd_set_nodes, Rd_set_ends, Rd_set_isOpen, Rd_set_counts, Rd_set_lastTags, Rd_set_syntax, Rd_set_position, Rd_set_level, Rd_set_result, Tr_tags, Tr_behind, Tr_values, Tr_lengths, Tr_characters, Tr_count, Tr_characterCount, Tr_set_tags, Tr_set_behind, Tr_set_values, Tr_set_lengths, Tr_set_characters, Tr_set_count, Tr_set_characterCount, Bs_n, Bs_values, Bs_count, Bs_set_n, Bs_set_values, Bs_set_count] <;> omega))]
    unfold B_Tr_writeNumber_15
    obtain ⟨b2, e2, h2⟩ := rn_append' h1 (by simp; omega) (x := 1) (by omega)
    rw [show (1 : Int32) = nI 1 from rfl, e2, Option.bind_some]
    obtain ⟨b3, e3, h3⟩ := key b2 _ h2 (by simp; omega)
    exact ⟨b3, e3, rn_two h3 (by simp)⟩
  · rw [if_neg h0] at hl ⊢
    simp only [List.length_append, List.length_cons, List.length_nil, List.length_map, List.length_range] at hl
    obtain ⟨b1, e1, h1⟩ := rn_append' hb (by omega) hg
    rw [e1, Option.bind_some]
    rw [if_neg (by first | omega | (simp (disch := omega) only [z_lt, z_le, z_eq, z_cl, z_ad, z_mu, z_sb, z_n1, z_em, z_me, z_lm, z_ml, z_mle, z_lme, z_ma, z_am, z_m2, not_false_eq_true, z_l0, z_l1, z_l2, z_l3, z_l4, z_l5, z_l6, z_l7, z_l8, z_l10, z_l14, z_l15, z_l16, z_l32, z_l80, z_l101, z_l120, z_l126, z_l127, z_l130, z_l160, z_l198, z_l200, z_l202, z_l240, z_l252, z_l253, z_l254, z_l255, z_l260, z_l480, z_l900, Rd_nodes, Rd_ends, Rd_isOpen, Rd_counts, Rd_lastTags, Rd_syntax, Rd_position, Rd_level, Rd_result, Rd_set_nodes, Rd_set_ends, Rd_set_isOpen, Rd_set_counts, Rd_set_lastTags, Rd_set_syntax, Rd_set_position, Rd_set_level, Rd_set_result, Tr_tags, Tr_behind, Tr_values, Tr_lengths, Tr_characters, Tr_count, Tr_characterCount, Tr_set_tags, Tr_set_behind, Tr_set_values, Tr_set_lengths, Tr_set_characters, Tr_set_count, Tr_set_characterCount, Bs_n, Bs_values, Bs_count, Bs_set_n, Bs_set_values, Bs_set_count] <;> omega))]
    obtain ⟨b3, e3, h3⟩ := key b1 _ h1 (by simp; omega)
    exact ⟨b3, e3, rn_two h3 (by simp)⟩
end CWR
/-! the class's tree -/
theorem rt_B {t : S_Tr} {nd : List Nd} {tg bh vs ls cs : Nat → Int32} (h : rtB bh nd []) {k : Nat} (hk : k < nd.length) : bh k = nI (bhf nd k) := by
  obtain ⟨b, h1, h2⟩ := h k hk (by simp)
  rw [h1, isB_uniq h2 (bhf_isB hk)]
section CWT
variable {nd : List Nd} {tg bh vs ls cs : Nat → Int32} {cc : Int32} {syn k : Nat}
theorem c_vlStep (K : Int32 × Int32 × Int32 × Int32 → Option Int32) (hw : wfA nd) (hlen : nd.length ≤ 101) (hT : rtT tg vs ls nd) (hsy : syn ≤ 1) {i a : Nat} (hi : i < nd.length) (hk : k < nd.length) (ha : a < 10000) : B_Tr_valueLength_16 K (tg, bh, vs, ls, cs, nI nd.length, cc) (nI k) (nI syn) (nI a) (nI i) = K (nI k, nI syn, nI (a + (if i ≤ k then 0 else hd syn (nT nd i)) + ow nd i), nI (i + 1)) := by
  obtain ⟨t1, t2, t3⟩ := hT i hi
  have hg := nT_lt hw i
  have hx := xl_le hw i
  have hk4 := kd_le (nT nd i)
  unfold B_Tr_valueLength_16
  rw [if_neg (by first | omega | (simp (disch := omega) only [z_lt, z_le, z_eq, z_cl, z_ad, z_mu, z_sb, z_n1, z_em, z_me, z_lm, z_ml, z_mle, z_lme, z_ma, z_am, z_m2, not_false_eq_true, z_l0, z_l1, z_l2, z_l3, z_l4, z_l5, z_l6, z_l7, z_l8, z_l10, z_l14, z_l15, z_l16, z_l32, z_l80, z_l101, z_l120, z_l126, z_l127, z_l130, z_l160, z_l198, z_l200, z_l202, z_l240, z_l252, z_l253, z_l254, z_l255, z_l260, z_l480, z_l900, Rd_nodes, Rd_ends, Rd_isOpen, Rd_counts, Rd_lastTags, Rd_syntax, Rd_position, Rd_level, Rd_result, Rd_set_nodes, Rd_set_ends, Rd_set_isOpen, Rd_set_counts, Rd_set_lastTags, Rd_set_syntax, Rd_set_position, Rd_set_level, Rd_set_result, Tr_tags, Tr_behind, Tr_values, Tr_lengths, Tr_characters, Tr_count, Tr_characterCount, Tr_set_tags, Tr_set_behind, Tr_set_values, Tr_set_lengths, Tr_set_characters, Tr_set_count, Tr_set_characterCount, Bs_n, Bs_values, Bs_count, Bs_set_n, Bs_set_values, Bs_set_count] <;> omega))]
  dsimp only [Tr_tags]
  rw [z_cl (by omega), t1, c_kindOf _ hg, Option.bind_some]
  have key : ∀ a : Nat, a < 20000 → B_Tr_valueLength_52 K (tg, bh, vs, ls, cs, nI nd.length, cc) (nI k) (nI syn) (nI a) (nI i) (nI (kd (nT nd i))) = K (nI k, nI syn, nI (a + ow nd i), nI (i + 1)) := by
    intro a ha
    unfold B_Tr_valueLength_52 ow
    by_cases h2 : kd (nT nd i) = 2
    · rw [if_pos (by first | omega | (simp (disch := omega) only [z_lt, z_le, z_eq, z_cl, z_ad, z_mu, z_sb, z_n1, z_em, z_me, z_lm, z_ml, z_mle, z_lme, z_ma, z_am, z_m2, not_false_eq_true, z_l0, z_l1, z_l2, z_l3, z_l4, z_l5, z_l6, z_l7, z_l8, z_l10, z_l14, z_l15, z_l16, z_l32, z_l80, z_l101, z_l120, z_l126, z_l127, z_l130, z_l160, z_l198, z_l200, z_l202, z_l240, z_l252, z_l253, z_l254, z_l255, z_l260, z_l480, z_l900, Rd_nodes, Rd_ends, Rd_isOpen, Rd_counts, Rd_lastTags, Rd_syntax, Rd_position, Rd_level, Rd_result, Rd_set_nodes, Rd_set_ends, Rd_set_isOpen, Rd_set_counts, Rd_set_lastTags, Rd_set_syntax, Rd_set_position, Rd_set_level, Rd_set_result, Tr_tags, Tr_behind, Tr_values, Tr_lengths, Tr_characters, Tr_count, Tr_characterCount, Tr_set_tags, Tr_set_behind, Tr_set_values, Tr_set_lengths, Tr_set_characters, Tr_set_count, Tr_set_characterCount, Bs_n, Bs_values, Bs_count, Bs_set_n, Bs_set_values, Bs_set_count, h2] <;> omega))]
      unfold B_Tr_valueLength_59
      rw [if_neg (by first | omega | (simp (disch := omega) only [z_lt, z_le, z_eq, z_cl, z_ad, z_mu, z_sb, z_n1, z_em, z_me, z_lm, z_ml, z_mle, z_lme, z_ma, z_am, z_m2, not_false_eq_true, z_l0, z_l1, z_l2, z_l3, z_l4, z_l5, z_l6, z_l7, z_l8, z_l10, z_l14, z_l15, z_l16, z_l32, z_l80, z_l101, z_l120, z_l126, z_l127, z_l130, z_l160, z_l198, z_l200, z_l202, z_l240, z_l252, z_l253, z_l254, z_l255, z_l260, z_l480, z_l900, Rd_nodes, Rd_ends, Rd_isOpen, Rd_counts, Rd_lastTags, Rd_syntax, Rd_position, Rd_level, Rd_result, Rd_set_nodes, Rd_set_ends, Rd_set_isOpen, Rd_set_counts, Rd_set_lastTags, Rd_set_syntax, Rd_set_position, Rd_set_level, Rd_set_result, Tr_tags, Tr_behind, Tr_values, Tr_lengths, Tr_characters, Tr_count, Tr_characterCount, Tr_set_tags, Tr_set_behind, Tr_set_values, Tr_set_lengths, Tr_set_characters, Tr_set_count, Tr_set_characterCount, Bs_n, Bs_values, Bs_count, Bs_set_n, Bs_set_values, Bs_set_count] <;> omega))]
      rw [if_neg (by first | omega | (simp (disch := omega) only [z_lt, z_le, z_eq, z_cl, z_ad, z_mu, z_sb, z_n1, z_em, z_me, z_lm, z_ml, z_mle, z_lme, z_ma, z_am, z_m2, not_false_eq_true, z_l0, z_l1, z_l2, z_l3, z_l4, z_l5, z_l6, z_l7, z_l8, z_l10, z_l14, z_l15, z_l16, z_l32, z_l80, z_l101, z_l120, z_l126, z_l127, z_l130, z_l160, z_l198, z_l200, z_l202, z_l240, z_l252, z_l253, z_l254, z_l255, z_l260, z_l480, z_l900, Rd_nodes, Rd_ends, Rd_isOpen, Rd_counts, Rd_lastTags, Rd_syntax, Rd_position, Rd_level, Rd_result, Rd_set_nodes, Rd_set_ends, Rd_set_isOpen, Rd_set_counts, Rd_set_lastTags, Rd_set_syntax, Rd_set_position, Rd_set_level, Rd_set_result, Tr_tags, Tr_behind, Tr_values, Tr_lengths, Tr_characters, Tr_count, Tr_characterCount, Tr_set_tags, Tr_set_behind, Tr_set_values, Tr_set_lengths, Tr_set_characters, Tr_set_count, Tr_set_characterCount, Bs_n, Bs_values, Bs_count, Bs_set_n, Bs_set_values, Bs_set_count] <;> omega))]
      unfold B_Tr_valueLength_86
      rw [if_pos h2]
      simp (disch := omega) only [z_lt, z_le, z_eq, z_cl, z_ad, z_mu, z_sb, z_n1, z_em, z_me, z_lm, z_ml, z_mle, z_lme, z_ma, z_am, z_m2, not_false_eq_true, z_l0, z_l1, z_l2, z_l3, z_l4, z_l5, z_l6, z_l7, z_l8, z_l10, z_l14, z_l15, z_l16, z_l32, z_l80, z_l101, z_l120, z_l126, z_l127, z_l130, z_l160, z_l198, z_l200, z_l202, z_l240, z_l252, z_l253, z_l254, z_l255, z_l260, z_l480, z_l900, Rd_nodes, Rd_ends, Rd_isOpen, Rd_counts, Rd_lastTags, Rd_syntax, Rd_position, Rd_level, Rd_result, Rd_set_nodes, Rd_set_ends, Rd_set_isOpen, Rd_set_counts, Rd_set_lastTags, Rd_set_syntax, Rd_set_position, Rd_set_level, Rd_set_result, Tr_tags, Tr_behind, Tr_values, Tr_lengths, Tr_characters, Tr_count, Tr_characterCount, Tr_set_tags, Tr_set_behind, Tr_set_values, Tr_set_lengths, Tr_set_characters, Tr_set_count, Tr_set_characterCount, Bs_n, Bs_values, Bs_count, Bs_set_n, Bs_set_values, Bs_set_count, t3]
    · rw [if_neg (by first | omega | (simp (disch := omega) only [z_lt, z_le, z_eq, z_cl, z_ad, z_mu, z_sb, z_n1, z_em, z_me, z_lm, z_ml, z_mle, z_lme, z_ma, z_am, z_m2, not_false_eq_true, z_l0, z_l1, z_l2, z_l3, z_l4, z_l5, z_l6, z_l7, z_l8, z_l10, z_l14, z_l15, z_l16, z_l32, z_l80, z_l101, z_l120, z_l126, z_l127, z_l130, z_l160, z_l198, z_l200, z_l202, z_l240, z_l252, z_l253, z_l254, z_l255, z_l260, z_l480, z_l900, Rd_nodes, Rd_ends, Rd_isOpen, Rd_counts, Rd_lastTags, Rd_syntax, Rd_position, Rd_level, Rd_result, Rd_set_nodes, Rd_set_ends, Rd_set_isOpen, Rd_set_counts, Rd_set_lastTags, Rd_set_syntax, Rd_set_position, Rd_set_level, Rd_set_result, Tr_tags, Tr_behind, Tr_values, Tr_lengths, Tr_characters, Tr_count, Tr_characterCount, Tr_set_tags, Tr_set_behind, Tr_set_values, Tr_set_lengths, Tr_set_characters, Tr_set_count, Tr_set_characterCount, Bs_n, Bs_values, Bs_count, Bs_set_n, Bs_set_values, Bs_set_count, h2] <;> omega))]
      unfold B_Tr_valueLength_79
      rw [if_neg (by first | omega | (simp (disch := omega) only [z_lt, z_le, z_eq, z_cl, z_ad, z_mu, z_sb, z_n1, z_em, z_me, z_lm, z_ml, z_mle, z_lme, z_ma, z_am, z_m2, not_false_eq_true, z_l0, z_l1, z_l2, z_l3, z_l4, z_l5, z_l6, z_l7, z_l8, z_l10, z_l14, z_l15, z_l16, z_l32, z_l80, z_l101, z_l120, z_l126, z_l127, z_l130, z_l160, z_l198, z_l200, z_l202, z_l240, z_l252, z_l253, z_l254, z_l255, z_l260, z_l480, z_l900, Rd_nodes, Rd_ends, Rd_isOpen, Rd_counts, Rd_lastTags, Rd_syntax, Rd_position, Rd_level, Rd_result, Rd_set_nodes, Rd_set_ends, Rd_set_isOpen, Rd_set_counts, Rd_set_lastTags, Rd_set_syntax, Rd_set_position, Rd_set_level, Rd_set_result, Tr_tags, Tr_behind, Tr_values, Tr_lengths, Tr_characters, Tr_count, Tr_characterCount, Tr_set_tags, Tr_set_behind, Tr_set_values, Tr_set_lengths, Tr_set_characters, Tr_set_count, Tr_set_characterCount, Bs_n, Bs_values, Bs_count, Bs_set_n, Bs_set_values, Bs_set_count] <;> omega))]
      unfold B_Tr_valueLength_86
      rw [if_neg h2]
      simp (disch := omega) only [z_lt, z_le, z_eq, z_cl, z_ad, z_mu, z_sb, z_n1, z_em, z_me, z_lm, z_ml, z_mle, z_lme, z_ma, z_am, z_m2, not_false_eq_true, z_l0, z_l1, z_l2, z_l3, z_l4, z_l5, z_l6, z_l7, z_l8, z_l10, z_l14, z_l15, z_l16, z_l32, z_l80, z_l101, z_l120, z_l126, z_l127, z_l130, z_l160, z_l198, z_l200, z_l202, z_l240, z_l252, z_l253, z_l254, z_l255, z_l260, z_l480, z_l900, Rd_nodes, Rd_ends, Rd_isOpen, Rd_counts, Rd_lastTags, Rd_syntax, Rd_position, Rd_level, Rd_result, Rd_set_nodes, Rd_set_ends, Rd_set_isOpen, Rd_set_counts, Rd_set_lastTags, Rd_set_syntax, Rd_set_position, Rd_set_level, Rd_set_result, Tr_tags, Tr_behind, Tr_values, Tr_lengths, Tr_characters, Tr_count, Tr_characterCount, Tr_set_tags, Tr_set_behind, Tr_set_values, Tr_set_lengths, Tr_set_characters, Tr_set_count, Tr_set_characterCount, Bs_n, Bs_values, Bs_count, Bs_set_n, Bs_set_values, Bs_set_count, t3]
  by_cases c1 : i ≤ k
  · rw [if_pos c1]
    rw [if_pos (by first | omega | (simp (disch := omega) only [z_lt, z_le, z_eq, z_cl, z_ad, z_mu, z_sb, z_n1, z_em, z_me, z_lm, z_ml, z_mle, z_lme, z_ma, z_am, z_m2, not_false_eq_true, z_l0, z_l1, z_l2, z_l3, z_l4, z_l5, z_l6, z_l7, z_l8, z_l10, z_l14, z_l15, z_l16, z_l32, z_l80, z_l101, z_l120, z_l126, z_l127, z_l130, z_l160, z_l198, z_l200, z_l202, z_l240, z_l252, z_l253, z_l254, z_l255, z_l260, z_l480, z_l900, Rd_nodes, Rd_ends, Rd_isOpen, Rd_counts, Rd_lastTags, Rd_syntax, Rd_position, Rd_level, Rd_result, Rd_set_nodes, Rd_set_ends, Rd_set_isOpen, Rd_set_counts, Rd_set_lastTags, Rd_set_syntax, Rd_set_position, Rd_set_level, Rd_set_result, Tr_tags, Tr_behind, Tr_values, Tr_lengths, Tr_characters, Tr_count, Tr_characterCount, Tr_set_tags, Tr_set_behind, Tr_set_values, Tr_set_lengths, Tr_set_characters, Tr_set_count, Tr_set_characterCount, Bs_n, Bs_values, Bs_count, Bs_set_n, Bs_set_values, Bs_set_count] <;> omega))]
    rw [key a (by omega)]
    rfl
  · rw [if_neg c1]
    rw [if_neg (by first | omega | (simp (disch := omega) only [z_lt, z_le, z_eq, z_cl, z_ad, z_mu, z_sb, z_n1, z_em, z_me, z_lm, z_ml, z_mle, z_lme, z_ma, z_am, z_m2, not_false_eq_true, z_l0, z_l1, z_l2, z_l3, z_l4, z_l5, z_l6, z_l7, z_l8, z_l10, z_l14, z_l15, z_l16, z_l32, z_l80, z_l101, z_l120, z_l126, z_l127, z_l130, z_l160, z_l198, z_l200, z_l202, z_l240, z_l252, z_l253, z_l254, z_l255, z_l260, z_l480, z_l900, Rd_nodes, Rd_ends, Rd_isOpen, Rd_counts, Rd_lastTags, Rd_syntax, Rd_position, Rd_level, Rd_result, Rd_set_nodes, Rd_set_ends, Rd_set_isOpen, Rd_set_counts, Rd_set_lastTags, Rd_set_syntax, Rd_set_position, Rd_set_level, Rd_set_result, Tr_tags, Tr_behind, Tr_values, Tr_lengths, Tr_characters, Tr_count, Tr_characterCount, Tr_set_tags, Tr_set_behind, Tr_set_values, Tr_set_lengths, Tr_set_characters, Tr_set_count, Tr_set_characterCount, Bs_n, Bs_values, Bs_count, Bs_set_n, Bs_set_values, Bs_set_count] <;> omega))]
    unfold B_Tr_valueLength_34
    have k49 : B_Tr_valueLength_49 K (tg, bh, vs, ls, cs, nI nd.length, cc) (nI k) (nI syn) (nI i) (nI (kd (nT nd i))) (nI a) = K (nI k, nI syn, nI (a + 2 + ow nd i), nI (i + 1)) := by
      unfold B_Tr_valueLength_49 B_Tr_valueLength_50
      rw [show nI a + (2 : Int32) = nI (a + 2) from z_ad a 2]
      exact key (a + 2) (by omega)
    unfold hd
    by_cases c2 : syn = 0
    · rw [if_pos (by first | omega | (simp (disch := omega) only [z_lt, z_le, z_eq, z_cl, z_ad, z_mu, z_sb, z_n1, z_em, z_me, z_lm, z_ml, z_mle, z_lme, z_ma, z_am, z_m2, not_false_eq_true, z_l0, z_l1, z_l2, z_l3, z_l4, z_l5, z_l6, z_l7, z_l8, z_l10, z_l14, z_l15, z_l16, z_l32, z_l80, z_l101, z_l120, z_l126, z_l127, z_l130, z_l160, z_l198, z_l200, z_l202, z_l240, z_l252, z_l253, z_l254, z_l255, z_l260, z_l480, z_l900, Rd_nodes, Rd_ends, Rd_isOpen, Rd_counts, Rd_lastTags, Rd_syntax, Rd_position, Rd_level, Rd_result, Rd_set_nodes, Rd_set_ends, Rd_set_isOpen, Rd_set_counts, Rd_set_lastTags, Rd_set_syntax, Rd_set_position, Rd_set_level, Rd_set_result, Tr_tags, Tr_behind, Tr_values, Tr_lengths, Tr_characters, Tr_count, Tr_characterCount, Tr_set_tags, Tr_set_behind, Tr_set_values, Tr_set_lengths, Tr_set_characters, Tr_set_count, Tr_set_characterCount, Bs_n, Bs_values, Bs_count, Bs_set_n, Bs_set_values, Bs_set_count, c2] <;> omega))]
      unfold B_Tr_valueLength_39
      by_cases c3 : kd (nT nd i) = 4
      · rw [if_pos (by first | omega | (simp (disch := omega) only [z_lt, z_le, z_eq, z_cl, z_ad, z_mu, z_sb, z_n1, z_em, z_me, z_lm, z_ml, z_mle, z_lme, z_ma, z_am, z_m2, not_false_eq_true, z_l0, z_l1, z_l2, z_l3, z_l4, z_l5, z_l6, z_l7, z_l8, z_l10, z_l14, z_l15, z_l16, z_l32, z_l80, z_l101, z_l120, z_l126, z_l127, z_l130, z_l160, z_l198, z_l200, z_l202, z_l240, z_l252, z_l253, z_l254, z_l255, z_l260, z_l480, z_l900, Rd_nodes, Rd_ends, Rd_isOpen, Rd_counts, Rd_lastTags, Rd_syntax, Rd_position, Rd_level, Rd_result, Rd_set_nodes, Rd_set_ends, Rd_set_isOpen, Rd_set_counts, Rd_set_lastTags, Rd_set_syntax, Rd_set_position, Rd_set_level, Rd_set_result, Tr_tags, Tr_behind, Tr_values, Tr_lengths, Tr_characters, Tr_count, Tr_characterCount, Tr_set_tags, Tr_set_behind, Tr_set_values, Tr_set_lengths, Tr_set_characters, Tr_set_count, Tr_set_characterCount, Bs_n, Bs_values, Bs_count, Bs_set_n, Bs_set_values, Bs_set_count, c3] <;> omega))]
        rw [if_neg (fun e => e.2 c3)]
        exact k49
      · rw [if_neg (by first | omega | (simp (disch := omega) only [z_lt, z_le, z_eq, z_cl, z_ad, z_mu, z_sb, z_n1, z_em, z_me, z_lm, z_ml, z_mle, z_lme, z_ma, z_am, z_m2, not_false_eq_true, z_l0, z_l1, z_l2, z_l3, z_l4, z_l5, z_l6, z_l7, z_l8, z_l10, z_l14, z_l15, z_l16, z_l32, z_l80, z_l101, z_l120, z_l126, z_l127, z_l130, z_l160, z_l198, z_l200, z_l202, z_l240, z_l252, z_l253, z_l254, z_l255, z_l260, z_l480, z_l900, Rd_nodes, Rd_ends, Rd_isOpen, Rd_counts, Rd_lastTags, Rd_syntax, Rd_position, Rd_level, Rd_result, Rd_set_nodes, Rd_set_ends, Rd_set_isOpen, Rd_set_counts, Rd_set_lastTags, Rd_set_syntax, Rd_set_position, Rd_set_level, Rd_set_result, Tr_tags, Tr_behind, Tr_values, Tr_lengths, Tr_characters, Tr_count, Tr_characterCount, Tr_set_tags, Tr_set_behind, Tr_set_values, Tr_set_lengths, Tr_set_characters, Tr_set_count, Tr_set_characterCount, Bs_n, Bs_values, Bs_count, Bs_set_n, Bs_set_values, Bs_set_count, c3] <;> omega))]
        rw [if_pos ⟨c2, c3⟩]
        unfold B_Tr_valueLength_45 B_Tr_valueLength_50
        rw [show nI a + (3 : Int32) = nI (a + 3) from z_ad a 3]
        exact key (a + 3) (by omega)
    · rw [if_neg (by first | omega | (simp (disch := omega) only [z_lt, z_le, z_eq, z_cl, z_ad, z_mu, z_sb, z_n1, z_em, z_me, z_lm, z_ml, z_mle, z_lme, z_ma, z_am, z_m2, not_false_eq_true, z_l0, z_l1, z_l2, z_l3, z_l4, z_l5, z_l6, z_l7, z_l8, z_l10, z_l14, z_l15, z_l16, z_l32, z_l80, z_l101, z_l120, z_l126, z_l127, z_l130, z_l160, z_l198, z_l200, z_l202, z_l240, z_l252, z_l253, z_l254, z_l255, z_l260, z_l480, z_l900, Rd_nodes, Rd_ends, Rd_isOpen, Rd_counts, Rd_lastTags, Rd_syntax, Rd_position, Rd_level, Rd_result, Rd_set_nodes, Rd_set_ends, Rd_set_isOpen, Rd_set_counts, Rd_set_lastTags, Rd_set_syntax, Rd_set_position, Rd_set_level, Rd_set_result, Tr_tags, Tr_behind, Tr_values, Tr_lengths, Tr_characters, Tr_count, Tr_characterCount, Tr_set_tags, Tr_set_behind, Tr_set_values, Tr_set_lengths, Tr_set_characters, Tr_set_count, Tr_set_characterCount, Bs_n, Bs_values, Bs_count, Bs_set_n, Bs_set_values, Bs_set_count, c2] <;> omega))]
      rw [if_neg (fun e => c2 e.1)]
      exact k49
theorem c_valueLength (hw : wfA nd) (hlen : nd.length ≤ 101) (hT : rtT tg vs ls nd) (hB : rtB bh nd []) (hsy : syn ≤ 1) (hk : k < nd.length) : F_Tr_valueLength (tg, bh, vs, ls, cs, nI nd.length, cc) (nI k) (nI syn) = some (nI (vln syn nd k)) := by
  have hb := bhf_lt hk
  have hbk := rt_B (t := (tg, bh, vs, ls, cs, nI nd.length, cc)) (tg := tg) (vs := vs) (ls := ls) (cs := cs) hB hk
  have stp : ∀ (K : Int32 × Int32 × Int32 × Int32 → Option Int32) (i a : Nat), i < bhf nd k → a < 10000 → B_Tr_valueLength_5 K (tg, bh, vs, ls, cs, nI nd.length, cc) (nI k) (nI syn) (nI a) (nI i) = K (nI k, nI syn, nI (a + (if i ≤ k then 0 else hd syn (nT nd i)) + ow nd i), nI (i + 1)) := by
    intro K i a h1 h2
    unfold B_Tr_valueLength_5
    rw [if_neg (by first | omega | (simp (disch := omega) only [z_lt, z_le, z_eq, z_cl, z_ad, z_mu, z_sb, z_n1, z_em, z_me, z_lm, z_ml, z_mle, z_lme, z_ma, z_am, z_m2, not_false_eq_true, z_l0, z_l1, z_l2, z_l3, z_l4, z_l5, z_l6, z_l7, z_l8, z_l10, z_l14, z_l15, z_l16, z_l32, z_l80, z_l101, z_l120, z_l126, z_l127, z_l130, z_l160, z_l198, z_l200, z_l202, z_l240, z_l252, z_l253, z_l254, z_l255, z_l260, z_l480, z_l900, Rd_nodes, Rd_ends, Rd_isOpen, Rd_counts, Rd_lastTags, Rd_syntax, Rd_position, Rd_level, Rd_result, Rd_set_nodes, Rd_set_ends, Rd_set_isOpen, Rd_set_counts, Rd_set_lastTags, Rd_set_syntax, Rd_set_position, Rd_set_level, Rd_set_result, Tr_tags, Tr_behind, Tr_values, Tr_lengths, Tr_characters, Tr_count, Tr_characterCount, Tr_set_tags, Tr_set_behind, Tr_set_values, Tr_set_lengths, Tr_set_characters, Tr_set_count, Tr_set_characterCount, Bs_n, Bs_values, Bs_count, Bs_set_n, Bs_set_values, Bs_set_count] <;> omega))]
    rw [if_neg (by first | omega | (simp (disch := omega) only [z_lt, z_le, z_eq, z_cl, z_ad, z_mu, z_sb, z_n1, z_em, z_me, z_lm, z_ml, z_mle, z_lme, z_ma, z_am, z_m2, not_false_eq_true, z_l0, z_l1, z_l2, z_l3, z_l4, z_l5, z_l6, z_l7, z_l8, z_l10, z_l14, z_l15, z_l16, z_l32, z_l80, z_l101, z_l120, z_l126, z_l127, z_l130, z_l160, z_l198, z_l200, z_l202, z_l240, z_l252, z_l253, z_l254, z_l255, z_l260, z_l480, z_l900, Rd_nodes, Rd_ends, Rd_isOpen, Rd_counts, Rd_lastTags, Rd_syntax, Rd_position, Rd_level, Rd_result, Rd_set_nodes, Rd_set_ends, Rd_set_isOpen, Rd_set_counts, Rd_set_lastTags, Rd_set_syntax, Rd_set_position, Rd_set_level, Rd_set_result, Tr_tags, Tr_behind, Tr_values, Tr_lengths, Tr_characters, Tr_count, Tr_characterCount, Tr_set_tags, Tr_set_behind, Tr_set_values, Tr_set_lengths, Tr_set_characters, Tr_set_count, Tr_set_characterCount, Bs_n, Bs_values, Bs_count, Bs_set_n, Bs_set_values, Bs_set_count, hbk] <;> omega))]
    exact c_vlStep K hw hlen hT hsy (by omega) hk h2
  have loop : ∀ (j m f : Nat), k + 1 + m + j = bhf nd k → j < f → lp (fun k5 v => B_Tr_valueLength_5 k5 (tg, bh, vs, ls, cs, nI nd.length, cc) v.1 v.2.1 v.2.2.1 v.2.2.2) f (nI k, nI syn, nI (ow nd k + wS syn nd (k + 1) m), nI (k + 1 + m)) = some (nI (vln syn nd k)) := by
    intro j
    induction j with
    | zero =>
      intro m f h1 hf
      obtain ⟨f', rfl⟩ : ∃ f', f = f' + 1 := ⟨f - 1, by omega⟩
      show B_Tr_valueLength_5 _ (tg, bh, vs, ls, cs, nI nd.length, cc) (nI k) (nI syn) (nI (ow nd k + wS syn nd (k + 1) m)) (nI (k + 1 + m)) = _
      unfold B_Tr_valueLength_5
      rw [if_neg (by first | omega | (simp (disch := omega) only [z_lt, z_le, z_eq, z_cl, z_ad, z_mu, z_sb, z_n1, z_em, z_me, z_lm, z_ml, z_mle, z_lme, z_ma, z_am, z_m2, not_false_eq_true, z_l0, z_l1, z_l2, z_l3, z_l4, z_l5, z_l6, z_l7, z_l8, z_l10, z_l14, z_l15, z_l16, z_l32, z_l80, z_l101, z_l120, z_l126, z_l127, z_l130, z_l160, z_l198, z_l200, z_l202, z_l240, z_l252, z_l253, z_l254, z_l255, z_l260, z_l480, z_l900, Rd_nodes, Rd_ends, Rd_isOpen, Rd_counts, Rd_lastTags, Rd_syntax, Rd_position, Rd_level, Rd_result, Rd_set_nodes, Rd_set_ends, Rd_set_isOpen, Rd_set_counts, Rd_set_lastTags, Rd_set_syntax, Rd_set_position, Rd_set_level, Rd_set_result, Tr_tags, Tr_behind, Tr_values, Tr_lengths, Tr_characters, Tr_count, Tr_characterCount, Tr_set_tags, Tr_set_behind, Tr_set_values, Tr_set_lengths, Tr_set_characters, Tr_set_count, Tr_set_characterCount, Bs_n, Bs_values, Bs_count, Bs_set_n, Bs_set_values, Bs_set_count] <;> omega))]
      rw [if_pos (by first | omega | (simp (disch := omega) only [z_lt, z_le, z_eq, z_cl, z_ad, z_mu, z_sb, z_n1, z_em, z_me, z_lm, z_ml, z_mle, z_lme, z_ma, z_am, z_m2, not_false_eq_true, z_l0, z_l1, z_l2, z_l3, z_l4, z_l5, z_l6, z_l7, z_l8, z_l10, z_l14, z_l15, z_l16, z_l32, z_l80, z_l101, z_l120, z_l126, z_l127, z_l130, z_l160, z_l198, z_l200, z_l202, z_l240, z_l252, z_l253, z_l254, z_l255, z_l260, z_l480, z_l900, Rd_nodes, Rd_ends, Rd_isOpen, Rd_counts, Rd_lastTags, Rd_syntax, Rd_position, Rd_level, Rd_result, Rd_set_nodes, Rd_set_ends, Rd_set_isOpen, Rd_set_counts, Rd_set_lastTags, Rd_set_syntax, Rd_set_position, Rd_set_level, Rd_set_result, Tr_tags, Tr_behind, Tr_values, Tr_lengths, Tr_characters, Tr_count, Tr_characterCount, Tr_set_tags, Tr_set_behind, Tr_set_values, Tr_set_lengths, Tr_set_characters, Tr_set_count, Tr_set_characterCount, Bs_n, Bs_values, Bs_count, Bs_set_n, Bs_set_values, Bs_set_count, hbk] <;> omega))]
      unfold B_Tr_valueLength_94 vln
      rw [show bhf nd k - (k + 1) = m by omega]
    | succ j ih =>
      intro m f h1 hf
      obtain ⟨f', rfl⟩ : ∃ f', f = f' + 1 := ⟨f - 1, by omega⟩
      show B_Tr_valueLength_5 _ (tg, bh, vs, ls, cs, nI nd.length, cc) (nI k) (nI syn) (nI (ow nd k + wS syn nd (k + 1) m)) (nI (k + 1 + m)) = _
      have h3 := wS_le (syn := syn) hw (k + 1) m
      have h4 := ow_le hw k
      rw [stp _ _ _ (by omega) (by omega), if_neg (by omega)]
      have := ih (m + 1) f' (by omega) (by omega)
      rw [show ow nd k + wS syn nd (k + 1) m + hd syn (nT nd (k + 1 + m)) + ow nd (k + 1 + m) = ow nd k + wS syn nd (k + 1) (m + 1) by rw [wS_s]; omega]
      exact this
  unfold F_Tr_valueLength B_Tr_valueLength_0 L_Tr_valueLength_5
  rw [show (0 : Int32) = nI 0 from rfl, show FU = 99999 + 1 from rfl]
  show B_Tr_valueLength_5 _ (tg, bh, vs, ls, cs, nI nd.length, cc) (nI k) (nI syn) (nI 0) (nI k) = _
  rw [stp _ _ _ (by omega) (by omega), if_pos (Nat.le_refl k)]
  have := loop (bhf nd k - (k + 1)) 0 99999 (by omega) (by omega)
  rw [show 0 + 0 + ow nd k = ow nd k + wS syn nd (k + 1) 0 by unfold wS; omega]
  exact this
theorem c_character {i : Nat} (hlen : nd.length ≤ 101) (hcl : (ch nd).length ≤ 200) (hT : rtT tg vs ls nd) (hC : rtC cs nd) (hk : k < nd.length) (h2 : kd (nT nd k) = 2) (hi : i < (nX nd k).length) : F_Tr_character (tg, bh, vs, ls, cs, nI nd.length, nI (ch nd).length) (nI k) (nI i) = some (nI ((nX nd k).getD i 0)) := by
  obtain ⟨t1, t2, t3⟩ := hT k hk
  have hx : xv nd k = nI (ch (nd.take k)).length := by
    unfold xv
    rw [if_neg (by omega), if_pos h2]
  rw [hx] at t2
  have hnd : nd = nd.take k ++ (nG nd k :: nd.drop (k + 1)) := by
    have : nG nd k = nd[k] := by unfold nG; simp [List.getD, hk]
    rw [this, List.getElem_cons_drop, List.take_append_drop]
  have hch : ch nd = ch (nd.take k) ++ (nX nd k ++ ch (nd.drop (k + 1))) := by
    have e : ch nd = ch (nd.take k ++ (nG nd k :: nd.drop (k + 1))) := congrArg ch hnd
    rw [e]
    unfold ch nX
    rw [List.flatMap_append, List.flatMap_cons]
  have hlt : (ch (nd.take k)).length + (nX nd k).length ≤ (ch nd).length := by
    rw [hch]
    simp only [List.length_append]
    omega
  unfold F_Tr_character B_Tr_character_0
  rw [if_neg (by first | omega | (simp (disch := omega) only [z_lt, z_le, z_eq, z_cl, z_ad, z_mu, z_sb, z_n1, z_em, z_me, z_lm, z_ml, z_mle, z_lme, z_ma, z_am, z_m2, not_false_eq_true, z_l0, z_l1, z_l2, z_l3, z_l4, z_l5, z_l6, z_l7, z_l8, z_l10, z_l14, z_l15, z_l16, z_l32, z_l80, z_l101, z_l120, z_l126, z_l127, z_l130, z_l160, z_l198, z_l200, z_l202, z_l240, z_l252, z_l253, z_l254, z_l255, z_l260, z_l480, z_l900, Rd_nodes, Rd_ends, Rd_isOpen, Rd_counts, Rd_lastTags, Rd_syntax, Rd_position, Rd_level, Rd_result, Rd_set_nodes, Rd_set_ends, Rd_set_isOpen, Rd_set_counts, Rd_set_lastTags, Rd_set_syntax, Rd_set_position, Rd_set_level, Rd_set_result, Tr_tags, Tr_behind, Tr_values, Tr_lengths, Tr_characters, Tr_count, Tr_characterCount, Tr_set_tags, Tr_set_behind, Tr_set_values, Tr_set_lengths, Tr_set_characters, Tr_set_count, Tr_set_characterCount, Bs_n, Bs_values, Bs_count, Bs_set_n, Bs_set_values, Bs_set_count] <;> omega))]
  unfold B_Tr_character_4
  rw [if_neg (by first | omega | (simp (disch := omega) only [z_lt, z_le, z_eq, z_cl, z_ad, z_mu, z_sb, z_n1, z_em, z_me, z_lm, z_ml, z_mle, z_lme, z_ma, z_am, z_m2, not_false_eq_true, z_l0, z_l1, z_l2, z_l3, z_l4, z_l5, z_l6, z_l7, z_l8, z_l10, z_l14, z_l15, z_l16, z_l32, z_l80, z_l101, z_l120, z_l126, z_l127, z_l130, z_l160, z_l198, z_l200, z_l202, z_l240, z_l252, z_l253, z_l254, z_l255, z_l260, z_l480, z_l900, Rd_nodes, Rd_ends, Rd_isOpen, Rd_counts, Rd_lastTags, Rd_syntax, Rd_position, Rd_level, Rd_result, Rd_set_nodes, Rd_set_ends, Rd_set_isOpen, Rd_set_counts, Rd_set_lastTags, Rd_set_syntax, Rd_set_position, Rd_set_level, Rd_set_result, Tr_tags, Tr_behind, Tr_values, Tr_lengths, Tr_characters, Tr_count, Tr_characterCount, Tr_set_tags, Tr_set_behind, Tr_set_values, Tr_set_lengths, Tr_set_characters, Tr_set_count, Tr_set_characterCount, Bs_n, Bs_values, Bs_count, Bs_set_n, Bs_set_values, Bs_set_count] <;> omega))]
  unfold B_Tr_character_12
  rw [if_neg (by first | omega | (simp (disch := omega) only [z_lt, z_le, z_eq, z_cl, z_ad, z_mu, z_sb, z_n1, z_em, z_me, z_lm, z_ml, z_mle, z_lme, z_ma, z_am, z_m2, not_false_eq_true, z_l0, z_l1, z_l2, z_l3, z_l4, z_l5, z_l6, z_l7, z_l8, z_l10, z_l14, z_l15, z_l16, z_l32, z_l80, z_l101, z_l120, z_l126, z_l127, z_l130, z_l160, z_l198, z_l200, z_l202, z_l240, z_l252, z_l253, z_l254, z_l255, z_l260, z_l480, z_l900, Rd_nodes, Rd_ends, Rd_isOpen, Rd_counts, Rd_lastTags, Rd_syntax, Rd_position, Rd_level, Rd_result, Rd_set_nodes, Rd_set_ends, Rd_set_isOpen, Rd_set_counts, Rd_set_lastTags, Rd_set_syntax, Rd_set_position, Rd_set_level, Rd_set_result, Tr_tags, Tr_behind, Tr_values, Tr_lengths, Tr_characters, Tr_count, Tr_characterCount, Tr_set_tags, Tr_set_behind, Tr_set_values, Tr_set_lengths, Tr_set_characters, Tr_set_count, Tr_set_characterCount, Bs_n, Bs_values, Bs_count, Bs_set_n, Bs_set_values, Bs_set_count] <;> omega))]
  dsimp only [Tr_values]
  rw [z_cl (by omega), t2, z_ad]
  unfold B_Tr_character_24
  rw [if_neg (by first | omega | (simp (disch := omega) only [z_lt, z_le, z_eq, z_cl, z_ad, z_mu, z_sb, z_n1, z_em, z_me, z_lm, z_ml, z_mle, z_lme, z_ma, z_am, z_m2, not_false_eq_true, z_l0, z_l1, z_l2, z_l3, z_l4, z_l5, z_l6, z_l7, z_l8, z_l10, z_l14, z_l15, z_l16, z_l32, z_l80, z_l101, z_l120, z_l126, z_l127, z_l130, z_l160, z_l198, z_l200, z_l202, z_l240, z_l252, z_l253, z_l254, z_l255, z_l260, z_l480, z_l900, Rd_nodes, Rd_ends, Rd_isOpen, Rd_counts, Rd_lastTags, Rd_syntax, Rd_position, Rd_level, Rd_result, Rd_set_nodes, Rd_set_ends, Rd_set_isOpen, Rd_set_counts, Rd_set_lastTags, Rd_set_syntax, Rd_set_position, Rd_set_level, Rd_set_result, Tr_tags, Tr_behind, Tr_values, Tr_lengths, Tr_characters, Tr_count, Tr_characterCount, Tr_set_tags, Tr_set_behind, Tr_set_values, Tr_set_lengths, Tr_set_characters, Tr_set_count, Tr_set_characterCount, Bs_n, Bs_values, Bs_count, Bs_set_n, Bs_set_values, Bs_set_count] <;> omega))]
  unfold B_Tr_character_29
  rw [if_neg (by first | omega | (simp (disch := omega) only [z_lt, z_le, z_eq, z_cl, z_ad, z_mu, z_sb, z_n1, z_em, z_me, z_lm, z_ml, z_mle, z_lme, z_ma, z_am, z_m2, not_false_eq_true, z_l0, z_l1, z_l2, z_l3, z_l4, z_l5, z_l6, z_l7, z_l8, z_l10, z_l14, z_l15, z_l16, z_l32, z_l80, z_l101, z_l120, z_l126, z_l127, z_l130, z_l160, z_l198, z_l200, z_l202, z_l240, z_l252, z_l253, z_l254, z_l255, z_l260, z_l480, z_l900, Rd_nodes, Rd_ends, Rd_isOpen, Rd_counts, Rd_lastTags, Rd_syntax, Rd_position, Rd_level, Rd_result, Rd_set_nodes, Rd_set_ends, Rd_set_isOpen, Rd_set_counts, Rd_set_lastTags, Rd_set_syntax, Rd_set_position, Rd_set_level, Rd_set_result, Tr_tags, Tr_behind, Tr_values, Tr_lengths, Tr_characters, Tr_count, Tr_characterCount, Tr_set_tags, Tr_set_behind, Tr_set_values, Tr_set_lengths, Tr_set_characters, Tr_set_count, Tr_set_characterCount, Bs_n, Bs_values, Bs_count, Bs_set_n, Bs_set_values, Bs_set_count] <;> omega))]
  unfold B_Tr_character_37
  rw [if_neg (by first | omega | (simp (disch := omega) only [z_lt, z_le, z_eq, z_cl, z_ad, z_mu, z_sb, z_n1, z_em, z_me, z_lm, z_ml, z_mle, z_lme, z_ma, z_am, z_m2, not_false_eq_true, z_l0, z_l1, z_l2, z_l3, z_l4, z_l5, z_l6, z_l7, z_l8, z_l10, z_l14, z_l15, z_l16, z_l32, z_l80, z_l101, z_l120, z_l126, z_l127, z_l130, z_l160, z_l198, z_l200, z_l202, z_l240, z_l252, z_l253, z_l254, z_l255, z_l260, z_l480, z_l900, Rd_nodes, Rd_ends, Rd_isOpen, Rd_counts, Rd_lastTags, Rd_syntax, Rd_position, Rd_level, Rd_result, Rd_set_nodes, Rd_set_ends, Rd_set_isOpen, Rd_set_counts, Rd_set_lastTags, Rd_set_syntax, Rd_set_position, Rd_set_level, Rd_set_result, Tr_tags, Tr_behind, Tr_values, Tr_lengths, Tr_characters, Tr_count, Tr_characterCount, Tr_set_tags, Tr_set_behind, Tr_set_values, Tr_set_lengths, Tr_set_characters, Tr_set_count, Tr_set_characterCount, Bs_n, Bs_values, Bs_count, Bs_set_n, Bs_set_values, Bs_set_count] <;> omega))]
  unfold B_Tr_character_47
  dsimp only [Tr_characters]
  rw [z_cl (by omega), hC _ (by omega)]
  rw [hch]
  simp [List.getD, List.getElem?_append_right, List.getElem?_append_left hi]
end CWT
