/-! PURE: Bytes as a list -/
/-- b holds the list l, in a row of n places -/
def rb (b : S_Bs) (n : Nat) (l : List Int32) : Prop := Bs_n b = n ∧ n ≤ 1000 ∧ Bs_count b = nI l.length ∧ l.length ≤ n ∧ ∀ i, i < l.length → Bs_values b i = l.getD i 0
theorem rb_init {n : Nat} (h : n ≤ 1000) : rb (i_Bs n) n [] := ⟨rfl, h, rfl, Nat.zero_le _, fun i hi => absurd hi (Nat.not_lt_zero i)⟩
theorem rb_count {b : S_Bs} {n : Nat} {l : List Int32} (h : rb b n l) : F_Bs_count b = some (nI l.length) := by
  show some (Bs_count b) = _
  rw [h.2.2.1]
theorem rb_reset {b : S_Bs} {n : Nat} {l : List Int32} (h : rb b n l) : ∃ b', F_Bs_reset b = some b' ∧ rb b' n [] :=
  ⟨_, rfl, h.1, h.2.1, rfl, Nat.zero_le _, fun i hi => absurd hi (Nat.not_lt_zero i)⟩
theorem rb_get {b : S_Bs} {n : Nat} {l : List Int32} (h : rb b n l) {i : Nat} (hi : i < l.length) : F_Bs_get b (nI i) = some (l.getD i 0) := by
  obtain ⟨h1, h2, h3, h4, h5⟩ := h
  unfold F_Bs_get B_Bs_get_0
  rw [if_neg (nI_pos (by omega))]
  unfold B_Bs_get_4
  rw [if_neg (by rw [h3]; exact nI_ge hi (by omega))]
  unfold B_Bs_get_12
  rw [if_neg (by rw [h1]; exact nI_in (by omega) (by omega))]
  unfold B_Bs_get_22
  rw [nI_clamp (by omega), h5 i hi]
theorem rb_append {b : S_Bs} {n : Nat} {l : List Int32} (h : rb b n l) (hl : l.length < n) (v : Int32) : ∃ b', F_Bs_append b v = some b' ∧ rb b' n (l ++ [v &&& 255]) := by
  obtain ⟨h1, h2, h3, h4, h5⟩ := h
  have hc : (Bs_count b).toNatClampNeg = l.length := by rw [h3]; exact nI_clamp (by omega)
  unfold F_Bs_append B_Bs_append_0
  rw [if_neg (by rw [h1, h3]; exact nI_ge hl (by omega))]
  unfold B_Bs_append_12
  rw [if_neg (by rw [h1, h3]; exact nI_in hl (by omega))]
  unfold B_Bs_append_36
  refine ⟨_, rfl, h1, h2, ?_, by simp; omega, fun i hi => ?_⟩
  · show Bs_count b + 1 = _
    rw [h3, List.length_append]
    exact nI_1 _
  · show upd (Bs_values b) (Bs_count b).toNatClampNeg (v &&& 255) i = _
    rw [hc]
    simp only [List.length_append, List.length_cons, List.length_nil] at hi
    by_cases e : i = l.length
    · subst e
      rw [pk_us]
      simp [List.getD]
    · rw [pk_un e, h5 i (by omega)]
      simp [List.getD, List.getElem?_append_left (show i < l.length by omega)]
theorem rb_full {b : S_Bs} {n : Nat} {l : List Int32} (h : rb b n l) (hl : l.length = n) (v : Int32) : F_Bs_append b v = some b := by
  obtain ⟨h1, h2, h3, h4, h5⟩ := h
  unfold F_Bs_append B_Bs_append_0
  rw [if_pos (by rw [h1, h3]; exact nI_le (by omega) (by omega))]
  rfl
theorem rb_room {b : S_Bs} {n : Nat} {l : List Int32} (h : rb b n l) {k : Nat} (hk : k < 2 ^ 30) : F_Bs_hasRoom b (nI k) = some (if k + l.length ≤ n then 1 else 0) := by
  obtain ⟨h1, h2, h3, h4, h5⟩ := h
  unfold F_Bs_hasRoom B_Bs_hasRoom_0
  rw [h1, h3, show Int32.ofNat n - nI l.length = nI (n - l.length) from pk_sub h4]
  by_cases e : k + l.length ≤ n
  · rw [if_neg (nI_nlt (by omega) (by omega)), if_pos e]; rfl
  · rw [if_pos (nI_lt (by omega) (by omega)), if_neg e]; rfl
theorem rb_become {a b : S_Bs} {n m : Nat} {l r : List Int32} (ha : rb a n l) (hb : rb b m r) (hr : r.length ≤ n) (h8 : ∀ i, i < r.length → r.getD i 0 &&& 255 = r.getD i 0) : ∃ a', F_Bs_become a b = some a' ∧ rb a' n r := by
  obtain ⟨a0, e0, h0⟩ := rb_reset ha
  have hb' := hb
  obtain ⟨h1, h2, h3, h4, h5⟩ := hb'
  have hn : n ≤ 1000 := ha.2.1
  have key : ∀ (j i : Nat) (c : S_Bs) (f : Nat), i + j = r.length → j < f → rb c n (r.take i) → ∃ a', lp (fun k7 v => B_Bs_become_7 k7 b v.1 v.2) f (c, nI i) = some a' ∧ rb a' n r := by
    intro j
    induction j with
    | zero =>
      intro i c f hi hf hc
      obtain ⟨f', rfl⟩ : ∃ f', f = f' + 1 := ⟨f - 1, by omega⟩
      refine ⟨c, ?_, by rw [show i = r.length by omega, List.take_length] at hc; exact hc⟩
      show B_Bs_become_7 _ b c (nI i) = some c
      unfold B_Bs_become_7
      rw [if_pos (by rw [h3]; exact nI_le (by omega) (by omega))]
      rfl
    | succ j ih =>
      intro i c f hi hf hc
      obtain ⟨f', rfl⟩ : ∃ f', f = f' + 1 := ⟨f - 1, by omega⟩
      have hir : i < r.length := by omega
      obtain ⟨c', e1, hc'⟩ := rb_append hc (by rw [List.length_take]; omega) (r.getD i 0)
      obtain ⟨a', e2, ha'⟩ := ih (i + 1) c' f' (by omega) (by omega) (by
        rw [h8 i hir] at hc'
        rw [List.take_succ]
        have : r[i]? = some (r.getD i 0) := by simp [List.getD, hir]
        rw [this]
        exact hc')
      refine ⟨a', ?_, ha'⟩
      show B_Bs_become_7 _ b c (nI i) = some a'
      unfold B_Bs_become_7
      rw [if_neg (by rw [h3]; exact nI_ge hir (by omega))]
      unfold B_Bs_become_15
      rw [if_neg (by rw [h1]; exact nI_in (by omega) (by omega)), nI_clamp (by omega), h5 i hir, e1]
      show lp _ f' (c', nI i + 1) = some a'
      rw [nI_1]
      exact e2
  have hf : r.length < FU := by unfold FU; omega
  obtain ⟨a', e2, h'⟩ := key r.length 0 a0 FU (by omega) hf (by simpa using h0)
  refine ⟨a', ?_, h'⟩
  have e0' : a0 = Bs_set_count a 0 := (Option.some.inj e0).symm
  show L_Bs_become_7 b (Bs_set_count a 0, 0) = some a'
  rw [← e0']
  exact e2
