/-! PURE: the model's tree -/
def mk (g : Nat) : Nat := if kd g = 4 then 0 else kd g
def mtg (g : Nat) : Nat := if kd g = 4 then 0 else g
def mvl (nd : List Nd) (k : Nat) : Int32 := if kd (nT nd k) = 1 then nV nd k else if kd (nT nd k) = 2 then nI (nX nd k).length else nI 0
def fiI (t : Nat) (nd : List Nd) (k : Nat) : Int32 := if k + 1 < nd.length ∧ nL nd k < nL nd (k + 1) then nI (130 * t + (k + 1)) else mI
def nxI (t : Nat) (nd : List Nd) (k : Nat) : Int32 := if bhf nd k < nd.length ∧ nL nd (bhf nd k) = nL nd k then nI (130 * t + bhf nd k) else mI
def mtk (r : Nat → Nat → Int32) (t : Nat) (nd : List Nd) (k : Nat) : Prop := r 3 (130 * t + k) = nI (mk (nT nd k)) ∧ r 4 (130 * t + k) = nI (mtg (nT nd k)) ∧ r 5 (130 * t + k) = mvl nd k ∧ (kd (nT nd k) = 2 → r 6 (130 * t + k) = nI (240 * t + (ch (nd.take k)).length)) ∧ (k = 0 → r 7 (130 * t + k) = mI) ∧ (k ≠ 0 → ∃ p, p < 260 ∧ r 7 (130 * t + k) = nI p) ∧ r 8 (130 * t + k) = fiI t nd k ∧ r 9 (130 * t + k) = nxI t nd k ∧ r 11 (130 * t + k) = nI (kfl nd k).length
/-- the model's rows hold the nodes nd as tree t -/
def mtr (r : Nat → Nat → Int32) (t : Nat) (nd : List Nd) : Prop := r 2 t = nI nd.length ∧ r 15 t = nI (240 * t + (ch nd).length) ∧ (∀ k, k < nd.length → mtk r t nd k) ∧ ∀ i, i < (ch nd).length → r 14 (240 * t + i) = nI ((ch nd).getD i 0)
def mlc (r : Nat → Nat → Int32) (t : Nat) (nd : List Nd) (f : Fr) (L j : Nat) : Prop := r 10 (130 * t + f.1) = nI (130 * t + j) ∧ f.1 < j ∧ j < nd.length ∧ nL nd j = L + 1 ∧ (∀ i, j < i → i < nd.length → L + 1 < nL nd i) ∧ (L % 2 = 0 → nT nd j = f.2.2.2.2)
def mfo (r : Nat → Nat → Int32) (t : Nat) (nd : List Nd) (f : Fr) (L : Nat) : Prop := r 17 L = nI (130 * t + f.1) ∧ r 18 L = nI f.2.1 ∧ r 19 L = (if f.2.2.1 = true then nI 1 else nI 0) ∧ (f.2.2.2.1 ≠ 0 → ∃ j, mlc r t nd f L j)
def mlow (r : Nat → Nat → Int32) (t : Nat) (nd : List Nd) : List Fr → Prop
  | [] => True
  | f :: st => mfo r t nd f st.length ∧ f.2.2.2.1 ≠ 0 ∧ mlow r t nd st
def mfr (r : Nat → Nat → Int32) (t : Nat) (nd : List Nd) : List Fr → Prop
  | [] => True
  | f :: st => mfo r t nd f st.length ∧ (f.2.2.2.1 = 0 → f.1 + 1 = nd.length ∧ f.2.2.2.2 = 0) ∧ mlow r t nd st
theorem kd_m (g : Nat) : mk g ≤ 3 := by
  have := kd_le g
  unfold mk
  split <;> omega
theorem mtr_a {n t j : Nat} {r r' : Nat → Nat → Int32} {f : Fr} {st : List Fr} {nd : List Nd} {x : Nd} (h : mtr r t nd) (hc : chn n nd (f :: st)) (hf : fok nd (f :: st)) (h0 : f.2.2.2.1 = 0 → f.1 + 1 = nd.length) (hj : f.2.2.2.1 ≠ 0 → mlc r t nd f st.length j) (hx : x.1 = st.length + 1) (ht : t < 2) (hl : nd.length < 130)
    (r2 : r' 2 = upd (r 2) t (nI (nd.length + 1))) (r3 : r' 3 = upd (r 3) (130 * t + nd.length) (nI (mk x.2.1))) (r4 : r' 4 = upd (r 4) (130 * t + nd.length) (nI (mtg x.2.1))) (r5 : r' 5 = upd (r 5) (130 * t + nd.length) (if kd x.2.1 = 1 then x.2.2.1 else if kd x.2.1 = 2 then nI x.2.2.2.length else nI 0))
    (r6 : ∀ i, i ≠ 130 * t + nd.length → r' 6 i = r 6 i) (r6' : kd x.2.1 = 2 → r' 6 (130 * t + nd.length) = nI (240 * t + (ch nd).length)) (r7 : r' 7 = upd (r 7) (130 * t + nd.length) (nI (130 * t + f.1)))
    (r8 : r' 8 = if f.2.2.2.1 = 0 then upd (upd (r 8) (130 * t + nd.length) mI) (130 * t + f.1) (nI (130 * t + nd.length)) else upd (r 8) (130 * t + nd.length) mI) (r9 : r' 9 = if f.2.2.2.1 = 0 then upd (r 9) (130 * t + nd.length) mI else upd (upd (r 9) (130 * t + nd.length) mI) (130 * t + j) (nI (130 * t + nd.length)))
    (r11 : r' 11 = upd (upd (r 11) (130 * t + nd.length) (nI 0)) (130 * t + f.1) (nI (f.2.2.2.1 + 1))) (r14 : ∀ i, i < (ch nd).length → r' 14 (240 * t + i) = r 14 (240 * t + i)) (r14' : ∀ i, i < x.2.2.2.length → r' 14 (240 * t + (ch nd).length + i) = nI (x.2.2.2.getD i 0)) (r15 : r' 15 t = nI (240 * t + (ch nd).length + x.2.2.2.length)) : mtr r' t (nd ++ [x]) := by
  obtain ⟨m1, m2, m3, m4⟩ := h
  have hchn := hc
  obtain ⟨a1, a2, a3, a4, a5, a6, a7, a8⟩ := hc
  obtain ⟨f1, f2, f3, f4, f5⟩ := hf
  have hbf : bhf nd f.1 = nd.length := isB_uniq (bhf_isB a1) (chn_top hchn)
  refine ⟨?_, ?_, fun k hk => ?_, fun i hi => ?_⟩
  · rw [r2, pk_us, List.length_append]; rfl
  · rw [r15, ch_a, List.length_append, Nat.add_assoc]
  · by_cases c : k < nd.length
    · obtain ⟨k3, k4, k5, k6, k7, k7', k8, k9, k11⟩ := m3 k c
      have hbk := bhf_isB c
      refine ⟨?_, ?_, ?_, fun h2 => ?_, fun h0 => ?_, fun h0 => ?_, ?_, ?_, ?_⟩
      · rw [r3, pk_un (by omega), nT_a c]; exact k3
      · rw [r4, pk_un (by omega), nT_a c]; exact k4
      · rw [r5, pk_un (by omega)]
        unfold mvl
        rw [nT_a c, nV_a c, nX_a c]
        exact k5
      · rw [nT_a c] at h2
        rw [r6 _ (by omega), tk_a (by omega)]
        exact k6 h2
      · rw [r7, pk_un (by omega)]; exact k7 h0
      · rw [r7, pk_un (by omega)]; exact k7' h0
      · unfold fiI
        rw [List.length_append, List.length_cons, List.length_nil, nL_a c, r8]
        by_cases c1 : k + 1 < nd.length
        · rw [nL_a c1]
          unfold fiI at k8
          have : k ≠ f.1 ∨ f.2.2.2.1 ≠ 0 := by
            by_cases c2 : f.2.2.2.1 = 0
            · left; have := h0 c2; omega
            · right; exact c2
          have e1 : (if f.2.2.2.1 = 0 then upd (upd (r 8) (130 * t + nd.length) mI) (130 * t + f.1) (nI (130 * t + nd.length)) else upd (r 8) (130 * t + nd.length) mI) (130 * t + k) = r 8 (130 * t + k) := by
            split
            · rw [pk_un (by omega), pk_un (by omega)]
            · rw [pk_un (by omega)]
          rw [e1, k8]
          by_cases c3 : nL nd k < nL nd (k + 1)
          · rw [if_pos ⟨c1, c3⟩, if_pos ⟨by omega, c3⟩]
          · rw [if_neg (fun h => c3 h.2), if_neg (fun h => c3 h.2)]
        · have c4 : k + 1 = nd.length := by omega
          rw [c4, nL_n]
          by_cases c2 : f.2.2.2.1 = 0
          · have := h0 c2
            have : k = f.1 := by omega
            rw [if_pos c2, this, pk_us, if_pos ⟨by omega, by omega⟩]
          · obtain ⟨j1, j2, j3, j4, j5, j6⟩ := hj c2
            have := a3 k (by omega) c
            rw [if_neg c2, pk_un (by omega), k8]
            unfold fiI
            rw [if_neg (by omega), if_neg (by omega)]
      · unfold nxI
        unfold nxI at k9
        rw [List.length_append, List.length_cons, List.length_nil, nL_a c, bhf_a c, r9]
        have e1 : (f.2.2.2.1 = 0 ∨ k ≠ j) → (if f.2.2.2.1 = 0 then upd (r 9) (130 * t + nd.length) mI else upd (upd (r 9) (130 * t + nd.length) mI) (130 * t + j) (nI (130 * t + nd.length))) (130 * t + k) = r 9 (130 * t + k) := by
          intro hh
          split
          · rw [pk_un (by omega)]
          · rw [pk_un (by omega), pk_un (by omega)]
        by_cases c1 : bhf nd k < nd.length
        · rw [if_neg (c := bhf nd k = nd.length ∧ nL nd k < x.1) (by omega), e1 (by
            by_cases c2 : f.2.2.2.1 = 0
            · exact .inl c2
            · obtain ⟨j1, j2, j3, j4, j5, j6⟩ := hj c2
              right
              rintro rfl
              have := isB_uniq hbk (⟨by omega, Nat.le_refl _, fun i b1 b2 => by rw [j4]; exact j5 i b1 b2, fun h => by omega⟩ : isB nd k nd.length)
              omega), k9, nL_a c1]
          by_cases c3 : nL nd (bhf nd k) = nL nd k
          · rw [if_pos ⟨c1, c3⟩, if_pos ⟨by omega, c3⟩]
          · rw [if_neg (fun h => c3 h.2), if_neg (fun h => c3 h.2)]
        · have c4 : bhf nd k = nd.length := by have := hbk.2.1; omega
          have hkl : ∀ i, k < i → i < nd.length → nL nd k < nL nd i := fun i b1 b2 => hbk.2.2.1 i b1 (by omega)
          rw [c4, if_neg (by omega)] at k9
          by_cases c5 : nL nd k < x.1
          · rw [if_pos (c := bhf nd k = nd.length ∧ nL nd k < x.1) ⟨c4, c5⟩, e1 (by
              by_cases c2 : f.2.2.2.1 = 0
              · exact .inl c2
              · obtain ⟨j1, j2, j3, j4, j5, j6⟩ := hj c2
                right
                rintro rfl
                omega), k9, if_neg (by omega)]
          · rw [if_neg (c := bhf nd k = nd.length ∧ nL nd k < x.1) (fun h => c5 h.2), c4, nL_n]
            by_cases c6 : x.1 = nL nd k
            · have hkf : f.1 < k := by
                rcases Nat.lt_trichotomy k f.1 with g | g | g
                · have := hkl f.1 g a1
                  omega
                · rw [g] at c6; omega
                · exact g
              have c2 : f.2.2.2.1 ≠ 0 := fun c2 => by have := h0 c2; omega
              obtain ⟨j1, j2, j3, j4, j5, j6⟩ := hj c2
              have : k = j := by
                rcases Nat.lt_trichotomy k j with g | g | g
                · have := hkl j g j3
                  omega
                · exact g
                · have := j5 k g c
                  omega
              rw [if_neg c2, this, pk_us, if_pos ⟨by omega, by omega⟩]
            · rw [e1 (by
                by_cases c2 : f.2.2.2.1 = 0
                · exact .inl c2
                · obtain ⟨j1, j2, j3, j4, j5, j6⟩ := hj c2
                  right
                  rintro rfl
                  omega), k9, if_neg (fun h => c6 h.2)]
      · rw [r11, kf_a c, List.length_append]
        by_cases c2 : k = f.1
        · rw [c2, pk_us, f2, if_pos ⟨hbf, by omega⟩]
          rfl
        · rw [pk_un (by omega), pk_un (by omega), k11, if_neg (fun hh => c2 (by
            rcases Nat.lt_trichotomy k f.1 with g | g | g
            · have := hbk.2.2.1 f.1 g (by omega)
              omega
            · exact g
            · have := a3 k g c
              omega))]
          rfl
    · have : k = nd.length := by simp at hk; omega
      subst this
      refine ⟨?_, ?_, ?_, fun h2 => ?_, fun h0 => ?_, fun h0 => ?_, ?_, ?_, ?_⟩
      · rw [r3, pk_us, nT_n]
      · rw [r4, pk_us, nT_n]
      · rw [r5, pk_us]
        unfold mvl
        rw [nT_n, nV_n, nX_n]
      · rw [nT_n] at h2
        rw [r6' h2, tk_a (Nat.le_refl _), List.take_length]
      · omega
      · exact ⟨130 * t + f.1, by omega, by rw [r7, pk_us]⟩
      · unfold fiI
        rw [if_neg (by simp), r8]
        split
        · rw [pk_un (by omega), pk_us]
        · rw [pk_us]
      · unfold nxI
        rw [bhf_n, if_neg (by simp), r9]
        split
        · rw [pk_us]
        · rename_i c2
          obtain ⟨j1, j2, j3, j4, j5, j6⟩ := hj c2
          rw [pk_un (by omega), pk_us]
      · rw [r11, kf_n, pk_un (by omega), pk_us]
        rfl
  · rw [ch_a] at hi ⊢
    rw [List.length_append] at hi
    by_cases c : i < (ch nd).length
    · rw [r14 i c, m4 i c]
      simp [List.getD, List.getElem?_append_left c]
    · obtain ⟨k, rfl⟩ : ∃ k, i = (ch nd).length + k := ⟨i - (ch nd).length, by omega⟩
      rw [← Nat.add_assoc, r14' k (by omega)]
      simp [List.getD, List.getElem?_append_right]
theorem mlow_a {n t : Nat} {r r' : Nat → Nat → Int32} {nd : List Nd} {x : Nd} {N : Nat} (r17 : ∀ i, i < N → r' 17 i = r 17 i) (r18 : ∀ i, i < N → r' 18 i = r 18 i) (r19 : ∀ i, i < N → r' 19 i = r 19 i) (hx : N < x.1) : ∀ {st : List Fr}, mlow r t nd st → chn n nd st → st.length ≤ N → (∀ f ∈ st, r' 10 (130 * t + f.1) = r 10 (130 * t + f.1)) → mlow r' t (nd ++ [x]) st
  | [], _, _, _, _ => trivial
  | f :: st, h, hc, hl, h10 => by
    obtain ⟨⟨h1, h2, h3, h4⟩, h5, h6⟩ := h
    simp only [List.length_cons] at hl
    refine ⟨⟨by rw [r17 _ (by omega)]; exact h1, by rw [r18 _ (by omega)]; exact h2, by rw [r19 _ (by omega)]; exact h3, fun h => ?_⟩, h5, mlow_a r17 r18 r19 hx h6 hc.2.2.2.2.2.2.2 (by omega) (fun g hg => h10 g (List.mem_cons_of_mem _ hg))⟩
    obtain ⟨j, j1, j2, j3, j4, j5, j6⟩ := h4 h
    refine ⟨j, by rw [h10 f List.mem_cons_self]; exact j1, j2, by simp; omega, by rw [nL_a j3]; exact j4, fun i b1 b2 => ?_, fun e => by rw [nT_a j3]; exact j6 e⟩
    by_cases c : i < nd.length
    · rw [nL_a c]; exact j5 i b1 c
    · have : i = nd.length := by simp at b2; omega
      subst this
      rw [nL_n]
      omega
theorem chn_mem {n : Nat} {nd : List Nd} : ∀ {st : List Fr}, chn n nd st → ∀ f ∈ st, f.1 < nd.length ∧ nL nd f.1 < st.length
  | [], _, f, hf => by simp at hf
  | g :: st, h, f, hf => by
    simp only [List.length_cons]
    rcases List.mem_cons.mp hf with hf | hf
    · subst hf
      exact ⟨h.1, by rw [h.2.1]; omega⟩
    · have := chn_mem h.2.2.2.2.2.2.2 f hf
      exact ⟨this.1, by omega⟩
