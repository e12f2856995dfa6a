/-! PURE: what is written reads back -/
def cntk (nd : List Nd) (k n : Nat) : Nat := ((List.range n).filter (fun j => decide (k < j ∧ j < bhf nd k ∧ nL nd j = nL nd k + 1))).length
theorem cntk_s {nd : List Nd} {k n : Nat} : cntk nd k (n + 1) = cntk nd k n + (if k < n ∧ n < bhf nd k ∧ nL nd n = nL nd k + 1 then 1 else 0) := by
  unfold cntk
  rw [List.range_succ, List.filter_append, List.length_append]
  congr 1
  by_cases c : k < n ∧ n < bhf nd k ∧ nL nd n = nL nd k + 1
  · rw [if_pos c, List.filter_cons, if_pos (decide_eq_true c)]
    rfl
  · rw [if_neg c, List.filter_cons, if_neg (by rw [decide_eq_false c]; decide)]
    rfl
theorem cntk_le {nd : List Nd} {k n : Nat} : ∀ d, cntk nd k n ≤ cntk nd k (n + d)
  | 0 => Nat.le_refl _
  | d + 1 => by
    have := cntk_le (nd := nd) (k := k) (n := n) d
    have h := cntk_s (nd := nd) (k := k) (n := n + d)
    rw [show n + (d + 1) = n + d + 1 from rfl]
    omega
theorem pw_two {R : Nat → Nat → Prop} : ∀ {l : List Nat}, l.Pairwise (· < ·) → l.Pairwise R → ∀ i ∈ l, ∀ j ∈ l, i < j → R i j
  | [], _, _ => fun i hi => by cases hi
  | a :: l, h, h' => fun i hi j hj hij => by
    rw [List.pairwise_cons] at h h'
    rcases List.mem_cons.mp hi with e | hi2
    · rcases List.mem_cons.mp hj with e' | hj2
      · omega
      · rw [e]
        exact h'.1 j hj2
    · rcases List.mem_cons.mp hj with e' | hj2
      · have := h.1 i hi2
        omega
      · exact pw_two h.2 h'.2 i hi2 j hj2 hij
theorem kfl_in {nd : List Nd} {k j : Nat} (h1 : k < j) (h2 : j < bhf nd k) (h3 : nL nd j = nL nd k + 1) (h4 : j < nd.length) : j ∈ kfl nd k := by
  unfold kfl
  rw [List.mem_filter]
  exact ⟨List.mem_range.mpr h4, decide_eq_true ⟨h1, h2, h3⟩⟩
def gst (nd : List Nd) (n : Nat) : List Fr → Prop
  | [] => True
  | f :: st => f.1 < n ∧ nL nd f.1 = st.length ∧ n ≤ bhf nd f.1 ∧ f.2.1 = wS 0 nd 1 (bhf nd f.1 - 1) ∧ f.2.2.1 = false ∧ f.2.2.2.1 = cntk nd f.1 n ∧ (f.2.2.2.2 = 0 ∨ ∃ j, f.1 < j ∧ j < n ∧ j < bhf nd f.1 ∧ nL nd j = nL nd f.1 + 1 ∧ nT nd j = f.2.2.2.2) ∧ (∀ f' st', st = f' :: st' → bhf nd f.1 ≤ bhf nd f'.1) ∧ gst nd n st
theorem gst_up {nd : List Nd} {n : Nat} : ∀ {st : List Fr}, gst nd n st → st.length < nL nd n → (∀ f st', st = f :: st' → n < bhf nd f.1) → gst nd (n + 1) st
  | [], _, _, _ => trivial
  | f :: st, h, hl, hb => by
    obtain ⟨g1, g2, g3, g4, g5, g6, g7, g8, g9⟩ := h
    have hf := hb f st rfl
    simp only [List.length_cons] at hl
    refine ⟨by omega, g2, by omega, g4, g5, ?_, ?_, g8, gst_up g9 (by omega) (fun f' st' e => ?_)⟩
    · rw [cntk_s, if_neg (by omega), g6, Nat.add_zero]
    · rcases g7 with g7 | ⟨j, a, b, c, d, e⟩
      · exact .inl g7
      · exact .inr ⟨j, a, by omega, c, d, e⟩
    · have := g8 f' st' e
      omega
theorem rk_step {nd : List Nd} {n : Nat} {f : Fr} {st : List Fr} (w : wfT nd) (hX : ∀ x ∈ nd, okX x) (h1 : 1 ≤ n) (hfit : ∀ k, 1 ≤ k → k < nd.length → kd (nT nd k) = 1 ∨ vln 0 nd k ≤ 240) (hg : gst nd n (f :: st)) (hb : n < bhf nd f.1) (hL : nL nd n = st.length + 1) : ∃ st', rSt 0 (cB 0 nd (nd.length - 1)) (wS 0 nd 1 (n - 1)) f st (nd.take n) = .inr (wS 0 nd 1 n, st', nd.take (n + 1)) ∧ gst nd (n + 1) st' ∧ st' ≠ [] ∧ st'.length ≤ st.length + 2 ∧ (∀ f st2, st' = f :: st2 → n + 1 < bhf nd f.1 → nL nd (n + 1) = st2.length + 1) := by
  obtain ⟨g1, g2, g3, g4, g5, g6, g7, g8, g9⟩ := hg
  have hf1 : f.1 < nd.length := by
    rcases Nat.lt_or_ge f.1 nd.length with q | q
    · exact q
    · exfalso
      unfold bhf at hb
      rw [show nd.length - (f.1 + 1) = 0 by omega] at hb
      unfold bhg at hb
      omega
  have hbf := bhf_lt hf1
  have hn : n < nd.length := by omega
  have hbn := bhf_lt hn
  have kid := nxI_kid (t := 0) hf1 g1 hb (by omega)
  have hk := kd_le (nT nd n)
  have hnx := wS_next (nd := nd) h1
  have hm := wS_mono (syn := 0) (nd := nd) (show n ≤ bhf nd f.1 - 1 by omega)
  have hlen := nB_len (syn := 0) (nd := nd) (k := n)
  have hhd := hd_le 0 (nT nd n)
  have ox := hX _ (nG_mem hn)
  have on := w.1 _ (nG_mem hn)
  obtain ⟨p1, p2, p3, p4, p5⟩ := (w.2.2.1 n hn).1
  obtain ⟨q1, q2, q3⟩ := (w.2.2.1 f.1 hf1).2
  have hc1 : cntk nd f.1 n + 1 ≤ (kfl nd f.1).length := by
    have a := cntk_s (nd := nd) (k := f.1) (n := n)
    rw [if_pos ⟨g1, hb, by omega⟩] at a
    have b := cntk_le (nd := nd) (k := f.1) (n := n + 1) (nd.length - (n + 1))
    rw [show n + 1 + (nd.length - (n + 1)) = nd.length by omega] at b
    have : cntk nd f.1 nd.length = (kfl nd f.1).length := rfl
    omega
  have g0 : (cB 0 nd (nd.length - 1)).getD (wS 0 nd 1 (n - 1)) 0 = nT nd n := by
    have := rk_get (i := 0) h1 hn (by omega)
    rw [Nat.add_zero] at this
    rw [this]
    unfold nB numB
    split <;> rfl
  -- what comes behind
  have fin : ∀ (f' : Fr), f'.1 = f.1 → f'.2.1 = f.2.1 → f'.2.2.1 = f.2.2.1 → f'.2.2.2.1 = f.2.2.2.1 + 1 → (f'.2.2.2.2 = 0 ∨ f'.2.2.2.2 = nT nd n) → ∃ st', rLn (cB 0 nd (nd.length - 1)) (nT nd n) (wS 0 nd 1 (n - 1) + (hd 0 (nT nd n) - 1)) f' st (nd.take n) = .inr (wS 0 nd 1 n, st', nd.take (n + 1)) ∧ gst nd (n + 1) st' ∧ st' ≠ [] ∧ st'.length ≤ st.length + 2 ∧ (∀ f st2, st' = f :: st2 → n + 1 < bhf nd f.1 → nL nd (n + 1) = st2.length + 1) := by
    intro f' e1 e2 e3 e4 e5
    refine ⟨_, rk_ln w hX h1 hn (hfit n h1 hn) hL (E := bhf nd f.1) (by rw [e2]; exact g4) kid.1, ?_⟩
    have top : gst nd (n + 1) (f' :: st) := by
      refine ⟨by omega, by rw [e1]; exact g2, by rw [e1]; omega, by rw [e1, e2]; exact g4, by rw [e3]; exact g5, ?_, ?_, by rw [e1]; exact g8, gst_up g9 (by omega) (fun f2 st2 e => by have := g8 f2 st2 e; omega)⟩
      · rw [e4, e1, cntk_s, if_pos ⟨g1, hb, by omega⟩, g6]
      · rcases e5 with e5 | e5
        · exact .inl e5
        · exact .inr ⟨n, by omega, by omega, by rw [e1]; exact hb, by rw [e1]; omega, e5.symm⟩
    by_cases k2 : kd (nT nd n) ≤ 2
    · rw [if_pos k2]
      have hB := w.2.1 n hn k2
      refine ⟨top, by simp, by simp, fun f2 st2 e hb2 => ?_⟩
      injection e with e6 e7
      subst e6 e7
      rw [e1] at hb2
      have a1 := (bhf_isB hf1).2.2.1 (n + 1) (by omega) hb2
      have a2 := hB.2.2.2 (by omega)
      omega
    · rw [if_neg k2]
      refine ⟨⟨by show n < n + 1; omega, by show nL nd n = _; rw [hL]; rfl, by show n + 1 ≤ bhf nd n; omega, rfl, rfl, ?_, .inl rfl, fun f2 st2 e => ?_, top⟩, by simp, by simp, fun f2 st2 e hb2 => ?_⟩
      · show 0 = cntk nd n (n + 1)
        unfold cntk
        rw [List.filter_eq_nil_iff.mpr]
        · rfl
        · intro a ha
          have := List.mem_range.mp ha
          simp only [decide_eq_true_eq]
          omega
      · injection e with e6 e7
        subst e6
        rw [e1]
        exact kid.1
      · injection e with e6 e7
        subst e6 e7
        have hb2 : n + 1 < bhf nd n := hb2
        have a1 := (bhf_isB hn).2.2.1 (n + 1) (by omega) hb2
        have a2 := p5 (by omega)
        simp only [List.length_cons]
        omega
  unfold rSt
  rw [if_neg (by omega), if_neg (by rw [g5]; intro e; exact absurd e.1 (by decide))]
  by_cases ev : st.length % 2 = 0
  · rw [if_pos ev]
    have k4 : kd (nT nd n) ≠ 4 := fun e => by have := p4.mp e; omega
    have g200 : nT nd n ≤ 200 := by
      rcases on.1 with q | q
      · exact q
      · exact absurd (show kd (nT nd n) = 4 by rw [show nT nd n = 254 from q]; rfl) k4
    have hh : hd 0 (nT nd n) = 3 := by unfold hd; rw [if_pos ⟨rfl, k4⟩]
    have hg1 : 1 ≤ nT nd n := ox.2.2.1
    have hlt : f.2.2.2.2 < nT nd n := by
      rcases g7 with g7 | ⟨j, a, b, c, d, e⟩
      · omega
      · rw [← e]
        have hs : (kfl nd f.1).Pairwise (· < ·) := List.Pairwise.filter _ List.pairwise_lt_range
        exact pw_two hs (q3 (by omega)) j (kfl_in a c d (by omega)) n (kfl_in g1 hb (by omega) hn) b
    have g1' : (cB 0 nd (nd.length - 1)).getD (wS 0 nd 1 (n - 1) + 1) 0 = kd (nT nd n) := by
      rw [rk_get h1 hn (by omega)]
      unfold nB numB
      by_cases k1 : kd (nT nd n) = 1
      · rw [if_pos k1, k1]
        rfl
      · rw [if_neg k1, if_pos ⟨rfl, k4⟩]
        rfl
    unfold rEl
    rw [g0, g1', if_neg (by omega), if_neg (by omega), if_neg (fun e => ox.2.2.2 e.1 (by show nL nd n = 5; omega)), if_neg (by omega), if_neg (fun e => e.2 rfl), if_pos rfl]
    have := fin (f.1, f.2.1, f.2.2.1, f.2.2.2.1 + 1, nT nd n) rfl rfl rfl rfl (.inr rfl)
    rw [hh] at this
    exact this
  · rw [if_neg ev]
    have k4 : kd (nT nd n) = 4 := p4.mpr (by omega)
    have g254 : nT nd n = 254 := by
      rcases on.1 with q | q
      · have q : nT nd n ≤ 200 := q
        have := kd_big (g := nT nd n) (by omega)
        omega
      · exact q
    have hh : hd 0 (nT nd n) = 2 := by unfold hd; rw [if_neg (fun e => e.2 k4)]
    unfold rIt
    rw [g0, if_neg (by omega), if_neg (by have := q2 (by omega); omega)]
    have hz : f.2.2.2.2 = 0 ∨ f.2.2.2.2 = nT nd n := by
      rcases g7 with g7 | ⟨j, a, b, c, d, e⟩
      · exact .inl g7
      · right
        have hj : j < nd.length := by omega
        have pj := (w.2.2.1 j hj).1.2.2.2.1.mpr (by omega)
        rcases (w.1 _ (nG_mem hj)).1 with q | q
        · have q : nT nd j ≤ 200 := q
          have := kd_big (g := nT nd j) (by omega)
          omega
        · rw [← e, g254]
          exact q
    have := fin (f.1, f.2.1, f.2.2.1, f.2.2.2.1 + 1, f.2.2.2.2) rfl rfl rfl rfl hz
    rw [hh, g254] at this
    exact this
theorem rk_go {nd : List Nd} (w : wfT nd) (hX : ∀ x ∈ nd, okX x) (hfit : ∀ k, 1 ≤ k → k < nd.length → kd (nT nd k) = 1 ∨ vln 0 nd k ≤ 240) : ∀ (k n : Nat) (st : List Fr), 1 ≤ n → n ≤ nd.length → gst nd n st → (st = [] → n = nd.length) → (∀ f st', st = f :: st' → n < bhf nd f.1 → nL nd n = st'.length + 1) → 2 * (nd.length - n) + st.length ≤ k → rGo 0 (cB 0 nd (nd.length - 1)) k (wS 0 nd 1 (n - 1), st, nd.take n) = (0, nd)
  | 0, n, st, h1, hn, hg, he, ht, hk => by
    have := he (List.length_eq_zero_iff.mp (by omega))
    subst this
    show (0, nd.take nd.length) = _
    rw [List.take_length]
  | k + 1, n, [], h1, hn, hg, he, ht, hk => by
    have := he rfl
    subst this
    show (0, nd.take nd.length) = _
    rw [List.take_length]
  | k + 1, n, f :: st, h1, hn, hg, he, ht, hk => by
    show (match rSt 0 (cB 0 nd (nd.length - 1)) (wS 0 nd 1 (n - 1)) f st (nd.take n) with | .inl e => (e, nd.take n) | .inr τ => rGo 0 (cB 0 nd (nd.length - 1)) k τ) = _
    simp only [List.length_cons] at hk
    by_cases c : n < bhf nd f.1
    · obtain ⟨st', e, a1, a2, a3, a4⟩ := rk_step w hX h1 hfit hg c (ht f st rfl c)
      rw [e]
      have hf1 : n + 1 ≤ nd.length := by
        rcases Nat.lt_or_ge n nd.length with q | q
        · omega
        · exfalso
          have g1 := hg.1
          rcases Nat.lt_or_ge f.1 nd.length with r | r
          · have := bhf_lt r
            omega
          · omega
      exact rk_go w hX hfit k (n + 1) st' (by omega) hf1 a1 (fun e => absurd e a2) a4 (by omega)
    · obtain ⟨g1, g2, g3, g4, g5, g6, g7, g8, g9⟩ := hg
      have hnb : n = bhf nd f.1 := by omega
      have hf1 : f.1 < nd.length := by omega
      have e : rSt 0 (cB 0 nd (nd.length - 1)) (wS 0 nd 1 (n - 1)) f st (nd.take n) = .inr (wS 0 nd 1 (n - 1), st, nd.take n) := by
        unfold rSt
        rw [if_pos (by rw [g4, ← hnb]; exact Nat.le_refl _), if_neg (by rw [g5]; decide)]
      rw [e]
      refine rk_go w hX hfit k n st h1 hn g9 (fun e0 => ?_) (fun f' st' e0 c' => ?_) (by omega)
      · subst e0
        have hz : f.1 = 0 := by
          rcases Nat.eq_zero_or_pos f.1 with q | q
          · exact q
          · have := (w.2.2.1 f.1 hf1).1.2.1 q
            simp only [List.length_nil] at g2
            omega
        rw [hnb, hz]
        exact (wf_b0 w).1
      · subst e0
        obtain ⟨k1, k2, k3, _⟩ := g9
        have hf2 : f'.1 < nd.length := by omega
        have a1 := (bhf_isB hf2).2.2.1 n k1 c'
        have a2 := (bhf_isB hf1).2.2.2 (by have := bhf_lt hf2; omega)
        rw [← hnb] at a2
        simp only [List.length_cons] at g2
        omega
/-- what is written in the explicit syntax reads back -/
theorem rD_back {nd : List Nd} (w : wfT nd) (hX : ∀ x ∈ nd, okX x) (hr : nG nd 0 = (0, 254, 0, [])) (hfit : ∀ k, 1 ≤ k → k < nd.length → kd (nT nd k) = 1 ∨ vln 0 nd k ≤ 240) : rD 0 (cB 0 nd (nd.length - 1)) = (0, nd) := by
  have g1 := w.2.2.2.1
  have hb0 := wf_b0 w
  have ht : nd.take 1 = [(0, 254, 0, [])] := by
    have := take_n (nd := nd) (n := 0) g1
    rw [← this, hr]
    rfl
  have hl : (cB 0 nd (nd.length - 1)).length = wS 0 nd 1 (nd.length - 1) := cB_len _
  have hbig : ∀ m, 2 * m ≤ wS 0 nd 1 m := by
    intro m
    induction m with
    | zero => exact Nat.zero_le _
    | succ m ih =>
      rw [wS_s]
      have := hd_le 0 (nT nd (1 + m))
      omega
  unfold rD
  rw [← ht, hl]
  refine rk_go w hX hfit _ 1 [(0, wS 0 nd 1 (nd.length - 1), false, 0, 0)] (Nat.le_refl _) g1 ⟨by show 0 < 1; omega, hb0.2, by show 1 ≤ bhf nd 0; omega, by show wS 0 nd 1 (nd.length - 1) = wS 0 nd 1 (bhf nd 0 - 1); rw [hb0.1], rfl, ?_, .inl rfl, fun f' st' e => (by cases e), trivial⟩ (fun e => by cases e) (fun f st' e hb => ?_) ?_
  · show 0 = cntk nd 0 1
    unfold cntk
    rw [List.filter_eq_nil_iff.mpr]
    · rfl
    · intro a ha
      have := List.mem_range.mp ha
      simp only [decide_eq_true_eq]
      omega
  · injection e with e1 e2
    subst e1 e2
    have hb : 1 < bhf nd 0 := hb
    have a1 := (w.2.2.1 0 g1).1.2.2.2.2 (by omega)
    have a2 := (w.2.2.1 1 (by omega)).1.2.1 (by omega)
    rw [hb0.2] at a1
    simp only [List.length_nil]
    rw [Nat.zero_add] at a1
    omega
  · have := hbig (nd.length - 1)
    simp only [List.length_cons, List.length_nil]
    omega
