/-! PURE: a step keeps it -/
theorem fok_kd {nd : List Nd} : ∀ {fs : List Fr}, fok nd fs → ∀ k, k ∈ fs.map (fun f => f.1) → 3 ≤ kd (nT nd k)
  | [], _, k, h => by simp at h
  | f :: st, h, k, hk => by
    simp only [List.map_cons, List.mem_cons] at hk
    rcases hk with hk | hk
    · rw [hk]; exact h.1
    · exact fok_kd h.2.2.2.2 k hk
theorem fok_a {n : Nat} {nd : List Nd} {x : Nd} : ∀ {st : List Fr}, chn n nd st → fok nd st → st.length < x.1 → fok (nd ++ [x]) st
  | [], _, _, _ => trivial
  | f :: st, hc, h, hx => by
    obtain ⟨a1, a2, a3, a4, a5, a6, a7, a8⟩ := hc
    obtain ⟨h1, h2, h3, h4, h5⟩ := h
    simp only [List.length_cons] at hx
    have hk : kfl (nd ++ [x]) f.1 = kfl nd f.1 := by
      rw [kf_a a1, if_neg (by omega), List.append_nil]
    refine ⟨by rw [nT_a a1]; exact h1, by rw [hk]; exact h2, fun e j hj => ?_, h4, fok_a a8 h5 (by omega)⟩
    rw [hk] at hj
    rw [nT_a (kf_mem hj).1]
    exact h3 e j hj
theorem pw_nT {nd nd' : List Nd} {l : List Nat} (h : l.Pairwise (fun i j => nT nd i < nT nd j)) (hc : ∀ j ∈ l, nT nd' j = nT nd j) : l.Pairwise (fun i j => nT nd' i < nT nd' j) :=
  h.imp_of_mem (fun {a b} ha hb hab => by rw [hc a ha, hc b hb]; exact hab)
theorem wx_step {n ps : Nat} {f : Fr} {st : List Fr} {nd : List Nd} {τ : RS} (hw : wv n (ps, f :: st, nd)) (h : wx (ps, f :: st, nd)) (he : evS ps f st nd τ) : wx τ := by
  obtain ⟨w1, w2, w3, w4, w5, w6⟩ := hw
  obtain ⟨x1, x2, x3, x4, x5, x6⟩ := h
  dsimp only at w1 w2 w3 w4 w5 w6 x1 x2 x3 x4 x5 x6
  have hchn := w6
  obtain ⟨a1, a2, a3, a4, a5, a6, a7, a8⟩ := w6
  have hfok := x4
  obtain ⟨f1, f2, f3, f4, f5⟩ := x4
  rcases he with ⟨ps', rfl, hp⟩ | ⟨x, f', ps', ⟨e1, e2, e3, e4, e5, e6, e7⟩, e8⟩
  · refine ⟨x1, x2, x3, f5, by dsimp only; omega, ?_⟩
    dsimp only
    unfold sls at x6
    omega
  · simp only [List.length_cons] at w2
    have hbf : bhf nd f.1 = nd.length := isB_uniq (bhf_isB a1) (chn_top hchn)
    have hkf : kfl (nd ++ [x]) f.1 = kfl nd f.1 ++ [nd.length] := by
      rw [kf_a a1, if_pos ⟨hbf, by omega⟩]
    have honly : ∀ k, k < nd.length → bhf nd k = nd.length → nL nd k = st.length → k = f.1 := by
      intro k hk hb hl
      have hB := bhf_isB hk
      rw [hb] at hB
      rcases Nat.lt_trichotomy k f.1 with g | g | g
      · have := hB.2.2.1 f.1 g a1
        omega
      · exact g
      · have := a3 k g hk
        omega
    have n1 : wfA (nd ++ [x]) := by
      intro y hy
      rcases List.mem_append.mp hy with hy | hy
      · exact x1 y hy
      · rw [List.mem_singleton.mp hy]; exact e5
    have n2 : wfL (nd ++ [x]) := by
      intro k hk h2
      by_cases c : k < nd.length
      · rw [nT_a c] at h2
        have hB := x2 k c h2
        refine isB_a hB ?_
        by_cases c2 : k + 1 < nd.length
        · exact .inl c2
        · right
          have c3 : k + 1 = nd.length := by omega
          rw [c3] at hB
          have := chn_closed hB hchn (fun hm => by have := fok_kd hfok k hm; omega)
          simp only [List.length_cons] at this
          omega
      · have : k = nd.length := by simp at hk; omega
        subst this
        exact isB_n
    have n3 : ∀ k, k < (nd ++ [x]).length → nok (nd ++ [x]) k ∧ kok (nd ++ [x]) k := by
      intro k hk
      by_cases c : k < nd.length
      · obtain ⟨⟨o1, o2, o3, o4, o5⟩, ⟨p1, p2, p3⟩⟩ := x3 k c
        refine ⟨⟨by rw [nL_a c]; exact o1, by rw [nL_a c]; exact o2, by rw [nL_a c]; exact o3, by rw [nL_a c, nT_a c]; exact o4, fun hk1 => ?_⟩, ?_⟩
        · rw [nL_a c]
          by_cases c2 : k + 1 < nd.length
          · rw [nL_a c2]; exact o5 c2
          · have c3 : k + 1 = nd.length := by omega
            rw [c3, nL_n]
            by_cases c4 : k = f.1
            · rw [c4]; omega
            · have := a3 k (by omega) c
              omega
        · unfold kok
          rw [nL_a c]
          by_cases c2 : k = f.1
          · rw [c2, hkf]
            rw [c2] at p1 p2 p3
            refine ⟨by rw [List.length_append]; simp only [List.length_cons, List.length_nil]; rcases e7 with e7 | e7 <;> omega, fun ho => by rw [List.length_append]; simp only [List.length_cons, List.length_nil]; rw [a2] at ho; rcases e7 with e7 | e7 <;> omega, fun hev => ?_⟩
            rw [a2] at hev
            rw [List.pairwise_append]
            refine ⟨pw_nT (p3 (by rw [a2]; exact hev)) (fun j hj => nT_a (kf_mem hj).1), List.pairwise_singleton _ _, fun i hi j hj => ?_⟩
            rw [List.mem_singleton.mp hj, nT_n, nT_a (kf_mem hi).1]
            have := f3 hev i hi
            rcases e7 with e7 | e7
            · omega
            · omega
          · have : kfl (nd ++ [x]) k = kfl nd k := by
              rw [kf_a c, if_neg (fun hh => c2 (honly k c hh.1 (by omega))), List.append_nil]
            rw [this]
            exact ⟨p1, p2, fun hev => pw_nT (p3 hev) (fun j hj => nT_a (kf_mem hj).1)⟩
      · have : k = nd.length := by simp at hk; omega
        subst this
        have hk4 := kd_le x.2.1
        refine ⟨⟨fun h0 => by omega, fun _ => by rw [nL_n]; omega, by rw [nL_n]; omega, ?_, fun hk1 => by simp at hk1⟩, ?_⟩
        · rw [nL_n, nT_n]
          rcases e7 with e7 | e7
          · omega
          · have : kd x.2.1 = 4 := by rw [e7.2.1]; rfl
            omega
        · unfold kok
          rw [kf_n]
          exact ⟨by simp, fun _ => by simp, fun _ => List.Pairwise.nil⟩
    have n4 : fok (nd ++ [x]) (f' :: st) := by
      refine ⟨by rw [e2, nT_a a1]; exact f1, ?_, fun hev j hj => ?_, fun ho => ?_, fok_a a8 f5 (by omega)⟩
      · rw [e2, hkf, List.length_append, f2, e4]
        rfl
      · rw [e2, hkf] at hj
        rcases e7 with e7 | e7
        · rcases List.mem_append.mp hj with hj | hj
          · rw [nT_a (kf_mem hj).1]
            have := f3 hev j hj
            omega
          · rw [List.mem_singleton.mp hj, nT_n]
            omega
        · omega
      · rcases e7 with e7 | e7
        · omega
        · have := f4 ho
          omega
    have n5 : wS 1 (nd ++ [x]) 1 ((nd ++ [x]).length - 1) ≤ ps' := by
      have l1 : (nd ++ [x]).length - 1 = nd.length - 1 + 1 := by simp; omega
      rw [l1]
      unfold wS
      rw [wS_c (nd' := nd) (nd.length - 1) (fun i hi => nG_a (by omega)), show 1 + (nd.length - 1) = nd.length by omega, nT_n]
      have l2 : hd 1 x.2.1 = 2 := by unfold hd; rw [if_neg (by omega)]
      have l3 : ow (nd ++ [x]) nd.length ≤ (if kd x.2.1 = 1 then nb x.2.2.1 else x.2.2.2.length + x.2.2.2.length % 2) := by
        unfold ow
        rw [nT_n, xl_n]
        by_cases c1 : kd x.2.1 = 1
        · rw [if_neg (by omega), if_pos c1, if_pos c1]
          exact Nat.le_refl _
        · rw [if_neg c1]
          by_cases c2 : kd x.2.1 = 2
          · rw [if_pos c2, if_pos c2, if_neg c1]
            exact Nat.le_refl _
          · rw [if_neg c2, if_neg c2, if_neg c1]
            omega
      omega
    have hit : nit (nd ++ [x]) = nit nd + (if kd x.2.1 = 4 then 1 else 0) := by
      unfold nit
      rw [List.filter_append, List.length_append]
      by_cases c : kd x.2.1 = 4 <;> simp [List.filter_cons, c]
    have hsq : nsq (nd ++ [x]) = nsq nd + (if kd x.2.1 = 3 then 1 else 0) := by
      unfold nsq
      rw [List.filter_append, List.length_append]
      by_cases c : kd x.2.1 = 3 <;> simp [List.filter_cons, c]
    have hsl : ∀ f : Fr, sls (f :: st) = sls st + (if st.length % 2 = 1 then 4 - f.2.2.2.1 else 0) := fun _ => rfl
    rw [hsl] at x6
    rcases e8 with ⟨e8, rfl⟩ | ⟨e8, en, o, rfl⟩
    · refine ⟨n1, n2, n3, n4, n5, ?_⟩
      dsimp only
      rw [hit, hsq, hsl]
      rcases e7 with e7 | e7
      · have d4 : ¬ kd x.2.1 = 4 := by omega
        have d3 : ¬ kd x.2.1 = 3 := by omega
        have s1 : ¬ st.length % 2 = 1 := by omega
        rw [if_neg d4, if_neg d3, if_neg s1]
        rw [if_neg s1] at x6
        omega
      · have : kd x.2.1 = 4 := by rw [e7.2.1]; rfl
        omega
    · refine ⟨n1, n2, n3, ⟨by rw [nT_n]; exact e8, by rw [kf_n]; rfl, fun _ j hj => by rw [kf_n] at hj; simp at hj, fun _ => by simp, n4⟩, n5, ?_⟩
      dsimp only
      rw [hit, hsq]
      show _ + (sls (f' :: st) + (if (f' :: st).length % 2 = 1 then 4 - 0 else 0)) ≤ _
      rw [hsl]
      simp only [List.length_cons]
      rcases e7 with e7 | e7
      · have d3 : kd x.2.1 = 3 := by omega
        have d4 : ¬ kd x.2.1 = 4 := by omega
        have s1 : ¬ st.length % 2 = 1 := by omega
        have s2 : (st.length + 1) % 2 = 1 := by omega
        rw [if_neg d4, if_pos d3, if_neg s1, if_pos s2]
        rw [if_neg s1] at x6
        omega
      · have : kd x.2.1 = 4 := by rw [e7.2.1]; rfl
        have := f4 e7.1
        have d4 : kd x.2.1 = 4 := by omega
        have d3 : ¬ kd x.2.1 = 3 := by omega
        have s1 : st.length % 2 = 1 := by omega
        have s2 : ¬ (st.length + 1) % 2 = 1 := by omega
        rw [if_pos d4, if_neg d3, if_pos s1, if_neg s2]
        rw [if_pos s1] at x6
        omega
theorem wx_0 (src : List Nat) : wx (0, [(0, src.length, false, 0, 0)], [(0, 254, 0, [])]) := by
  have h0 : kfl [((0, 254, 0, []) : Nd)] 0 = [] := by
    unfold kfl
    rw [List.filter_eq_nil_iff]
    intro j hj h
    have h := of_decide_eq_true h
    have := List.mem_range.mp hj
    simp at this
    omega
  refine ⟨?_, ?_, ?_, ?_, ?_, ?_⟩
  · intro x hx
    rw [List.mem_singleton.mp hx]
    exact ⟨by decide, by decide, by decide⟩
  · intro k hk h2
    have : k = 0 := by simp at hk; omega
    subst this
    exact absurd h2 (by show ¬ kd 254 ≤ 2; decide)
  · intro k hk
    have : k = 0 := by simp at hk; omega
    subst this
    refine ⟨⟨fun _ => rfl, fun h => by omega, by show 0 ≤ 5; decide, by show kd 254 = 4 ↔ 0 % 2 = 0; decide, fun h => by simp at h⟩, ?_⟩
    unfold kok
    dsimp only
    rw [h0]
    exact ⟨by simp, fun _ => by simp, fun _ => List.Pairwise.nil⟩
  · refine ⟨by show 3 ≤ kd 254; decide, by dsimp only; rw [h0]; rfl, fun _ j hj => ?_, fun _ => by simp, trivial⟩
    dsimp only at hj
    rw [h0] at hj
    simp at hj
  · exact Nat.le_refl 0
  · show nit [((0, 254, 0, []) : Nd)] + 0 ≤ 4 * nsq [((0, 254, 0, []) : Nd)] + 1
    decide
theorem rGo_wx {syn : Nat} {src : List Nat} (hs : src.length ≤ 1000) : ∀ (k : Nat) (σ : RS), wv src.length σ → wx σ → mz src.length σ ≤ k → (rGo syn src k σ).1 = 0 → ∃ ps, wv src.length (ps, [], (rGo syn src k σ).2) ∧ wx (ps, [], (rGo syn src k σ).2)
  | 0, (ps, st, nd), hw, hx, hm, _ => by
    have : st = [] := by
      unfold mz at hm
      exact List.length_eq_zero_iff.mp (by dsimp only at hm; omega)
    subst this
    exact ⟨ps, hw, hx⟩
  | k + 1, (ps, [], nd), hw, hx, _, _ => ⟨ps, hw, hx⟩
  | k + 1, (ps, f :: st, nd), hw, hx, hm, h => by
    have e0 : rGo syn src (k + 1) (ps, f :: st, nd) = (match rSt syn src ps f st nd with | .inl e => (e, nd) | .inr τ => rGo syn src k τ) := rfl
    rw [e0] at h ⊢
    cases e : rSt syn src ps f st nd with
    | inl a =>
      rw [e] at h
      have := rSt_pos e hw hs
      dsimp only at h
      omega
    | inr τ =>
      rw [e] at h
      exact rGo_wx hs k τ (wv_rSt hw e) (wx_step hw hx (ev_rSt e)) (by have := mz_rSt hw e; omega) h
/-- a set that was read -/
def wfT (nd : List Nd) : Prop := wfA nd ∧ wfL nd ∧ (∀ k, k < nd.length → nok nd k ∧ kok nd k) ∧ 1 ≤ nd.length ∧ nd.length ≤ 101 ∧ (ch nd).length ≤ 200 ∧ wS 1 nd 1 (nd.length - 1) ≤ 200 ∧ nit nd ≤ 81
theorem nit_nsq : ∀ nd : List Nd, nit nd + nsq nd ≤ nd.length
  | [] => Nat.le_refl 0
  | x :: nd => by
    have := nit_nsq nd
    unfold nit nsq at this ⊢
    by_cases c4 : kd x.2.1 = 4
    · simp only [List.filter_cons, c4, List.length_cons]
      simp
      omega
    · by_cases c3 : kd x.2.1 = 3
      · simp only [List.filter_cons, c3, List.length_cons]
        simp
        omega
      · simp only [List.filter_cons, List.length_cons]
        simp [c3, c4]
        omega
theorem rD_wfT {syn : Nat} {src : List Nat} (hs : src.length ≤ 200) (h : (rD syn src).1 = 0) : wfT (rD syn src).2 := by
  obtain ⟨ps, hw, hx⟩ := rGo_wx (by omega) _ _ (wv_0 src) (wx_0 src) (by show 2 * (src.length - 0) + 1 ≤ 2 * src.length + 2; omega) h
  obtain ⟨x1, x2, x3, x4, x5, x6⟩ := hx
  obtain ⟨w1, w2, w3, w4, w5, w6⟩ := hw
  dsimp only at w1 w2 w3 w4 x1 x2 x3 x5 x6
  have := nit_nsq (rD syn src).2
  unfold rD at this ⊢
  unfold sls at x6
  exact ⟨x1, x2, x3, w4, by omega, by omega, by omega, by omega⟩
/-! the nodes right inside, one behind the other -/
theorem kdsF_eq {nd : List Nd} {e lv : Nat} (he : e ≤ nd.length) (hel : e < nd.length → nL nd e < lv) : ∀ (m j : Nat), (∀ i, j ≤ i → i < e → lv ≤ nL nd i) → (j < e → nL nd j = lv) → e ≤ j + m → kdsF nd e m j = (List.range' j (e - j)).filter (fun i => decide (nL nd i = lv))
  | 0, j, _, _, h => by
    rw [show e - j = 0 by omega]
    rfl
  | m + 1, j, h1, h2, h => by
    unfold kdsF
    by_cases c : j < e
    · rw [if_pos c]
      have hj : j < nd.length := by omega
      have hB := bhf_isB hj
      have hl := h2 c
      have hbe : bhf nd j ≤ e := by
        rcases Nat.lt_or_ge e (bhf nd j) with g | g
        · have := hB.2.2.1 e c g
          have := hel (by have := hB.2.1; omega)
          omega
        · exact g
      have hB1 := hB.1
      rw [kdsF_eq he hel m (bhf nd j) (fun i a1 a2 => h1 i (by omega) a2) (fun a => by
        have := hB.2.2.2 (by omega)
        have := h1 (bhf nd j) (by omega) a
        omega) (by omega)]
      rw [show e - j = 1 + (bhf nd j - (j + 1)) + (e - bhf nd j) by omega, ← List.range'_append_1, ← List.range'_append_1, List.filter_append, List.filter_append]
      rw [show j + (1 + (bhf nd j - (j + 1))) = bhf nd j by omega]
      have g1 : (List.range' j 1).filter (fun i => decide (nL nd i = lv)) = [j] := by
        rw [show List.range' j 1 = [j] from rfl]
        simp [hl]
      have g2 : (List.range' (j + 1) (bhf nd j - (j + 1))).filter (fun i => decide (nL nd i = lv)) = [] := by
        rw [List.filter_eq_nil_iff]
        intro i hi hh
        have hi := List.mem_range'_1.mp hi
        have := of_decide_eq_true hh
        have := hB.2.2.1 i (by omega) (by omega)
        omega
      rw [g1, g2]
      rfl
    · rw [if_neg c, show e - j = 0 by omega]
      rfl
theorem kds_kf {nd : List Nd} {k : Nat} (hk : k < nd.length) (hn : ∀ i, i < nd.length → i + 1 < nd.length → nL nd (i + 1) ≤ nL nd i + 1) : kds nd k = kfl nd k := by
  have hB := bhf_isB hk
  unfold kds
  rw [kdsF_eq (lv := nL nd k + 1) hB.2.1 (fun e => by have := hB.2.2.2 e; omega) nd.length (k + 1) (fun i a1 a2 => hB.2.2.1 i (by omega) a2) (fun e => by
    have a := hB.2.2.1 (k + 1) (by omega) e
    have := hn k hk (by have := hB.2.1; omega)
    omega) (by have := hB.2.1; omega)]
  unfold kfl
  have h1 := hB.1
  have h2 := hB.2.1
  have a1 : List.range' (k + 1) (bhf nd k - (k + 1)) ++ List.range' (k + 1 + (bhf nd k - (k + 1))) (nd.length - bhf nd k) = List.range' (k + 1) ((bhf nd k - (k + 1)) + (nd.length - bhf nd k)) := List.range'_append_1
  rw [show k + 1 + (bhf nd k - (k + 1)) = bhf nd k by omega] at a1
  have a2 : List.range' 0 (k + 1) ++ List.range' (0 + (k + 1)) ((bhf nd k - (k + 1)) + (nd.length - bhf nd k)) = List.range' 0 ((k + 1) + ((bhf nd k - (k + 1)) + (nd.length - bhf nd k))) := List.range'_append_1
  rw [Nat.zero_add, ← a1, show k + 1 + (bhf nd k - (k + 1) + (nd.length - bhf nd k)) = nd.length by omega] at a2
  rw [List.range_eq_range', ← a2, List.filter_append, List.filter_append]
  have g1 : (List.range' 0 (k + 1)).filter (fun j => decide (k < j ∧ j < bhf nd k ∧ nL nd j = nL nd k + 1)) = [] := by
    rw [List.filter_eq_nil_iff]
    intro i hi hh
    have hi := List.mem_range'_1.mp hi
    have := of_decide_eq_true hh
    omega
  have g3 : (List.range' (bhf nd k) (nd.length - bhf nd k)).filter (fun j => decide (k < j ∧ j < bhf nd k ∧ nL nd j = nL nd k + 1)) = [] := by
    rw [List.filter_eq_nil_iff]
    intro i hi hh
    have hi := List.mem_range'_1.mp hi
    have := of_decide_eq_true hh
    omega
  rw [g1, g3, List.nil_append, List.append_nil]
  refine List.filter_congr (fun j hj => ?_)
  have hj := List.mem_range'_1.mp hj
  apply decide_eq_decide.mpr
  constructor
  · intro e; exact ⟨by omega, by omega, e⟩
  · intro e; exact e.2.2
