/-! PURE: what is written reads back: one node -/
theorem gd_ap {l r : List Nat} {i : Nat} : (l ++ r).getD (l.length + i) 0 = r.getD i 0 := by
  simp [List.getD, List.getElem?_append_right]
theorem gd_al {l r : List Nat} {i : Nat} (h : i < l.length) : (l ++ r).getD i 0 = l.getD i 0 := by
  simp [List.getD, List.getElem?_append_left h]
theorem rk_get {nd : List Nd} {n i : Nat} (h1 : 1 ≤ n) (hn : n < nd.length) (hi : i < (nB 0 nd n).length) : (cB 0 nd (nd.length - 1)).getD (wS 0 nd 1 (n - 1) + i) 0 = (nB 0 nd n).getD i 0 := by
  have e : cB 0 nd (nd.length - 1) = cB 0 nd (n - 1) ++ (nB 0 nd n ++ sB 0 nd (n + 1) (nd.length - n - 1)) := by
    rw [sB_cB, sB_cB, show nd.length - 1 = (n - 1) + (nd.length - n) by omega, sB_ap, show 1 + (n - 1) = n by omega, show nd.length - n = (nd.length - n - 1) + 1 by omega, sB_s, show nB0 0 nd n = nB 0 nd n by unfold nB0; rw [if_neg (by omega)], show nd.length - n - 1 + 1 - 1 = nd.length - n - 1 by omega]
  rw [e, ← cB_len, gd_ap, gd_al hi]
theorem wS_mono {syn : Nat} {nd : List Nd} {a b : Nat} (h : a ≤ b) : wS syn nd 1 a ≤ wS syn nd 1 b := by
  rw [show b = a + (b - a) by omega, wS_split]
  omega
theorem wS_next {nd : List Nd} {n : Nat} (h1 : 1 ≤ n) : wS 0 nd 1 n = wS 0 nd 1 (n - 1) + (hd 0 (nT nd n) + ow nd n) := by
  have := wS_s (syn := 0) (nd := nd) (a := 1) (m := n - 1)
  rw [show n - 1 + 1 = n by omega, show 1 + (n - 1) = n by omega] at this
  exact this
theorem take_n {nd : List Nd} {n : Nat} (h : n < nd.length) : nd.take n ++ [nG nd n] = nd.take (n + 1) := by
  rw [List.take_succ, List.getElem?_eq_getElem h]
  simp [nG, List.getD, h]
/-- the length and the value of node n -/
theorem rk_ln {nd : List Nd} {n E : Nat} {f : Fr} {st : List Fr} (w : wfT nd) (hX : ∀ x ∈ nd, okX x) (h1 : 1 ≤ n) (hn : n < nd.length) (hfit : kd (nT nd n) = 1 ∨ vln 0 nd n ≤ 240) (hL : nL nd n = st.length + 1) (hE : f.2.1 = wS 0 nd 1 (E - 1)) (hbE : bhf nd n ≤ E) : rLn (cB 0 nd (nd.length - 1)) (nT nd n) (wS 0 nd 1 (n - 1) + (hd 0 (nT nd n) - 1)) f st (nd.take n) = .inr (wS 0 nd 1 n, (if kd (nT nd n) ≤ 2 then f :: st else (n, wS 0 nd 1 (bhf nd n - 1), false, 0, 0) :: f :: st), nd.take (n + 1)) := by
  have hk := kd_le (nT nd n)
  have hb := bhf_lt hn
  have hnx := wS_next (nd := nd) h1
  have hm := wS_mono (syn := 0) (nd := nd) (show n ≤ E - 1 by omega)
  have hmb := wS_mono (syn := 0) (nd := nd) (show bhf nd n - 1 ≤ E - 1 by omega)
  have hlen := nB_len (syn := 0) (nd := nd) (k := n)
  have hhd := hd_le 0 (nT nd n)
  have ox := hX _ (nG_mem hn)
  have on := w.1 _ (nG_mem hn)
  have htl : (nd.take n).length = n := by rw [List.length_take]; omega
  have hnode : ∀ (v : Int32) (t : List Nat), nV nd n = v → nX nd n = t → nd.take n ++ [(st.length + 1, nT nd n, v, t)] = nd.take (n + 1) := by
    intro v t hv ht
    rw [← take_n hn, ← hL, ← hv, ← ht]
    rfl
  unfold rLn
  rw [if_neg (by omega)]
  by_cases k1 : kd (nT nd n) = 1
  · -- a number
    have hh : hd 0 (nT nd n) = 3 := by unfold hd; rw [if_pos (by omega)]
    have how : ow nd n = nb (nV nd n) := by unfold ow xl; rw [if_neg (by omega), if_pos k1]
    have hnB : nB 0 nd n = [nT nd n, 1, nb (nV nd n)] ++ (List.range (nb (nV nd n))).map (by8 (nV nd n)) := by
      unfold nB numB
      rw [if_pos k1]
      rfl
    have hv := nb_le (nV nd n)
    have g2 : (cB 0 nd (nd.length - 1)).getD (wS 0 nd 1 (n - 1) + 2) 0 = nb (nV nd n) := by
      rw [rk_get h1 hn (by omega), hnB]
      rfl
    rw [hh, show 3 - 1 = 2 from rfl, g2, k1, if_pos ⟨by unfold okL; rw [if_pos rfl]; exact decide_eq_true (by omega), .inr (by omega)⟩, if_pos rfl, if_pos (by omega)]
    have hnu : nu (cB 0 nd (nd.length - 1)) (wS 0 nd 1 (n - 1) + 2 + 1) (nb (nV nd n)) = nV nd n := by
      refine nu_by8 (fun i hi => ?_)
      rw [show wS 0 nd 1 (n - 1) + 2 + 1 + i = wS 0 nd 1 (n - 1) + (3 + i) by omega, rk_get h1 hn (by omega), hnB]
      rw [show 3 + i = [nT nd n, 1, nb (nV nd n)].length + i from rfl, gd_ap]
      simp [List.getD, hi]
    rw [hnu, hnode _ _ rfl (on.2.2 (by show kd (nT nd n) ≠ 2; omega)), show wS 0 nd 1 (n - 1) + 2 + 1 + nb (nV nd n) = wS 0 nd 1 n by omega]
  · by_cases k2 : kd (nT nd n) = 2
    · -- a text
      have hh : hd 0 (nT nd n) = 3 := by unfold hd; rw [if_pos (by omega)]
      have how : ow nd n = (nX nd n).length + (nX nd n).length % 2 := by unfold ow xl; rw [if_pos k2, if_neg k1, if_pos k2]
      have hvl : vln 0 nd n = (nX nd n).length + (nX nd n).length % 2 := by rw [vln_leaf w.2.1 hn (by omega), how]
      have hnB : nB 0 nd n = [nT nd n, 2, vln 0 nd n] ++ txB (nX nd n) := by
        unfold nB
        rw [if_neg k1, if_pos (by omega), if_pos k2, k2]
        rfl
      have h16 : (nX nd n).length ≤ 16 := (on.2.1 k2).1
      have hch : ∀ i, i < (nX nd n).length → 32 ≤ (nX nd n).getD i 0 ∧ (nX nd n).getD i 0 ≤ 126 := by
        intro i hi
        rw [List.getD, List.getElem?_eq_getElem hi]
        exact (on.2.1 k2).2 _ (List.getElem_mem hi)
      have g2 : (cB 0 nd (nd.length - 1)).getD (wS 0 nd 1 (n - 1) + 2) 0 = vln 0 nd n := by
        rw [rk_get h1 hn (by omega), hnB]
        rfl
      have gT : ∀ i, i < (nX nd n).length + (nX nd n).length % 2 → (cB 0 nd (nd.length - 1)).getD (wS 0 nd 1 (n - 1) + 2 + 1 + i) 0 = if i < (nX nd n).length then (nX nd n).getD i 0 else 32 := by
        intro i hi
        rw [show wS 0 nd 1 (n - 1) + 2 + 1 + i = wS 0 nd 1 (n - 1) + (3 + i) by omega, rk_get h1 hn (by omega), hnB]
        rw [show 3 + i = [nT nd n, 2, vln 0 nd n].length + i from rfl, gd_ap]
        unfold txB
        simp [List.getD, hi]
      have hkp : kp (cB 0 nd (nd.length - 1)) (wS 0 nd 1 (n - 1) + 2 + 1) (vln 0 nd n) = (nX nd n).length := by
        unfold kp
        rw [hvl]
        by_cases z : (nX nd n).length = 0
        · rw [z, if_neg (by omega)]
        · rw [Nat.add_sub_assoc (by omega), gT _ (by omega)]
          by_cases od : (nX nd n).length % 2 = 1
          · rw [if_neg (by omega : ¬ (nX nd n).length + (nX nd n).length % 2 - 1 < (nX nd n).length), if_pos ⟨by omega, rfl⟩]
            omega
          · have hne := ox.2.1 (fun e => z (by show (nG nd n).2.2.2.length = 0; rw [e]; rfl))
            rw [if_pos (by omega : (nX nd n).length + (nX nd n).length % 2 - 1 < (nX nd n).length), if_neg (fun e => hne (by
              have e2 := e.2
              rw [show (nX nd n).length + (nX nd n).length % 2 - 1 = (nX nd n).length - 1 by omega] at e2
              exact e2))]
            omega
      have hbad : badT (cB 0 nd (nd.length - 1)) (wS 0 nd 1 (n - 1) + 2 + 1) (vln 0 nd n) = false := by
        unfold badT
        rw [hkp, Bool.or_eq_false_iff]
        constructor
        · refine decide_eq_false (fun e => ?_)
          have hne := ox.2.1 (fun q => by have := e.1; rw [show nX nd n = [] from q] at this; exact absurd this (by decide))
          have e2 := e.2
          rw [Nat.add_sub_assoc (by omega), gT _ (by omega), if_pos (by omega)] at e2
          exact hne e2
        · rw [List.any_eq_false]
          intro i hi
          have hi := List.mem_range.mp hi
          rw [gT i (by omega), if_pos hi]
          have := hch i hi
          simp only [decide_eq_true_eq]
          omega
      have htx : tx (cB 0 nd (nd.length - 1)) (wS 0 nd 1 (n - 1) + 2 + 1) (nX nd n).length = nX nd n := by
        unfold tx
        apply List.ext_getElem
        · simp
        · intro i q1 q2
          rw [List.getElem_map, List.getElem_range, gT i (by omega), if_pos q2]
          simp [List.getD, q2]
      rw [hh, show 3 - 1 = 2 from rfl, g2, k2, if_pos ⟨by unfold okL; rw [if_neg (by decide), if_pos rfl]; exact decide_eq_true (by omega), .inr (by omega)⟩, if_neg (by decide), if_pos rfl, hbad, if_neg (by decide), hkp, htx, if_pos (by omega)]
      rw [hnode _ _ (ox.1 k1) rfl, show wS 0 nd 1 (n - 1) + 2 + 1 + vln 0 nd n = wS 0 nd 1 n by omega]
    · -- a sequence or an item
      have how : ow nd n = 0 := by unfold ow xl; rw [if_neg k2, if_neg k1, if_neg k2]
      have g2 : (cB 0 nd (nd.length - 1)).getD (wS 0 nd 1 (n - 1) + (hd 0 (nT nd n) - 1)) 0 = vln 0 nd n := by
        rw [rk_get h1 hn (by omega)]
        unfold nB hd
        by_cases k4 : kd (nT nd n) = 4
        · rw [if_neg k1, if_neg (by omega), if_neg k2, if_neg (by omega)]
          rfl
        · rw [if_neg k1, if_pos ⟨rfl, k4⟩, if_neg k2, if_pos ⟨rfl, k4⟩]
          rfl
      have hen : wS 0 nd 1 (bhf nd n - 1) = wS 0 nd 1 n + vln 0 nd n := by
        unfold vln
        rw [how, Nat.zero_add, show bhf nd n - 1 = n + (bhf nd n - (n + 1)) by omega, wS_split, show 1 + n = n + 1 by omega]
      rw [g2, if_pos ⟨by unfold okL; rw [if_neg k1, if_neg k2]; exact decide_eq_true (by omega), .inr (by omega)⟩, if_neg k1, if_neg k2, if_neg (by omega : ¬ vln 0 nd n = 255), if_neg (by omega : ¬ kd (nT nd n) ≤ 2), hnode _ _ (ox.1 k1) (on.2.2 k2), htl, decide_eq_false (by omega : ¬ vln 0 nd n = 255)]
      rw [hen, show wS 0 nd 1 (n - 1) + (hd 0 (nT nd n) - 1) + 1 = wS 0 nd 1 n by omega]
