/-! PURE: what a set that was read is like -/
theorem sar_toInt (y : Int32) (k : Nat) (b : Int32) (hb : (b.toBitVec.smod 32#32).toNat = k) : (y >>> b).toInt = y.toInt / 2 ^ k := by
  have e : (y >>> b).toInt = (y.toBitVec.sshiftRight (b.toBitVec.smod 32#32).toNat).toInt := rfl
  rw [e, hb, BitVec.toInt_sshiftRight, Int.shiftRight_eq_div_pow]
  rfl
theorem nu_le (src : List Nat) (q n : Nat) (h1 : 1 ≤ n) (h4 : n ≤ 4) : nb (nu src q n) ≤ n := by
  have hlo := Int32.le_toInt (nuv src q n <<< (((32 : Int32) - ((8 : Int32) * nI n)) &&& 31))
  have hhi := Int32.toInt_lt (nuv src q n <<< (((32 : Int32) - ((8 : Int32) * nI n)) &&& 31))
  unfold nu
  obtain rfl | rfl | rfl | rfl : n = 1 ∨ n = 2 ∨ n = 3 ∨ n = 4 := by omega
  · have := sar_toInt (nuv src q 1 <<< (((32 : Int32) - ((8 : Int32) * nI 1)) &&& 31)) 24 (((32 : Int32) - ((8 : Int32) * nI 1)) &&& 31) (by decide +kernel)
    unfold nb
    rw [this]
    rw [if_neg (by omega)]
    omega
  · have := sar_toInt (nuv src q 2 <<< (((32 : Int32) - ((8 : Int32) * nI 2)) &&& 31)) 16 (((32 : Int32) - ((8 : Int32) * nI 2)) &&& 31) (by decide +kernel)
    unfold nb
    rw [this]
    split
    · rw [if_neg (by omega)]
      omega
    · omega
  · have := sar_toInt (nuv src q 3 <<< (((32 : Int32) - ((8 : Int32) * nI 3)) &&& 31)) 8 (((32 : Int32) - ((8 : Int32) * nI 3)) &&& 31) (by decide +kernel)
    unfold nb
    rw [this]
    split
    · split
      · rw [if_neg (by omega)]
        omega
      · omega
    · omega
  · exact (nb_le _).2
/-- a node and its place -/
def evA (ps : Nat) (f : Fr) (st : List Fr) (x : Nd) (f' : Fr) (ps' : Nat) : Prop :=
  x.1 = st.length + 1 ∧ f'.1 = f.1 ∧ f'.2.1 = f.2.1 ∧ f'.2.2.2.1 = f.2.2.2.1 + 1 ∧ okN x ∧ ps + 2 + (if kd x.2.1 = 1 then nb x.2.2.1 else x.2.2.2.length + x.2.2.2.length % 2) ≤ ps' ∧
  ((st.length % 2 = 0 ∧ kd x.2.1 ≤ 3 ∧ 1 ≤ x.2.1 ∧ f.2.2.2.1 ≠ 10 ∧ f.2.2.2.2 < x.2.1 ∧ f'.2.2.2.2 = x.2.1 ∧ (kd x.2.1 = 3 → st.length ≠ 4)) ∨ (st.length % 2 = 1 ∧ x.2.1 = 254 ∧ f.2.2.2.1 ≠ 4 ∧ f'.2.2.2.2 = f.2.2.2.2))
def evS (ps : Nat) (f : Fr) (st : List Fr) (nd : List Nd) (τ : RS) : Prop :=
  (∃ ps', τ = (ps', st, nd) ∧ ps ≤ ps') ∨ ∃ x f' ps', evA ps f st x f' ps' ∧ ((kd x.2.1 ≤ 2 ∧ τ = (ps', f' :: st, nd ++ [x])) ∨ (3 ≤ kd x.2.1 ∧ ∃ en o, τ = (ps', (nd.length, en, o, 0, 0) :: f' :: st, nd ++ [x])))
theorem kd_big {g : Nat} (h : ¬ 200 < g) : kd g ≤ 3 := by
  unfold kd
  split
  · omega
  · split
    · omega
    · split <;> omega
theorem tx_even {src : List Nat} {q n : Nat} (he : n % 2 = 0) : (tx src q (kp src q n)).length + (tx src q (kp src q n)).length % 2 ≤ n := by
  rw [tx_len]
  have := kp_le (src := src) (q := q) (n := n)
  unfold kp at this ⊢
  split <;> omega
theorem ev_rLn {src : List Nat} {ps p g : Nat} {f f' : Fr} {st : List Fr} {nd : List Nd} {τ : RS} (hp : ps < p) (hf1 : f'.1 = f.1) (hf2 : f'.2.1 = f.2.1) (hf3 : f'.2.2.2.1 = f.2.2.2.1 + 1) (hg : g ≤ 200 ∨ g = 254) (hk : (st.length % 2 = 0 ∧ kd g ≤ 3 ∧ 1 ≤ g ∧ f.2.2.2.1 ≠ 10 ∧ f.2.2.2.2 < g ∧ f'.2.2.2.2 = g ∧ (kd g = 3 → st.length ≠ 4)) ∨ (st.length % 2 = 1 ∧ g = 254 ∧ f.2.2.2.1 ≠ 4 ∧ f'.2.2.2.2 = f.2.2.2.2)) (e : rLn src g p f' st nd = .inr τ) : evS ps f st nd τ := by
  unfold rLn at e
  split at e
  · cases e
  · split at e
    · rename_i h2
      split at e
      · rename_i h3
        have h4 : 1 ≤ src.getD p 0 ∧ src.getD p 0 ≤ 4 := by
          have := h2.1
          rw [h3] at this
          exact of_decide_eq_true this
        cases e
        refine .inr ⟨_, _, _, ⟨rfl, hf1, hf2, hf3, ⟨hg, fun h => ?_, fun _ => rfl⟩, ?_, hk⟩, .inl ⟨by dsimp only; omega, rfl⟩⟩
        · dsimp only at h; omega
        · dsimp only
          rw [if_pos h3]
          have := nu_le src (p + 1) (src.getD p 0) h4.1 h4.2
          omega
      · split at e
        · rename_i h3 h5
          have h4 : src.getD p 0 ≤ 16 ∧ src.getD p 0 % 2 = 0 := by
            have := h2.1
            rw [h5] at this
            exact of_decide_eq_true this
          split at e
          · cases e
          · rename_i h6
            have h7 := badT_no (Bool.eq_false_iff.mpr h6)
            cases e
            refine .inr ⟨_, _, _, ⟨rfl, hf1, hf2, hf3, ⟨hg, fun _ => ⟨?_, fun c hc => ?_⟩, fun h => absurd h5 h⟩, ?_, hk⟩, .inl ⟨by dsimp only; omega, rfl⟩⟩
            · dsimp only
              rw [tx_len]
              have := kp_le (src := src) (q := p + 1) (n := src.getD p 0)
              omega
            · dsimp only at hc
              unfold tx at hc
              obtain ⟨i, hi, rfl⟩ := List.mem_map.mp hc
              exact h7.2 i (List.mem_range.mp hi)
            · dsimp only
              rw [if_neg h3]
              have := tx_even (src := src) (q := p + 1) (n := src.getD p 0) h4.2
              omega
        · rename_i h3 h5
          cases e
          have hk4 := kd_le g
          refine .inr ⟨_, _, _, ⟨rfl, hf1, hf2, hf3, ⟨hg, fun h => absurd h h5, fun _ => rfl⟩, ?_, hk⟩, .inr ⟨by dsimp only; omega, _, _, rfl⟩⟩
          dsimp only
          rw [if_neg h3]
          simp
          omega
    · cases e
theorem ev_rSt {syn : Nat} {src : List Nat} {ps : Nat} {f : Fr} {st : List Fr} {nd : List Nd} {τ : RS} (e : rSt syn src ps f st nd = .inr τ) : evS ps f st nd τ := by
  rcases rSt_c syn src ps f st nd with ⟨c1, ⟨c2, c3⟩ | ⟨c2, c3⟩⟩ | ⟨c1, c3⟩ | ⟨c1, hev, c3⟩ | ⟨c1, hodd, c3⟩
  · rw [c3] at e
    cases e
  · rw [c3] at e
    cases e
    exact .inl ⟨_, rfl, Nat.le_refl _⟩
  · rw [c3] at e
    cases e
    exact .inl ⟨_, rfl, by omega⟩
  · rw [c3] at e
    · · unfold rEl at e
        split at e
        · cases e
        · rename_i b1
          split at e
          · cases e
          · rename_i b2
            split at e
            · cases e
            · rename_i b3
              split at e
              · cases e
              · split at e
                · cases e
                · refine ev_rLn (f := f) (ps := ps) (g := src.getD ps 0) (f' := (f.1, f.2.1, f.2.2.1, f.2.2.2.1 + 1, src.getD ps 0)) ?_ rfl rfl rfl (by omega) (.inl ⟨hev, kd_big (by omega), by omega, b2, by omega, rfl, fun h h' => b3 ⟨h, h'⟩⟩) e
                  split <;> omega
  · rw [c3] at e
    · · unfold rIt at e
        split at e
        · cases e
        · split at e
          · cases e
          · rename_i b1 b2
            exact ev_rLn (f := f) (ps := ps) (g := 254) (f' := (f.1, f.2.1, f.2.2.1, f.2.2.2.1 + 1, f.2.2.2.2)) (by omega) rfl rfl rfl (by omega) (.inr ⟨by omega, rfl, b2, rfl⟩) e
/-! nodes that come behind -/
theorem bhf_a {nd : List Nd} {x : Nd} {k : Nat} (hk : k < nd.length) : bhf (nd ++ [x]) k = if bhf nd k = nd.length ∧ nL nd k < x.1 then nd.length + 1 else bhf nd k := by
  have h1 := bhf_isB hk
  have hk' : k < (nd ++ [x]).length := by simp; omega
  split
  · rename_i h
    refine isB_uniq (bhf_isB hk') ⟨by omega, by simp, fun j a1 a2 => ?_, fun e => by simp at e⟩
    rw [nL_a hk]
    by_cases e : j < nd.length
    · rw [nL_a e]
      exact h1.2.2.1 j a1 (by omega)
    · have : j = nd.length := by omega
      subst this
      rw [nL_n]
      exact h.2
  · rename_i h
    refine isB_uniq (bhf_isB hk') (isB_a h1 ?_)
    have := h1.2.1
    by_cases e : bhf nd k < nd.length
    · exact .inl e
    · exact .inr (by omega)
theorem bhf_n {nd : List Nd} {x : Nd} : bhf (nd ++ [x]) nd.length = nd.length + 1 := isB_uniq (bhf_isB (by simp)) isB_n
def kfl (nd : List Nd) (k : Nat) : List Nat := (List.range nd.length).filter (fun j => decide (k < j ∧ j < bhf nd k ∧ nL nd j = nL nd k + 1))
theorem kf_a {nd : List Nd} {x : Nd} {k : Nat} (hk : k < nd.length) : kfl (nd ++ [x]) k = kfl nd k ++ (if bhf nd k = nd.length ∧ x.1 = nL nd k + 1 then [nd.length] else []) := by
  unfold kfl
  have hb := bhf_a (x := x) hk
  have h1 := bhf_lt hk
  rw [List.length_append, List.length_cons, List.length_nil, List.range_succ, List.filter_append]
  congr 1
  · refine List.filter_congr (fun j hj => ?_)
    have hj := List.mem_range.mp hj
    rw [nL_a hj, nL_a hk, hb]
    apply decide_eq_decide.mpr
    split
    · constructor
      · rintro ⟨a, b, c⟩; exact ⟨a, by omega, c⟩
      · rintro ⟨a, b, c⟩; exact ⟨a, by omega, c⟩
    · exact Iff.rfl
  · by_cases e : bhf nd k = nd.length ∧ x.1 = nL nd k + 1
    · rw [if_pos e, List.filter_cons_of_pos (by
        rw [nL_n, nL_a hk, hb, if_pos ⟨e.1, by omega⟩]
        exact decide_eq_true ⟨hk, by omega, e.2⟩)]
      rfl
    · rw [if_neg e, List.filter_cons_of_neg (by
        rw [nL_n, nL_a hk, hb]
        intro h
        have h := of_decide_eq_true h
        split at h
        · rename_i h9
          exact e ⟨h9.1, h.2.2⟩
        · omega)]
      rfl
theorem kf_n {nd : List Nd} {x : Nd} : kfl (nd ++ [x]) nd.length = [] := by
  unfold kfl
  rw [List.filter_eq_nil_iff]
  intro j hj h
  have h := of_decide_eq_true h
  rw [bhf_n] at h
  omega
def kok (nd : List Nd) (k : Nat) : Prop := (kfl nd k).length ≤ 10 ∧ (nL nd k % 2 = 1 → (kfl nd k).length ≤ 4) ∧ (nL nd k % 2 = 0 → (kfl nd k).Pairwise (fun i j => nT nd i < nT nd j))
def nok (nd : List Nd) (k : Nat) : Prop := (k = 0 → nL nd k = 0) ∧ (0 < k → 1 ≤ nL nd k) ∧ nL nd k ≤ 5 ∧ (kd (nT nd k) = 4 ↔ nL nd k % 2 = 0) ∧ (k + 1 < nd.length → nL nd (k + 1) ≤ nL nd k + 1)
def sls : List Fr → Nat
  | [] => 0
  | f :: st => sls st + (if st.length % 2 = 1 then 4 - f.2.2.2.1 else 0)
def nit (nd : List Nd) : Nat := (nd.filter (fun x => decide (kd x.2.1 = 4))).length
def nsq (nd : List Nd) : Nat := (nd.filter (fun x => decide (kd x.2.1 = 3))).length
def fok (nd : List Nd) : List Fr → Prop
  | [] => True
  | f :: st => 3 ≤ kd (nT nd f.1) ∧ (kfl nd f.1).length = f.2.2.2.1 ∧ (st.length % 2 = 0 → ∀ j ∈ kfl nd f.1, nT nd j ≤ f.2.2.2.2) ∧ (st.length % 2 = 1 → f.2.2.2.1 ≤ 4) ∧ fok nd st
/-- what holds of the nodes while they are read -/
def wx (σ : RS) : Prop := wfA σ.2.2 ∧ wfL σ.2.2 ∧ (∀ k, k < σ.2.2.length → nok σ.2.2 k ∧ kok σ.2.2 k) ∧ fok σ.2.2 σ.2.1 ∧ wS 1 σ.2.2 1 (σ.2.2.length - 1) ≤ σ.1 ∧ nit σ.2.2 + sls σ.2.1 ≤ 4 * nsq σ.2.2 + 1
theorem kf_mem {nd : List Nd} {k j : Nat} (h : j ∈ kfl nd k) : j < nd.length ∧ k < j ∧ j < bhf nd k ∧ nL nd j = nL nd k + 1 := by
  unfold kfl at h
  obtain ⟨h1, h2⟩ := List.mem_filter.mp h
  exact ⟨List.mem_range.mp h1, of_decide_eq_true h2⟩
theorem xl_c {nd nd' : List Nd} {k : Nat} (h : nG nd k = nG nd' k) : ow nd k = ow nd' k ∧ nT nd k = nT nd' k := by
  unfold ow xl nT nV nX
  rw [h]
  exact ⟨rfl, rfl⟩
theorem wS_c {syn : Nat} {nd nd' : List Nd} {a : Nat} : ∀ m, (∀ i, i < m → nG nd (a + i) = nG nd' (a + i)) → wS syn nd a m = wS syn nd' a m
  | 0, _ => rfl
  | m + 1, h => by
    obtain ⟨h1, h2⟩ := xl_c (h m (by omega))
    unfold wS
    rw [wS_c m (fun i hi => h i (by omega)), h1, h2]
