/-! PURE: how a set is read -/
abbrev Fr : Type := Nat × Nat × Bool × Nat × Nat
abbrev RS : Type := Nat × List Fr × List Nd
def tx (src : List Nat) (q n : Nat) : List Nat := (List.range n).map (fun i => src.getD (q + i) 0)
def kp (src : List Nat) (q n : Nat) : Nat := if 0 < n ∧ src.getD (q + n - 1) 0 = 32 then n - 1 else n
def badT (src : List Nat) (q n : Nat) : Bool := decide (0 < kp src q n ∧ src.getD (q + kp src q n - 1) 0 = 32) || (List.range (kp src q n)).any (fun i => decide (src.getD (q + i) 0 < 32 ∨ 126 < src.getD (q + i) 0))
def nuv (src : List Nat) (q : Nat) : Nat → Int32
  | 0 => 0
  | i + 1 => nuv src q i ||| (nI (src.getD (q + i) 0) <<< (((8 : Int32) * nI i) &&& 31))
def nu (src : List Nat) (q n : Nat) : Int32 := (nuv src q n <<< (((32 : Int32) - ((8 : Int32) * nI n)) &&& 31)) >>> (((32 : Int32) - ((8 : Int32) * nI n)) &&& 31)
def rLn (src : List Nat) (g p : Nat) (f : Fr) (st : List Fr) (nd : List Nd) : Nat ⊕ RS :=
  if f.2.1 ≤ p then .inl (1 + 16 * f.2.1)
  else if okL (kd g) (src.getD p 0) = true ∧ (src.getD p 0 = 255 ∨ p + 1 + src.getD p 0 ≤ f.2.1) then
    if kd g = 1 then .inr (p + 1 + src.getD p 0, f :: st, nd ++ [(st.length + 1, g, nu src (p + 1) (src.getD p 0), [])])
    else if kd g = 2 then
      if badT src (p + 1) (src.getD p 0) then .inl (5 + 16 * (p + 1))
      else .inr (p + 1 + src.getD p 0, f :: st, nd ++ [(st.length + 1, g, 0, tx src (p + 1) (kp src (p + 1) (src.getD p 0)))])
    else .inr (p + 1, (nd.length, (if src.getD p 0 = 255 then f.2.1 else p + 1 + src.getD p 0), decide (src.getD p 0 = 255), 0, 0) :: f :: st, nd ++ [(st.length + 1, g, 0, [])])
  else .inl (4 + 16 * p)
def rEl (syn : Nat) (src : List Nat) (ps : Nat) (f : Fr) (st : List Fr) (nd : List Nd) : Nat ⊕ RS :=
  if src.getD ps 0 < 1 ∨ 200 < src.getD ps 0 ∨ src.getD ps 0 ≤ f.2.2.2.2 then .inl (2 + 16 * ps)
  else if f.2.2.2.1 = 10 then .inl (7 + 16 * ps)
  else if kd (src.getD ps 0) = 3 ∧ st.length = 4 then .inl (8 + 16 * ps)
  else if syn = 0 ∧ f.2.1 ≤ ps + 1 then .inl (1 + 16 * f.2.1)
  else if syn = 0 ∧ src.getD (ps + 1) 0 ≠ kd (src.getD ps 0) then .inl (3 + 16 * (ps + 1))
  else rLn src (src.getD ps 0) (if syn = 0 then ps + 2 else ps + 1) (f.1, f.2.1, f.2.2.1, f.2.2.2.1 + 1, src.getD ps 0) st nd
def rIt (src : List Nat) (ps : Nat) (f : Fr) (st : List Fr) (nd : List Nd) : Nat ⊕ RS :=
  if src.getD ps 0 ≠ 254 then .inl (6 + 16 * ps)
  else if f.2.2.2.1 = 4 then .inl (7 + 16 * ps)
  else rLn src 254 (ps + 1) (f.1, f.2.1, f.2.2.1, f.2.2.2.1 + 1, f.2.2.2.2) st nd
def rSt (syn : Nat) (src : List Nat) (ps : Nat) (f : Fr) (st : List Fr) (nd : List Nd) : Nat ⊕ RS :=
  if f.2.1 ≤ ps then (if f.2.2.1 = true then .inl (1 + 16 * f.2.1) else .inr (ps, st, nd))
  else if f.2.2.1 = true ∧ src.getD ps 0 = (if st.length % 2 = 0 then 253 else 252) then .inr (ps + 1, st, nd)
  else if st.length % 2 = 0 then rEl syn src ps f st nd else rIt src ps f st nd
def rGo (syn : Nat) (src : List Nat) : Nat → RS → Nat × List Nd
  | 0, σ => (0, σ.2.2)
  | k + 1, σ => match σ.2.1 with
    | [] => (0, σ.2.2)
    | f :: st => match rSt syn src σ.1 f st σ.2.2 with
      | .inl e => (e, σ.2.2)
      | .inr τ => rGo syn src k τ
def rD (syn : Nat) (src : List Nat) : Nat × List Nd := rGo syn src (2 * src.length + 2) (0, [(0, src.length, false, 0, 0)], [(0, 254, 0, [])])
theorem rSt_c (syn : Nat) (src : List Nat) (ps : Nat) (f : Fr) (st : List Fr) (nd : List Nd) : (f.2.1 ≤ ps ∧ ((f.2.2.1 = true ∧ rSt syn src ps f st nd = .inl (1 + 16 * f.2.1)) ∨ (f.2.2.1 = false ∧ rSt syn src ps f st nd = .inr (ps, st, nd)))) ∨ (¬ f.2.1 ≤ ps ∧ rSt syn src ps f st nd = .inr (ps + 1, st, nd)) ∨ (¬ f.2.1 ≤ ps ∧ st.length % 2 = 0 ∧ rSt syn src ps f st nd = rEl syn src ps f st nd) ∨ (¬ f.2.1 ≤ ps ∧ ¬ st.length % 2 = 0 ∧ rSt syn src ps f st nd = rIt src ps f st nd) := by
  unfold rSt
  by_cases h1 : f.2.1 ≤ ps
  · rw [if_pos h1]
    left
    cases ho : f.2.2.1 with
    | true => exact ⟨h1, .inl ⟨rfl, if_pos rfl⟩⟩
    | false => exact ⟨h1, .inr ⟨rfl, if_neg (by decide)⟩⟩
  · rw [if_neg h1]
    right
    by_cases h2 : f.2.2.1 = true ∧ src.getD ps 0 = (if st.length % 2 = 0 then 253 else 252)
    · exact .inl ⟨h1, if_pos h2⟩
    · right
      rw [if_neg h2]
      by_cases h3 : st.length % 2 = 0
      · exact .inl ⟨h1, h3, if_pos h3⟩
      · exact .inr ⟨h1, h3, if_neg h3⟩
/-! what holds while it is read -/
def chn (n : Nat) (nd : List Nd) : List Fr → Prop
  | [] => True
  | f :: st => f.1 < nd.length ∧ nL nd f.1 = st.length ∧ (∀ j, f.1 < j → j < nd.length → st.length < nL nd j) ∧ f.2.1 ≤ n ∧ (∀ f' st', st = f' :: st' → f.2.1 ≤ f'.2.1) ∧ (f.2.2.2.1 ≤ 10 ∧ (st.length % 2 = 0 ∨ f.2.2.2.1 ≤ 4)) ∧ f.2.2.2.2 ≤ 200 ∧ chn n nd st
def wv (n : Nat) (σ : RS) : Prop := σ.1 ≤ n ∧ σ.2.1.length ≤ 5 ∧ 2 * σ.2.2.length + (ch σ.2.2).length ≤ σ.1 + 2 ∧ 1 ≤ σ.2.2.length ∧ (∀ f st, σ.2.1 = f :: st → σ.1 ≤ f.2.1) ∧ chn n σ.2.2 σ.2.1
theorem chn_a {n : Nat} {nd : List Nd} {x : Nd} : ∀ {st : List Fr}, chn n nd st → st.length ≤ x.1 → chn n (nd ++ [x]) st
  | [], _, _ => trivial
  | f :: st, h, hx => by
    obtain ⟨h1, h2, h3, h4, h5, h6, h7, h8⟩ := h
    simp only [List.length_cons] at hx
    refine ⟨by simp; omega, by rw [nL_a h1]; exact h2, fun j hj hjl => ?_, h4, h5, h6, h7, chn_a h8 (by omega)⟩
    by_cases e : j < nd.length
    · rw [nL_a e]; exact h3 j hj e
    · have : j = nd.length := by simp at hjl; omega
      subst this
      rw [nL_n]; omega
theorem chn_closed {n : Nat} {nd : List Nd} {k : Nat} (hk : isB nd k nd.length) : ∀ {st : List Fr}, chn n nd st → k ∉ st.map (fun f => f.1) → st.length ≤ nL nd k
  | [], _, _ => Nat.zero_le _
  | f :: st, h, hm => by
    obtain ⟨h1, h2, h3, h4, h5, h6, h7, h8⟩ := h
    simp only [List.map_cons, List.mem_cons, not_or] at hm
    have ih := chn_closed hk h8 hm.2
    simp only [List.length_cons]
    rcases Nat.lt_or_ge st.length (nL nd k) with e | e
    · omega
    · exfalso
      rcases Nat.lt_trichotomy k f.1 with g | g | g
      · have := hk.2.2.1 f.1 g h1
        omega
      · exact hm.1 g
      · have := h3 k g hk.1
        omega
theorem chn_top {n : Nat} {nd : List Nd} {f : Fr} {st : List Fr} (h : chn n nd (f :: st)) : isB nd f.1 nd.length :=
  ⟨h.1, Nat.le_refl _, fun j hj hjl => by rw [h.2.1]; exact h.2.2.1 j hj hjl, fun e => by omega⟩
/-- an entry of a set: what the place behind it is -/
theorem wv_leaf {n ps ps' : Nat} {f f' : Fr} {st : List Fr} {nd : List Nd} {x : Nd} (h : wv n (ps, f :: st, nd)) (hf1 : f'.1 = f.1) (hf2 : f'.2.1 = f.2.1) (hc : f'.2.2.2.1 ≤ 10 ∧ (st.length % 2 = 0 ∨ f'.2.2.2.1 ≤ 4)) (hl : f'.2.2.2.2 ≤ 200) (hx : x.1 = st.length + 1) (hp : ps' ≤ f.2.1) (hq : ps + 2 + x.2.2.2.length ≤ ps') : wv n (ps', f' :: st, nd ++ [x]) := by
  obtain ⟨h1, h2, h3, h4, h5, h6⟩ := h
  dsimp only at h1 h2 h3 h4 h5 h6
  have h7 := chn_a (x := x) h6 (by simp only [List.length_cons]; omega)
  obtain ⟨a1, a2, a3, a4, a5, a6, a7, a8⟩ := h7
  refine ⟨by dsimp only; omega, h2, ?_, by simp, fun g s e => ?_, ?_⟩
  · dsimp only
    rw [ch_a]
    simp only [List.length_append, List.length_cons, List.length_nil]
    omega
  · dsimp only at e ⊢
    injection e with e1 e2
    rw [← e1, hf2]
    exact hp
  · refine ⟨by rw [hf1]; exact a1, by rw [hf1]; exact a2, by rw [hf1]; exact a3, by rw [hf2]; exact a4, by rw [hf2]; exact a5, hc, hl, a8⟩
theorem wv_push {n ps ps' en : Nat} {o : Bool} {f f' : Fr} {st : List Fr} {nd : List Nd} {x : Nd} (h : wv n (ps, f :: st, nd)) (hf1 : f'.1 = f.1) (hf2 : f'.2.1 = f.2.1) (hc : f'.2.2.2.1 ≤ 10 ∧ (st.length % 2 = 0 ∨ f'.2.2.2.1 ≤ 4)) (hl : f'.2.2.2.2 ≤ 200) (hx : x.1 = st.length + 1) (hx0 : x.2.2.2 = []) (hs : st.length < 4) (hp : ps' ≤ en) (hen : en ≤ f.2.1) (hq : ps + 2 ≤ ps') : wv n (ps', (nd.length, en, o, 0, 0) :: f' :: st, nd ++ [x]) := by
  have h9 := wv_leaf (ps' := ps') h hf1 hf2 hc hl hx (by omega) (by rw [hx0]; simpa using hq)
  obtain ⟨h1, h2, h3, h4, h5, h6⟩ := h9
  dsimp only at h1 h2 h3 h4 h5 h6
  refine ⟨h1, by simp only [List.length_cons] at h2 ⊢; omega, h3, h4, fun g s e => ?_, ?_⟩
  · dsimp only at e ⊢
    injection e with e1 e2
    rw [← e1]
    exact hp
  · have a4 : f.2.1 ≤ n := by rw [← hf2]; exact h6.2.2.2.1
    refine ⟨by simp, by rw [nL_n]; simp only [List.length_cons]; exact hx, fun j hj hjl => ?_, by dsimp only; omega, fun g s e => ?_, by simp, by simp, h6⟩
    · simp at hjl; omega
    · injection e with e1 e2
      rw [← e1, hf2]
      exact hen
theorem wv_pop {n ps ps' : Nat} {f : Fr} {st : List Fr} {nd : List Nd} (h : wv n (ps, f :: st, nd)) (hp : ps' ≤ f.2.1) (hq : ps ≤ ps') : wv n (ps', st, nd) := by
  obtain ⟨h1, h2, h3, h4, h5, h6⟩ := h
  dsimp only at h1 h2 h3 h4 h5 h6
  obtain ⟨a1, a2, a3, a4, a5, a6, a7, a8⟩ := h6
  refine ⟨by dsimp only; omega, by simp only [List.length_cons] at h2 ⊢; omega, by dsimp only; omega, h4, fun g s e => ?_, a8⟩
  have := a5 g s e
  dsimp only
  omega
theorem tx_len {src : List Nat} {q n : Nat} : (tx src q n).length = n := by unfold tx; simp
theorem tx_get {src : List Nat} {q n i : Nat} (h : i < n) : (tx src q n).getD i 0 = src.getD (q + i) 0 := by
  unfold tx
  simp [List.getD, h]
theorem kp_le {src : List Nat} {q n : Nat} : kp src q n ≤ n := by unfold kp; split <;> omega
theorem wv_rLn {src : List Nat} {n ps p g : Nat} {f f' : Fr} {st : List Fr} {nd : List Nd} {τ : RS} (h : wv n (ps, f :: st, nd)) (hf1 : f'.1 = f.1) (hf2 : f'.2.1 = f.2.1) (hc : f'.2.2.2.1 ≤ 10 ∧ (st.length % 2 = 0 ∨ f'.2.2.2.1 ≤ 4)) (hl : f'.2.2.2.2 ≤ 200) (hs : kd g = 3 ∨ kd g = 4 → st.length < 4) (hp : ps < p) (e : rLn src g p f' st nd = .inr τ) : wv n τ := by
  unfold rLn at e
  split at e
  · cases e
  · rename_i h1
    split at e
    · rename_i h2
      rw [hf2] at h1 h2
      split at e
      · rename_i h3
        have h4 : src.getD p 0 ≠ 255 := by
          intro h4
          have := h2.1
          rw [h4, h3] at this
          exact absurd this (by decide)
        cases e
        exact wv_leaf h hf1 hf2 hc hl rfl (by omega) (by simp; omega)
      · split at e
        · rename_i h3
          have h4 : src.getD p 0 ≠ 255 := by
            intro h4
            have := h2.1
            rw [h4, h3] at this
            exact absurd this (by decide)
          split at e
          · cases e
          · cases e
            have := kp_le (src := src) (q := p + 1) (n := src.getD p 0)
            exact wv_leaf h hf1 hf2 hc hl rfl (by omega) (by rw [tx_len]; omega)
        · have hk := kd_le g
          cases e
          refine wv_push h hf1 hf2 hc hl rfl rfl (hs (by omega)) ?_ ?_ (by omega)
          · rw [hf2]
            split <;> omega
          · rw [hf2]
            split <;> omega
    · cases e
theorem wv_rSt {syn : Nat} {src : List Nat} {n ps : Nat} {f : Fr} {st : List Fr} {nd : List Nd} {τ : RS} (h : wv n (ps, f :: st, nd)) (e : rSt syn src ps f st nd = .inr τ) : wv n τ := by
  have h5 := h.2.2.2.2.1 f st rfl
  dsimp only at h5
  have h2 := h.2.1
  simp only [List.length_cons] at h2
  have h6 := h.2.2.2.2.2
  dsimp only at h6
  obtain ⟨a1, a2, a3, a4, a5, a6, a7, a8⟩ := h6
  rcases rSt_c syn src ps f st nd with ⟨c1, ⟨c2, c3⟩ | ⟨c2, c3⟩⟩ | ⟨c1, c3⟩ | ⟨c1, hev, c3⟩ | ⟨c1, hodd, c3⟩
  · rw [c3] at e
    cases e
  · rw [c3] at e
    cases e
    exact wv_pop h (by omega) (Nat.le_refl _)
  · rw [c3] at e
    cases e
    exact wv_pop h (by omega) (by omega)
  · rw [c3] at e
    · · unfold rEl at e
        split at e
        · cases e
        · split at e
          · cases e
          · split at e
            · cases e
            · rename_i b1 b2 b3
              split at e
              · cases e
              · split at e
                · cases e
                · refine wv_rLn (f' := (f.1, f.2.1, f.2.2.1, f.2.2.2.1 + 1, src.getD ps 0)) h rfl rfl (by dsimp only; omega) (by dsimp only; omega) (fun hk => ?_) ?_ e
                  · have hg := kd_le (src.getD ps 0)
                    rcases hk with hk | hk
                    · omega
                    · exfalso
                      unfold kd at hk
                      split at hk
                      · omega
                      · split at hk
                        · omega
                        · split at hk <;> omega
                  · split <;> omega
  · rw [c3] at e
    · · unfold rIt at e
        split at e
        · cases e
        · split at e
          · cases e
          · exact wv_rLn (f' := (f.1, f.2.1, f.2.2.1, f.2.2.2.1 + 1, f.2.2.2.2)) h rfl rfl (by dsimp only; omega) (by dsimp only; omega) (fun hk => by omega) (by omega) e
theorem wv_0 (src : List Nat) : wv src.length (0, [(0, src.length, false, 0, 0)], [(0, 254, 0, [])]) := by
  refine ⟨by simp, by simp, by simp [ch], by simp, fun f st e => by simp, ?_⟩
  refine ⟨by simp, rfl, fun j hj hjl => by simp at hjl; omega, by simp, fun f' st' e => by simp at e, by simp, by simp, trivial⟩
/-! how many steps it takes -/
def mz (n : Nat) (σ : RS) : Nat := 2 * (n - σ.1) + σ.2.1.length
theorem rLn_go {src : List Nat} {p g : Nat} {f' : Fr} {st : List Fr} {nd : List Nd} {τ : RS} (e : rLn src g p f' st nd = .inr τ) : p + 1 ≤ τ.1 ∧ τ.2.1.length ≤ st.length + 2 := by
  unfold rLn at e
  split at e
  · cases e
  · split at e
    · split at e
      · cases e; exact ⟨by dsimp only; omega, by simp⟩
      · split at e
        · split at e
          · cases e
          · cases e; exact ⟨by dsimp only; omega, by simp⟩
        · cases e; exact ⟨by dsimp only; omega, by simp⟩
    · cases e
theorem mz_rSt {syn : Nat} {src : List Nat} {n ps : Nat} {f : Fr} {st : List Fr} {nd : List Nd} {τ : RS} (h : wv n (ps, f :: st, nd)) (e : rSt syn src ps f st nd = .inr τ) : mz n τ < mz n (ps, f :: st, nd) := by
  have hw := wv_rSt h e
  have h0 := hw.1
  have h1 := h.1
  dsimp only at h1
  unfold mz
  simp only [List.length_cons]
  rcases rSt_c syn src ps f st nd with ⟨c1, ⟨c2, c3⟩ | ⟨c2, c3⟩⟩ | ⟨c1, c3⟩ | ⟨c1, hev, c3⟩ | ⟨c1, hodd, c3⟩
  · rw [c3] at e
    cases e
  · rw [c3] at e
    cases e
    dsimp only
    omega
  · rw [c3] at e
    cases e
    dsimp only at h0 ⊢
    omega
  · rw [c3] at e
    · · unfold rEl at e
        split at e
        · cases e
        · split at e
          · cases e
          · split at e
            · cases e
            · split at e
              · cases e
              · split at e
                · cases e
                · have := rLn_go e
                  split at this <;> omega
  · rw [c3] at e
    · · unfold rIt at e
        split at e
        · cases e
        · split at e
          · cases e
          · have := rLn_go e
            omega
/-- with steps enough, more of them change nothing -/
theorem rGo_more {syn : Nat} {src : List Nat} {n : Nat} : ∀ (k : Nat) (σ : RS), wv n σ → mz n σ ≤ k → rGo syn src (k + 1) σ = rGo syn src k σ ∨ σ.2.1 = []
  | 0, σ, _, h => by
    right
    unfold mz at h
    exact List.length_eq_zero_iff.mp (by omega)
  | k + 1, (ps, [], nd), _, _ => .inr rfl
  | k + 1, (ps, f :: st, nd), hw, h => by
    left
    show (match rSt syn src ps f st nd with | .inl e => (e, nd) | .inr τ => rGo syn src (k + 1) τ) = (match rSt syn src ps f st nd with | .inl e => (e, nd) | .inr τ => rGo syn src k τ)
    cases e : rSt syn src ps f st nd with
    | inl e => rfl
    | inr τ =>
      dsimp only
      have h1 := mz_rSt hw e
      have h2 := wv_rSt hw e
      rcases rGo_more (syn := syn) (src := src) k τ h2 (by omega) with h3 | h3
      · exact h3
      · obtain ⟨q, s, m⟩ := τ
        dsimp only at h3
        subst h3
        cases k with
        | zero => rfl
        | succ k => rfl
