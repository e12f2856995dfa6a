/-! PURE: a fault is a small number -/
theorem rLn_e {src : List Nat} {g p : Nat} {f : Fr} {st : List Fr} {nd : List Nd} {e N : Nat} (h : rLn src g p f st nd = .inl e) (hf : f.2.1 ≤ N) (hp : p ≤ N + 2) : e ≤ 8 + 16 * (N + 3) := by
  unfold rLn at h
  split at h
  · cases h; omega
  · split at h
    · split at h
      · cases h
      · split at h
        · split at h
          · cases h; omega
          · cases h
        · cases h
    · cases h; omega
theorem rSt_e {syn : Nat} {src : List Nat} {ps : Nat} {f : Fr} {st : List Fr} {nd : List Nd} {e N : Nat} (h : rSt syn src ps f st nd = .inl e) (hf : f.2.1 ≤ N) (hp : ps ≤ N) : e ≤ 8 + 16 * (N + 3) := by
  rcases rSt_c syn src ps f st nd with ⟨_, ⟨_, c⟩ | ⟨_, c⟩⟩ | ⟨_, c⟩ | ⟨_, _, c⟩ | ⟨_, _, c⟩
  · rw [c] at h; cases h; omega
  · rw [c] at h; cases h
  · rw [c] at h; cases h
  · rw [c] at h
    unfold rEl at h
    split at h
    · cases h; omega
    · split at h
      · cases h; omega
      · split at h
        · cases h; omega
        · split at h
          · cases h; omega
          · split at h
            · cases h; omega
            · exact rLn_e h hf (by split <;> omega)
  · rw [c] at h
    unfold rIt at h
    split at h
    · cases h; omega
    · split at h
      · cases h; omega
      · exact rLn_e h hf (by omega)
theorem rGo_e {syn : Nat} {src : List Nat} {N : Nat} : ∀ (k : Nat) (σ : RS), wv N σ → (rGo syn src k σ).1 ≤ 8 + 16 * (N + 3)
  | 0, σ, _ => by show 0 ≤ _; omega
  | k + 1, σ, h => by
    obtain ⟨ps, st, nd⟩ := σ
    match st, h with
    | [], h => show 0 ≤ _; omega
    | f :: st, h =>
      show (match rSt syn src ps f st nd with | .inl e => (e, nd) | .inr τ => rGo syn src k τ).1 ≤ _
      have hf : f.2.1 ≤ N := h.2.2.2.2.2.2.2.2.1
      have hp : ps ≤ N := h.1
      cases hs : rSt syn src ps f st nd with
      | inl e => exact rSt_e hs hf hp
      | inr τ => exact rGo_e k τ (wv_rSt h hs)
theorem rD_lt {syn : Nat} {src : List Nat} (hs : src.length ≤ 200) : (rD syn src).1 < 10000 := by
  have := rGo_e (syn := syn) (src := src) (2 * src.length + 2) _ (wv_0 src)
  unfold rD
  omega
/-! PURE: answer -/
section XAQ
variable {s0 : S_Rn} {b can nm I P : S_Bs} {C : S_Cs} {mr : S_Mr} {M : S_Mg} {O : S_Ou} {s : S_Mo} {n c tm : Nat} {id sv re : Nat → Nat} {rd rd1 : S_Rd} {T T1 : S_Tr} {R : S_Rs} {l : List Nat}
theorem rI_k {I : S_Bs} {s s' : S_Mo} (h : rI I s) (h9 : s'.1 9 = s.1 9) (h21 : s'.2 21 = s.2 21) : rI I s' := by
  obtain ⟨l, a, b, c, d⟩ := h
  exact ⟨l, a, h9.trans b, fun i hi => by rw [h21]; exact c i hi, d⟩
theorem x_answer {h : Bool} (h0 : s0 = (nI 2, nI tm, s.1 18)) (htm : tm ≤ 5) (h7 : s.1 7 = nI 2) (h8 : s.1 8 = nI tm) (hb : ∃ l, rn b 200 l) (hcan : ∃ l, rn can 301 l) (hnm : ∃ l, rn nm 16 l) (hI : rn I 202 []) (h9 : s.1 9 = nI 0) (hP : rn P 200 l) (hO : rO O s) (hR : rR R s) (hx : cxR C s n id sv re) (hc : c < n) (hre : re c ≤ 1) (hm : Mg_context M = nI c) (hsp : s.1 15 = nI c) (hk : Mg_kind M = s.1 16) (hn : Mg_number M = s.1 17) (hS : Mg_hasSet M = if h = true then 1 else 0) (hbo : h = true → s.1 14 = nI l.length ∧ ∀ i, i < l.length → s.2 27 i = nI (l.getD i 0)) : ∃ s0' b' can' I' mr' M' nm' O' P' rd' T' rd1' T1' R' s', F_Rn_answer s0 b can C I mr M nm O P rd T rd1 T1 R = some (s0', b', can', I', mr', M', nm', O', P', rd', T', rd1', T1', R') ∧ F_Mo_answer s (if h = true then 1 else 0) = some s' ∧ (∃ l, rn b' 200 l) ∧ (∃ l, rn can' 301 l) ∧ (∃ l, rn nm' 16 l) ∧ Rl s0' C I' M' O' P' R' s' ∧ mD s s' := by
  have n4 := hx.1
  obtain ⟨s1, hs1⟩ : ∃ s1, s1 = Mo_set_answered s (Mo_answered s + 1) := ⟨_, rfl⟩
  have q18 : s1.1 18 = s.1 18 + 1 := by rw [hs1]; exact pk_us (f := s.1) (k := 18)
  have q : ∀ i, i ≠ 18 → s1.1 i = s.1 i := fun i hi => by rw [hs1]; exact pk_un (f := s.1) (k := 18) hi
  have qr : s1.2 = s.2 := by rw [hs1]; rfl
  have hx1 : cxR C s1 n id sv re := by
    unfold cxR at hx ⊢
    rw [q 11 (by omega), qr]
    exact hx
  have hD1 : mD s s1 := ⟨q 1 (by omega), q 2 (by omega), by rw [qr]⟩
  have hR1 : rR R s1 := rR_k hR (q 0 (by omega)) (q 19 (by omega)) (by rw [qr]) (by rw [qr])
  have hO1 : rO O s1 := rO_k hO (q 10 (by omega)) (by rw [qr])
  have h01 : Rn_set_answered s0 (Rn_answered s0 + 1) = (nI 2, nI tm, s1.1 18) := by rw [h0, q18]; rfl
  have mo : F_Mo_answer s (if h = true then 1 else 0) = if (if h = true then (1 : Int32) else 0) = 0 then B_Mo_answer_69 s1 (nI (re c)) (if h = true then 1 else 0) else B_Mo_answer_26 s1 (nI (re c)) := by
    unfold F_Mo_answer B_Mo_answer_0
    rw [← hs1, show Mo_speaker s1 = nI c by show s1.1 15 = _; rw [q 15 (by omega)]; exact hsp, z_cl (by omega), if_neg (by rw [show (0 : Int32) = nI 0 from rfl, z_lt (by omega) (by omega)]; omega), show Mo_results s1 c = nI (re c) from (hx1.2.2.2 c hc).2.2.2.2.2.2.2.2]
  have cl : F_Rn_answer s0 b can C I mr M nm O P rd T rd1 T1 R = if (if h = true then (1 : Int32) else 0) = 0 then B_Rn_answer_62 C (nI 2, nI tm, s1.1 18) b can I mr M nm O P rd T rd1 T1 R (nI c) (Mg_kind M) else B_Rn_answer_36 C (nI 2, nI tm, s1.1 18) b can I mr M nm O P rd T rd1 T1 R (nI c) (Mg_kind M) := by
    unfold F_Rn_answer B_Rn_answer_0
    rw [show F_Mg_contextIndex M = some (nI c) by show some (Mg_context M) = _; rw [hm], Option.bind_some, show F_Mg_kind M = some (Mg_kind M) from rfl, Option.bind_some, show F_Mg_hasSet M = some (if h = true then 1 else 0) by
      unfold F_Mg_hasSet B_Mg_hasSet_0
      rw [hS, if_pos (bl01 h)], Option.bind_some, h01]
  cases h with
  | false =>
    rw [if_pos (by decide : (if false = true then (1 : Int32) else 0) = 0)] at mo cl
    obtain ⟨s0', b', can', I', mr', M', nm', O', P', rd1', T1', R', s', a1, a2, a3, a4, a5, a6, a7⟩ := x_done (g := false) (nd := []) (rd := rd) (T := T) (rd1 := rd1) (T1 := T1) (mr := mr) rfl htm (by rw [q 7 (by omega)]; exact h7) (by rw [q 8 (by omega)]; exact h8) hb hcan hnm hI (by rw [q 9 (by omega)]; exact h9) ⟨_, hP⟩ hO1 hR1 hx1 hc hre hm (by rw [q 15 (by omega)]; exact hsp) (by rw [q 16 (by omega)]; exact hk) (by rw [q 17 (by omega)]; exact hn) (fun h => by cases h)
    exact ⟨s0', b', can', I', mr', M', nm', O', P', rd, T, rd1', T1', R', s', by rw [cl]; exact a1, by rw [mo]; exact a2, a3, a4, a5, a6, mD_t hD1 a7⟩
  | true =>
    rw [if_neg (by decide : ¬ (if true = true then (1 : Int32) else 0) = 0)] at mo cl
    have hcap := rn_cap hP
    obtain ⟨hb14, hb27⟩ := hbo rfl
    obtain ⟨s2, e2, g2, m2⟩ := m_ansLoop (s := s1) (x2 := nI (re c)) hcap.1 (by rw [q 14 (by omega)]; exact hb14) (fun i hi => by rw [qr]; exact hb27 i hi)
    obtain ⟨x, s3, e3, f1, f2, f3, f4⟩ := m_read (s := s2) (t := 0) (syn := re c) (by omega) hre hP.2 hcap.1 m2
    obtain ⟨r, e4, r1, r2⟩ := c_read hP hre hcap.1 rd T
    have k13 : mK s1 s3 := mK_t (mK_G g2) (mK_f f1)
    have f13 := mF1_k k13
    have u : ∀ i, i ≠ 3 → i ≠ 4 → i ≠ 5 → i ≠ 6 → i ≠ 18 → s3.1 i = s.1 i := fun i a b c d e => (k13.1 i a b c d).trans (q i e)
    obtain ⟨s0', b', can', I', mr', M', nm', O', P', rd1', T1', R', s', a1, a2, a3, a4, a5, a6, a7⟩ := x_done (s0 := (nI 2, nI tm, s1.1 18)) (s := s3) (g := decide ((rD (re c) l).1 = 0)) (nd := (rD (re c) l).2) (rd := r.2.1) (T := r.2.2) (rd1 := rd1) (T1 := T1) (mr := mr) (by rw [k13.1 18 (by omega) (by omega) (by omega) (by omega)]) htm (by rw [u 7 (by omega) (by omega) (by omega) (by omega) (by omega)]; exact h7) (by rw [u 8 (by omega) (by omega) (by omega) (by omega) (by omega)]; exact h8) hb hcan hnm hI (by rw [u 9 (by omega) (by omega) (by omega) (by omega) (by omega)]; exact h9) ⟨_, hP⟩ (rO_K hO1 k13) (rR_F hR1 f13) (cxR_F hx1 f13) hc hre hm (by rw [u 15 (by omega) (by omega) (by omega) (by omega) (by omega)]; exact hsp) (by rw [u 16 (by omega) (by omega) (by omega) (by omega) (by omega)]; exact hk) (by rw [u 17 (by omega) (by omega) (by omega) (by omega) (by omega)]; exact hn) (fun hg => by
      have hg := of_decide_eq_true hg
      exact ⟨⟨rD_wfT hcap.1 hg, r2 hg⟩, rD_kx, rD_root, f4 hg⟩)
    refine ⟨s0', b', can', I', mr', M', nm', O', P', r.2.1, r.2.2, rd1', T1', R', s', ?_, ?_, a3, a4, a5, a6, mD_t hD1 (mD_t (mD_F f13) a7)⟩
    · rw [cl]
      unfold B_Rn_answer_36
      rw [cs_result hx hc, Option.bind_some, e4, Option.bind_some, r1]
      by_cases cz : (rD (re c) l).1 = 0
      · rw [if_pos (by rw [cz]; rfl)]
        rw [decide_eq_true cz, if_pos rfl] at a1
        exact a1
      · rw [if_neg (by rw [show (0 : Int32) = nI 0 from rfl, z_eq (by have := rD_lt (syn := re c) (src := l) hcap.1; omega) (by omega)]; exact cz)]
        rw [decide_eq_false cz, if_neg (by decide)] at a1
        exact a1
    · rw [mo, e2]
      unfold B_Mo_answer_58
      rw [show Mo_bodies s2 = nI l.length by show s2.1 14 = _; rw [g2.1, q 14 (by omega)]; exact hb14, show F_Mo_read s2 (0 : Int32) (nI l.length) (nI (re c)) = _ from e3, Option.bind_some, f2]
      rw [← a2]
      by_cases cz : (rD (re c) l).1 = 0
      · rw [if_pos cz, decide_eq_true cz, if_pos rfl]
      · rw [if_neg cz, decide_eq_false cz, if_neg (by decide)]
end XAQ
