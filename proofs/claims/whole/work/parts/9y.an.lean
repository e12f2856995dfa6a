/-! PURE: the model copies bytes into its source -/
def mG (s0 s : S_Mo) : Prop := s.1 = s0.1 ∧ ∀ j, j ≠ 1 → s.2 j = s0.2 j
theorem cpLoop {α β : Type} {body : (α → Option β) → α → Option β} {mkv : S_Mo → Int32 → α} {E : S_Mo → Option β} {l : List Nat} {s0 : S_Mo} (hend : ∀ K s, mG s0 s → body K (mkv s (nI l.length)) = E s) (hstep : ∀ K s i, i < l.length → mG s0 s → body K (mkv s (nI i)) = K (mkv (s.1, ua s.2 1 (upd (s.2 1) i (nI (l.getD i 0)))) (nI (i + 1)))) : ∀ (j i fu : Nat) (s : S_Mo), i + j = l.length → j < fu → mG s0 s → (∀ k, k < i → s.2 1 k = nI (l.getD k 0)) → ∃ s', lp body fu (mkv s (nI i)) = E s' ∧ mG s0 s' ∧ msrc s' l := by
  intro j
  induction j with
  | zero =>
    intro i fu s hi hf hg h1
    obtain ⟨fu', rfl⟩ : ∃ fu', fu = fu' + 1 := ⟨fu - 1, by omega⟩
    refine ⟨s, ?_, hg, fun k hk => h1 k (by omega)⟩
    rw [lp_s, show i = l.length by omega]
    exact hend _ s hg
  | succ j ih =>
    intro i fu s hi hf hg h1
    obtain ⟨fu', rfl⟩ : ∃ fu', fu = fu' + 1 := ⟨fu - 1, by omega⟩
    obtain ⟨s', e', a1, a2⟩ := ih (i + 1) fu' (s.1, ua s.2 1 (upd (s.2 1) i (nI (l.getD i 0)))) (by omega) (by omega) ⟨hg.1, fun j hj => by dsimp only; rw [ua_n hj]; exact hg.2 j hj⟩ (fun k hk => by
      dsimp only
      rw [ua_s]
      by_cases c : k = i
      · rw [c, pk_us]
      · rw [pk_un c]
        exact h1 k (by omega))
    refine ⟨s', ?_, a1, a2⟩
    rw [lp_s, hstep _ s i (by omega) hg]
    exact e'
theorem mK_G {a b : S_Mo} (h : mG a b) : mK a b := ⟨fun i _ _ _ _ => by rw [h.1], fun j hj => h.2 j (by omega)⟩
theorem m_ansLoop {l : List Nat} {s : S_Mo} {x2 : Int32} (hl : l.length ≤ 200) (h14 : s.1 14 = nI l.length) (h27 : ∀ i, i < l.length → s.2 27 i = nI (l.getD i 0)) : ∃ s', B_Mo_answer_26 s x2 = B_Mo_answer_58 s' x2 ∧ mG s s' ∧ msrc s' l := by
  unfold B_Mo_answer_26 L_Mo_answer_29
  refine cpLoop (mkv := fun s i => (s, x2, i)) (E := fun s => B_Mo_answer_58 s x2) (l := l) (s0 := s) (fun K t hg => ?_) (fun K t i hi hg => ?_) l.length 0 FU s (by omega) (by unfold FU; omega) ⟨rfl, fun _ _ => rfl⟩ (fun k hk => by omega)
  · show B_Mo_answer_29 K t x2 (nI l.length) = _
    unfold B_Mo_answer_29
    rw [show Mo_bodies t = nI l.length by show t.1 14 = _; rw [hg.1]; exact h14, if_pos (by rw [z_le (by omega) (by omega)]; omega)]
  · show B_Mo_answer_29 K t x2 (nI i) = _
    unfold B_Mo_answer_29
    rw [show Mo_bodies t = nI l.length by show t.1 14 = _; rw [hg.1]; exact h14, if_neg (by rw [z_le (by omega) (by omega)]; omega)]
    unfold B_Mo_answer_38
    rw [z_cl (by omega), show (0 : Int32) = nI 0 from rfl, if_neg (by rw [z_lt (by omega) (by omega)]; omega), if_neg (by rw [z_lt (by omega) (by omega)]; omega), show Mo_body t i = nI (l.getD i 0) by show t.2 27 i = _; rw [hg.2 27 (by omega)]; exact h27 i hi, nI_1]
    rfl
theorem m_comLoop {l : List Nat} {s : S_Mo} (hl : l.length ≤ 200) (h13 : s.1 13 = nI l.length) (h26 : ∀ i, i < l.length → s.2 26 i = nI (l.getD i 0)) : ∃ s', F_Mo_commanded s = B_Mo_commanded_28 s' ∧ mG s s' ∧ msrc s' l := by
  unfold F_Mo_commanded B_Mo_commanded_0 L_Mo_commanded_2
  refine cpLoop (mkv := fun s i => (s, i)) (E := fun s => B_Mo_commanded_28 s) (l := l) (s0 := s) (fun K t hg => ?_) (fun K t i hi hg => ?_) l.length 0 FU s (by omega) (by unfold FU; omega) ⟨rfl, fun _ _ => rfl⟩ (fun k hk => by omega)
  · show B_Mo_commanded_2 K t (nI l.length) = _
    unfold B_Mo_commanded_2
    rw [show Mo_commands t = nI l.length by show t.1 13 = _; rw [hg.1]; exact h13, if_pos (by rw [z_le (by omega) (by omega)]; omega)]
  · show B_Mo_commanded_2 K t (nI i) = _
    unfold B_Mo_commanded_2
    rw [show Mo_commands t = nI l.length by show t.1 13 = _; rw [hg.1]; exact h13, if_neg (by rw [z_le (by omega) (by omega)]; omega)]
    unfold B_Mo_commanded_10
    rw [z_cl (by omega), show (0 : Int32) = nI 0 from rfl, if_neg (by rw [z_lt (by omega) (by omega)]; omega), if_neg (by rw [z_lt (by omega) (by omega)]; omega), show Mo_command t i = nI (l.getD i 0) by show t.2 26 i = _; rw [hg.2 26 (by omega)]; exact h26 i hi, nI_1]
    rfl
theorem m_readDraft {l : List Nat} {s : S_Mo} {syn : Nat} (hsy : syn ≤ 1) (h8 : ∀ i, l.getD i 0 < 256) (hl : l.length ≤ 120) (h2 : s.1 2 = nI l.length) (h0 : ∀ i, i < l.length → s.2 0 i = nI (l.getD i 0)) : ∃ s', F_Mo_readDraft s (nI syn) = some ((if (rD syn l).1 = 0 then 1 else 0), s') ∧ mK s s' ∧ s'.1 6 = s.1 6 ∧ s'.1 3 = nI (rD syn l).1 ∧ ((rD syn l).1 = 0 → mtr s'.2 0 (rD syn l).2) := by
  have key : ∃ s', F_Mo_readDraft s (nI syn) = B_Mo_readDraft_28 s' (nI syn) ∧ mG s s' ∧ msrc s' l := by
    unfold F_Mo_readDraft B_Mo_readDraft_0 L_Mo_readDraft_2
    refine cpLoop (mkv := fun s i => (s, nI syn, i)) (E := fun s => B_Mo_readDraft_28 s (nI syn)) (l := l) (s0 := s) (fun K t hg => ?_) (fun K t i hi hg => ?_) l.length 0 FU s (by omega) (by unfold FU; omega) ⟨rfl, fun _ _ => rfl⟩ (fun k hk => by omega)
    · show B_Mo_readDraft_2 K t (nI syn) (nI l.length) = _
      unfold B_Mo_readDraft_2
      rw [show Mo_drafted t = nI l.length by show t.1 2 = _; rw [hg.1]; exact h2, if_pos (by rw [z_le (by omega) (by omega)]; omega)]
    · show B_Mo_readDraft_2 K t (nI syn) (nI i) = _
      unfold B_Mo_readDraft_2
      rw [show Mo_drafted t = nI l.length by show t.1 2 = _; rw [hg.1]; exact h2, if_neg (by rw [z_le (by omega) (by omega)]; omega)]
      unfold B_Mo_readDraft_10
      rw [z_cl (by omega), show (0 : Int32) = nI 0 from rfl, if_neg (by rw [z_lt (by omega) (by omega)]; omega), if_neg (by rw [z_lt (by omega) (by omega)]; omega), show Mo_draft t i = nI (l.getD i 0) by show t.2 0 i = _; rw [hg.2 0 (by omega)]; exact h0 i hi, nI_1]
      rfl
  obtain ⟨s1, e1, g1, m1⟩ := key
  obtain ⟨x, s2, e2, f1, f2, f3, f4⟩ := m_read (s := s1) (t := 0) (syn := syn) (by omega) hsy h8 (by omega) m1
  refine ⟨s2, ?_, mK_t (mK_G g1) (mK_f f1), by rw [f1.1 6 (by omega) (by omega) (by omega), g1.1], f3, f4⟩
  rw [e1]
  unfold B_Mo_readDraft_28
  rw [show Mo_drafted s1 = nI l.length by show s1.1 2 = _; rw [g1.1]; exact h2, show F_Mo_read s1 (0 : Int32) (nI l.length) (nI syn) = _ from e2, Option.bind_some, f2, if_pos (show (if (rD syn l).1 = 0 then (1 : Int32) else 0) = 0 ∨ (if (rD syn l).1 = 0 then (1 : Int32) else 0) = 1 by split <;> decide)]
theorem m_storeNo (s : S_Mo) : F_Mo_store s 0 = B_Mo_store_227 s 3 := by
  unfold F_Mo_store B_Mo_store_0
  rw [if_pos rfl, m_store27]
theorem bd_pr {α β γ : Type} {o : Option (α × β)} {f : β → Option γ} {z : γ} (h : (o.bind fun v => f v.2) = some z) : ((o.bind fun v => some v.2).bind fun v => f v) = some z := by
  cases o with
  | none => cases h
  | some v => exact h
/-! PURE: answer, class and model side by side -/
section XAN
variable {s0 : S_Rn} {b can nm I P : S_Bs} {C : S_Cs} {mr : S_Mr} {M : S_Mg} {O : S_Ou} {s : S_Mo} {n c tm : Nat} {id sv re : Nat → Nat} {rd rd1 : S_Rd} {T T1 : S_Tr} {R : S_Rs} {l : List Nat}
/-- a reply and then the end -/
theorem x_replyEnd {st : Int32} (h0 : s0 = (nI 2, nI tm, s.1 18)) (htm : tm ≤ 5) (h7 : s.1 7 = nI 2) (h8 : s.1 8 = nI tm) (hb : ∃ l, rn b 200 l) (hI : rn I 202 []) (h9 : s.1 9 = nI 0) (hP : ∃ lp, rn P 200 lp) (hO : rO O s) (hR : rR R s) (hx : cxR C s n id sv re) (hc : c < n) (hm : Mg_context M = nI c) (hsp : s.1 15 = nI c) (hk : Mg_kind M = s.1 16) (hn : Mg_number M = s.1 17) : ∃ s0' b' I' M' O' P' s', ((F_Rn_reply s0 b C I M O P st (0 : Int32)).bind fun o1 => B_Rn_answer_133 C o1.1 o1.2.1 can o1.2.2.1 mr o1.2.2.2.1 nm o1.2.2.2.2.1 o1.2.2.2.2.2 rd T rd1 T1 R) = some (s0', b', can, I', mr, M', nm, O', P', rd, T, rd1, T1, R) ∧ ((F_Mo_replies s st (0 : Int32)).bind fun o1 => B_Mo_answer_148 o1.2) = some s' ∧ (∃ l, rn b' 200 l) ∧ Rl s0' C I' M' O' P' R s' ∧ mD s s' := by
  obtain ⟨f, s0', b', I', M', O', P', t3, a1, a2, a3, a4, a5, a6⟩ := x_reply (s0 := s0) (st := st) (fo := false) hb ⟨_, hI⟩ hP hO hx hc hm hsp hk hn
  rw [if_neg (by decide)] at a1 a2
  obtain ⟨M'', P'', t', y1, y2, y3, y4⟩ := x_end a5 h0 htm h7 h8 hI h9 hP a4 hR hx
  refine ⟨s0', b', I', M'', O', P'', t', ?_, ?_, a3, y3, y4⟩
  · rw [a1, Option.bind_some]
    exact y1 _ _ _ _ _ _ _ _ _
  · rw [a2, Option.bind_some]
    exact y2
/-- what is done when the set (if one belongs to it) has been read, or not: g says whether it was read well -/
theorem x_done {g : Bool} {nd : List Nd} (h0 : s0 = (nI 2, nI tm, s.1 18)) (htm : tm ≤ 5) (h7 : s.1 7 = nI 2) (h8 : s.1 8 = nI tm) (hb : ∃ l, rn b 200 l) (hcan : ∃ l, rn can 301 l) (hnm : ∃ l, rn nm 16 l) (hI : rn I 202 []) (h9 : s.1 9 = nI 0) (hP : ∃ lp, rn P 200 lp) (hO : rO O s) (hR : rR R s) (hx : cxR C s n id sv re) (hc : c < n) (hre : re c ≤ 1) (hm : Mg_context M = nI c) (hsp : s.1 15 = nI c) (hk : Mg_kind M = s.1 16) (hn : Mg_number M = s.1 17) (hg : g = true → tR T nd ∧ (∀ x ∈ nd, okX x) ∧ nG nd 0 = (0, 254, 0, []) ∧ mtr s.2 0 nd) : ∃ s0' b' can' I' mr' M' nm' O' P' rd1' T1' R' s', B_Rn_answer_63 C s0 b can I mr M nm O P rd T rd1 T1 R (nI c) (Mg_kind M) (if g = true then 1 else 0) = some (s0', b', can', I', mr', M', nm', O', P', rd, T, rd1', T1', R') ∧ B_Mo_answer_69 s (nI (re c)) (if g = true then 1 else 0) = some s' ∧ (∃ l, rn b' 200 l) ∧ (∃ l, rn can' 301 l) ∧ (∃ l, rn nm' 16 l) ∧ Rl s0' C I' M' O' P' R' s' ∧ mD s s' := by
  have n4 := hx.1
  have hsv := (hx.2.2.2 c hc).2.2.2.2.2.2.1
  have hm2 : B_Mo_answer_69 s (nI (re c)) (if g = true then 1 else 0) = if s.1 16 = nI (sv c) then B_Mo_answer_95 s (nI (re c)) (if g = true then 1 else 0) else B_Mo_answer_85 s := by
    unfold B_Mo_answer_69
    rw [show Mo_speaker s = nI c from hsp, z_cl (by omega), if_neg (by rw [show (0 : Int32) = nI 0 from rfl, z_lt (by omega) (by omega)]; omega), show Mo_services s c = nI (sv c) from hsv]
    rfl
  have hc2 : B_Rn_answer_63 C s0 b can I mr M nm O P rd T rd1 T1 R (nI c) (Mg_kind M) (if g = true then 1 else 0) = if s.1 16 = nI (sv c) then B_Rn_answer_85 C s0 b can I mr M nm O P rd T rd1 T1 R (s.1 16) (if g = true then 1 else 0) else B_Rn_answer_76 C s0 b can I mr M nm O P rd T rd1 T1 R := by
    unfold B_Rn_answer_63
    rw [cs_service hx hc, Option.bind_some, hk]
  rw [hm2, hc2]
  by_cases c1 : s.1 16 = nI (sv c)
  · rw [if_pos c1, if_pos c1]
    unfold B_Rn_answer_85 B_Mo_answer_95
    rw [show Mo_what s = s.1 16 from rfl]
    by_cases c2 : s.1 16 = (1 : Int32)
    · rw [if_pos c2, if_pos c2]
      obtain ⟨s0', b', I', M', O', P', s', a1, a2, a3, a4, a5⟩ := x_replyEnd (can := can) (nm := nm) (mr := mr) (rd := rd) (T := T) (rd1 := rd1) (T1 := T1) (st := 0) h0 htm h7 h8 hb hI h9 hP hO hR hx hc hm hsp hk hn
      exact ⟨s0', b', can, I', mr, M', nm, O', P', rd1, T1, R, s', a1, a2, a3, hcan, hnm, a4, a5⟩
    · rw [if_neg c2, if_neg c2]
      unfold B_Rn_answer_99 B_Mo_answer_113
      rw [show Mo_what s = s.1 16 from rfl]
      cases g with
      | false =>
        obtain ⟨s0', b', I', M', O', P', s', a1, a2, a3, a4, a5⟩ := x_replyEnd (can := can) (nm := nm) (mr := mr) (rd := rd) (T := T) (rd1 := rd1) (T1 := T1) (st := 3) h0 htm h7 h8 hb hI h9 hP hO hR hx hc hm hsp hk hn
        refine ⟨s0', b', can, I', mr, M', nm, O', P', rd1, T1, R, s', ?_, ?_, a3, hcan, hnm, a4, a5⟩
        · rw [if_neg (by decide : ¬ false = true), if_pos rfl]
          exact a1
        · rw [if_neg (by decide : ¬ false = true)]
          by_cases c3 : s.1 16 = (2 : Int32)
          · rw [if_pos c3]
            unfold B_Mo_answer_121
            rw [m_storeNo]
            unfold B_Mo_store_227
            exact bd_pr a2
          · rw [if_neg c3]
            unfold B_Mo_answer_129
            rw [if_pos rfl]
            exact a2
      | true =>
        obtain ⟨hT, hX, hrt, hmt⟩ := hg rfl
        rw [if_pos (rfl : true = true), if_neg (by decide : ¬ (1 : Int32) = 0)]
        unfold B_Rn_answer_112
        by_cases c3 : s.1 16 = (2 : Int32)
        · rw [if_pos c3, if_pos c3]
          obtain ⟨lc, hcan⟩ := hcan
          obtain ⟨ln, hnm⟩ := hnm
          obtain ⟨st, can', nm', R', t, a1, a2, a3, a4, a5, a6⟩ := x_store (s0 := s0) (s3 := rd) hT hX hrt hcan hnm hR hmt
          have hx2 : cxR C t n id sv re := by
            unfold cxR at hx ⊢
            rw [a6.1 11 (by omega) (by omega) (by omega) (by omega) (by omega), a6.2 23 (by omega) (by omega) (by omega), a6.2 24 (by omega) (by omega) (by omega), a6.2 25 (by omega) (by omega) (by omega)]
            exact hx
          obtain ⟨s0', b', I', M', O', P', s', y1, y2, y3, y4, y5⟩ := x_replyEnd (s0 := s0) (s := t) (tm := tm) (can := can') (nm := nm') (mr := mr) (rd := rd) (T := T) (rd1 := rd1) (T1 := T1) (st := st) (by rw [a6.1 18 (by omega) (by omega) (by omega) (by omega) (by omega)]; exact h0) htm (by rw [a6.1 7 (by omega) (by omega) (by omega) (by omega) (by omega)]; exact h7) (by rw [a6.1 8 (by omega) (by omega) (by omega) (by omega) (by omega)]; exact h8) hb hI (by rw [a6.1 9 (by omega) (by omega) (by omega) (by omega) (by omega)]; exact h9) hP (rO_k hO (a6.1 10 (by omega) (by omega) (by omega) (by omega) (by omega)) (a6.2 22 (by omega) (by omega) (by omega))) a5 hx2 hc hm (by rw [a6.1 15 (by omega) (by omega) (by omega) (by omega) (by omega)]; exact hsp) (by rw [a6.1 16 (by omega) (by omega) (by omega) (by omega) (by omega)]; exact hk) (by rw [a6.1 17 (by omega) (by omega) (by omega) (by omega) (by omega)]; exact hn)
          refine ⟨s0', b', can', I', mr, M', nm', O', P', rd1, T1, R', s', ?_, ?_, y3, a3, a4, y4, mD_t ⟨a6.1 1 (by omega) (by omega) (by omega) (by omega) (by omega), a6.1 2 (by omega) (by omega) (by omega) (by omega) (by omega), a6.2 0 (by omega) (by omega) (by omega)⟩ y5⟩
          · unfold B_Rn_answer_117
            rw [a1, Option.bind_some]
            exact y1
          · unfold B_Mo_answer_121
            rw [a2]
            unfold B_Mo_store_227
            exact bd_pr y2
        · rw [if_neg c3, if_neg c3]
          have hR' := hR
          obtain ⟨room, nr, Nm, B, N, r1, r2, r3, r4, r5⟩ := hR'
          obtain ⟨f, s0', b', I', mr', M', O', P', rd', T', t, a1, a2, a3, a4, a5⟩ := x_find (s0 := s0) (mr := mr) (rd := rd) (rd1 := rd1) (T1 := T1) (by rw [h0]; rfl) hb ⟨_, hI⟩ hP hO hx hc hre hm hsp hk hn hT hmt r2 r3
          obtain ⟨M'', P'', t', y1, y2, y3, y4⟩ := x_end a5 h0 htm h7 h8 hI h9 hP a4 hR hx
          refine ⟨s0', b', can, I', mr', M'', nm, O', P'', rd', T', R, t', ?_, ?_, a3, hcan, hnm, y3, y4⟩
          · unfold B_Rn_answer_129
            rw [a1, Option.bind_some]
            exact y1 _ _ _ _ _ _ _ _ _
          · unfold B_Mo_answer_129
            rw [if_neg (by decide)]
            unfold B_Mo_answer_143
            rw [a2, Option.bind_some]
            exact y2
  · rw [if_neg c1, if_neg c1]
    obtain ⟨s0', b', I', M', O', P', s', a1, a2, a3, a4, a5⟩ := x_replyEnd (can := can) (nm := nm) (mr := mr) (rd := rd) (T := T) (rd1 := rd1) (T1 := T1) (st := 2) h0 htm h7 h8 hb hI h9 hP hO hR hx hc hm hsp hk hn
    exact ⟨s0', b', can, I', mr, M', nm, O', P', rd1, T1, R, s', a1, a2, a3, hcan, hnm, a4, a5⟩
end XAN
