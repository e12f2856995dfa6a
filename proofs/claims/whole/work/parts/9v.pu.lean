/-! PURE: class and model side by side: what a piece that is sent does -/
def mK (s s' : S_Mo) : Prop := (∀ i, i ≠ 3 → i ≠ 4 → i ≠ 5 → i ≠ 6 → s'.1 i = s.1 i) ∧ ∀ j, j = 0 ∨ 21 ≤ j → s'.2 j = s.2 j
def mF1 (s s' : S_Mo) : Prop := (∀ i, i ≠ 3 → i ≠ 4 → i ≠ 5 → i ≠ 6 → i ≠ 10 → s'.1 i = s.1 i) ∧ ∀ j, j = 0 ∨ 21 ≤ j → j ≠ 22 → s'.2 j = s.2 j
/-- the model has shut the line -/
def mCl (s s' : S_Mo) : Prop := s'.1 7 = nI 0 ∧ s'.1 8 = nI 0 ∧ s'.1 9 = nI 0 ∧ s'.1 12 = nI 0 ∧ s'.1 13 = nI 0 ∧ s'.1 14 = nI 0 ∧ s'.1 15 = mI ∧ (∀ i, i ≠ 3 → i ≠ 4 → i ≠ 5 → i ≠ 6 → i ≠ 7 → i ≠ 8 → i ≠ 9 → i ≠ 10 → i ≠ 12 → i ≠ 13 → i ≠ 14 → i ≠ 15 → s'.1 i = s.1 i) ∧ ∀ j, j = 0 ∨ 21 ≤ j → j ≠ 22 → s'.2 j = s.2 j
theorem mK_t {a b c : S_Mo} (h : mK a b) (k : mK b c) : mK a c := ⟨fun i h3 h4 h5 h6 => (k.1 i h3 h4 h5 h6).trans (h.1 i h3 h4 h5 h6), fun j hj => (k.2 j hj).trans (h.2 j hj)⟩
theorem mK_r (a : S_Mo) : mK a a := ⟨fun _ _ _ _ _ => rfl, fun _ _ => rfl⟩
theorem mF1_r (a : S_Mo) : mF1 a a := ⟨fun _ _ _ _ _ _ => rfl, fun _ _ _ => rfl⟩
theorem mF1_t {a b c : S_Mo} (h : mF1 a b) (k : mF1 b c) : mF1 a c := ⟨fun i h3 h4 h5 h6 h10 => (k.1 i h3 h4 h5 h6 h10).trans (h.1 i h3 h4 h5 h6 h10), fun j hj h => (k.2 j hj h).trans (by rename_i hh; exact hh.2 j hj h)⟩
theorem mF1_k {a b : S_Mo} (h : mK a b) : mF1 a b := ⟨fun i h3 h4 h5 h6 _ => h.1 i h3 h4 h5 h6, fun j hj _ => h.2 j hj⟩
theorem mCl_t {a b c : S_Mo} (h : mF1 a b) (k : mCl b c) : mCl a c := by
  obtain ⟨k1, k2, k3, k4, k5, k6, k7, k8, k9⟩ := k
  exact ⟨k1, k2, k3, k4, k5, k6, k7, fun i h3 h4 h5 h6 h7 h8 h9 h10 h12 h13 h14 h15 => (k8 i h3 h4 h5 h6 h7 h8 h9 h10 h12 h13 h14 h15).trans (h.1 i h3 h4 h5 h6 h10), fun j hj h22 => (k9 j hj h22).trans (h.2 j hj h22)⟩
theorem mK_M {a b : S_Mo} (h : mOM a b) : mK a b := ⟨fun i _ _ _ h6 => h.1 i h6, fun j hj => h.2 j (by omega)⟩
theorem mK_C {a b : S_Mo} (h : mOC a b) : mK a b := ⟨fun i _ _ _ h6 => h.1 i h6, fun j hj => h.2 j (by omega) (by omega)⟩
theorem mK_X {a b : S_Mo} (h : mOX a b) : mK a b := ⟨fun i _ _ _ _ => by rw [h.1], fun j hj => h.2 j (by omega) (by omega)⟩
theorem mK_L {a b : S_Mo} (h : mLd a b) : mK a b := ⟨fun i h3 h4 h5 _ => h.1 i h3 h4 h5, fun j hj => h.2.1 j (by omega)⟩
theorem mK_f {t : Nat} {a b : S_Mo} (h : mfm t a b) : mK a b := ⟨fun i h3 h4 h5 _ => h.1 i h3 h4 h5, fun j hj => h.2.1 j (by omega)⟩
theorem bl01 (f : Bool) : (if f = true then (1 : Int32) else 0) = 0 ∨ (if f = true then (1 : Int32) else 0) = 1 := by cases f <;> decide
/-- the same output waits -/
def rO (O : S_Ou) (s : S_Mo) : Prop := ∃ o, ou O o ∧ mOt s o
theorem rO_k {O : S_Ou} {s s' : S_Mo} (h : rO O s) (h1 : s'.1 10 = s.1 10) (h2 : s'.2 22 = s.2 22) : rO O s' := by
  obtain ⟨o, a, b1, b2, b3⟩ := h
  exact ⟨o, a, b1, h1.trans b2, fun i hi => by rw [h2]; exact b3 i hi⟩
theorem rO_K {O : S_Ou} {s s' : S_Mo} (h : rO O s) (k : mK s s') : rO O s' := rO_k h (k.1 10 (by omega) (by omega) (by omega) (by omega)) (k.2 22 (by omega))
theorem m_shut (s : S_Mo) : ∃ s', F_Mo_shut s = some s' ∧ mCl s s' ∧ s'.1 10 = s.1 10 ∧ s'.2 = s.2 := by
  refine ⟨_, rfl, ⟨rfl, rfl, rfl, rfl, rfl, rfl, rfl, fun i h3 h4 h5 h6 h7 h8 h9 h10 h12 h13 h14 h15 => ?_, fun j hj h22 => rfl⟩, rfl, rfl⟩
  show upd (upd (upd (upd (upd (upd (upd s.1 7 0) 8 0) 9 0) 12 0) 13 0) 14 0) 15 (-1) i = s.1 i
  rw [pk_un h15, pk_un h14, pk_un h13, pk_un h12, pk_un h9, pk_un h8, pk_un h7]
/-- what became of the class and of the model when a piece was sent: f says whether it fitted -/
def pO (s0 s0' : S_Rn) (I I' : S_Bs) (M M' : S_Mg) (P P' : S_Bs) (s s' : S_Mo) (f : Bool) : Prop := if f = true then (s0' = s0 ∧ I' = I ∧ M' = M ∧ P' = P ∧ mF1 s s') else (s0' = (0, 0, Rn_answered s0) ∧ rn I' 202 [] ∧ M' = (0, mI, Mg_kind M, Mg_number M, 0) ∧ rn P' 200 [] ∧ mCl s s')
theorem pO_K {s0 s0' : S_Rn} {I I' : S_Bs} {M M' : S_Mg} {P P' : S_Bs} {s s1 s' : S_Mo} {f : Bool} (h : pO s0 s0' I I' M M' P P' s1 s' f) (k : mF1 s s1) : pO s0 s0' I I' M M' P P' s s' f := by
  unfold pO at h ⊢
  cases f with
  | true =>
    obtain ⟨a, b, c, d, e⟩ := h
    exact ⟨a, b, c, d, mF1_t k e⟩
  | false =>
    obtain ⟨a, b, c, d, e⟩ := h
    exact ⟨a, b, c, d, mCl_t k e⟩
theorem x_put {s0 : S_Rn} {b I P : S_Bs} {M : S_Mg} {O : S_Ou} {n t : Nat} {l : List Nat} {s : S_Mo} (hb : rn b n l) (hI : ∃ li, rn I 202 li) (hP : ∃ lp, rn P 200 lp) (hO : rO O s) (hM : mM s l) : ∃ f s0' I' M' O' P' s', F_Rn_put s0 b I M O P (nI t) = some ((if f = true then 1 else 0), s0', I', M', O', P') ∧ F_Mo_sends s (nI t) = some ((if f = true then 1 else 0), s') ∧ rO O' s' ∧ pO s0 s0' I I' M M' P P' s s' f ∧ (f = true → ∀ j, j ≠ 22 → s'.2 j = s.2 j) := by
  obtain ⟨o, o1, o2⟩ := hO
  obtain ⟨li, hI⟩ := hI
  obtain ⟨lq, hP⟩ := hP
  have hcap := rn_cap hb
  by_cases c : o.length + 2 + l.length ≤ 900
  · obtain ⟨O', e1, p1⟩ := c_put1 (t := t) (s0 := s0) (s2 := I) (s5 := P) (s3 := M) hb o1 c
    obtain ⟨s', e2, p2, p3, p4⟩ := m_sends (t := t) hM o2 c
    exact ⟨true, _, _, _, O', _, s', e1, e2, ⟨_, p1, p2⟩, ⟨rfl, rfl, rfl, rfl, fun i _ _ _ _ h => p3 i h, fun j _ h => p4 j h⟩, fun _ => p4⟩
  · obtain ⟨I', P', e1, p1, p2⟩ := c_shut (s0 := s0) (s2 := M) hI hP
    obtain ⟨s', e2, k1, k2, k3⟩ := m_shut s
    have m6 := hM.2.1
    have ho := o2.2.1
    have hol := o2.1
    refine ⟨false, _, I', _, O, P', s', by rw [c_put0 hb o1 c, e1]; rfl, ?_, rO_k ⟨o, o1, o2⟩ k2 (by rw [k3]), ⟨rfl, p1, rfl, p2, k1⟩, fun h => by cases h⟩
    unfold F_Mo_sends B_Mo_sends_0
    rw [show Mo_outputs s = nI o.length from ho, show Mo_makes s = nI l.length from m6, if_neg (by simp (disch := omega) only [z_lt, z_le, z_eq, z_cl, z_ad, z_mu, z_sb, z_n1, z_em, z_me, z_lm, z_ml, z_mle, z_lme, z_ma, z_am, z_m2, not_false_eq_true, z_l0, z_l1, z_l2, z_l3, z_l4, z_l5, z_l6, z_l7, z_l8, z_l10, z_l14, z_l15, z_l16, z_l32, z_l80, z_l101, z_l120, z_l126, z_l127, z_l130, z_l160, z_l198, z_l200, z_l202, z_l240, z_l252, z_l253, z_l254, z_l255, z_l260, z_l480, z_l900, Mo_room, Mo_code, Mo_draft, Mo_drafted, Mo_source, Mo_fault, Mo_count, Mo_kind, Mo_tag, Mo_value, Mo_letters, Mo_parent, Mo_first, Mo_next, Mo_last, Mo_many, Mo_size, Mo_number, Mo_chars, Mo_held, Mo_fits, Mo_depth, Mo_node, Mo_end, Mo_loose, Mo_at, Mo_made, Mo_makes, Mo_line, Mo_timer, Mo_input, Mo_inputs, Mo_output, Mo_outputs, Mo_contexts, Mo_ids, Mo_services, Mo_results, Mo_wanted, Mo_command, Mo_commands, Mo_body, Mo_bodies, Mo_speaker, Mo_what, Mo_message, Mo_answered, Mo_records, Mo_kept, Mo_lengths, Mo_set_room, Mo_set_code, Mo_set_draft, Mo_set_drafted, Mo_set_source, Mo_set_fault, Mo_set_count, Mo_set_kind, Mo_set_tag, Mo_set_value, Mo_set_letters, Mo_set_parent, Mo_set_first, Mo_set_next, Mo_set_last, Mo_set_many, Mo_set_size, Mo_set_number, Mo_set_chars, Mo_set_held, Mo_set_fits, Mo_set_depth, Mo_set_node, Mo_set_end, Mo_set_loose, Mo_set_at, Mo_set_made, Mo_set_makes, Mo_set_line, Mo_set_timer, Mo_set_input, Mo_set_inputs, Mo_set_output, Mo_set_outputs, Mo_set_contexts, Mo_set_ids, Mo_set_services, Mo_set_results, Mo_set_wanted, Mo_set_command, Mo_set_commands, Mo_set_body, Mo_set_bodies, Mo_set_speaker, Mo_set_what, Mo_set_message, Mo_set_answered, Mo_set_records, Mo_set_kept, Mo_set_lengths, ua_s, ua_n, pk_us, pk_un] <;> omega)]
    unfold B_Mo_sends_17
    rw [e2]
    rfl
/-! the contexts -/
def cxR (C : S_Cs) (s : S_Mo) (n : Nat) (id sv re : Nat → Nat) : Prop := n ≤ 4 ∧ Cs_count C = nI n ∧ s.1 11 = nI n ∧ ∀ k, k < n → id k < 256 ∧ sv k < 256 ∧ re k ≤ 3 ∧ Cs_ids C k = nI (id k) ∧ s.2 23 k = nI (id k) ∧ Cs_services C k = nI (sv k) ∧ s.2 24 k = nI (sv k) ∧ Cs_results C k = nI (re k) ∧ s.2 25 k = nI (re k)
theorem cxR_F {C : S_Cs} {s s' : S_Mo} {n : Nat} {id sv re : Nat → Nat} (h : cxR C s n id sv re) (k : mF1 s s') : cxR C s' n id sv re := by
  obtain ⟨h1, h2, h3, h4⟩ := h
  refine ⟨h1, h2, by rw [k.1 11 (by omega) (by omega) (by omega) (by omega) (by omega)]; exact h3, fun i hi => ?_⟩
  rw [k.2 23 (by omega) (by omega), k.2 24 (by omega) (by omega), k.2 25 (by omega) (by omega)]
  exact h4 i hi
theorem cs_has {C : S_Cs} {s : S_Mo} {n : Nat} {id sv re : Nat → Nat} (h : cxR C s n id sv re) {k : Nat} (hk : k < n) : F_Cs_has C (nI k) = some 1 := by
  have := h.1
  unfold F_Cs_has B_Cs_has_0
  rw [if_neg (by show ¬ nI k < nI 0; rw [z_lt (by omega) (by omega)]; omega)]
  unfold B_Cs_has_4
  rw [h.2.1, if_neg (by rw [z_le (by omega) (by omega)]; omega)]
  rfl
theorem cs_id {C : S_Cs} {s : S_Mo} {n : Nat} {id sv re : Nat → Nat} (h : cxR C s n id sv re) {k : Nat} (hk : k < n) : F_Cs_id C (nI k) = some (nI (id k)) := by
  have := h.1
  unfold F_Cs_id B_Cs_id_0
  rw [cs_has h hk, Option.bind_some, if_neg (by decide)]
  unfold B_Cs_id_8
  rw [z_cl (by omega), if_neg (by rw [show (0 : Int32) = nI 0 from rfl, z_lt (by omega) (by omega)]; omega), (h.2.2.2 k hk).2.2.2.1]
  rfl
theorem cs_result {C : S_Cs} {s : S_Mo} {n : Nat} {id sv re : Nat → Nat} (h : cxR C s n id sv re) {k : Nat} (hk : k < n) : F_Cs_result C (nI k) = some (nI (re k)) := by
  have := h.1
  unfold F_Cs_result B_Cs_result_0
  rw [cs_has h hk, Option.bind_some, if_neg (by decide)]
  unfold B_Cs_result_8
  rw [z_cl (by omega), if_neg (by rw [show (0 : Int32) = nI 0 from rfl, z_lt (by omega) (by omega)]; omega), (h.2.2.2 k hk).2.2.2.2.2.2.2.1]
  rfl
theorem cs_service {C : S_Cs} {s : S_Mo} {n : Nat} {id sv re : Nat → Nat} (h : cxR C s n id sv re) {k : Nat} (hk : k < n) : F_Cs_service C (nI k) = some (nI (sv k)) := by
  have := h.1
  unfold F_Cs_service B_Cs_service_0
  rw [cs_has h hk, Option.bind_some, if_neg (by decide)]
  unfold B_Cs_service_8
  rw [z_cl (by omega), if_neg (by rw [show (0 : Int32) = nI 0 from rfl, z_lt (by omega) (by omega)]; omega), (h.2.2.2 k hk).2.2.2.2.2.1]
  rfl
theorem cs_usable {C : S_Cs} {s : S_Mo} {n : Nat} {id sv re : Nat → Nat} (h : cxR C s n id sv re) {k : Nat} (hk : k < n) : F_Cs_isUsable C (nI k) = some (if re k ≤ 1 then 1 else 0) := by
  have := h.1
  have h3 := (h.2.2.2 k hk).2.2.1
  unfold F_Cs_isUsable B_Cs_isUsable_0
  rw [cs_has h hk, Option.bind_some, if_neg (by decide)]
  unfold B_Cs_isUsable_8
  rw [z_cl (by omega), if_neg (by rw [show (0 : Int32) = nI 0 from rfl, z_lt (by omega) (by omega)]; omega), (h.2.2.2 k hk).2.2.2.2.2.2.2.1]
  by_cases c : re k ≤ 1
  · rw [if_pos c, if_neg (by rw [show (1 : Int32) = nI 1 from rfl, z_lt (by omega) (by omega)]; omega)]
    rfl
  · rw [if_neg c, if_pos (by rw [show (1 : Int32) = nI 1 from rfl, z_lt (by omega) (by omega)]; omega)]
    rfl
/-! the head of a data piece, and a reply -/
theorem c_startData {s0 : S_Rn} {b : S_Bs} {C : S_Cs} {M : S_Mg} {s : S_Mo} {n c : Nat} {id sv re : Nat → Nat} {f : Nat} (hb : ∃ l, rn b 200 l) (hx : cxR C s n id sv re) (hc : c < n) (hm : Mg_context M = nI c) (hf : f < 256) : ∃ b', F_Rn_startData s0 b C M (nI f) = some b' ∧ rn b' 200 [id c, f] := by
  obtain ⟨l, hb⟩ := hb
  obtain ⟨b1, e1, r1⟩ := rn_reset hb
  obtain ⟨b2, e2, r2⟩ := rn_append' r1 (by simp) (hx.2.2.2 c hc).1
  obtain ⟨b3, e3, r3⟩ := rn_append' r2 (by simp) hf
  refine ⟨b3, ?_, by simpa using r3⟩
  unfold F_Rn_startData B_Rn_startData_0
  rw [e1, Option.bind_some, show F_Mg_contextIndex M = some (nI c) by show some (Mg_context M) = _; rw [hm], Option.bind_some, cs_id hx hc, Option.bind_some, e2, Option.bind_some, e3, Option.bind_some]
theorem x_reply {s0 : S_Rn} {b I P : S_Bs} {C : S_Cs} {M : S_Mg} {O : S_Ou} {s : S_Mo} {n c : Nat} {id sv re : Nat → Nat} {st : Int32} {fo : Bool} (hb : ∃ l, rn b 200 l) (hI : ∃ li, rn I 202 li) (hP : ∃ lp, rn P 200 lp) (hO : rO O s) (hx : cxR C s n id sv re) (hc : c < n) (hm : Mg_context M = nI c) (hsp : s.1 15 = nI c) (hk : Mg_kind M = s.1 16) (hn : Mg_number M = s.1 17) : ∃ f s0' b' I' M' O' P' s', F_Rn_reply s0 b C I M O P st (if fo = true then 1 else 0) = some (s0', b', I', M', O', P') ∧ F_Mo_replies s st (if fo = true then 1 else 0) = some ((if f = true then 1 else 0), s') ∧ (∃ l, rn b' 200 l) ∧ rO O' s' ∧ pO s0 s0' I I' M M' P P' s s' f ∧ (f = true → ∀ j, j ≠ 20 → j ≠ 22 → s'.2 j = s.2 j) := by
  have n4 := hx.1
  have nl : ∀ g v, (numB 1 g v).length ≤ 7 := by
    intro g v
    have := nb_le v
    unfold numB
    simp
    omega
  obtain ⟨s1, e1, m1, o1⟩ := m_replies (st := st) (f := fo) (by omega) hsp (hx.2.2.2 c hc).2.2.2.2.1
  obtain ⟨b1, f1, r1⟩ := c_startData (s0 := s0) (f := 3) hb hx hc hm (by omega)
  obtain ⟨b2, f2, r2⟩ := c_writeNumber (g := 1) (v := Mg_kind M + 16) r1 (Nat.le_refl 1) (by omega) (by have := nl 1 (Mg_kind M + 16); simp; omega)
  obtain ⟨b3, f3, r3⟩ := c_writeNumber (g := 2) (v := Mg_number M) r2 (Nat.le_refl 1) (by omega) (by have := nl 1 (Mg_kind M + 16); have := nl 2 (Mg_number M); simp; omega)
  obtain ⟨b4, f4, r4⟩ := c_writeNumber (g := 3) (v := if fo = true then 1 else 0) r3 (Nat.le_refl 1) (by omega) (by have := nl 1 (Mg_kind M + 16); have := nl 2 (Mg_number M); have := nl 3 (if fo = true then 1 else 0); simp; omega)
  obtain ⟨b5, f5, r5⟩ := c_writeNumber (g := 4) (v := st) r4 (Nat.le_refl 1) (by omega) (by have := nl 1 (Mg_kind M + 16); have := nl 2 (Mg_number M); have := nl 3 (if fo = true then 1 else 0); have := nl 4 st; simp; omega)
  rw [hk, hn] at r5
  obtain ⟨f, s0', I', M', O', P', s', g1, g2, g3, g4, g5⟩ := x_put (t := 4) (s0 := s0) (M := M) r5 hI hP (rO_K hO (mK_M o1)) m1
  refine ⟨f, s0', b5, I', M', O', P', s', ?_, ?_, ⟨_, r5⟩, g3, pO_K g4 (mF1_k (mK_M o1)), fun h j h20 h22 => (g5 h j h22).trans (o1.2 j h20)⟩
  · unfold F_Rn_reply B_Rn_reply_0
    rw [show F_Rn_startData s0 b C M (3 : Int32) = _ from f1, Option.bind_some, show F_Mg_kind M = some (Mg_kind M) from rfl, Option.bind_some, show F_Tr_writeNumber b1 (1 : Int32) (Mg_kind M + 16) (1 : Int32) = _ from f2, Option.bind_some, show F_Mg_number M = some (Mg_number M) from rfl, Option.bind_some, show F_Tr_writeNumber b2 (2 : Int32) (Mg_number M) (1 : Int32) = _ from f3, Option.bind_some]
    have fin : ∀ y, F_Tr_writeNumber b3 (3 : Int32) y (1 : Int32) = some b4 → B_Rn_reply_50 C s0 b3 I M O P st y 3 = some (s0', b5, I', M', O', P') := by
      intro y hy
      unfold B_Rn_reply_50
      rw [hy, Option.bind_some, show F_Tr_writeNumber b4 (4 : Int32) st (1 : Int32) = _ from f5, Option.bind_some, show F_Rn_put s0 b5 I M O P (4 : Int32) = _ from g1, Option.bind_some]
    cases fo with
    | true =>
      rw [if_pos (rfl : true = true), if_neg (by decide : ¬ (1 : Int32) = 0)]
      exact fin 1 f4
    | false =>
      rw [if_neg (by decide : ¬ false = true), if_pos rfl]
      exact fin 0 f4
  · rw [e1]
    unfold B_Mo_shows_144
    rw [show F_Mo_sends s1 (4 : Int32) = _ from g2, Option.bind_some, if_pos (bl01 f)]
