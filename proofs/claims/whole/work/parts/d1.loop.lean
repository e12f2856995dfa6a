theorem in_add {k L j : Nat} (h : k + j < L) (hL : L ≤ 2049) : vp_in (nI k + nI j) L := by
  rw [nI_add]
  exact nI_in h (Nat.lt_of_le_of_lt hL (by decide))
theorem in_4 (k : Nat) : nI (1 + 4 * k) + Int32.ofInt 4 = nI (1 + 4 * (k + 1)) := by
  rw [show (Int32.ofInt 4) = nI 4 from rfl, nI_add]
  congr 1
theorem guard_t {k L : Nat} (hL : L ≤ 2049) (hk : k ≤ 600) (h : ¬ Int32.ofNat L - 4 < nI (1 + 4 * k)) : 4 * k + 4 < L := by
  rw [Int32.lt_iff_toInt_lt, nI_toInt (by omega)] at h
  have e : (Int32.ofNat L - 4).toInt = (L : Int) - 4 := by
    rw [Int32.toInt_sub, show (Int32.ofNat L).toInt = (L : Int) from nI_toInt (n := L) (by omega), show (4 : Int32).toInt = 4 from rfl, Int.bmod_eq_of_le (by omega) (by omega)]
  omega
set_option maxRecDepth 100000 in
set_option maxHeartbeats 8000000 in
theorem law_body {p : Program} {l : Launch} {e : Env} {s : State} {m : MethodId} {below : List Frame} {meth : Method} {c : Code} {D : va_G} {A : Nat → Prop} {g : Nat → ClassId} {gL : ClassId} {b L : Nat} {xs : Nat → Int32} {K : Nat → Nat → Nat} {kM : Nat → Nat} {ao : Nat} {rest : va_W}  (X : LX p s m c D g gL A b L xs) (hr : meth.sig.returnType = ret) (hlk : meth.locks = false) (hA : ∀ q, A q → s.heap.size ≤ q) (hfl : l.flags = flags0) (hL : L ≤ 2049) {k : Nat} (hk : k ≤ 513) (ih : 4 * k + 4 < L → ∀ (s0 : S_Rn) (sb : S_Bs) (sc : S_Bs) (sx : S_Cs) (sd : S_Bs) (si : S_Bs) (sm : S_Mr) (sg : S_Mg) (sn : S_Bs) (so : S_Ou) (sp : S_Bs) (r1 : S_Rd) (t1 : S_Tr) (r2 : S_Rd) (t2 : S_Tr) (rs : S_Rs) (sM : S_Mo) (f : Nat → Int64) (g1 g2 : Nat) (ls : Array Slot) (H : Heap) (locs : List Loc), lv_has ls 7 [(0, .ref b), (1, .ref (K 0 0)), (2, .ref (kM 0)), (3, .ref ao), (4, .int (nI (1 + 4 * (k + 1))))] → Iw D A (w_Rn g (K 0) (fun j => K (j + 1) 0) s0 ++ (w_Bs g (K 6) sb ++ (w_Bs g (K 2) sc ++ (w_Cs g (K 8) sx ++ (w_Bs g (K 1) sd ++ (w_Bs g (K 4) si ++ (w_Mr g (K 13) sm ++ (w_Mg g (K 9) sg ++ (w_Bs g (K 3) sn ++ (w_Ou g (K 7) so ++ (w_Bs g (K 5) sp ++ (w_Rd g (K 11) (tw (K 14 0) g1) r1 ++ (w_Tr g (K 14) t1 ++ (w_Rd g (K 12) (tw (K 15 0) g2) r2 ++ (w_Tr g (K 15) t2 ++ (w_Rs g (K 10) (fun k => K (16 + 2 * k)) (fun k => K (17 + 2 * k)) rs ++ (w_Mo g kM sM ++ (arL gL ao f ++ (rest))))))))))))))))))) H → va_S A s.heap H locs → RB s0 sb sc sx sd si sg sn so sp rs sM → W p l e room_1 s m #[Value.ref b] below meth c H locs (200 + (k + 1)) (30000 + 6 * (k + 1)) (lw_Z below #[Value.ref b] s) (F0 m 33 ls [])) : ∀ (s0 : S_Rn) (sb : S_Bs) (sc : S_Bs) (sx : S_Cs) (sd : S_Bs) (si : S_Bs) (sm : S_Mr) (sg : S_Mg) (sn : S_Bs) (so : S_Ou) (sp : S_Bs) (r1 : S_Rd) (t1 : S_Tr) (r2 : S_Rd) (t2 : S_Tr) (rs : S_Rs) (sM : S_Mo) (f : Nat → Int64) (g1 g2 : Nat) (ls : Array Slot) (H : Heap) (locs : List Loc), lv_has ls 7 [(0, .ref b), (1, .ref (K 0 0)), (2, .ref (kM 0)), (3, .ref ao), (4, .int (nI (1 + 4 * k)))] → Iw D A (w_Rn g (K 0) (fun j => K (j + 1) 0) s0 ++ (w_Bs g (K 6) sb ++ (w_Bs g (K 2) sc ++ (w_Cs g (K 8) sx ++ (w_Bs g (K 1) sd ++ (w_Bs g (K 4) si ++ (w_Mr g (K 13) sm ++ (w_Mg g (K 9) sg ++ (w_Bs g (K 3) sn ++ (w_Ou g (K 7) so ++ (w_Bs g (K 5) sp ++ (w_Rd g (K 11) (tw (K 14 0) g1) r1 ++ (w_Tr g (K 14) t1 ++ (w_Rd g (K 12) (tw (K 15 0) g2) r2 ++ (w_Tr g (K 15) t2 ++ (w_Rs g (K 10) (fun k => K (16 + 2 * k)) (fun k => K (17 + 2 * k)) rs ++ (w_Mo g kM sM ++ (arL gL ao f ++ (rest))))))))))))))))))) H → va_S A s.heap H locs → RB s0 sb sc sx sd si sg sn so sp rs sM → W p l e room_1 s m #[Value.ref b] below meth c H locs (200 + k) (30000 + 6 * k) (lw_Z below #[Value.ref b] s) (F0 m 33 ls []) := by
  intro s0 sb sc sx sd si sm sg sn so sp r1 t1 r2 t2 rs sM f g1 g2 ls H locs hl hI hS hRB
  have X0 := X
  obtain ⟨hx, hb, hml, hown, ht, hKK, hKL, hZ, hN, hX, hbl, hbA⟩ := X
  refine lv_iload hx hb d_law_33 (lv_at hl 4 rfl) ?_
  refine lv_aload_n hx hb d_law_35 rfl (lv_at hl 0 rfl) ?_
  refine va_slen hx hb hX hbl hbA hS d_law_36 ?_
  refine lv_iconst (v := 4) hx hb d_law_37 (by decide) ?_
  refine lv_isub hx hb d_law_38 ?_
  refine lv_icmp_gt (tgt := 707) hx hb d_law_39 (by decide) (fun hc => ?_) (fun hc => ?_)
  · refine lv_iconst (v := 1) hx hb d_law_707 (by decide) ?_
    refine W.widen (k := 601024) (n := 7293000) (by omega) (by omega) ?_
    refine va_forget (fun q hq => hA _ (hS.2.2 q hq)) ?_
    exact lw_ret hx hb hr hlk d_law_708
  have hg := guard_t hL (by omega) hc
  have ih := ih hg
  have hin0 : vp_in (nI (1 + 4 * k)) L := nI_in (by omega) (by omega)
  have hin1 : vp_in (nI (1 + 4 * k) + 1) L := in_add (j := 1) (by omega) hL
  have hin2 : vp_in (nI (1 + 4 * k) + 2) L := in_add (j := 2) (by omega) hL
  have hin3 : vp_in (nI (1 + 4 * k) + 3) L := in_add (j := 3) (by omega) hL
  have hfc : 200 + k + 1 ≤ room_1.cells ∧ 30000 + 6 * k + 6 ≤ room_1.slots := ⟨Nat.le_trans (show 200 + k + 1 ≤ 1000 by omega) (Nat.le_of_ble_eq_true rfl), Nat.le_trans (show 30000 + 6 * k + 6 ≤ 40000 by omega) (Nat.le_of_ble_eq_true rfl)⟩
  have hk7 : ∀ (s0 : S_Rn) (sb : S_Bs) (sc : S_Bs) (sx : S_Cs) (sd : S_Bs) (si : S_Bs) (sm : S_Mr) (sg : S_Mg) (sn : S_Bs) (so : S_Ou) (sp : S_Bs) (r1 : S_Rd) (t1 : S_Tr) (r2 : S_Rd) (t2 : S_Tr) (rs : S_Rs) (sM : S_Mo) (f : Nat → Int64) (g1 g2 : Nat) (ls : Array Slot) (H : Heap) (locs : List Loc), lv_has ls 7 [(0, .ref b), (1, .ref (K 0 0)), (2, .ref (kM 0)), (3, .ref ao), (4, .int (nI (1 + 4 * k)))] → Iw D A (w_Rn g (K 0) (fun j => K (j + 1) 0) s0 ++ (w_Bs g (K 6) sb ++ (w_Bs g (K 2) sc ++ (w_Cs g (K 8) sx ++ (w_Bs g (K 1) sd ++ (w_Bs g (K 4) si ++ (w_Mr g (K 13) sm ++ (w_Mg g (K 9) sg ++ (w_Bs g (K 3) sn ++ (w_Ou g (K 7) so ++ (w_Bs g (K 5) sp ++ (w_Rd g (K 11) (tw (K 14 0) g1) r1 ++ (w_Tr g (K 14) t1 ++ (w_Rd g (K 12) (tw (K 15 0) g2) r2 ++ (w_Tr g (K 15) t2 ++ (w_Rs g (K 10) (fun k => K (16 + 2 * k)) (fun k => K (17 + 2 * k)) rs ++ (w_Mo g kM sM ++ (arL gL ao f ++ (rest))))))))))))))))))) H → va_S A s.heap H locs → RB s0 sb sc sx sd si sg sn so sp rs sM → W p l e room_1 s m #[Value.ref b] below meth c H locs (200 + k + 1) (30000 + 6 * k + 6) (lw_Z below #[Value.ref b] s) (F0 m 701 ls []) := by
    intro s0 sb sc sx sd si sm sg sn so sp r1 t1 r2 t2 rs sM f g1 g2 ls H locs hl hI hS hRB
    refine lv_iinc (k := 4) hx hb d_law_701 hl rfl (in_4 k) (by decide) rfl fun ls hl => ?_
    refine lv_goto (tgt := 33) hx hb d_law_704 (by decide) ?_
    exact ih s0 sb sc sx sd si sm sg sn so sp r1 t1 r2 t2 rs sM f g1 g2 _ _ _ (lv_sub hl [1, 2, 3, 4, 0] rfl) hI hS hRB
  refine lv_aload_n hx hb d_law_42 rfl (lv_at hl 0 rfl) ?_
  refine lv_iload hx hb d_law_43 (lv_at hl 4 rfl) ?_
  refine va_sld hx hb hX hbl hbA hS hin0 d_law_45 ?_
  refine lv_bipush (v := 15) hx hb d_law_46 (by decide) ?_
  refine lv_iand hx hb d_law_48 ?_
  generalize hv : (xs (nI (1 + 4 * k)).toNatClampNeg &&& (15 : Int32)) = v
  by_cases hs0 : v = 0
  · refine lv_tableIn (tgt := 120) hx hb d_law_49 (by rw [hs0]; decide) (by rw [hs0]; decide) (by rw [hs0]; rfl) (by decide) ?_
    exact lc_0 X0 hfl hfc hin1 hin2 hin3 hk7 hl hI hS hRB
  have hs0t := lv_neT (a := 0) hs0 (by decide)
  by_cases hs1 : v = 1
  · refine lv_tableIn (tgt := 189) hx hb d_law_49 (by rw [hs1]; decide) (by rw [hs1]; decide) (by rw [hs1]; rfl) (by decide) ?_
    exact lc_1 X0 hfl hfc hin1 hin2 hin3 hk7 hl hI hS hRB
  have hs1t := lv_neT (a := 1) hs1 (by decide)
  by_cases hs2 : v = 2
  · refine lv_tableIn (tgt := 200) hx hb d_law_49 (by rw [hs2]; decide) (by rw [hs2]; decide) (by rw [hs2]; rfl) (by decide) ?_
    exact lc_2 X0 hfl hfc hin1 hin2 hin3 hk7 hl hI hS hRB
  have hs2t := lv_neT (a := 2) hs2 (by decide)
  by_cases hs3 : v = 3
  · refine lv_tableIn (tgt := 256) hx hb d_law_49 (by rw [hs3]; decide) (by rw [hs3]; decide) (by rw [hs3]; rfl) (by decide) ?_
    exact lc_3 X0 hfl hfc hin1 hin2 hin3 hk7 hl hI hS hRB
  have hs3t := lv_neT (a := 3) hs3 (by decide)
  by_cases hs4 : v = 4
  · refine lv_tableIn (tgt := 324) hx hb d_law_49 (by rw [hs4]; decide) (by rw [hs4]; decide) (by rw [hs4]; rfl) (by decide) ?_
    exact lc_4 X0 hfl hfc hin1 hin2 hin3 hk7 hl hI hS hRB
  have hs4t := lv_neT (a := 4) hs4 (by decide)
  by_cases hs5 : v = 5
  · refine lv_tableIn (tgt := 380) hx hb d_law_49 (by rw [hs5]; decide) (by rw [hs5]; decide) (by rw [hs5]; rfl) (by decide) ?_
    exact lc_5 X0 hfl hfc hin1 hin2 hin3 hk7 hl hI hS hRB
  have hs5t := lv_neT (a := 5) hs5 (by decide)
  by_cases hs6 : v = 6
  · refine lv_tableIn (tgt := 393) hx hb d_law_49 (by rw [hs6]; decide) (by rw [hs6]; decide) (by rw [hs6]; rfl) (by decide) ?_
    exact lc_6 X0 hfl hfc hin1 hin2 hin3 hk7 hl hI hS hRB
  have hs6t := lv_neT (a := 6) hs6 (by decide)
  by_cases hs7 : v = 7
  · refine lv_tableIn (tgt := 406) hx hb d_law_49 (by rw [hs7]; decide) (by rw [hs7]; decide) (by rw [hs7]; rfl) (by decide) ?_
    exact lc_7 X0 hfl hfc hin1 hin2 hin3 hk7 hl hI hS hRB
  have hs7t := lv_neT (a := 7) hs7 (by decide)
  by_cases hs8 : v = 8
  · refine lv_tableIn (tgt := 513) hx hb d_law_49 (by rw [hs8]; decide) (by rw [hs8]; decide) (by rw [hs8]; rfl) (by decide) ?_
    exact lc_8 X0 hfl hfc hin1 hin2 hin3 hk7 hl hI hS hRB
  have hs8t := lv_neT (a := 8) hs8 (by decide)
  by_cases hs9 : v = 9
  · refine lv_tableIn (tgt := 526) hx hb d_law_49 (by rw [hs9]; decide) (by rw [hs9]; decide) (by rw [hs9]; rfl) (by decide) ?_
    exact lc_9 X0 hfl hfc hin1 hin2 hin3 hk7 hl hI hS hRB
  have hs9t := lv_neT (a := 9) hs9 (by decide)
  by_cases hs10 : v = 10
  · refine lv_tableIn (tgt := 539) hx hb d_law_49 (by rw [hs10]; decide) (by rw [hs10]; decide) (by rw [hs10]; rfl) (by decide) ?_
    exact lc_10 X0 hfl hfc hin1 hin2 hin3 hk7 hl hI hS hRB
  have hs10t := lv_neT (a := 10) hs10 (by decide)
  by_cases hs11 : v = 11
  · refine lv_tableIn (tgt := 583) hx hb d_law_49 (by rw [hs11]; decide) (by rw [hs11]; decide) (by rw [hs11]; rfl) (by decide) ?_
    exact lc_11 X0 hfl hfc hin1 hin2 hin3 hk7 hl hI hS hRB
  have hs11t := lv_neT (a := 11) hs11 (by decide)
  by_cases hs12 : v = 12
  · refine lv_tableIn (tgt := 608) hx hb d_law_49 (by rw [hs12]; decide) (by rw [hs12]; decide) (by rw [hs12]; rfl) (by decide) ?_
    exact lc_12 X0 hfl hfc hin1 hin2 hin3 hk7 hl hI hS hRB
  have hs12t := lv_neT (a := 12) hs12 (by decide)
  by_cases hs13 : v = 13
  · refine lv_tableIn (tgt := 633) hx hb d_law_49 (by rw [hs13]; decide) (by rw [hs13]; decide) (by rw [hs13]; rfl) (by decide) ?_
    exact lc_13 X0 hfl hfc hin1 hin2 hin3 hk7 hl hI hS hRB
  have hs13t := lv_neT (a := 13) hs13 (by decide)
  refine lv_tableOut (tgt := 701) hx hb d_law_49 (by omega) (by decide) ?_
  refine W.widen (k := 200 + k + 1) (n := 30000 + 6 * k + 6) (Nat.le_succ _) (Nat.le_add_right _ _) ?_
  exact hk7 s0 sb sc sx sd si sm sg sn so sp r1 t1 r2 t2 rs sM f g1 g2 _ _ _ hl hI hS hRB
theorem law_loop {p : Program} {l : Launch} {e : Env} {s : State} {m : MethodId} {below : List Frame} {meth : Method} {c : Code} {D : va_G} {A : Nat → Prop} {g : Nat → ClassId} {gL : ClassId} {b L : Nat} {xs : Nat → Int32} {K : Nat → Nat → Nat} {kM : Nat → Nat} {ao : Nat} {rest : va_W}  (X : LX p s m c D g gL A b L xs) (hr : meth.sig.returnType = ret) (hlk : meth.locks = false) (hA : ∀ q, A q → s.heap.size ≤ q) (hfl : l.flags = flags0) (hL : L ≤ 2049) : ∀ (n k : Nat), k + n = 513 → ∀ (s0 : S_Rn) (sb : S_Bs) (sc : S_Bs) (sx : S_Cs) (sd : S_Bs) (si : S_Bs) (sm : S_Mr) (sg : S_Mg) (sn : S_Bs) (so : S_Ou) (sp : S_Bs) (r1 : S_Rd) (t1 : S_Tr) (r2 : S_Rd) (t2 : S_Tr) (rs : S_Rs) (sM : S_Mo) (f : Nat → Int64) (g1 g2 : Nat) (ls : Array Slot) (H : Heap) (locs : List Loc), lv_has ls 7 [(0, .ref b), (1, .ref (K 0 0)), (2, .ref (kM 0)), (3, .ref ao), (4, .int (nI (1 + 4 * k)))] → Iw D A (w_Rn g (K 0) (fun j => K (j + 1) 0) s0 ++ (w_Bs g (K 6) sb ++ (w_Bs g (K 2) sc ++ (w_Cs g (K 8) sx ++ (w_Bs g (K 1) sd ++ (w_Bs g (K 4) si ++ (w_Mr g (K 13) sm ++ (w_Mg g (K 9) sg ++ (w_Bs g (K 3) sn ++ (w_Ou g (K 7) so ++ (w_Bs g (K 5) sp ++ (w_Rd g (K 11) (tw (K 14 0) g1) r1 ++ (w_Tr g (K 14) t1 ++ (w_Rd g (K 12) (tw (K 15 0) g2) r2 ++ (w_Tr g (K 15) t2 ++ (w_Rs g (K 10) (fun k => K (16 + 2 * k)) (fun k => K (17 + 2 * k)) rs ++ (w_Mo g kM sM ++ (arL gL ao f ++ (rest))))))))))))))))))) H → va_S A s.heap H locs → RB s0 sb sc sx sd si sg sn so sp rs sM → W p l e room_1 s m #[Value.ref b] below meth c H locs (200 + k) (30000 + 6 * k) (lw_Z below #[Value.ref b] s) (F0 m 33 ls []) := by
  intro n
  induction n with
  | zero => exact fun k hk => law_body X hr hlk hA hfl hL (by omega) (fun h => absurd h (by omega))
  | succ n ih => exact fun k hk => law_body X hr hlk hA hfl hL (by omega) (fun _ => ih (k + 1) (by omega))
