theorem d_Rs_init_0 : decode prog_8_method_1_code 0 = .ok (.aload_n 0, 1) := by decide +kernel
theorem d_Rs_init_1 : decode prog_8_method_1_code 1 = .ok (.invokespecial 3, 3) := by decide +kernel
theorem d_Rs_init_4 : decode prog_8_method_1_code 4 = .ok (.iconst 1, 1) := by decide +kernel
theorem d_Rs_init_5 : decode prog_8_method_1_code 5 = .ok (.bipush 8, 2) := by decide +kernel
theorem d_Rs_init_7 : decode prog_8_method_1_code 7 = .ok (.iload_n 1, 1) := by decide +kernel
theorem d_Rs_init_8 : decode prog_8_method_1_code 8 = .ok (.invokestatic 11, 3) := by decide +kernel
theorem d_Rs_init_11 : decode prog_8_method_1_code 11 = .ok (.invokestatic 17, 3) := by decide +kernel
theorem d_Rs_init_14 : decode prog_8_method_1_code 14 = .ok (.istore_n 2, 1) := by decide +kernel
theorem d_Rs_init_15 : decode prog_8_method_1_code 15 = .ok (.aload_n 0, 1) := by decide +kernel
theorem d_Rs_init_16 : decode prog_8_method_1_code 16 = .ok (.iload_n 2, 1) := by decide +kernel
theorem d_Rs_init_17 : decode prog_8_method_1_code 17 = .ok (.anewarray 20, 3) := by decide +kernel
theorem d_Rs_init_20 : decode prog_8_method_1_code 20 = .ok (.putfield 22, 3) := by decide +kernel
theorem d_Rs_init_23 : decode prog_8_method_1_code 23 = .ok (.aload_n 0, 1) := by decide +kernel
theorem d_Rs_init_24 : decode prog_8_method_1_code 24 = .ok (.iload_n 2, 1) := by decide +kernel
theorem d_Rs_init_25 : decode prog_8_method_1_code 25 = .ok (.anewarray 20, 3) := by decide +kernel
theorem d_Rs_init_28 : decode prog_8_method_1_code 28 = .ok (.putfield 26, 3) := by decide +kernel
theorem d_Rs_init_31 : decode prog_8_method_1_code 31 = .ok (.iconst 0, 1) := by decide +kernel
theorem d_Rs_init_32 : decode prog_8_method_1_code 32 = .ok (.istore_n 3, 1) := by decide +kernel
theorem d_Rs_init_33 : decode prog_8_method_1_code 33 = .ok (.iload_n 3, 1) := by decide +kernel
theorem d_Rs_init_34 : decode prog_8_method_1_code 34 = .ok (.iload_n 2, 1) := by decide +kernel
theorem d_Rs_init_35 : decode prog_8_method_1_code 35 = .ok (.if_icmp .ge 40, 3) := by decide +kernel
theorem d_Rs_init_38 : decode prog_8_method_1_code 38 = .ok (.aload_n 0, 1) := by decide +kernel
theorem d_Rs_init_39 : decode prog_8_method_1_code 39 = .ok (.getfield 22, 3) := by decide +kernel
theorem d_Rs_init_42 : decode prog_8_method_1_code 42 = .ok (.iload_n 3, 1) := by decide +kernel
theorem d_Rs_init_43 : decode prog_8_method_1_code 43 = .ok (.new 20, 3) := by decide +kernel
theorem d_Rs_init_46 : decode prog_8_method_1_code 46 = .ok (.dup, 1) := by decide +kernel
theorem d_Rs_init_47 : decode prog_8_method_1_code 47 = .ok (.bipush 16, 2) := by decide +kernel
theorem d_Rs_init_49 : decode prog_8_method_1_code 49 = .ok (.invokespecial 29, 3) := by decide +kernel
theorem d_Rs_init_52 : decode prog_8_method_1_code 52 = .ok (.aastore, 1) := by decide +kernel
theorem d_Rs_init_53 : decode prog_8_method_1_code 53 = .ok (.aload_n 0, 1) := by decide +kernel
theorem d_Rs_init_54 : decode prog_8_method_1_code 54 = .ok (.getfield 26, 3) := by decide +kernel
theorem d_Rs_init_57 : decode prog_8_method_1_code 57 = .ok (.iload_n 3, 1) := by decide +kernel
theorem d_Rs_init_58 : decode prog_8_method_1_code 58 = .ok (.new 20, 3) := by decide +kernel
theorem d_Rs_init_61 : decode prog_8_method_1_code 61 = .ok (.dup, 1) := by decide +kernel
theorem d_Rs_init_62 : decode prog_8_method_1_code 62 = .ok (.sipush 198, 3) := by decide +kernel
theorem d_Rs_init_65 : decode prog_8_method_1_code 65 = .ok (.invokespecial 29, 3) := by decide +kernel
theorem d_Rs_init_68 : decode prog_8_method_1_code 68 = .ok (.aastore, 1) := by decide +kernel
theorem d_Rs_init_69 : decode prog_8_method_1_code 69 = .ok (.iinc 3 1, 3) := by decide +kernel
theorem d_Rs_init_72 : decode prog_8_method_1_code 72 = .ok (.goto (-39), 3) := by decide +kernel
theorem d_Rs_init_75 : decode prog_8_method_1_code 75 = .ok (.aload_n 0, 1) := by decide +kernel
theorem d_Rs_init_76 : decode prog_8_method_1_code 76 = .ok (.iconst 0, 1) := by decide +kernel
theorem d_Rs_init_77 : decode prog_8_method_1_code 77 = .ok (.putfield 32, 3) := by decide +kernel
theorem d_Rs_init_80 : decode prog_8_method_1_code 80 = .ok (.return_, 1) := by decide +kernel
def ws_Rs_init : List Cond := .code y_Rs_init prog_8_method_1_code 4 none :: TB
/-! Records(int): two rows of references, filled in a loop -/
theorem Iw_arr {D : va_G} {A : Nat → Prop} {q : Nat} {c : ClassId} {a a' : vp_A} {ws : va_W} {H : Heap} (h : Iw D A ([(q, .inl (c, a))] ++ ws) H) (e : vp_cell c a = vp_cell c a') : Iw D A ([(q, .inl (c, a'))] ++ ws) H := by
  refine ⟨fun k x hk => ?_, ?_⟩
  · cases k with
    | zero =>
      have h0 : H[q]? = some (vp_cell c a) := h.1 0 (q, .inl (c, a)) rfl
      have hx : x = (q, .inl (c, a')) := (Option.some.inj hk).symm
      subst hx
      show H[q]? = some (vp_cell c a')
      rw [h0, e]
    | succ k => exact h.1 (k + 1) x hk
  · have h2 := va_D_iff.mp h.2
    refine va_D_iff.mpr ⟨?_, fun x hx => ?_⟩
    · have h3 := List.pairwise_cons.mp h2.1
      exact List.pairwise_cons.mpr ⟨h3.1, h3.2⟩
    · rcases List.mem_cons.mp hx with rfl | hx
      · exact h2.2 (q, .inl (c, a)) List.mem_cons_self
      · exact h2.2 x (List.mem_cons_of_mem _ hx)
theorem cell_refs {c : ClassId} {n : Nat} {f f' : Nat → Option Nat} (h : ∀ j, j < n → f j = f' j) : vp_cell c (n, .inr (.inr (.inr (.inr f)))) = vp_cell c (n, .inr (.inr (.inr (.inr f')))) := by
  show arrV c n (fun j => va_rf (f j)) = arrV c n (fun j => va_rf (f' j))
  unfold arrV
  congr 2
  funext j
  show va_rf (f j.val) = va_rf (f' j.val)
  rw [h j.val j.isLt]
def Rs_rows (x : Int32) : Int32 := if (1 : Int32) < (if x < 8 then x else 8) then (if x < 8 then x else 8) else 1
theorem Rs_rows_n (x : Int32) : ∃ n : Nat, 1 ≤ n ∧ n ≤ 8 ∧ Rs_rows x = nI n := by
  unfold Rs_rows
  by_cases h1 : x < 8
  · rw [if_pos h1]
    by_cases h2 : (1 : Int32) < x
    · rw [if_pos h2]
      have h3 : (1 : Int32).toInt < x.toInt := Int32.lt_iff_toInt_lt.mp h2
      have h4 : x.toInt < (8 : Int32).toInt := Int32.lt_iff_toInt_lt.mp h1
      have e1 : (1 : Int32).toInt = 1 := by decide
      have e8 : (8 : Int32).toInt = 8 := by decide
      refine ⟨x.toInt.toNat, by omega, by omega, ?_⟩
      apply Int32.toInt_inj.mp
      rw [nI_toInt (by omega)]
      omega
    · rw [if_neg h2]; exact ⟨1, by omega, by omega, by decide⟩
  · rw [if_neg h1]; exact ⟨8, by omega, by omega, by decide⟩
def Rs_n0 (x : Int32) : Nat := (Rs_rows x).toNatClampNeg
theorem Rs_n0_spec (x : Int32) : 1 ≤ Rs_n0 x ∧ Rs_n0 x ≤ 8 ∧ Rs_rows x = nI (Rs_n0 x) := by
  obtain ⟨n, h1, h2, h3⟩ := Rs_rows_n x
  have h4 : Rs_n0 x = n := by unfold Rs_n0; rw [h3, nI_clamp (by omega)]
  rw [h4]; exact ⟨h1, h2, h3⟩
/-- the first k rows are made -/
def rsW (g : Nat → ClassId) (h qN qB n k : Nat) (N B : Nat → Nat → Nat) (rest : va_W) : va_W :=
  [(qN, .inl (g 2, n, .inr (.inr (.inr (.inr (fun j => if j < k then some (N j 0) else none))))))] ++ ([(qB, .inl (g 2, n, .inr (.inr (.inr (.inr (fun j => if j < k then some (B j 0) else none))))))] ++ ([(h, .inr (6, [.ref qN, .ref qB, .int 0]))] ++ (w_Pl g N B (List.range k) (i_Rs n) ++ rest)))

theorem up_lt (N : Nat → Nat → Nat) (u : Nat → Nat) (k : Nat) : va_up (fun j => if j < k then some (N j 0) else none) k (some (u 0)) = (fun j => if j < k + 1 then some ((if j = k then u else N j) 0) else none) := by
  funext j
  unfold va_up
  dsimp only
  by_cases h : j = k
  · rw [if_pos h, if_pos (by omega), if_pos h]
  · rw [if_neg h]
    by_cases h2 : j < k
    · rw [if_pos h2, if_pos (by omega), if_neg h]
    · rw [if_neg h2, if_neg (by omega)]
theorem pl_succ {g : Nat → ClassId} {n : Nat} (N B : Nat → Nat → Nat) (u1 u2 : Nat → Nat) (k : Nat) : w_Pl g (fun j => if j = k then u1 else N j) (fun j => if j = k then u2 else B j) (List.range (k + 1)) (i_Rs n) = w_Pl g N B (List.range k) (i_Rs n) ++ (w_Bs g u1 (i_Bs 16) ++ w_Bs g u2 (i_Bs 198)) := by
  unfold w_Pl
  rw [List.range_succ, List.flatMap_append]
  congr 1
  · unfold List.flatMap
    congr 1
    refine List.map_congr_left (fun j hj => ?_)
    have := List.mem_range.mp hj
    dsimp only
    rw [if_neg (by omega), if_neg (by omega)]
  · simp [List.flatMap_cons]
    rfl
set_option maxRecDepth 100000 in
set_option maxHeartbeats 8000000 in
theorem rs_loop {p : Program} {l : Launch} {e : Env} {s : State} {m : MethodId} {args : Array Value} {below : List Frame} {meth : Method} {c : Code} {D : va_G} {A : Nat → Prop} {g : Nat → ClassId} {rest : va_W} {h qN qB n : Nat} (hx : p.tables.exec = Jvm.exec) (hb : c.code = prog_8_method_1_code) (hml : c.maxLocals = 4) (hown : s.vm.findClass R_Rs = some m.cls) (ht : ∀ w ∈ TB, w.before args s = true) (hr : meth.sig.returnType = none) (hlocks : meth.locks = false) (hKK : KK D g s) (hA : ∀ q, s.heap.size ≤ q → A q) (hn : n ≤ 8) : ∀ (j k : Nat), k + j = n → ∀ (N B : Nat → Nat → Nat) (ls : Array Slot) (H : Heap) (locs : List Loc), lv_has ls 4 [(0, .ref h), (2, .int (nI n)), (3, .int (nI k))] → Iw D A (rsW g h qN qB n k N B rest) H → va_S A s.heap H locs → W p l e (headSpec ws_Rs_init { frames := 2, cells := 34, slots := 1760, locals := 40 }).room s m args below meth c H locs (2 + 4 * k) (2 * n + 218 * k) (MQ below (QcN D A g (fun (u : (Nat → Nat) × (Nat → Nat → Nat) × (Nat → Nat → Nat)) => u.1 0 = h) (fun u => w_Rs g u.1 u.2.1 u.2.2 (i_Rs n) ++ (rest))) args s 34 1760 A) (F0 m 33 ls []) := by
  intro j
  have hK := hKK.1
  induction j with
  | zero =>
    intro k hk N B ls H locs hl hI hS
    have hkn : k = n := by omega
    subst hkn
    refine lv_iload_n hx hb d_Rs_init_33 rfl (lv_at hl 2 rfl) ?_
    refine lv_iload_n hx hb d_Rs_init_34 rfl (lv_at hl 1 rfl) ?_
    refine lv_icmp_ge (tgt := 75) hx hb d_Rs_init_35 (by decide) (fun hc => ?_) (fun hc => absurd (nI_le (Nat.le_refl k) (by omega)) hc)
    refine lv_aload_n hx hb d_Rs_init_75 rfl (lv_at hl 0 rfl) ?_
    refine lv_iconst (v := 0) hx hb d_Rs_init_76 (by decide) ?_
    refine va_put (D := D) (ci := 6) (v := .int 0) (ty := .int) (C := R_Rs) (T := T_Rs) (N := 3) hx hb ht in_Rs ty_Rs tyok_Rs nm_Rs hown hK hI.1 hI.2 hS 2 rfl rfl 2 (by decide) (ht _ m_114) (fun _ h9 => h9) rfl (by decide +kernel) rfl rfl (Nat.le_of_ble_eq_true rfl) d_Rs_init_77 (fun H locs hP hD hS => ?_)
    have hI : Iw D A (rsW g h qN qB k k N B rest) H := ⟨hP, hD⟩
    unfold rsW at hI
    have hI := Iw_arr hI (cell_refs (f' := fun j => some (N j 0)) (fun j hj => if_pos hj))
    have hI := hI.pm mv_1
    have hI := Iw_arr hI (cell_refs (f' := fun j => some (B j 0)) (fun j hj => if_pos hj))
    have hI := hI.pm (mv_1.trans (mv_2.trans (List.Perm.refl _)))
    refine W.widen (k := 34) (n := 1760) (by omega) (by omega) ?_
    exact W.vret hx hb hr (fun t ht hW => ⟨⟨(am [h, qN, qB], N, B), rfl, rfl, ⟨by rw [ht]; exact hI, hKK.moved hW⟩⟩, hS.F ht⟩) hS.2.2 d_Rs_init_80
  | succ j ih =>
    intro k hk N B ls H locs hl hI hS
    have hkn : k < n := by omega
    have hcl : (nI k).toNatClampNeg = k := nI_clamp (by omega)
    refine lv_iload_n hx hb d_Rs_init_33 rfl (lv_at hl 2 rfl) ?_
    refine lv_iload_n hx hb d_Rs_init_34 rfl (lv_at hl 1 rfl) ?_
    refine lv_icmp_ge (tgt := 75) hx hb d_Rs_init_35 (by decide) (fun hc => absurd hc (nI_ge hkn (by omega))) (fun hc => ?_)
    refine lv_aload_n hx hb d_Rs_init_38 rfl (lv_at hl 0 rfl) ?_
    refine va_get (D := D) (ci := 6) (v := .ref qN) (C := R_Rs) (T := T_Rs) (N := 3) hx hb ht in_Rs hown hK hI.1 2 rfl rfl 0 (by decide) (ht _ m_112) (fun _ h9 => h9) rfl d_Rs_init_39 ?_
    refine lv_iload_n hx hb d_Rs_init_42 rfl (lv_at hl 2 rfl) ?_
    refine va_new (D := D) (ci := 0) (fs := [.null, .int 0]) (C := R_Bs) (T := T_Bs) (N := 2) hx hb ht in_Bs ty_Bs tyok_Bs hown (ht _ m_109) (ht _ m_27) (ht _ m_2) hK hI.1 hI.2 hS hA rfl (fun j hj => by rcases (show j = 0 ∨ j = 1 by omega) with rfl | rfl <;> rfl) (by show 2 + 4 * k + 1 ≤ 34; omega) (by show 2 * n + 218 * k + 2 ≤ 1760; omega) d_Rs_init_43 (fun q1 H hP hD hS => ?_)
    have hI := Iw.pm ⟨hP, hD⟩ List.perm_append_comm
    refine lv_dup hx hb d_Rs_init_46 rfl ?_
    refine lv_bipush (v := 16) hx hb d_Rs_init_47 (by decide) ?_
    refine cl_n (W1 := fun u => w_Bs g u (i_Bs 16) ++ (rsW g h qN qB n k N B rest)) (va_runI (As := [.int (16 : Int32)]) (rest := [.ref q1, .int (nI k), .ref qN]) ⟨hx, hb, hml, hown, ht⟩ (c_Bs_init (l := l) (D := D) (A := A) (g := g) (rest := rsW g h qN qB n k N B rest) (h := q1) (x1 := (16 : Int32)) (N := 16) (by decide) (by decide) (by decide)) (cwI 1 ht (gd_0 m_30) rfl rfl rfl (ht _ m_2) (ht _ m_111) (ht _ m_29) rfl (by decide +kernel) ⟨(Nat.le_of_ble_eq_true rfl), (Nat.le_of_ble_eq_true rfl)⟩) (prN hKK hI (List.Perm.refl _) hS hA) rfl rfl hl.1 rfl (lv_room (Nat.le_of_ble_eq_true rfl)) d_Rs_init_49 ⟨by show 2 + 4 * k + 1 + 1 ≤ 34; omega, by show 2 * n + 218 * k + 2 + 16 ≤ 1760; omega⟩) hS (fun _ => List.Perm.refl _) (fun u1 H locs hu1 hIn hSn => ?_)
    have hu1 : u1 0 = q1 := hu1
    subst hu1
    have hI := hIn
    have hS := hSn
    refine va_astq hx hb hK hI.1 hI.2 hS 2 2 0 0 (r := (R_Bs, T_Bs, 2)) rfl rfl rfl rfl (vp_in_nI hkn (by omega)) d_Rs_init_52 (fun H locs hP hD hS => ?_)
    have hI : Iw D A (w_Bs g u1 (i_Bs 16) ++ ([(qN, .inl (g 2, n, .inr (.inr (.inr (.inr (va_up (fun j => if j < k then some (N j 0) else none) (nI k).toNatClampNeg (some (u1 0))))))))] ++ ([(qB, .inl (g 2, n, .inr (.inr (.inr (.inr (fun j => if j < k then some (B j 0) else none))))))] ++ ([(h, .inr (6, [.ref qN, .ref qB, .int 0]))] ++ (w_Pl g N B (List.range k) (i_Rs n) ++ rest))))) H := ⟨hP, hD⟩
    refine lv_aload_n hx hb d_Rs_init_53 rfl (lv_at hl 0 rfl) ?_
    refine va_get (D := D) (ci := 6) (v := .ref qB) (C := R_Rs) (T := T_Rs) (N := 3) hx hb ht in_Rs hown hK hI.1 4 rfl rfl 1 (by decide) (ht _ m_113) (fun _ h9 => h9) rfl d_Rs_init_54 ?_
    refine lv_iload_n hx hb d_Rs_init_57 rfl (lv_at hl 2 rfl) ?_
    refine va_new (D := D) (ci := 0) (fs := [.null, .int 0]) (C := R_Bs) (T := T_Bs) (N := 2) hx hb ht in_Bs ty_Bs tyok_Bs hown (ht _ m_109) (ht _ m_27) (ht _ m_2) hK hI.1 hI.2 hS hA rfl (fun j hj => by rcases (show j = 0 ∨ j = 1 by omega) with rfl | rfl <;> rfl) (by show 2 + 4 * k + 1 + 1 + 1 ≤ 34; omega) (by show 2 * n + 218 * k + 2 + 16 + 2 ≤ 1760; omega) d_Rs_init_58 (fun q2 H hP hD hS => ?_)
    have hI := Iw.pm ⟨hP, hD⟩ List.perm_append_comm
    refine lv_dup hx hb d_Rs_init_61 rfl ?_
    refine lv_sipush (v := 198) hx hb d_Rs_init_62 (by decide) ?_
    refine cl_n (W1 := fun u => w_Bs g u (i_Bs 198) ++ (w_Bs g u1 (i_Bs 16) ++ ([(qN, .inl (g 2, n, .inr (.inr (.inr (.inr (va_up (fun j => if j < k then some (N j 0) else none) (nI k).toNatClampNeg (some (u1 0))))))))] ++ ([(qB, .inl (g 2, n, .inr (.inr (.inr (.inr (fun j => if j < k then some (B j 0) else none))))))] ++ ([(h, .inr (6, [.ref qN, .ref qB, .int 0]))] ++ (w_Pl g N B (List.range k) (i_Rs n) ++ rest)))))) (va_runI (As := [.int (198 : Int32)]) (rest := [.ref q2, .int (nI k), .ref qB]) ⟨hx, hb, hml, hown, ht⟩ (c_Bs_init (l := l) (D := D) (A := A) (g := g) (rest := w_Bs g u1 (i_Bs 16) ++ ([(qN, .inl (g 2, n, .inr (.inr (.inr (.inr (va_up (fun j => if j < k then some (N j 0) else none) (nI k).toNatClampNeg (some (u1 0))))))))] ++ ([(qB, .inl (g 2, n, .inr (.inr (.inr (.inr (fun j => if j < k then some (B j 0) else none))))))] ++ ([(h, .inr (6, [.ref qN, .ref qB, .int 0]))] ++ (w_Pl g N B (List.range k) (i_Rs n) ++ rest))))) (h := q2) (x1 := (198 : Int32)) (N := 198) (by decide) (by decide) (by decide)) (cwI 1 ht (gd_0 m_30) rfl rfl rfl (ht _ m_2) (ht _ m_111) (ht _ m_29) rfl (by decide +kernel) ⟨(Nat.le_of_ble_eq_true rfl), (Nat.le_of_ble_eq_true rfl)⟩) (prN hKK hI (List.Perm.refl _) hS hA) rfl rfl hl.1 rfl (lv_room (Nat.le_of_ble_eq_true rfl)) d_Rs_init_65 ⟨by show 2 + 4 * k + 1 + 1 + 1 + 1 ≤ 34; omega, by show 2 * n + 218 * k + 2 + 16 + 2 + 198 ≤ 1760; omega⟩) hS (fun _ => List.Perm.refl _) (fun u2 H locs hu2 hIn hSn => ?_)
    have hu2 : u2 0 = q2 := hu2
    subst hu2
    have hI := hIn
    have hS := hSn
    refine va_astq hx hb hK hI.1 hI.2 hS 5 2 0 0 (r := (R_Bs, T_Bs, 2)) rfl rfl rfl rfl (vp_in_nI hkn (by omega)) d_Rs_init_68 (fun H locs hP hD hS => ?_)
    have hI : Iw D A (w_Bs g u2 (i_Bs 198) ++ (w_Bs g u1 (i_Bs 16) ++ ([(qN, .inl (g 2, n, .inr (.inr (.inr (.inr (va_up (fun j => if j < k then some (N j 0) else none) (nI k).toNatClampNeg (some (u1 0))))))))] ++ ([(qB, .inl (g 2, n, .inr (.inr (.inr (.inr (va_up (fun j => if j < k then some (B j 0) else none) (nI k).toNatClampNeg (some (u2 0))))))))] ++ ([(h, .inr (6, [.ref qN, .ref qB, .int 0]))] ++ (w_Pl g N B (List.range k) (i_Rs n) ++ rest)))))) H := ⟨hP, hD⟩
    refine lv_iinc (k := 2) (v := nI (k + 1)) hx hb d_Rs_init_69 hl rfl (nI_succ k).symm (Nat.le_of_ble_eq_true rfl) rfl (fun ls hl => ?_)
    refine lv_goto (tgt := 33) hx hb d_Rs_init_72 (by decide) ?_
    refine W.widen (k := 2 + 4 * (k + 1)) (n := 2 * n + 218 * (k + 1)) (by omega) (by omega) ?_
    refine ih (k + 1) (by omega) (fun j => if j = k then u1 else N j) (fun j => if j = k then u2 else B j) ls H locs (lv_sub hl [1, 2, 0] rfl) ?_ hS
    rw [hcl] at hI
    rw [up_lt N u1 k, up_lt B u2 k] at hI
    unfold rsW
    rw [pl_succ N B u1 u2 k, List.append_assoc, List.append_assoc]
    exact hI.pm ((mv_5.trans (mv_4.append_left _)).symm)
set_option maxRecDepth 100000 in
set_option maxHeartbeats 8000000 in
theorem c_Rs_init {l : Launch} {D : va_G} {A : Nat → Prop} {g : Nat → ClassId} {rest : va_W} {h : Nat} {x1 : Int32} : Met l y_Rs_init ws_Rs_init { frames := 2, cells := 34, slots := 1760, locals := 40 } (PcN D A g [.ref h, .int x1] ([(h, .inr (6, [.null, .null, .int 0]))] ++ (rest))) (QcN D A g (fun (u : (Nat → Nat) × (Nat → Nat → Nat) × (Nat → Nat → Nat)) => u.1 0 = h) (fun u => w_Rs g u.1 u.2.1 u.2.2 (i_Rs (Rs_n0 x1)) ++ (rest))) 34 1760 A := by
  refine Met.ofW (cc := prog_8_method_1_code) (maxL := 4) (ret := none) (by decide) rfl ?_
  intro p e s m args below meth c s₁ B hml hv
  obtain ⟨rfl, hI, hKK, hA⟩ := hv
  have hK := hKK.1
  have hAO : va_AO "RecordNode$Bytes" s := hKK.2.2.2.2.2
  have hx := B.exec
  have hb := B.bytes
  have hr := B.returns
  have hts := atoms_spec (ws := ws_Rs_init) B.pre
  have ht := fun w (h : w ∈ TB) => hts w (List.mem_cons_of_mem _ h)
  have hown : s.vm.findClass R_Rs = some m.cls := findClass_of_methodNamed B.named
  have hlocks := B.notSynchronized
  have hin : meth.name = "<init>" := (name_of_methodNamed B.named B.method).1
  have hS : va_S A s.heap s.heap [] := va_S.rf
  have hl := lv_entry [.ref h, .int x1] (n := 4) (Nat.le_of_ble_eq_true rfl)
  rw [lg_entry_eq]
  generalize (lg_sl [.ref h, .int x1] ++ List.replicate (4 - (lg_sl [.ref h, .int x1]).length) Slot.unset).toArray = ls at hl ⊢
  have hl : lv_has ls 4 [(0, .ref h), (1, .int x1)] := hl
  refine lv_aload_n hx hb d_Rs_init_0 rfl (lv_at hl 0 rfl) ?_
  refine W.objInit hx hb hown (ht _ m_102) (ht _ m_24) (ht _ m_25) rfl (by rw [hml]; exact hl.1) rfl d_Rs_init_1 (Nat.le_of_ble_eq_true rfl) (Nat.le_of_ble_eq_true rfl) ?_
  refine W.eq (g2 := F0 m 4 ls []) rfl ?_
  refine lv_iconst (v := 1) hx hb d_Rs_init_4 (by decide) ?_
  refine lv_bipush (v := 8) hx hb d_Rs_init_5 (by decide) ?_
  refine lv_iload_n hx hb d_Rs_init_7 rfl (lv_at hl 1 rfl) ?_
  refine va_mmin hx hb (by rw [hml]; exact hl.1.symm) hown (ht _ m_103) (ht _ m_104) (ht _ m_7) (ht _ m_105) (Nat.le_of_ble_eq_true rfl) (Nat.le_of_ble_eq_true rfl) (Nat.le_of_ble_eq_true rfl) (Nat.le_of_ble_eq_true rfl) d_Rs_init_8 ?_
  refine va_mmax hx hb (by rw [hml]; exact hl.1.symm) hown (ht _ m_106) (ht _ m_107) (ht _ m_7) (ht _ m_108) (Nat.le_of_ble_eq_true rfl) (Nat.le_of_ble_eq_true rfl) (Nat.le_of_ble_eq_true rfl) (Nat.le_of_ble_eq_true rfl) d_Rs_init_11 ?_
  refine W.eq (g2 := F0 m 14 ls [.int (Rs_rows x1)]) rfl ?_
  obtain ⟨hn1, hn8, hrw⟩ := Rs_n0_spec x1
  generalize Rs_n0 x1 = n at hn1 hn8 hrw ⊢
  rw [hrw]
  refine lv_istore_n hx hb d_Rs_init_14 rfl hl (Nat.le_of_ble_eq_true rfl) rfl (fun ls hl => ?_)
  have hl : lv_has ls 4 [(2, .int (nI n)), (0, .ref h), (1, .int x1)] := hl
  have hnn : ¬ nI n < 0 := nI_pos (by omega)
  have hnc : (nI n).toNatClampNeg = n := nI_clamp (by omega)
  refine lv_aload_n hx hb d_Rs_init_15 rfl (lv_at hl 1 rfl) ?_
  refine lv_iload_n hx hb d_Rs_init_16 rfl (lv_at hl 0 rfl) ?_
  refine va_newq hx hb hown (ht _ m_109) hAO hK hI.1 hI.2 hS hA hnn hnc (by omega) (by show 0 + 1 ≤ 34; omega) (by show 0 + n ≤ 1760; omega) d_Rs_init_17 (fun qN cA H hK1 hP hD hS => ?_)
  have hcA := K_obj hK1
  subst hcA
  have hI := Iw.pm ⟨hP, hD⟩ List.perm_append_comm
  refine va_putF (D := D) (ci := 6) (v := .ref qN) (ty := (.array (.object "RecordNode$Bytes"))) (C := R_Rs) (T := T_Rs) (N := 3) hx hb ht in_Rs ty_Rs tyok_Rs nm_Rs hown hK hI.1 hI.2 hS 1 rfl rfl 0 (by decide) (ht _ m_112) (fun _ h9 => h9) rfl hin rfl (by decide +kernel) rfl rfl (Nat.le_of_ble_eq_true rfl) d_Rs_init_20 (fun H locs hP hD hS => ?_)
  have hI : Iw D A ([(qN, .inl (g 2, n, .inr (.inr (.inr (.inr (fun _ => none))))))] ++ ([(h, .inr (6, [.ref qN, .null, .int 0]))] ++ (rest))) H := ⟨hP, hD⟩
  refine lv_aload_n hx hb d_Rs_init_23 rfl (lv_at hl 1 rfl) ?_
  refine lv_iload_n hx hb d_Rs_init_24 rfl (lv_at hl 0 rfl) ?_
  refine va_newq hx hb hown (ht _ m_109) hAO hK hI.1 hI.2 hS hA hnn hnc (by omega) (by show 0 + 1 + 1 ≤ 34; omega) (by show 0 + n + n ≤ 1760; omega) d_Rs_init_25 (fun qB cA H hK1 hP hD hS => ?_)
  have hcA := K_obj hK1
  subst hcA
  have hI := Iw.pm ⟨hP, hD⟩ List.perm_append_comm
  refine va_putF (D := D) (ci := 6) (v := .ref qB) (ty := (.array (.object "RecordNode$Bytes"))) (C := R_Rs) (T := T_Rs) (N := 3) hx hb ht in_Rs ty_Rs tyok_Rs nm_Rs hown hK hI.1 hI.2 hS 2 rfl rfl 1 (by decide) (ht _ m_113) (fun _ h9 => h9) rfl hin rfl (by decide +kernel) rfl rfl (Nat.le_of_ble_eq_true rfl) d_Rs_init_28 (fun H locs hP hD hS => ?_)
  have hI : Iw D A ([(qB, .inl (g 2, n, .inr (.inr (.inr (.inr (fun _ => none))))))] ++ ([(qN, .inl (g 2, n, .inr (.inr (.inr (.inr (fun _ => none))))))] ++ ([(h, .inr (6, [.ref qN, .ref qB, .int 0]))] ++ (rest)))) H := ⟨hP, hD⟩
  refine lv_iconst (v := 0) hx hb d_Rs_init_31 (by decide) ?_
  refine lv_istore_n hx hb d_Rs_init_32 rfl hl (Nat.le_of_ble_eq_true rfl) rfl (fun ls hl => ?_)
  have hl : lv_has ls 4 [(3, .int 0), (2, .int (nI n)), (0, .ref h), (1, .int x1)] := hl
  refine W.widen (k := 2 + 4 * 0) (n := 2 * n + 218 * 0) (by omega) (by omega) ?_
  exact rs_loop hx hb hml hown ht hr hlocks hKK hA hn8 n 0 (by omega) (fun _ _ => 0) (fun _ _ => 0) ls H locs (lv_sub hl [2, 1, 0] rfl) (hI.pm mv_1) hS
