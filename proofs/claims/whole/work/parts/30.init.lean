def i_Bs (N : Nat) : S_Bs := (N, (fun _ => 0), 0)
def i_Cs : S_Cs := ((fun _ => 0), (fun _ => 0), (fun _ => 0), 0)
def i_Mr : S_Mr := (fun _ => 0)
def i_Mg : S_Mg := (0, -1, 0, 0, 0)
def i_Ou : S_Ou := ((fun _ => 0), 0, 0)
def i_Rd : S_Rd := ((fun _ => 0), (fun _ => 0), (fun _ => 0), (fun _ => 0), (fun _ => 0), 0, 0, -1, 0)
def i_Rs (n : Nat) : S_Rs := (n, (fun _ => i_Bs 16), (fun _ => i_Bs 198), 0)
def i_Tr : S_Tr := ((fun _ => 0), (fun _ => 0), (fun _ => 0), (fun _ => 0), (fun _ => 0), 0, 0)
def i_Rn : S_Rn := (0, 0, 0)
def i_Mo (r : Int32) : S_Mo := (upd (fun _ => 0) 0 r, fun _ _ => 0)
theorem d_Bs_init_0 : decode prog_2_method_1_code 0 = .ok (.aload_n 0, 1) := by decide +kernel
theorem d_Bs_init_1 : decode prog_2_method_1_code 1 = .ok (.invokespecial 3, 3) := by decide +kernel
theorem d_Bs_init_4 : decode prog_2_method_1_code 4 = .ok (.aload_n 0, 1) := by decide +kernel
theorem d_Bs_init_5 : decode prog_2_method_1_code 5 = .ok (.iload_n 1, 1) := by decide +kernel
theorem d_Bs_init_6 : decode prog_2_method_1_code 6 = .ok (.newarray .int, 2) := by decide +kernel
theorem d_Bs_init_8 : decode prog_2_method_1_code 8 = .ok (.putfield 9, 3) := by decide +kernel
theorem d_Bs_init_11 : decode prog_2_method_1_code 11 = .ok (.aload_n 0, 1) := by decide +kernel
theorem d_Bs_init_12 : decode prog_2_method_1_code 12 = .ok (.iconst 0, 1) := by decide +kernel
theorem d_Bs_init_13 : decode prog_2_method_1_code 13 = .ok (.putfield 15, 3) := by decide +kernel
theorem d_Bs_init_16 : decode prog_2_method_1_code 16 = .ok (.return_, 1) := by decide +kernel
def ws_Bs_init : List Cond := .code y_Bs_init prog_2_method_1_code 2 none :: TB
set_option maxRecDepth 100000 in
set_option maxHeartbeats 8000000 in
theorem c_Bs_init {l : Launch} {D : va_G} {A : Nat → Prop} {g : Nat → ClassId} {rest : va_W} {h : Nat} {x1 : Int32} {N : Nat} (hn : ¬ x1 < 0) (hN : x1.toNatClampNeg = N) (hNb : N ≤ 1000) : Met l y_Bs_init ws_Bs_init { frames := 1, cells := 1, slots := N, locals := 12 } (PcN D A g [.ref h, .int x1] ([(h, .inr (0, [.null, .int 0]))] ++ (rest))) (QcN D A g (fun (u : Nat → Nat) => u 0 = h) (fun (u : Nat → Nat) => w_Bs g u (i_Bs N) ++ (rest))) 1 N A := by
  refine Met.ofW (cc := prog_2_method_1_code) (maxL := 2) (ret := none) (by decide) rfl ?_
  intro p e s m args below meth c s₁ B hml hv
  obtain ⟨rfl, hI, hKK, hA⟩ := hv
  have hK := hKK.1
  have hx := B.exec
  have hb := B.bytes
  have hr := B.returns
  have hts := atoms_spec (ws := ws_Bs_init) B.pre
  have ht := fun w (h : w ∈ TB) => hts w (List.mem_cons_of_mem _ h)
  have hown : s.vm.findClass R_Bs = some m.cls := findClass_of_methodNamed B.named
  have hlocks := B.notSynchronized
  have hin : meth.name = "<init>" := (name_of_methodNamed B.named B.method).1
  have hS : va_S A s.heap s.heap [] := va_S.rf
  have hl := lv_entry [.ref h, .int x1] (n := 2) (Nat.le_of_ble_eq_true rfl)
  rw [lg_entry_eq]
  generalize (lg_sl [.ref h, .int x1] ++ List.replicate (2 - (lg_sl [.ref h, .int x1]).length) Slot.unset).toArray = ls at hl ⊢
  have hl : lv_has ls 2 [(0, .ref h), (1, .int x1)] := hl
  refine lv_aload_n hx hb d_Bs_init_0 rfl (lv_at hl 0 rfl) ?_
  refine W.objInit hx hb hown (ht _ m_31) (ht _ m_24) (ht _ m_25) rfl (by rw [hml]; exact hl.1) rfl d_Bs_init_1 (Nat.le_of_ble_eq_true rfl) (Nat.le_of_ble_eq_true rfl) ?_
  refine W.eq (g2 := F0 m 4 ls []) rfl ?_
  refine lv_aload_n hx hb d_Bs_init_4 rfl (lv_at hl 0 rfl) ?_
  refine lv_iload_n hx hb d_Bs_init_5 rfl (lv_at hl 1 rfl) ?_
  refine nw_i hx hb (ht _ m_39) hKK hI hS hA N hn hN (by omega) (Nat.le_of_ble_eq_true rfl) (by show 0 + N ≤ N; omega) d_Bs_init_6 (fun q1 H hI hS => ?_)
  have hI : Iw D A ([(q1, .inl (g 0, N, .inl (fun _ => 0)))] ++ ([(h, .inr (0, [.null, .int 0]))] ++ (rest))) H := hI
  refine va_putF (D := D) (ci := 0) (v := .ref q1) (ty := (.array .int)) (C := R_Bs) (T := T_Bs) (N := 2) hx hb ht in_Bs ty_Bs tyok_Bs nm_Bs hown hK hI.1 hI.2 hS 1 rfl rfl 0 (by decide) (ht _ m_32) (fun _ h9 => h9) rfl hin rfl (by decide +kernel) rfl rfl (Nat.le_of_ble_eq_true rfl) d_Bs_init_8 (fun H locs hP hD hS => ?_)
  have hI : Iw D A ([(q1, .inl (g 0, N, .inl (fun _ => 0)))] ++ ([(h, .inr (0, [.ref q1, .int 0]))] ++ (rest))) H := ⟨hP, hD⟩
  refine lv_aload_n hx hb d_Bs_init_11 rfl (lv_at hl 0 rfl) ?_
  refine lv_iconst (v := 0) hx hb d_Bs_init_12 (by decide) ?_
  refine va_put (D := D) (ci := 0) (v := .int (0 : Int32)) (ty := .int) (C := R_Bs) (T := T_Bs) (N := 2) hx hb ht in_Bs ty_Bs tyok_Bs nm_Bs hown hK hI.1 hI.2 hS 1 rfl rfl 1 (by decide) (ht _ m_33) (fun _ h9 => h9) rfl (by decide +kernel) rfl rfl (Nat.le_of_ble_eq_true rfl) d_Bs_init_13 (fun H locs hP hD hS => ?_)
  have hI : Iw D A ([(q1, .inl (g 0, N, .inl (fun _ => 0)))] ++ ([(h, .inr (0, [.ref q1, .int (0 : Int32)]))] ++ (rest))) H := ⟨hP, hD⟩
  have hI := hI.pm (mv_1)
  refine W.widen (k := 1) (n := N) (by omega) (by omega) ?_
  exact W.vret hx hb hr (fun t ht hW => ⟨⟨(am [h, q1]), rfl, rfl, ⟨by rw [ht]; exact hI, hKK.moved hW⟩⟩, hS.F ht⟩) hS.2.2 d_Bs_init_16
theorem d_Cs_init_0 : decode prog_3_method_1_code 0 = .ok (.aload_n 0, 1) := by decide +kernel
theorem d_Cs_init_1 : decode prog_3_method_1_code 1 = .ok (.invokespecial 3, 3) := by decide +kernel
theorem d_Cs_init_4 : decode prog_3_method_1_code 4 = .ok (.aload_n 0, 1) := by decide +kernel
theorem d_Cs_init_5 : decode prog_3_method_1_code 5 = .ok (.iconst 4, 1) := by decide +kernel
theorem d_Cs_init_6 : decode prog_3_method_1_code 6 = .ok (.newarray .int, 2) := by decide +kernel
theorem d_Cs_init_8 : decode prog_3_method_1_code 8 = .ok (.putfield 11, 3) := by decide +kernel
theorem d_Cs_init_11 : decode prog_3_method_1_code 11 = .ok (.aload_n 0, 1) := by decide +kernel
theorem d_Cs_init_12 : decode prog_3_method_1_code 12 = .ok (.iconst 4, 1) := by decide +kernel
theorem d_Cs_init_13 : decode prog_3_method_1_code 13 = .ok (.newarray .int, 2) := by decide +kernel
theorem d_Cs_init_15 : decode prog_3_method_1_code 15 = .ok (.putfield 15, 3) := by decide +kernel
theorem d_Cs_init_18 : decode prog_3_method_1_code 18 = .ok (.aload_n 0, 1) := by decide +kernel
theorem d_Cs_init_19 : decode prog_3_method_1_code 19 = .ok (.iconst 4, 1) := by decide +kernel
theorem d_Cs_init_20 : decode prog_3_method_1_code 20 = .ok (.newarray .int, 2) := by decide +kernel
theorem d_Cs_init_22 : decode prog_3_method_1_code 22 = .ok (.putfield 18, 3) := by decide +kernel
theorem d_Cs_init_25 : decode prog_3_method_1_code 25 = .ok (.aload_n 0, 1) := by decide +kernel
theorem d_Cs_init_26 : decode prog_3_method_1_code 26 = .ok (.iconst 0, 1) := by decide +kernel
theorem d_Cs_init_27 : decode prog_3_method_1_code 27 = .ok (.putfield 21, 3) := by decide +kernel
theorem d_Cs_init_30 : decode prog_3_method_1_code 30 = .ok (.return_, 1) := by decide +kernel
def ws_Cs_init : List Cond := .code y_Cs_init prog_3_method_1_code 1 none :: TB
set_option maxRecDepth 100000 in
set_option maxHeartbeats 8000000 in
theorem c_Cs_init {l : Launch} {D : va_G} {A : Nat → Prop} {g : Nat → ClassId} {rest : va_W} {h : Nat} : Met l y_Cs_init ws_Cs_init { frames := 1, cells := 3, slots := 12, locals := 12 } (PcN D A g [.ref h] ([(h, .inr (1, [.null, .null, .null, .int 0]))] ++ (rest))) (QcN D A g (fun (u : Nat → Nat) => u 0 = h) (fun (u : Nat → Nat) => w_Cs g u i_Cs ++ (rest))) 3 12 A := by
  refine Met.ofW (cc := prog_3_method_1_code) (maxL := 1) (ret := none) (by decide) rfl ?_
  intro p e s m args below meth c s₁ B hml hv
  obtain ⟨rfl, hI, hKK, hA⟩ := hv
  have hK := hKK.1
  have hx := B.exec
  have hb := B.bytes
  have hr := B.returns
  have hts := atoms_spec (ws := ws_Cs_init) B.pre
  have ht := fun w (h : w ∈ TB) => hts w (List.mem_cons_of_mem _ h)
  have hown : s.vm.findClass R_Cs = some m.cls := findClass_of_methodNamed B.named
  have hlocks := B.notSynchronized
  have hin : meth.name = "<init>" := (name_of_methodNamed B.named B.method).1
  have hS : va_S A s.heap s.heap [] := va_S.rf
  have hl := lv_entry [.ref h] (n := 1) (Nat.le_of_ble_eq_true rfl)
  rw [lg_entry_eq]
  generalize (lg_sl [.ref h] ++ List.replicate (1 - (lg_sl [.ref h]).length) Slot.unset).toArray = ls at hl ⊢
  have hl : lv_has ls 1 [(0, .ref h)] := hl
  refine lv_aload_n hx hb d_Cs_init_0 rfl (lv_at hl 0 rfl) ?_
  refine W.objInit hx hb hown (ht _ m_61) (ht _ m_24) (ht _ m_25) rfl (by rw [hml]; exact hl.1) rfl d_Cs_init_1 (Nat.le_of_ble_eq_true rfl) (Nat.le_of_ble_eq_true rfl) ?_
  refine W.eq (g2 := F0 m 4 ls []) rfl ?_
  refine lv_aload_n hx hb d_Cs_init_4 rfl (lv_at hl 0 rfl) ?_
  refine lv_iconst (v := 4) hx hb d_Cs_init_5 (by decide) ?_
  refine nw_i hx hb (ht _ m_39) hKK hI hS hA 4 (by decide) (by decide) (by decide) (Nat.le_of_ble_eq_true rfl) (Nat.le_of_ble_eq_true rfl) d_Cs_init_6 (fun q1 H hI hS => ?_)
  have hI : Iw D A ([(q1, .inl (g 0, 4, .inl (fun _ => 0)))] ++ ([(h, .inr (1, [.null, .null, .null, .int 0]))] ++ (rest))) H := hI
  refine va_putF (D := D) (ci := 1) (v := .ref q1) (ty := (.array .int)) (C := R_Cs) (T := T_Cs) (N := 4) hx hb ht in_Cs ty_Cs tyok_Cs nm_Cs hown hK hI.1 hI.2 hS 1 rfl rfl 0 (by decide) (ht _ m_62) (fun _ h9 => h9) rfl hin rfl (by decide +kernel) rfl rfl (Nat.le_of_ble_eq_true rfl) d_Cs_init_8 (fun H locs hP hD hS => ?_)
  have hI : Iw D A ([(q1, .inl (g 0, 4, .inl (fun _ => 0)))] ++ ([(h, .inr (1, [.ref q1, .null, .null, .int 0]))] ++ (rest))) H := ⟨hP, hD⟩
  refine lv_aload_n hx hb d_Cs_init_11 rfl (lv_at hl 0 rfl) ?_
  refine lv_iconst (v := 4) hx hb d_Cs_init_12 (by decide) ?_
  refine nw_i hx hb (ht _ m_39) hKK hI hS hA 4 (by decide) (by decide) (by decide) (Nat.le_of_ble_eq_true rfl) (Nat.le_of_ble_eq_true rfl) d_Cs_init_13 (fun q2 H hI hS => ?_)
  have hI : Iw D A ([(q2, .inl (g 0, 4, .inl (fun _ => 0)))] ++ ([(q1, .inl (g 0, 4, .inl (fun _ => 0)))] ++ ([(h, .inr (1, [.ref q1, .null, .null, .int 0]))] ++ (rest)))) H := hI
  refine va_putF (D := D) (ci := 1) (v := .ref q2) (ty := (.array .int)) (C := R_Cs) (T := T_Cs) (N := 4) hx hb ht in_Cs ty_Cs tyok_Cs nm_Cs hown hK hI.1 hI.2 hS 2 rfl rfl 1 (by decide) (ht _ m_63) (fun _ h9 => h9) rfl hin rfl (by decide +kernel) rfl rfl (Nat.le_of_ble_eq_true rfl) d_Cs_init_15 (fun H locs hP hD hS => ?_)
  have hI : Iw D A ([(q2, .inl (g 0, 4, .inl (fun _ => 0)))] ++ ([(q1, .inl (g 0, 4, .inl (fun _ => 0)))] ++ ([(h, .inr (1, [.ref q1, .ref q2, .null, .int 0]))] ++ (rest)))) H := ⟨hP, hD⟩
  refine lv_aload_n hx hb d_Cs_init_18 rfl (lv_at hl 0 rfl) ?_
  refine lv_iconst (v := 4) hx hb d_Cs_init_19 (by decide) ?_
  refine nw_i hx hb (ht _ m_39) hKK hI hS hA 4 (by decide) (by decide) (by decide) (Nat.le_of_ble_eq_true rfl) (Nat.le_of_ble_eq_true rfl) d_Cs_init_20 (fun q3 H hI hS => ?_)
  have hI : Iw D A ([(q3, .inl (g 0, 4, .inl (fun _ => 0)))] ++ ([(q2, .inl (g 0, 4, .inl (fun _ => 0)))] ++ ([(q1, .inl (g 0, 4, .inl (fun _ => 0)))] ++ ([(h, .inr (1, [.ref q1, .ref q2, .null, .int 0]))] ++ (rest))))) H := hI
  refine va_putF (D := D) (ci := 1) (v := .ref q3) (ty := (.array .int)) (C := R_Cs) (T := T_Cs) (N := 4) hx hb ht in_Cs ty_Cs tyok_Cs nm_Cs hown hK hI.1 hI.2 hS 3 rfl rfl 2 (by decide) (ht _ m_64) (fun _ h9 => h9) rfl hin rfl (by decide +kernel) rfl rfl (Nat.le_of_ble_eq_true rfl) d_Cs_init_22 (fun H locs hP hD hS => ?_)
  have hI : Iw D A ([(q3, .inl (g 0, 4, .inl (fun _ => 0)))] ++ ([(q2, .inl (g 0, 4, .inl (fun _ => 0)))] ++ ([(q1, .inl (g 0, 4, .inl (fun _ => 0)))] ++ ([(h, .inr (1, [.ref q1, .ref q2, .ref q3, .int 0]))] ++ (rest))))) H := ⟨hP, hD⟩
  refine lv_aload_n hx hb d_Cs_init_25 rfl (lv_at hl 0 rfl) ?_
  refine lv_iconst (v := 0) hx hb d_Cs_init_26 (by decide) ?_
  refine va_put (D := D) (ci := 1) (v := .int (0 : Int32)) (ty := .int) (C := R_Cs) (T := T_Cs) (N := 4) hx hb ht in_Cs ty_Cs tyok_Cs nm_Cs hown hK hI.1 hI.2 hS 3 rfl rfl 3 (by decide) (ht _ m_65) (fun _ h9 => h9) rfl (by decide +kernel) rfl rfl (Nat.le_of_ble_eq_true rfl) d_Cs_init_27 (fun H locs hP hD hS => ?_)
  have hI : Iw D A ([(q3, .inl (g 0, 4, .inl (fun _ => 0)))] ++ ([(q2, .inl (g 0, 4, .inl (fun _ => 0)))] ++ ([(q1, .inl (g 0, 4, .inl (fun _ => 0)))] ++ ([(h, .inr (1, [.ref q1, .ref q2, .ref q3, .int (0 : Int32)]))] ++ (rest))))) H := ⟨hP, hD⟩
  have hI := hI.pm ((mv_1).trans ((mv_2).trans (mv_3)))
  refine W.widen (k := 3) (n := 12) (by omega) (by omega) ?_
  exact W.vret hx hb hr (fun t ht hW => ⟨⟨(am [h, q1, q2, q3]), rfl, rfl, ⟨by rw [ht]; exact hI, hKK.moved hW⟩⟩, hS.F ht⟩) hS.2.2 d_Cs_init_30
theorem d_Mr_init_0 : decode prog_4_method_1_code 0 = .ok (.aload_n 0, 1) := by decide +kernel
theorem d_Mr_init_1 : decode prog_4_method_1_code 1 = .ok (.invokespecial 3, 3) := by decide +kernel
theorem d_Mr_init_4 : decode prog_4_method_1_code 4 = .ok (.aload_n 0, 1) := by decide +kernel
theorem d_Mr_init_5 : decode prog_4_method_1_code 5 = .ok (.bipush 17, 2) := by decide +kernel
theorem d_Mr_init_7 : decode prog_4_method_1_code 7 = .ok (.newarray .boolean, 2) := by decide +kernel
theorem d_Mr_init_9 : decode prog_4_method_1_code 9 = .ok (.putfield 9, 3) := by decide +kernel
theorem d_Mr_init_12 : decode prog_4_method_1_code 12 = .ok (.return_, 1) := by decide +kernel
def ws_Mr_init : List Cond := .code y_Mr_init prog_4_method_1_code 1 none :: TB
set_option maxRecDepth 100000 in
set_option maxHeartbeats 8000000 in
theorem c_Mr_init {l : Launch} {D : va_G} {A : Nat → Prop} {g : Nat → ClassId} {rest : va_W} {h : Nat} : Met l y_Mr_init ws_Mr_init { frames := 1, cells := 1, slots := 17, locals := 12 } (PcN D A g [.ref h] ([(h, .inr (2, [.null]))] ++ (rest))) (QcN D A g (fun (u : Nat → Nat) => u 0 = h) (fun (u : Nat → Nat) => w_Mr g u i_Mr ++ (rest))) 1 17 A := by
  refine Met.ofW (cc := prog_4_method_1_code) (maxL := 1) (ret := none) (by decide) rfl ?_
  intro p e s m args below meth c s₁ B hml hv
  obtain ⟨rfl, hI, hKK, hA⟩ := hv
  have hK := hKK.1
  have hx := B.exec
  have hb := B.bytes
  have hr := B.returns
  have hts := atoms_spec (ws := ws_Mr_init) B.pre
  have ht := fun w (h : w ∈ TB) => hts w (List.mem_cons_of_mem _ h)
  have hown : s.vm.findClass R_Mr = some m.cls := findClass_of_methodNamed B.named
  have hlocks := B.notSynchronized
  have hin : meth.name = "<init>" := (name_of_methodNamed B.named B.method).1
  have hS : va_S A s.heap s.heap [] := va_S.rf
  have hl := lv_entry [.ref h] (n := 1) (Nat.le_of_ble_eq_true rfl)
  rw [lg_entry_eq]
  generalize (lg_sl [.ref h] ++ List.replicate (1 - (lg_sl [.ref h]).length) Slot.unset).toArray = ls at hl ⊢
  have hl : lv_has ls 1 [(0, .ref h)] := hl
  refine lv_aload_n hx hb d_Mr_init_0 rfl (lv_at hl 0 rfl) ?_
  refine W.objInit hx hb hown (ht _ m_198) (ht _ m_24) (ht _ m_25) rfl (by rw [hml]; exact hl.1) rfl d_Mr_init_1 (Nat.le_of_ble_eq_true rfl) (Nat.le_of_ble_eq_true rfl) ?_
  refine W.eq (g2 := F0 m 4 ls []) rfl ?_
  refine lv_aload_n hx hb d_Mr_init_4 rfl (lv_at hl 0 rfl) ?_
  refine lv_bipush (v := 17) hx hb d_Mr_init_5 (by decide) ?_
  refine nw_z hx hb (ht _ m_192) hKK hI hS hA 17 (by decide) (by decide) (by decide) (Nat.le_of_ble_eq_true rfl) (Nat.le_of_ble_eq_true rfl) d_Mr_init_7 (fun q1 H hI hS => ?_)
  have hI : Iw D A ([(q1, .inl (g 1, 17, .inl (fun _ => 0)))] ++ ([(h, .inr (2, [.null]))] ++ (rest))) H := hI
  refine va_putF (D := D) (ci := 2) (v := .ref q1) (ty := (.array .boolean)) (C := R_Mr) (T := T_Mr) (N := 1) hx hb ht in_Mr ty_Mr tyok_Mr nm_Mr hown hK hI.1 hI.2 hS 1 rfl rfl 0 (by decide) (ht _ m_199) (fun _ h9 => h9) rfl hin rfl (by decide +kernel) rfl rfl (Nat.le_of_ble_eq_true rfl) d_Mr_init_9 (fun H locs hP hD hS => ?_)
  have hI : Iw D A ([(q1, .inl (g 1, 17, .inl (fun _ => 0)))] ++ ([(h, .inr (2, [.ref q1]))] ++ (rest))) H := ⟨hP, hD⟩
  have hI := hI.pm (mv_1)
  refine W.widen (k := 1) (n := 17) (by omega) (by omega) ?_
  exact W.vret hx hb hr (fun t ht hW => ⟨⟨(am [h, q1]), rfl, rfl, ⟨by rw [ht]; exact hI, hKK.moved hW⟩⟩, hS.F ht⟩) hS.2.2 d_Mr_init_12
theorem d_Mg_init_0 : decode prog_5_method_1_code 0 = .ok (.aload_n 0, 1) := by decide +kernel
theorem d_Mg_init_1 : decode prog_5_method_1_code 1 = .ok (.invokespecial 3, 3) := by decide +kernel
theorem d_Mg_init_4 : decode prog_5_method_1_code 4 = .ok (.aload_n 0, 1) := by decide +kernel
theorem d_Mg_init_5 : decode prog_5_method_1_code 5 = .ok (.iconst 0, 1) := by decide +kernel
theorem d_Mg_init_6 : decode prog_5_method_1_code 6 = .ok (.putfield 11, 3) := by decide +kernel
theorem d_Mg_init_9 : decode prog_5_method_1_code 9 = .ok (.aload_n 0, 1) := by decide +kernel
theorem d_Mg_init_10 : decode prog_5_method_1_code 10 = .ok (.iconst (-1), 1) := by decide +kernel
theorem d_Mg_init_11 : decode prog_5_method_1_code 11 = .ok (.putfield 15, 3) := by decide +kernel
theorem d_Mg_init_14 : decode prog_5_method_1_code 14 = .ok (.aload_n 0, 1) := by decide +kernel
theorem d_Mg_init_15 : decode prog_5_method_1_code 15 = .ok (.iconst 0, 1) := by decide +kernel
theorem d_Mg_init_16 : decode prog_5_method_1_code 16 = .ok (.putfield 18, 3) := by decide +kernel
theorem d_Mg_init_19 : decode prog_5_method_1_code 19 = .ok (.aload_n 0, 1) := by decide +kernel
theorem d_Mg_init_20 : decode prog_5_method_1_code 20 = .ok (.iconst 0, 1) := by decide +kernel
theorem d_Mg_init_21 : decode prog_5_method_1_code 21 = .ok (.putfield 21, 3) := by decide +kernel
theorem d_Mg_init_24 : decode prog_5_method_1_code 24 = .ok (.aload_n 0, 1) := by decide +kernel
theorem d_Mg_init_25 : decode prog_5_method_1_code 25 = .ok (.iconst 0, 1) := by decide +kernel
theorem d_Mg_init_26 : decode prog_5_method_1_code 26 = .ok (.putfield 24, 3) := by decide +kernel
theorem d_Mg_init_29 : decode prog_5_method_1_code 29 = .ok (.return_, 1) := by decide +kernel
def ws_Mg_init : List Cond := .code y_Mg_init prog_5_method_1_code 1 none :: TB
set_option maxRecDepth 100000 in
set_option maxHeartbeats 8000000 in
theorem c_Mg_init {l : Launch} {D : va_G} {A : Nat → Prop} {g : Nat → ClassId} {rest : va_W} {h : Nat} : Met l y_Mg_init ws_Mg_init { frames := 1, cells := 0, slots := 0, locals := 12 } (PcN D A g [.ref h] ([(h, .inr (3, [.int 0, .int 0, .int 0, .int 0, .int 0]))] ++ (rest))) (QcN D A g (fun (u : Nat → Nat) => u 0 = h) (fun (u : Nat → Nat) => w_Mg g u i_Mg ++ (rest))) 0 0 A := by
  refine Met.ofW (cc := prog_5_method_1_code) (maxL := 1) (ret := none) (by decide) rfl ?_
  intro p e s m args below meth c s₁ B hml hv
  obtain ⟨rfl, hI, hKK, hA⟩ := hv
  have hK := hKK.1
  have hx := B.exec
  have hb := B.bytes
  have hr := B.returns
  have hts := atoms_spec (ws := ws_Mg_init) B.pre
  have ht := fun w (h : w ∈ TB) => hts w (List.mem_cons_of_mem _ h)
  have hown : s.vm.findClass R_Mg = some m.cls := findClass_of_methodNamed B.named
  have hlocks := B.notSynchronized
  have hin : meth.name = "<init>" := (name_of_methodNamed B.named B.method).1
  have hS : va_S A s.heap s.heap [] := va_S.rf
  have hl := lv_entry [.ref h] (n := 1) (Nat.le_of_ble_eq_true rfl)
  rw [lg_entry_eq]
  generalize (lg_sl [.ref h] ++ List.replicate (1 - (lg_sl [.ref h]).length) Slot.unset).toArray = ls at hl ⊢
  have hl : lv_has ls 1 [(0, .ref h)] := hl
  refine lv_aload_n hx hb d_Mg_init_0 rfl (lv_at hl 0 rfl) ?_
  refine W.objInit hx hb hown (ht _ m_80) (ht _ m_24) (ht _ m_25) rfl (by rw [hml]; exact hl.1) rfl d_Mg_init_1 (Nat.le_of_ble_eq_true rfl) (Nat.le_of_ble_eq_true rfl) ?_
  refine W.eq (g2 := F0 m 4 ls []) rfl ?_
  refine lv_aload_n hx hb d_Mg_init_4 rfl (lv_at hl 0 rfl) ?_
  refine lv_iconst (v := 0) hx hb d_Mg_init_5 (by decide) ?_
  refine va_put (D := D) (ci := 3) (v := .int (0 : Int32)) (ty := .int) (C := R_Mg) (T := T_Mg) (N := 5) hx hb ht in_Mg ty_Mg tyok_Mg nm_Mg hown hK hI.1 hI.2 hS 0 rfl rfl 0 (by decide) (ht _ m_81) (fun _ h9 => h9) rfl (by decide +kernel) rfl rfl (Nat.le_of_ble_eq_true rfl) d_Mg_init_6 (fun H locs hP hD hS => ?_)
  have hI : Iw D A ([(h, .inr (3, [.int (0 : Int32), .int 0, .int 0, .int 0, .int 0]))] ++ (rest)) H := ⟨hP, hD⟩
  refine lv_aload_n hx hb d_Mg_init_9 rfl (lv_at hl 0 rfl) ?_
  refine lv_iconst (v := (-1)) hx hb d_Mg_init_10 (by decide) ?_
  refine va_put (D := D) (ci := 3) (v := .int ((-1) : Int32)) (ty := .int) (C := R_Mg) (T := T_Mg) (N := 5) hx hb ht in_Mg ty_Mg tyok_Mg nm_Mg hown hK hI.1 hI.2 hS 0 rfl rfl 1 (by decide) (ht _ m_82) (fun _ h9 => h9) rfl (by decide +kernel) rfl rfl (Nat.le_of_ble_eq_true rfl) d_Mg_init_11 (fun H locs hP hD hS => ?_)
  have hI : Iw D A ([(h, .inr (3, [.int (0 : Int32), .int ((-1) : Int32), .int 0, .int 0, .int 0]))] ++ (rest)) H := ⟨hP, hD⟩
  refine lv_aload_n hx hb d_Mg_init_14 rfl (lv_at hl 0 rfl) ?_
  refine lv_iconst (v := 0) hx hb d_Mg_init_15 (by decide) ?_
  refine va_put (D := D) (ci := 3) (v := .int (0 : Int32)) (ty := .int) (C := R_Mg) (T := T_Mg) (N := 5) hx hb ht in_Mg ty_Mg tyok_Mg nm_Mg hown hK hI.1 hI.2 hS 0 rfl rfl 2 (by decide) (ht _ m_83) (fun _ h9 => h9) rfl (by decide +kernel) rfl rfl (Nat.le_of_ble_eq_true rfl) d_Mg_init_16 (fun H locs hP hD hS => ?_)
  have hI : Iw D A ([(h, .inr (3, [.int (0 : Int32), .int ((-1) : Int32), .int (0 : Int32), .int 0, .int 0]))] ++ (rest)) H := ⟨hP, hD⟩
  refine lv_aload_n hx hb d_Mg_init_19 rfl (lv_at hl 0 rfl) ?_
  refine lv_iconst (v := 0) hx hb d_Mg_init_20 (by decide) ?_
  refine va_put (D := D) (ci := 3) (v := .int (0 : Int32)) (ty := .int) (C := R_Mg) (T := T_Mg) (N := 5) hx hb ht in_Mg ty_Mg tyok_Mg nm_Mg hown hK hI.1 hI.2 hS 0 rfl rfl 3 (by decide) (ht _ m_84) (fun _ h9 => h9) rfl (by decide +kernel) rfl rfl (Nat.le_of_ble_eq_true rfl) d_Mg_init_21 (fun H locs hP hD hS => ?_)
  have hI : Iw D A ([(h, .inr (3, [.int (0 : Int32), .int ((-1) : Int32), .int (0 : Int32), .int (0 : Int32), .int 0]))] ++ (rest)) H := ⟨hP, hD⟩
  refine lv_aload_n hx hb d_Mg_init_24 rfl (lv_at hl 0 rfl) ?_
  refine lv_iconst (v := 0) hx hb d_Mg_init_25 (by decide) ?_
  refine va_put (D := D) (ci := 3) (v := .int (0 : Int32)) (ty := .boolean) (C := R_Mg) (T := T_Mg) (N := 5) hx hb ht in_Mg ty_Mg tyok_Mg nm_Mg hown hK hI.1 hI.2 hS 0 rfl rfl 4 (by decide) (ht _ m_85) (fun _ h9 => h9) rfl (by decide +kernel) rfl rfl (Nat.le_of_ble_eq_true rfl) d_Mg_init_26 (fun H locs hP hD hS => ?_)
  have hI : Iw D A ([(h, .inr (3, [.int (0 : Int32), .int ((-1) : Int32), .int (0 : Int32), .int (0 : Int32), .int (0 : Int32)]))] ++ (rest)) H := ⟨hP, hD⟩
  have hI := hI.pm (List.Perm.refl _)
  refine W.widen (k := 0) (n := 0) (by omega) (by omega) ?_
  exact W.vret hx hb hr (fun t ht hW => ⟨⟨(am [h]), rfl, rfl, ⟨by rw [ht]; exact hI, hKK.moved hW⟩⟩, hS.F ht⟩) hS.2.2 d_Mg_init_29
theorem d_Ou_init_0 : decode prog_6_method_1_code 0 = .ok (.aload_n 0, 1) := by decide +kernel
theorem d_Ou_init_1 : decode prog_6_method_1_code 1 = .ok (.invokespecial 3, 3) := by decide +kernel
theorem d_Ou_init_4 : decode prog_6_method_1_code 4 = .ok (.aload_n 0, 1) := by decide +kernel
theorem d_Ou_init_5 : decode prog_6_method_1_code 5 = .ok (.sipush 900, 3) := by decide +kernel
theorem d_Ou_init_8 : decode prog_6_method_1_code 8 = .ok (.newarray .int, 2) := by decide +kernel
theorem d_Ou_init_10 : decode prog_6_method_1_code 10 = .ok (.putfield 9, 3) := by decide +kernel
theorem d_Ou_init_13 : decode prog_6_method_1_code 13 = .ok (.aload_n 0, 1) := by decide +kernel
theorem d_Ou_init_14 : decode prog_6_method_1_code 14 = .ok (.iconst 0, 1) := by decide +kernel
theorem d_Ou_init_15 : decode prog_6_method_1_code 15 = .ok (.putfield 15, 3) := by decide +kernel
theorem d_Ou_init_18 : decode prog_6_method_1_code 18 = .ok (.aload_n 0, 1) := by decide +kernel
theorem d_Ou_init_19 : decode prog_6_method_1_code 19 = .ok (.iconst 0, 1) := by decide +kernel
theorem d_Ou_init_20 : decode prog_6_method_1_code 20 = .ok (.putfield 19, 3) := by decide +kernel
theorem d_Ou_init_23 : decode prog_6_method_1_code 23 = .ok (.return_, 1) := by decide +kernel
def ws_Ou_init : List Cond := .code y_Ou_init prog_6_method_1_code 1 none :: TB
set_option maxRecDepth 100000 in
set_option maxHeartbeats 8000000 in
theorem c_Ou_init {l : Launch} {D : va_G} {A : Nat → Prop} {g : Nat → ClassId} {rest : va_W} {h : Nat} : Met l y_Ou_init ws_Ou_init { frames := 1, cells := 1, slots := 900, locals := 12 } (PcN D A g [.ref h] ([(h, .inr (4, [.null, .int 0, .int 0]))] ++ (rest))) (QcN D A g (fun (u : Nat → Nat) => u 0 = h) (fun (u : Nat → Nat) => w_Ou g u i_Ou ++ (rest))) 1 900 A := by
  refine Met.ofW (cc := prog_6_method_1_code) (maxL := 1) (ret := none) (by decide) rfl ?_
  intro p e s m args below meth c s₁ B hml hv
  obtain ⟨rfl, hI, hKK, hA⟩ := hv
  have hK := hKK.1
  have hx := B.exec
  have hb := B.bytes
  have hr := B.returns
  have hts := atoms_spec (ws := ws_Ou_init) B.pre
  have ht := fun w (h : w ∈ TB) => hts w (List.mem_cons_of_mem _ h)
  have hown : s.vm.findClass R_Ou = some m.cls := findClass_of_methodNamed B.named
  have hlocks := B.notSynchronized
  have hin : meth.name = "<init>" := (name_of_methodNamed B.named B.method).1
  have hS : va_S A s.heap s.heap [] := va_S.rf
  have hl := lv_entry [.ref h] (n := 1) (Nat.le_of_ble_eq_true rfl)
  rw [lg_entry_eq]
  generalize (lg_sl [.ref h] ++ List.replicate (1 - (lg_sl [.ref h]).length) Slot.unset).toArray = ls at hl ⊢
  have hl : lv_has ls 1 [(0, .ref h)] := hl
  refine lv_aload_n hx hb d_Ou_init_0 rfl (lv_at hl 0 rfl) ?_
  refine W.objInit hx hb hown (ht _ m_45) (ht _ m_24) (ht _ m_25) rfl (by rw [hml]; exact hl.1) rfl d_Ou_init_1 (Nat.le_of_ble_eq_true rfl) (Nat.le_of_ble_eq_true rfl) ?_
  refine W.eq (g2 := F0 m 4 ls []) rfl ?_
  refine lv_aload_n hx hb d_Ou_init_4 rfl (lv_at hl 0 rfl) ?_
  refine lv_sipush (v := 900) hx hb d_Ou_init_5 (by decide) ?_
  refine nw_i hx hb (ht _ m_39) hKK hI hS hA 900 (by decide) (by decide) (by decide) (Nat.le_of_ble_eq_true rfl) (Nat.le_of_ble_eq_true rfl) d_Ou_init_8 (fun q1 H hI hS => ?_)
  have hI : Iw D A ([(q1, .inl (g 0, 900, .inl (fun _ => 0)))] ++ ([(h, .inr (4, [.null, .int 0, .int 0]))] ++ (rest))) H := hI
  refine va_putF (D := D) (ci := 4) (v := .ref q1) (ty := (.array .int)) (C := R_Ou) (T := T_Ou) (N := 3) hx hb ht in_Ou ty_Ou tyok_Ou nm_Ou hown hK hI.1 hI.2 hS 1 rfl rfl 0 (by decide) (ht _ m_46) (fun _ h9 => h9) rfl hin rfl (by decide +kernel) rfl rfl (Nat.le_of_ble_eq_true rfl) d_Ou_init_10 (fun H locs hP hD hS => ?_)
  have hI : Iw D A ([(q1, .inl (g 0, 900, .inl (fun _ => 0)))] ++ ([(h, .inr (4, [.ref q1, .int 0, .int 0]))] ++ (rest))) H := ⟨hP, hD⟩
  refine lv_aload_n hx hb d_Ou_init_13 rfl (lv_at hl 0 rfl) ?_
  refine lv_iconst (v := 0) hx hb d_Ou_init_14 (by decide) ?_
  refine va_put (D := D) (ci := 4) (v := .int (0 : Int32)) (ty := .int) (C := R_Ou) (T := T_Ou) (N := 3) hx hb ht in_Ou ty_Ou tyok_Ou nm_Ou hown hK hI.1 hI.2 hS 1 rfl rfl 1 (by decide) (ht _ m_47) (fun _ h9 => h9) rfl (by decide +kernel) rfl rfl (Nat.le_of_ble_eq_true rfl) d_Ou_init_15 (fun H locs hP hD hS => ?_)
  have hI : Iw D A ([(q1, .inl (g 0, 900, .inl (fun _ => 0)))] ++ ([(h, .inr (4, [.ref q1, .int (0 : Int32), .int 0]))] ++ (rest))) H := ⟨hP, hD⟩
  refine lv_aload_n hx hb d_Ou_init_18 rfl (lv_at hl 0 rfl) ?_
  refine lv_iconst (v := 0) hx hb d_Ou_init_19 (by decide) ?_
  refine va_put (D := D) (ci := 4) (v := .int (0 : Int32)) (ty := .int) (C := R_Ou) (T := T_Ou) (N := 3) hx hb ht in_Ou ty_Ou tyok_Ou nm_Ou hown hK hI.1 hI.2 hS 1 rfl rfl 2 (by decide) (ht _ m_48) (fun _ h9 => h9) rfl (by decide +kernel) rfl rfl (Nat.le_of_ble_eq_true rfl) d_Ou_init_20 (fun H locs hP hD hS => ?_)
  have hI : Iw D A ([(q1, .inl (g 0, 900, .inl (fun _ => 0)))] ++ ([(h, .inr (4, [.ref q1, .int (0 : Int32), .int (0 : Int32)]))] ++ (rest))) H := ⟨hP, hD⟩
  have hI := hI.pm (mv_1)
  refine W.widen (k := 1) (n := 900) (by omega) (by omega) ?_
  exact W.vret hx hb hr (fun t ht hW => ⟨⟨(am [h, q1]), rfl, rfl, ⟨by rw [ht]; exact hI, hKK.moved hW⟩⟩, hS.F ht⟩) hS.2.2 d_Ou_init_23
theorem d_Tr_init_0 : decode prog_9_method_1_code 0 = .ok (.aload_n 0, 1) := by decide +kernel
theorem d_Tr_init_1 : decode prog_9_method_1_code 1 = .ok (.invokespecial 3, 3) := by decide +kernel
theorem d_Tr_init_4 : decode prog_9_method_1_code 4 = .ok (.aload_n 0, 1) := by decide +kernel
theorem d_Tr_init_5 : decode prog_9_method_1_code 5 = .ok (.bipush 101, 2) := by decide +kernel
theorem d_Tr_init_7 : decode prog_9_method_1_code 7 = .ok (.newarray .int, 2) := by decide +kernel
theorem d_Tr_init_9 : decode prog_9_method_1_code 9 = .ok (.putfield 9, 3) := by decide +kernel
theorem d_Tr_init_12 : decode prog_9_method_1_code 12 = .ok (.aload_n 0, 1) := by decide +kernel
theorem d_Tr_init_13 : decode prog_9_method_1_code 13 = .ok (.bipush 101, 2) := by decide +kernel
theorem d_Tr_init_15 : decode prog_9_method_1_code 15 = .ok (.newarray .int, 2) := by decide +kernel
theorem d_Tr_init_17 : decode prog_9_method_1_code 17 = .ok (.putfield 15, 3) := by decide +kernel
theorem d_Tr_init_20 : decode prog_9_method_1_code 20 = .ok (.aload_n 0, 1) := by decide +kernel
theorem d_Tr_init_21 : decode prog_9_method_1_code 21 = .ok (.bipush 101, 2) := by decide +kernel
theorem d_Tr_init_23 : decode prog_9_method_1_code 23 = .ok (.newarray .int, 2) := by decide +kernel
theorem d_Tr_init_25 : decode prog_9_method_1_code 25 = .ok (.putfield 18, 3) := by decide +kernel
theorem d_Tr_init_28 : decode prog_9_method_1_code 28 = .ok (.aload_n 0, 1) := by decide +kernel
theorem d_Tr_init_29 : decode prog_9_method_1_code 29 = .ok (.bipush 101, 2) := by decide +kernel
theorem d_Tr_init_31 : decode prog_9_method_1_code 31 = .ok (.newarray .int, 2) := by decide +kernel
theorem d_Tr_init_33 : decode prog_9_method_1_code 33 = .ok (.putfield 21, 3) := by decide +kernel
theorem d_Tr_init_36 : decode prog_9_method_1_code 36 = .ok (.aload_n 0, 1) := by decide +kernel
theorem d_Tr_init_37 : decode prog_9_method_1_code 37 = .ok (.sipush 200, 3) := by decide +kernel
theorem d_Tr_init_40 : decode prog_9_method_1_code 40 = .ok (.newarray .int, 2) := by decide +kernel
theorem d_Tr_init_42 : decode prog_9_method_1_code 42 = .ok (.putfield 24, 3) := by decide +kernel
theorem d_Tr_init_45 : decode prog_9_method_1_code 45 = .ok (.aload_n 0, 1) := by decide +kernel
theorem d_Tr_init_46 : decode prog_9_method_1_code 46 = .ok (.iconst 0, 1) := by decide +kernel
theorem d_Tr_init_47 : decode prog_9_method_1_code 47 = .ok (.putfield 27, 3) := by decide +kernel
theorem d_Tr_init_50 : decode prog_9_method_1_code 50 = .ok (.aload_n 0, 1) := by decide +kernel
theorem d_Tr_init_51 : decode prog_9_method_1_code 51 = .ok (.iconst 0, 1) := by decide +kernel
theorem d_Tr_init_52 : decode prog_9_method_1_code 52 = .ok (.putfield 31, 3) := by decide +kernel
theorem d_Tr_init_55 : decode prog_9_method_1_code 55 = .ok (.return_, 1) := by decide +kernel
def ws_Tr_init : List Cond := .code y_Tr_init prog_9_method_1_code 1 none :: TB
set_option maxRecDepth 100000 in
set_option maxHeartbeats 8000000 in
theorem c_Tr_init {l : Launch} {D : va_G} {A : Nat → Prop} {g : Nat → ClassId} {rest : va_W} {h : Nat} : Met l y_Tr_init ws_Tr_init { frames := 1, cells := 5, slots := 604, locals := 12 } (PcN D A g [.ref h] ([(h, .inr (7, [.null, .null, .null, .null, .null, .int 0, .int 0]))] ++ (rest))) (QcN D A g (fun (u : Nat → Nat) => u 0 = h) (fun (u : Nat → Nat) => w_Tr g u i_Tr ++ (rest))) 5 604 A := by
  refine Met.ofW (cc := prog_9_method_1_code) (maxL := 1) (ret := none) (by decide) rfl ?_
  intro p e s m args below meth c s₁ B hml hv
  obtain ⟨rfl, hI, hKK, hA⟩ := hv
  have hK := hKK.1
  have hx := B.exec
  have hb := B.bytes
  have hr := B.returns
  have hts := atoms_spec (ws := ws_Tr_init) B.pre
  have ht := fun w (h : w ∈ TB) => hts w (List.mem_cons_of_mem _ h)
  have hown : s.vm.findClass R_Tr = some m.cls := findClass_of_methodNamed B.named
  have hlocks := B.notSynchronized
  have hin : meth.name = "<init>" := (name_of_methodNamed B.named B.method).1
  have hS : va_S A s.heap s.heap [] := va_S.rf
  have hl := lv_entry [.ref h] (n := 1) (Nat.le_of_ble_eq_true rfl)
  rw [lg_entry_eq]
  generalize (lg_sl [.ref h] ++ List.replicate (1 - (lg_sl [.ref h]).length) Slot.unset).toArray = ls at hl ⊢
  have hl : lv_has ls 1 [(0, .ref h)] := hl
  refine lv_aload_n hx hb d_Tr_init_0 rfl (lv_at hl 0 rfl) ?_
  refine W.objInit hx hb hown (ht _ m_133) (ht _ m_24) (ht _ m_25) rfl (by rw [hml]; exact hl.1) rfl d_Tr_init_1 (Nat.le_of_ble_eq_true rfl) (Nat.le_of_ble_eq_true rfl) ?_
  refine W.eq (g2 := F0 m 4 ls []) rfl ?_
  refine lv_aload_n hx hb d_Tr_init_4 rfl (lv_at hl 0 rfl) ?_
  refine lv_bipush (v := 101) hx hb d_Tr_init_5 (by decide) ?_
  refine nw_i hx hb (ht _ m_39) hKK hI hS hA 101 (by decide) (by decide) (by decide) (Nat.le_of_ble_eq_true rfl) (Nat.le_of_ble_eq_true rfl) d_Tr_init_7 (fun q1 H hI hS => ?_)
  have hI : Iw D A ([(q1, .inl (g 0, 101, .inl (fun _ => 0)))] ++ ([(h, .inr (7, [.null, .null, .null, .null, .null, .int 0, .int 0]))] ++ (rest))) H := hI
  refine va_putF (D := D) (ci := 7) (v := .ref q1) (ty := (.array .int)) (C := R_Tr) (T := T_Tr) (N := 7) hx hb ht in_Tr ty_Tr tyok_Tr nm_Tr hown hK hI.1 hI.2 hS 1 rfl rfl 0 (by decide) (ht _ m_134) (fun _ h9 => h9) rfl hin rfl (by decide +kernel) rfl rfl (Nat.le_of_ble_eq_true rfl) d_Tr_init_9 (fun H locs hP hD hS => ?_)
  have hI : Iw D A ([(q1, .inl (g 0, 101, .inl (fun _ => 0)))] ++ ([(h, .inr (7, [.ref q1, .null, .null, .null, .null, .int 0, .int 0]))] ++ (rest))) H := ⟨hP, hD⟩
  refine lv_aload_n hx hb d_Tr_init_12 rfl (lv_at hl 0 rfl) ?_
  refine lv_bipush (v := 101) hx hb d_Tr_init_13 (by decide) ?_
  refine nw_i hx hb (ht _ m_39) hKK hI hS hA 101 (by decide) (by decide) (by decide) (Nat.le_of_ble_eq_true rfl) (Nat.le_of_ble_eq_true rfl) d_Tr_init_15 (fun q2 H hI hS => ?_)
  have hI : Iw D A ([(q2, .inl (g 0, 101, .inl (fun _ => 0)))] ++ ([(q1, .inl (g 0, 101, .inl (fun _ => 0)))] ++ ([(h, .inr (7, [.ref q1, .null, .null, .null, .null, .int 0, .int 0]))] ++ (rest)))) H := hI
  refine va_putF (D := D) (ci := 7) (v := .ref q2) (ty := (.array .int)) (C := R_Tr) (T := T_Tr) (N := 7) hx hb ht in_Tr ty_Tr tyok_Tr nm_Tr hown hK hI.1 hI.2 hS 2 rfl rfl 1 (by decide) (ht _ m_135) (fun _ h9 => h9) rfl hin rfl (by decide +kernel) rfl rfl (Nat.le_of_ble_eq_true rfl) d_Tr_init_17 (fun H locs hP hD hS => ?_)
  have hI : Iw D A ([(q2, .inl (g 0, 101, .inl (fun _ => 0)))] ++ ([(q1, .inl (g 0, 101, .inl (fun _ => 0)))] ++ ([(h, .inr (7, [.ref q1, .ref q2, .null, .null, .null, .int 0, .int 0]))] ++ (rest)))) H := ⟨hP, hD⟩
  refine lv_aload_n hx hb d_Tr_init_20 rfl (lv_at hl 0 rfl) ?_
  refine lv_bipush (v := 101) hx hb d_Tr_init_21 (by decide) ?_
  refine nw_i hx hb (ht _ m_39) hKK hI hS hA 101 (by decide) (by decide) (by decide) (Nat.le_of_ble_eq_true rfl) (Nat.le_of_ble_eq_true rfl) d_Tr_init_23 (fun q3 H hI hS => ?_)
  have hI : Iw D A ([(q3, .inl (g 0, 101, .inl (fun _ => 0)))] ++ ([(q2, .inl (g 0, 101, .inl (fun _ => 0)))] ++ ([(q1, .inl (g 0, 101, .inl (fun _ => 0)))] ++ ([(h, .inr (7, [.ref q1, .ref q2, .null, .null, .null, .int 0, .int 0]))] ++ (rest))))) H := hI
  refine va_putF (D := D) (ci := 7) (v := .ref q3) (ty := (.array .int)) (C := R_Tr) (T := T_Tr) (N := 7) hx hb ht in_Tr ty_Tr tyok_Tr nm_Tr hown hK hI.1 hI.2 hS 3 rfl rfl 2 (by decide) (ht _ m_136) (fun _ h9 => h9) rfl hin rfl (by decide +kernel) rfl rfl (Nat.le_of_ble_eq_true rfl) d_Tr_init_25 (fun H locs hP hD hS => ?_)
  have hI : Iw D A ([(q3, .inl (g 0, 101, .inl (fun _ => 0)))] ++ ([(q2, .inl (g 0, 101, .inl (fun _ => 0)))] ++ ([(q1, .inl (g 0, 101, .inl (fun _ => 0)))] ++ ([(h, .inr (7, [.ref q1, .ref q2, .ref q3, .null, .null, .int 0, .int 0]))] ++ (rest))))) H := ⟨hP, hD⟩
  refine lv_aload_n hx hb d_Tr_init_28 rfl (lv_at hl 0 rfl) ?_
  refine lv_bipush (v := 101) hx hb d_Tr_init_29 (by decide) ?_
  refine nw_i hx hb (ht _ m_39) hKK hI hS hA 101 (by decide) (by decide) (by decide) (Nat.le_of_ble_eq_true rfl) (Nat.le_of_ble_eq_true rfl) d_Tr_init_31 (fun q4 H hI hS => ?_)
  have hI : Iw D A ([(q4, .inl (g 0, 101, .inl (fun _ => 0)))] ++ ([(q3, .inl (g 0, 101, .inl (fun _ => 0)))] ++ ([(q2, .inl (g 0, 101, .inl (fun _ => 0)))] ++ ([(q1, .inl (g 0, 101, .inl (fun _ => 0)))] ++ ([(h, .inr (7, [.ref q1, .ref q2, .ref q3, .null, .null, .int 0, .int 0]))] ++ (rest)))))) H := hI
  refine va_putF (D := D) (ci := 7) (v := .ref q4) (ty := (.array .int)) (C := R_Tr) (T := T_Tr) (N := 7) hx hb ht in_Tr ty_Tr tyok_Tr nm_Tr hown hK hI.1 hI.2 hS 4 rfl rfl 3 (by decide) (ht _ m_137) (fun _ h9 => h9) rfl hin rfl (by decide +kernel) rfl rfl (Nat.le_of_ble_eq_true rfl) d_Tr_init_33 (fun H locs hP hD hS => ?_)
  have hI : Iw D A ([(q4, .inl (g 0, 101, .inl (fun _ => 0)))] ++ ([(q3, .inl (g 0, 101, .inl (fun _ => 0)))] ++ ([(q2, .inl (g 0, 101, .inl (fun _ => 0)))] ++ ([(q1, .inl (g 0, 101, .inl (fun _ => 0)))] ++ ([(h, .inr (7, [.ref q1, .ref q2, .ref q3, .ref q4, .null, .int 0, .int 0]))] ++ (rest)))))) H := ⟨hP, hD⟩
  refine lv_aload_n hx hb d_Tr_init_36 rfl (lv_at hl 0 rfl) ?_
  refine lv_sipush (v := 200) hx hb d_Tr_init_37 (by decide) ?_
  refine nw_i hx hb (ht _ m_39) hKK hI hS hA 200 (by decide) (by decide) (by decide) (Nat.le_of_ble_eq_true rfl) (Nat.le_of_ble_eq_true rfl) d_Tr_init_40 (fun q5 H hI hS => ?_)
  have hI : Iw D A ([(q5, .inl (g 0, 200, .inl (fun _ => 0)))] ++ ([(q4, .inl (g 0, 101, .inl (fun _ => 0)))] ++ ([(q3, .inl (g 0, 101, .inl (fun _ => 0)))] ++ ([(q2, .inl (g 0, 101, .inl (fun _ => 0)))] ++ ([(q1, .inl (g 0, 101, .inl (fun _ => 0)))] ++ ([(h, .inr (7, [.ref q1, .ref q2, .ref q3, .ref q4, .null, .int 0, .int 0]))] ++ (rest))))))) H := hI
  refine va_putF (D := D) (ci := 7) (v := .ref q5) (ty := (.array .int)) (C := R_Tr) (T := T_Tr) (N := 7) hx hb ht in_Tr ty_Tr tyok_Tr nm_Tr hown hK hI.1 hI.2 hS 5 rfl rfl 4 (by decide) (ht _ m_138) (fun _ h9 => h9) rfl hin rfl (by decide +kernel) rfl rfl (Nat.le_of_ble_eq_true rfl) d_Tr_init_42 (fun H locs hP hD hS => ?_)
  have hI : Iw D A ([(q5, .inl (g 0, 200, .inl (fun _ => 0)))] ++ ([(q4, .inl (g 0, 101, .inl (fun _ => 0)))] ++ ([(q3, .inl (g 0, 101, .inl (fun _ => 0)))] ++ ([(q2, .inl (g 0, 101, .inl (fun _ => 0)))] ++ ([(q1, .inl (g 0, 101, .inl (fun _ => 0)))] ++ ([(h, .inr (7, [.ref q1, .ref q2, .ref q3, .ref q4, .ref q5, .int 0, .int 0]))] ++ (rest))))))) H := ⟨hP, hD⟩
  refine lv_aload_n hx hb d_Tr_init_45 rfl (lv_at hl 0 rfl) ?_
  refine lv_iconst (v := 0) hx hb d_Tr_init_46 (by decide) ?_
  refine va_put (D := D) (ci := 7) (v := .int (0 : Int32)) (ty := .int) (C := R_Tr) (T := T_Tr) (N := 7) hx hb ht in_Tr ty_Tr tyok_Tr nm_Tr hown hK hI.1 hI.2 hS 5 rfl rfl 5 (by decide) (ht _ m_139) (fun _ h9 => h9) rfl (by decide +kernel) rfl rfl (Nat.le_of_ble_eq_true rfl) d_Tr_init_47 (fun H locs hP hD hS => ?_)
  have hI : Iw D A ([(q5, .inl (g 0, 200, .inl (fun _ => 0)))] ++ ([(q4, .inl (g 0, 101, .inl (fun _ => 0)))] ++ ([(q3, .inl (g 0, 101, .inl (fun _ => 0)))] ++ ([(q2, .inl (g 0, 101, .inl (fun _ => 0)))] ++ ([(q1, .inl (g 0, 101, .inl (fun _ => 0)))] ++ ([(h, .inr (7, [.ref q1, .ref q2, .ref q3, .ref q4, .ref q5, .int (0 : Int32), .int 0]))] ++ (rest))))))) H := ⟨hP, hD⟩
  refine lv_aload_n hx hb d_Tr_init_50 rfl (lv_at hl 0 rfl) ?_
  refine lv_iconst (v := 0) hx hb d_Tr_init_51 (by decide) ?_
  refine va_put (D := D) (ci := 7) (v := .int (0 : Int32)) (ty := .int) (C := R_Tr) (T := T_Tr) (N := 7) hx hb ht in_Tr ty_Tr tyok_Tr nm_Tr hown hK hI.1 hI.2 hS 5 rfl rfl 6 (by decide) (ht _ m_140) (fun _ h9 => h9) rfl (by decide +kernel) rfl rfl (Nat.le_of_ble_eq_true rfl) d_Tr_init_52 (fun H locs hP hD hS => ?_)
  have hI : Iw D A ([(q5, .inl (g 0, 200, .inl (fun _ => 0)))] ++ ([(q4, .inl (g 0, 101, .inl (fun _ => 0)))] ++ ([(q3, .inl (g 0, 101, .inl (fun _ => 0)))] ++ ([(q2, .inl (g 0, 101, .inl (fun _ => 0)))] ++ ([(q1, .inl (g 0, 101, .inl (fun _ => 0)))] ++ ([(h, .inr (7, [.ref q1, .ref q2, .ref q3, .ref q4, .ref q5, .int (0 : Int32), .int (0 : Int32)]))] ++ (rest))))))) H := ⟨hP, hD⟩
  have hI := hI.pm ((mv_1).trans ((mv_2).trans ((mv_3).trans ((mv_4).trans (mv_5)))))
  refine W.widen (k := 5) (n := 604) (by omega) (by omega) ?_
  exact W.vret hx hb hr (fun t ht hW => ⟨⟨(am [h, q1, q2, q3, q4, q5]), rfl, rfl, ⟨by rw [ht]; exact hI, hKK.moved hW⟩⟩, hS.F ht⟩) hS.2.2 d_Tr_init_55
theorem d_Rd_init_0 : decode prog_7_method_1_code 0 = .ok (.aload_n 0, 1) := by decide +kernel
theorem d_Rd_init_1 : decode prog_7_method_1_code 1 = .ok (.invokespecial 3, 3) := by decide +kernel
theorem d_Rd_init_4 : decode prog_7_method_1_code 4 = .ok (.aload_n 0, 1) := by decide +kernel
theorem d_Rd_init_5 : decode prog_7_method_1_code 5 = .ok (.new 9, 3) := by decide +kernel
theorem d_Rd_init_8 : decode prog_7_method_1_code 8 = .ok (.dup, 1) := by decide +kernel
theorem d_Rd_init_9 : decode prog_7_method_1_code 9 = .ok (.invokespecial 11, 3) := by decide +kernel
theorem d_Rd_init_12 : decode prog_7_method_1_code 12 = .ok (.putfield 12, 3) := by decide +kernel
theorem d_Rd_init_15 : decode prog_7_method_1_code 15 = .ok (.aload_n 0, 1) := by decide +kernel
theorem d_Rd_init_16 : decode prog_7_method_1_code 16 = .ok (.iconst 5, 1) := by decide +kernel
theorem d_Rd_init_17 : decode prog_7_method_1_code 17 = .ok (.newarray .int, 2) := by decide +kernel
theorem d_Rd_init_19 : decode prog_7_method_1_code 19 = .ok (.putfield 18, 3) := by decide +kernel
theorem d_Rd_init_22 : decode prog_7_method_1_code 22 = .ok (.aload_n 0, 1) := by decide +kernel
theorem d_Rd_init_23 : decode prog_7_method_1_code 23 = .ok (.iconst 5, 1) := by decide +kernel
theorem d_Rd_init_24 : decode prog_7_method_1_code 24 = .ok (.newarray .int, 2) := by decide +kernel
theorem d_Rd_init_26 : decode prog_7_method_1_code 26 = .ok (.putfield 22, 3) := by decide +kernel
theorem d_Rd_init_29 : decode prog_7_method_1_code 29 = .ok (.aload_n 0, 1) := by decide +kernel
theorem d_Rd_init_30 : decode prog_7_method_1_code 30 = .ok (.iconst 5, 1) := by decide +kernel
theorem d_Rd_init_31 : decode prog_7_method_1_code 31 = .ok (.newarray .boolean, 2) := by decide +kernel
theorem d_Rd_init_33 : decode prog_7_method_1_code 33 = .ok (.putfield 25, 3) := by decide +kernel
theorem d_Rd_init_36 : decode prog_7_method_1_code 36 = .ok (.aload_n 0, 1) := by decide +kernel
theorem d_Rd_init_37 : decode prog_7_method_1_code 37 = .ok (.iconst 5, 1) := by decide +kernel
theorem d_Rd_init_38 : decode prog_7_method_1_code 38 = .ok (.newarray .int, 2) := by decide +kernel
theorem d_Rd_init_40 : decode prog_7_method_1_code 40 = .ok (.putfield 29, 3) := by decide +kernel
theorem d_Rd_init_43 : decode prog_7_method_1_code 43 = .ok (.aload_n 0, 1) := by decide +kernel
theorem d_Rd_init_44 : decode prog_7_method_1_code 44 = .ok (.iconst 5, 1) := by decide +kernel
theorem d_Rd_init_45 : decode prog_7_method_1_code 45 = .ok (.newarray .int, 2) := by decide +kernel
theorem d_Rd_init_47 : decode prog_7_method_1_code 47 = .ok (.putfield 32, 3) := by decide +kernel
theorem d_Rd_init_50 : decode prog_7_method_1_code 50 = .ok (.aload_n 0, 1) := by decide +kernel
theorem d_Rd_init_51 : decode prog_7_method_1_code 51 = .ok (.new 35, 3) := by decide +kernel
theorem d_Rd_init_54 : decode prog_7_method_1_code 54 = .ok (.dup, 1) := by decide +kernel
theorem d_Rd_init_55 : decode prog_7_method_1_code 55 = .ok (.iconst 0, 1) := by decide +kernel
theorem d_Rd_init_56 : decode prog_7_method_1_code 56 = .ok (.invokespecial 37, 3) := by decide +kernel
theorem d_Rd_init_59 : decode prog_7_method_1_code 59 = .ok (.putfield 40, 3) := by decide +kernel
theorem d_Rd_init_62 : decode prog_7_method_1_code 62 = .ok (.aload_n 0, 1) := by decide +kernel
theorem d_Rd_init_63 : decode prog_7_method_1_code 63 = .ok (.iconst 0, 1) := by decide +kernel
theorem d_Rd_init_64 : decode prog_7_method_1_code 64 = .ok (.putfield 44, 3) := by decide +kernel
theorem d_Rd_init_67 : decode prog_7_method_1_code 67 = .ok (.aload_n 0, 1) := by decide +kernel
theorem d_Rd_init_68 : decode prog_7_method_1_code 68 = .ok (.iconst 0, 1) := by decide +kernel
theorem d_Rd_init_69 : decode prog_7_method_1_code 69 = .ok (.putfield 48, 3) := by decide +kernel
theorem d_Rd_init_72 : decode prog_7_method_1_code 72 = .ok (.aload_n 0, 1) := by decide +kernel
theorem d_Rd_init_73 : decode prog_7_method_1_code 73 = .ok (.iconst (-1), 1) := by decide +kernel
theorem d_Rd_init_74 : decode prog_7_method_1_code 74 = .ok (.putfield 51, 3) := by decide +kernel
theorem d_Rd_init_77 : decode prog_7_method_1_code 77 = .ok (.aload_n 0, 1) := by decide +kernel
theorem d_Rd_init_78 : decode prog_7_method_1_code 78 = .ok (.iconst 0, 1) := by decide +kernel
theorem d_Rd_init_79 : decode prog_7_method_1_code 79 = .ok (.putfield 54, 3) := by decide +kernel
theorem d_Rd_init_82 : decode prog_7_method_1_code 82 = .ok (.return_, 1) := by decide +kernel
def ws_Rd_init : List Cond := .code y_Rd_init prog_7_method_1_code 1 none :: TB
set_option maxRecDepth 100000 in
set_option maxHeartbeats 8000000 in
theorem c_Rd_init {l : Launch} {D : va_G} {A : Nat → Prop} {g : Nat → ClassId} {rest : va_W} {h : Nat} : Met l y_Rd_init ws_Rd_init { frames := 2, cells := 13, slots := 638, locals := 33 } (PcN D A g [.ref h] ([(h, .inr (5, [.null, .null, .null, .null, .null, .null, .null, .int 0, .int 0, .int 0, .int 0]))] ++ (rest))) (QcN D A g (fun (u : (Nat → Nat) × (Nat → Nat) × (Nat → Nat)) => u.1 0 = h) (fun (u : (Nat → Nat) × (Nat → Nat) × (Nat → Nat)) => w_Rd g u.1 (tw (u.2.1 0) (u.2.2 0)) i_Rd ++ (w_Tr g u.2.1 i_Tr ++ (w_Bs g u.2.2 (i_Bs 0) ++ (rest))))) 13 638 A := by
  refine Met.ofW (cc := prog_7_method_1_code) (maxL := 1) (ret := none) (by decide) rfl ?_
  intro p e s m args below meth c s₁ B hml hv
  obtain ⟨rfl, hI, hKK, hA⟩ := hv
  have hK := hKK.1
  have hx := B.exec
  have hb := B.bytes
  have hr := B.returns
  have hts := atoms_spec (ws := ws_Rd_init) B.pre
  have ht := fun w (h : w ∈ TB) => hts w (List.mem_cons_of_mem _ h)
  have hown : s.vm.findClass R_Rd = some m.cls := findClass_of_methodNamed B.named
  have hlocks := B.notSynchronized
  have hin : meth.name = "<init>" := (name_of_methodNamed B.named B.method).1
  have hS : va_S A s.heap s.heap [] := va_S.rf
  have hl := lv_entry [.ref h] (n := 1) (Nat.le_of_ble_eq_true rfl)
  rw [lg_entry_eq]
  generalize (lg_sl [.ref h] ++ List.replicate (1 - (lg_sl [.ref h]).length) Slot.unset).toArray = ls at hl ⊢
  have hl : lv_has ls 1 [(0, .ref h)] := hl
  refine lv_aload_n hx hb d_Rd_init_0 rfl (lv_at hl 0 rfl) ?_
  refine W.objInit hx hb hown (ht _ m_127) (ht _ m_24) (ht _ m_25) rfl (by rw [hml]; exact hl.1) rfl d_Rd_init_1 (Nat.le_of_ble_eq_true rfl) (Nat.le_of_ble_eq_true rfl) ?_
  refine W.eq (g2 := F0 m 4 ls []) rfl ?_
  refine lv_aload_n hx hb d_Rd_init_4 rfl (lv_at hl 0 rfl) ?_
  refine va_new (D := D) (ci := 7) (fs := [.null, .null, .null, .null, .null, .int 0, .int 0]) (C := R_Tr) (T := T_Tr) (N := 7) hx hb ht in_Tr ty_Tr tyok_Tr hown (ht _ m_128) (ht _ m_129) (ht _ m_9) hK hI.1 hI.2 hS hA rfl (fun j hj => by rcases (show j = 0 ∨ j = 1 ∨ j = 2 ∨ j = 3 ∨ j = 4 ∨ j = 5 ∨ j = 6 by omega) with rfl | rfl | rfl | rfl | rfl | rfl | rfl <;> rfl) (Nat.le_of_ble_eq_true rfl) (Nat.le_of_ble_eq_true rfl) d_Rd_init_5 (fun q1 H hP hD hS => ?_)
  have hI := Iw.pm ⟨hP, hD⟩ List.perm_append_comm
  have hI : Iw D A ([(q1, .inr (7, [.null, .null, .null, .null, .null, .int 0, .int 0]))] ++ ([(h, .inr (5, [.null, .null, .null, .null, .null, .null, .null, .int 0, .int 0, .int 0, .int 0]))] ++ (rest))) H := hI
  refine lv_dup hx hb d_Rd_init_8 rfl ?_
  refine cl_n (W1 := fun u9 => w_Tr g u9 i_Tr ++ ([(h, .inr (5, [.null, .null, .null, .null, .null, .null, .null, .int 0, .int 0, .int 0, .int 0]))] ++ (rest))) (va_runI (As := []) (rest := [.ref q1, .ref h]) ⟨hx, hb, hml, hown, ht⟩ (c_Tr_init (l := l) (D := D) (A := A) (g := g) (rest := [(h, .inr (5, [.null, .null, .null, .null, .null, .null, .null, .int 0, .int 0, .int 0, .int 0]))] ++ (rest)) (h := q1) ) (cwI 0 ht (gd_0 m_132) rfl rfl rfl (ht _ m_9) (ht _ m_130) (ht _ m_131) rfl (by decide +kernel) ⟨(Nat.le_of_ble_eq_true rfl), (Nat.le_of_ble_eq_true rfl)⟩) (prN hKK hI (List.Perm.refl _) hS hA) rfl rfl hl.1 rfl (lv_room (Nat.le_of_ble_eq_true rfl)) d_Rd_init_9 ⟨(Nat.le_of_ble_eq_true rfl), (Nat.le_of_ble_eq_true rfl)⟩) hS (fun _ => List.Perm.refl _) (fun u9 H locs hu9 hIn hSn => ?_)
  have hu9 : u9 0 = q1 := hu9
  subst hu9
  have hI : Iw D A (w_Tr g u9 i_Tr ++ ([(h, .inr (5, [.null, .null, .null, .null, .null, .null, .null, .int 0, .int 0, .int 0, .int 0]))] ++ (rest))) H := hIn
  have hS := hSn
  refine va_putF (D := D) (ci := 5) (v := .ref (u9 0)) (ty := (.object "RecordNode$Tree")) (C := R_Rd) (T := T_Rd) (N := 11) hx hb ht in_Rd ty_Rd tyok_Rd nm_Rd hown hK hI.1 hI.2 hS 6 rfl rfl 0 (by decide) (ht _ m_158) (fun _ h9 => h9) rfl hin rfl (by decide +kernel) rfl rfl (Nat.le_of_ble_eq_true rfl) d_Rd_init_12 (fun H locs hP hD hS => ?_)
  have hI : Iw D A (w_Tr g u9 i_Tr ++ ([(h, .inr (5, [.ref (u9 0), .null, .null, .null, .null, .null, .null, .int 0, .int 0, .int 0, .int 0]))] ++ (rest))) H := ⟨hP, hD⟩
  refine lv_aload_n hx hb d_Rd_init_15 rfl (lv_at hl 0 rfl) ?_
  refine lv_iconst (v := 5) hx hb d_Rd_init_16 (by decide) ?_
  refine nw_i hx hb (ht _ m_39) hKK hI hS hA 5 (by decide) (by decide) (by decide) (Nat.le_of_ble_eq_true rfl) (Nat.le_of_ble_eq_true rfl) d_Rd_init_17 (fun q2 H hI hS => ?_)
  have hI : Iw D A ([(q2, .inl (g 0, 5, .inl (fun _ => 0)))] ++ (w_Tr g u9 i_Tr ++ ([(h, .inr (5, [.ref (u9 0), .null, .null, .null, .null, .null, .null, .int 0, .int 0, .int 0, .int 0]))] ++ (rest)))) H := hI
  refine va_putF (D := D) (ci := 5) (v := .ref q2) (ty := (.array .int)) (C := R_Rd) (T := T_Rd) (N := 11) hx hb ht in_Rd ty_Rd tyok_Rd nm_Rd hown hK hI.1 hI.2 hS 7 rfl rfl 1 (by decide) (ht _ m_159) (fun _ h9 => h9) rfl hin rfl (by decide +kernel) rfl rfl (Nat.le_of_ble_eq_true rfl) d_Rd_init_19 (fun H locs hP hD hS => ?_)
  have hI : Iw D A ([(q2, .inl (g 0, 5, .inl (fun _ => 0)))] ++ (w_Tr g u9 i_Tr ++ ([(h, .inr (5, [.ref (u9 0), .ref q2, .null, .null, .null, .null, .null, .int 0, .int 0, .int 0, .int 0]))] ++ (rest)))) H := ⟨hP, hD⟩
  refine lv_aload_n hx hb d_Rd_init_22 rfl (lv_at hl 0 rfl) ?_
  refine lv_iconst (v := 5) hx hb d_Rd_init_23 (by decide) ?_
  refine nw_i hx hb (ht _ m_39) hKK hI hS hA 5 (by decide) (by decide) (by decide) (Nat.le_of_ble_eq_true rfl) (Nat.le_of_ble_eq_true rfl) d_Rd_init_24 (fun q3 H hI hS => ?_)
  have hI : Iw D A ([(q3, .inl (g 0, 5, .inl (fun _ => 0)))] ++ ([(q2, .inl (g 0, 5, .inl (fun _ => 0)))] ++ (w_Tr g u9 i_Tr ++ ([(h, .inr (5, [.ref (u9 0), .ref q2, .null, .null, .null, .null, .null, .int 0, .int 0, .int 0, .int 0]))] ++ (rest))))) H := hI
  refine va_putF (D := D) (ci := 5) (v := .ref q3) (ty := (.array .int)) (C := R_Rd) (T := T_Rd) (N := 11) hx hb ht in_Rd ty_Rd tyok_Rd nm_Rd hown hK hI.1 hI.2 hS 8 rfl rfl 2 (by decide) (ht _ m_160) (fun _ h9 => h9) rfl hin rfl (by decide +kernel) rfl rfl (Nat.le_of_ble_eq_true rfl) d_Rd_init_26 (fun H locs hP hD hS => ?_)
  have hI : Iw D A ([(q3, .inl (g 0, 5, .inl (fun _ => 0)))] ++ ([(q2, .inl (g 0, 5, .inl (fun _ => 0)))] ++ (w_Tr g u9 i_Tr ++ ([(h, .inr (5, [.ref (u9 0), .ref q2, .ref q3, .null, .null, .null, .null, .int 0, .int 0, .int 0, .int 0]))] ++ (rest))))) H := ⟨hP, hD⟩
  refine lv_aload_n hx hb d_Rd_init_29 rfl (lv_at hl 0 rfl) ?_
  refine lv_iconst (v := 5) hx hb d_Rd_init_30 (by decide) ?_
  refine nw_z hx hb (ht _ m_192) hKK hI hS hA 5 (by decide) (by decide) (by decide) (Nat.le_of_ble_eq_true rfl) (Nat.le_of_ble_eq_true rfl) d_Rd_init_31 (fun q4 H hI hS => ?_)
  have hI : Iw D A ([(q4, .inl (g 1, 5, .inl (fun _ => 0)))] ++ ([(q3, .inl (g 0, 5, .inl (fun _ => 0)))] ++ ([(q2, .inl (g 0, 5, .inl (fun _ => 0)))] ++ (w_Tr g u9 i_Tr ++ ([(h, .inr (5, [.ref (u9 0), .ref q2, .ref q3, .null, .null, .null, .null, .int 0, .int 0, .int 0, .int 0]))] ++ (rest)))))) H := hI
  refine va_putF (D := D) (ci := 5) (v := .ref q4) (ty := (.array .boolean)) (C := R_Rd) (T := T_Rd) (N := 11) hx hb ht in_Rd ty_Rd tyok_Rd nm_Rd hown hK hI.1 hI.2 hS 9 rfl rfl 3 (by decide) (ht _ m_161) (fun _ h9 => h9) rfl hin rfl (by decide +kernel) rfl rfl (Nat.le_of_ble_eq_true rfl) d_Rd_init_33 (fun H locs hP hD hS => ?_)
  have hI : Iw D A ([(q4, .inl (g 1, 5, .inl (fun _ => 0)))] ++ ([(q3, .inl (g 0, 5, .inl (fun _ => 0)))] ++ ([(q2, .inl (g 0, 5, .inl (fun _ => 0)))] ++ (w_Tr g u9 i_Tr ++ ([(h, .inr (5, [.ref (u9 0), .ref q2, .ref q3, .ref q4, .null, .null, .null, .int 0, .int 0, .int 0, .int 0]))] ++ (rest)))))) H := ⟨hP, hD⟩
  refine lv_aload_n hx hb d_Rd_init_36 rfl (lv_at hl 0 rfl) ?_
  refine lv_iconst (v := 5) hx hb d_Rd_init_37 (by decide) ?_
  refine nw_i hx hb (ht _ m_39) hKK hI hS hA 5 (by decide) (by decide) (by decide) (Nat.le_of_ble_eq_true rfl) (Nat.le_of_ble_eq_true rfl) d_Rd_init_38 (fun q5 H hI hS => ?_)
  have hI : Iw D A ([(q5, .inl (g 0, 5, .inl (fun _ => 0)))] ++ ([(q4, .inl (g 1, 5, .inl (fun _ => 0)))] ++ ([(q3, .inl (g 0, 5, .inl (fun _ => 0)))] ++ ([(q2, .inl (g 0, 5, .inl (fun _ => 0)))] ++ (w_Tr g u9 i_Tr ++ ([(h, .inr (5, [.ref (u9 0), .ref q2, .ref q3, .ref q4, .null, .null, .null, .int 0, .int 0, .int 0, .int 0]))] ++ (rest))))))) H := hI
  refine va_putF (D := D) (ci := 5) (v := .ref q5) (ty := (.array .int)) (C := R_Rd) (T := T_Rd) (N := 11) hx hb ht in_Rd ty_Rd tyok_Rd nm_Rd hown hK hI.1 hI.2 hS 10 rfl rfl 4 (by decide) (ht _ m_162) (fun _ h9 => h9) rfl hin rfl (by decide +kernel) rfl rfl (Nat.le_of_ble_eq_true rfl) d_Rd_init_40 (fun H locs hP hD hS => ?_)
  have hI : Iw D A ([(q5, .inl (g 0, 5, .inl (fun _ => 0)))] ++ ([(q4, .inl (g 1, 5, .inl (fun _ => 0)))] ++ ([(q3, .inl (g 0, 5, .inl (fun _ => 0)))] ++ ([(q2, .inl (g 0, 5, .inl (fun _ => 0)))] ++ (w_Tr g u9 i_Tr ++ ([(h, .inr (5, [.ref (u9 0), .ref q2, .ref q3, .ref q4, .ref q5, .null, .null, .int 0, .int 0, .int 0, .int 0]))] ++ (rest))))))) H := ⟨hP, hD⟩
  refine lv_aload_n hx hb d_Rd_init_43 rfl (lv_at hl 0 rfl) ?_
  refine lv_iconst (v := 5) hx hb d_Rd_init_44 (by decide) ?_
  refine nw_i hx hb (ht _ m_39) hKK hI hS hA 5 (by decide) (by decide) (by decide) (Nat.le_of_ble_eq_true rfl) (Nat.le_of_ble_eq_true rfl) d_Rd_init_45 (fun q6 H hI hS => ?_)
  have hI : Iw D A ([(q6, .inl (g 0, 5, .inl (fun _ => 0)))] ++ ([(q5, .inl (g 0, 5, .inl (fun _ => 0)))] ++ ([(q4, .inl (g 1, 5, .inl (fun _ => 0)))] ++ ([(q3, .inl (g 0, 5, .inl (fun _ => 0)))] ++ ([(q2, .inl (g 0, 5, .inl (fun _ => 0)))] ++ (w_Tr g u9 i_Tr ++ ([(h, .inr (5, [.ref (u9 0), .ref q2, .ref q3, .ref q4, .ref q5, .null, .null, .int 0, .int 0, .int 0, .int 0]))] ++ (rest)))))))) H := hI
  refine va_putF (D := D) (ci := 5) (v := .ref q6) (ty := (.array .int)) (C := R_Rd) (T := T_Rd) (N := 11) hx hb ht in_Rd ty_Rd tyok_Rd nm_Rd hown hK hI.1 hI.2 hS 11 rfl rfl 5 (by decide) (ht _ m_163) (fun _ h9 => h9) rfl hin rfl (by decide +kernel) rfl rfl (Nat.le_of_ble_eq_true rfl) d_Rd_init_47 (fun H locs hP hD hS => ?_)
  have hI : Iw D A ([(q6, .inl (g 0, 5, .inl (fun _ => 0)))] ++ ([(q5, .inl (g 0, 5, .inl (fun _ => 0)))] ++ ([(q4, .inl (g 1, 5, .inl (fun _ => 0)))] ++ ([(q3, .inl (g 0, 5, .inl (fun _ => 0)))] ++ ([(q2, .inl (g 0, 5, .inl (fun _ => 0)))] ++ (w_Tr g u9 i_Tr ++ ([(h, .inr (5, [.ref (u9 0), .ref q2, .ref q3, .ref q4, .ref q5, .ref q6, .null, .int 0, .int 0, .int 0, .int 0]))] ++ (rest)))))))) H := ⟨hP, hD⟩
  refine lv_aload_n hx hb d_Rd_init_50 rfl (lv_at hl 0 rfl) ?_
  refine va_new (D := D) (ci := 0) (fs := [.null, .int 0]) (C := R_Bs) (T := T_Bs) (N := 2) hx hb ht in_Bs ty_Bs tyok_Bs hown (ht _ m_156) (ht _ m_27) (ht _ m_2) hK hI.1 hI.2 hS hA rfl (fun j hj => by rcases (show j = 0 ∨ j = 1 by omega) with rfl | rfl <;> rfl) (Nat.le_of_ble_eq_true rfl) (Nat.le_of_ble_eq_true rfl) d_Rd_init_51 (fun q7 H hP hD hS => ?_)
  have hI := Iw.pm ⟨hP, hD⟩ List.perm_append_comm
  have hI : Iw D A ([(q7, .inr (0, [.null, .int 0]))] ++ ([(q6, .inl (g 0, 5, .inl (fun _ => 0)))] ++ ([(q5, .inl (g 0, 5, .inl (fun _ => 0)))] ++ ([(q4, .inl (g 1, 5, .inl (fun _ => 0)))] ++ ([(q3, .inl (g 0, 5, .inl (fun _ => 0)))] ++ ([(q2, .inl (g 0, 5, .inl (fun _ => 0)))] ++ (w_Tr g u9 i_Tr ++ ([(h, .inr (5, [.ref (u9 0), .ref q2, .ref q3, .ref q4, .ref q5, .ref q6, .null, .int 0, .int 0, .int 0, .int 0]))] ++ (rest))))))))) H := hI
  refine lv_dup hx hb d_Rd_init_54 rfl ?_
  refine lv_iconst (v := 0) hx hb d_Rd_init_55 (by decide) ?_
  refine cl_n (W1 := fun u56 => w_Bs g u56 (i_Bs 0) ++ ([(q6, .inl (g 0, 5, .inl (fun _ => 0)))] ++ ([(q5, .inl (g 0, 5, .inl (fun _ => 0)))] ++ ([(q4, .inl (g 1, 5, .inl (fun _ => 0)))] ++ ([(q3, .inl (g 0, 5, .inl (fun _ => 0)))] ++ ([(q2, .inl (g 0, 5, .inl (fun _ => 0)))] ++ (w_Tr g u9 i_Tr ++ ([(h, .inr (5, [.ref (u9 0), .ref q2, .ref q3, .ref q4, .ref q5, .ref q6, .null, .int 0, .int 0, .int 0, .int 0]))] ++ (rest))))))))) (va_runI (As := [.int (0 : Int32)]) (rest := [.ref q7, .ref h]) ⟨hx, hb, hml, hown, ht⟩ (c_Bs_init (l := l) (D := D) (A := A) (g := g) (rest := [(q6, .inl (g 0, 5, .inl (fun _ => 0)))] ++ ([(q5, .inl (g 0, 5, .inl (fun _ => 0)))] ++ ([(q4, .inl (g 1, 5, .inl (fun _ => 0)))] ++ ([(q3, .inl (g 0, 5, .inl (fun _ => 0)))] ++ ([(q2, .inl (g 0, 5, .inl (fun _ => 0)))] ++ (w_Tr g u9 i_Tr ++ ([(h, .inr (5, [.ref (u9 0), .ref q2, .ref q3, .ref q4, .ref q5, .ref q6, .null, .int 0, .int 0, .int 0, .int 0]))] ++ (rest)))))))) (h := q7) (x1 := (0 : Int32)) (N := 0) (by decide) (by decide) (by decide)) (cwI 1 ht (gd_0 m_30) rfl rfl rfl (ht _ m_2) (ht _ m_157) (ht _ m_29) rfl (by decide +kernel) ⟨(Nat.le_of_ble_eq_true rfl), (Nat.le_of_ble_eq_true rfl)⟩) (prN hKK hI (List.Perm.refl _) hS hA) rfl rfl hl.1 rfl (lv_room (Nat.le_of_ble_eq_true rfl)) d_Rd_init_56 ⟨(Nat.le_of_ble_eq_true rfl), (Nat.le_of_ble_eq_true rfl)⟩) hS (fun _ => List.Perm.refl _) (fun u56 H locs hu56 hIn hSn => ?_)
  have hu56 : u56 0 = q7 := hu56
  subst hu56
  have hI : Iw D A (w_Bs g u56 (i_Bs 0) ++ ([(q6, .inl (g 0, 5, .inl (fun _ => 0)))] ++ ([(q5, .inl (g 0, 5, .inl (fun _ => 0)))] ++ ([(q4, .inl (g 1, 5, .inl (fun _ => 0)))] ++ ([(q3, .inl (g 0, 5, .inl (fun _ => 0)))] ++ ([(q2, .inl (g 0, 5, .inl (fun _ => 0)))] ++ (w_Tr g u9 i_Tr ++ ([(h, .inr (5, [.ref (u9 0), .ref q2, .ref q3, .ref q4, .ref q5, .ref q6, .null, .int 0, .int 0, .int 0, .int 0]))] ++ (rest))))))))) H := hIn
  have hS := hSn
  refine va_put (D := D) (ci := 5) (v := .ref (u56 0)) (ty := (.object "RecordNode$Bytes")) (C := R_Rd) (T := T_Rd) (N := 11) hx hb ht in_Rd ty_Rd tyok_Rd nm_Rd hown hK hI.1 hI.2 hS 13 rfl rfl 6 (by decide) (ht _ m_164) (fun _ h9 => h9) rfl (by decide +kernel) rfl rfl (Nat.le_of_ble_eq_true rfl) d_Rd_init_59 (fun H locs hP hD hS => ?_)
  have hI : Iw D A (w_Bs g u56 (i_Bs 0) ++ ([(q6, .inl (g 0, 5, .inl (fun _ => 0)))] ++ ([(q5, .inl (g 0, 5, .inl (fun _ => 0)))] ++ ([(q4, .inl (g 1, 5, .inl (fun _ => 0)))] ++ ([(q3, .inl (g 0, 5, .inl (fun _ => 0)))] ++ ([(q2, .inl (g 0, 5, .inl (fun _ => 0)))] ++ (w_Tr g u9 i_Tr ++ ([(h, .inr (5, [.ref (u9 0), .ref q2, .ref q3, .ref q4, .ref q5, .ref q6, .ref (u56 0), .int 0, .int 0, .int 0, .int 0]))] ++ (rest))))))))) H := ⟨hP, hD⟩
  refine lv_aload_n hx hb d_Rd_init_62 rfl (lv_at hl 0 rfl) ?_
  refine lv_iconst (v := 0) hx hb d_Rd_init_63 (by decide) ?_
  refine va_put (D := D) (ci := 5) (v := .int (0 : Int32)) (ty := .int) (C := R_Rd) (T := T_Rd) (N := 11) hx hb ht in_Rd ty_Rd tyok_Rd nm_Rd hown hK hI.1 hI.2 hS 13 rfl rfl 7 (by decide) (ht _ m_165) (fun _ h9 => h9) rfl (by decide +kernel) rfl rfl (Nat.le_of_ble_eq_true rfl) d_Rd_init_64 (fun H locs hP hD hS => ?_)
  have hI : Iw D A (w_Bs g u56 (i_Bs 0) ++ ([(q6, .inl (g 0, 5, .inl (fun _ => 0)))] ++ ([(q5, .inl (g 0, 5, .inl (fun _ => 0)))] ++ ([(q4, .inl (g 1, 5, .inl (fun _ => 0)))] ++ ([(q3, .inl (g 0, 5, .inl (fun _ => 0)))] ++ ([(q2, .inl (g 0, 5, .inl (fun _ => 0)))] ++ (w_Tr g u9 i_Tr ++ ([(h, .inr (5, [.ref (u9 0), .ref q2, .ref q3, .ref q4, .ref q5, .ref q6, .ref (u56 0), .int (0 : Int32), .int 0, .int 0, .int 0]))] ++ (rest))))))))) H := ⟨hP, hD⟩
  refine lv_aload_n hx hb d_Rd_init_67 rfl (lv_at hl 0 rfl) ?_
  refine lv_iconst (v := 0) hx hb d_Rd_init_68 (by decide) ?_
  refine va_put (D := D) (ci := 5) (v := .int (0 : Int32)) (ty := .int) (C := R_Rd) (T := T_Rd) (N := 11) hx hb ht in_Rd ty_Rd tyok_Rd nm_Rd hown hK hI.1 hI.2 hS 13 rfl rfl 8 (by decide) (ht _ m_166) (fun _ h9 => h9) rfl (by decide +kernel) rfl rfl (Nat.le_of_ble_eq_true rfl) d_Rd_init_69 (fun H locs hP hD hS => ?_)
  have hI : Iw D A (w_Bs g u56 (i_Bs 0) ++ ([(q6, .inl (g 0, 5, .inl (fun _ => 0)))] ++ ([(q5, .inl (g 0, 5, .inl (fun _ => 0)))] ++ ([(q4, .inl (g 1, 5, .inl (fun _ => 0)))] ++ ([(q3, .inl (g 0, 5, .inl (fun _ => 0)))] ++ ([(q2, .inl (g 0, 5, .inl (fun _ => 0)))] ++ (w_Tr g u9 i_Tr ++ ([(h, .inr (5, [.ref (u9 0), .ref q2, .ref q3, .ref q4, .ref q5, .ref q6, .ref (u56 0), .int (0 : Int32), .int (0 : Int32), .int 0, .int 0]))] ++ (rest))))))))) H := ⟨hP, hD⟩
  refine lv_aload_n hx hb d_Rd_init_72 rfl (lv_at hl 0 rfl) ?_
  refine lv_iconst (v := (-1)) hx hb d_Rd_init_73 (by decide) ?_
  refine va_put (D := D) (ci := 5) (v := .int ((-1) : Int32)) (ty := .int) (C := R_Rd) (T := T_Rd) (N := 11) hx hb ht in_Rd ty_Rd tyok_Rd nm_Rd hown hK hI.1 hI.2 hS 13 rfl rfl 9 (by decide) (ht _ m_167) (fun _ h9 => h9) rfl (by decide +kernel) rfl rfl (Nat.le_of_ble_eq_true rfl) d_Rd_init_74 (fun H locs hP hD hS => ?_)
  have hI : Iw D A (w_Bs g u56 (i_Bs 0) ++ ([(q6, .inl (g 0, 5, .inl (fun _ => 0)))] ++ ([(q5, .inl (g 0, 5, .inl (fun _ => 0)))] ++ ([(q4, .inl (g 1, 5, .inl (fun _ => 0)))] ++ ([(q3, .inl (g 0, 5, .inl (fun _ => 0)))] ++ ([(q2, .inl (g 0, 5, .inl (fun _ => 0)))] ++ (w_Tr g u9 i_Tr ++ ([(h, .inr (5, [.ref (u9 0), .ref q2, .ref q3, .ref q4, .ref q5, .ref q6, .ref (u56 0), .int (0 : Int32), .int (0 : Int32), .int ((-1) : Int32), .int 0]))] ++ (rest))))))))) H := ⟨hP, hD⟩
  refine lv_aload_n hx hb d_Rd_init_77 rfl (lv_at hl 0 rfl) ?_
  refine lv_iconst (v := 0) hx hb d_Rd_init_78 (by decide) ?_
  refine va_put (D := D) (ci := 5) (v := .int (0 : Int32)) (ty := .int) (C := R_Rd) (T := T_Rd) (N := 11) hx hb ht in_Rd ty_Rd tyok_Rd nm_Rd hown hK hI.1 hI.2 hS 13 rfl rfl 10 (by decide) (ht _ m_168) (fun _ h9 => h9) rfl (by decide +kernel) rfl rfl (Nat.le_of_ble_eq_true rfl) d_Rd_init_79 (fun H locs hP hD hS => ?_)
  have hI : Iw D A (w_Bs g u56 (i_Bs 0) ++ ([(q6, .inl (g 0, 5, .inl (fun _ => 0)))] ++ ([(q5, .inl (g 0, 5, .inl (fun _ => 0)))] ++ ([(q4, .inl (g 1, 5, .inl (fun _ => 0)))] ++ ([(q3, .inl (g 0, 5, .inl (fun _ => 0)))] ++ ([(q2, .inl (g 0, 5, .inl (fun _ => 0)))] ++ (w_Tr g u9 i_Tr ++ ([(h, .inr (5, [.ref (u9 0), .ref q2, .ref q3, .ref q4, .ref q5, .ref q6, .ref (u56 0), .int (0 : Int32), .int (0 : Int32), .int ((-1) : Int32), .int (0 : Int32)]))] ++ (rest))))))))) H := ⟨hP, hD⟩
  have hI := hI.pm ((mv_6).trans ((mv_2).trans ((mv_3).trans ((mv_4).trans ((mv_5).trans ((mv_6).trans (mv_7)))))))
  refine W.widen (k := 13) (n := 638) (by omega) (by omega) ?_
  exact W.vret hx hb hr (fun t ht hW => ⟨⟨(am [h, q2, q3, q4, q5, q6], u9, u56), rfl, rfl, ⟨by rw [ht]; exact hI, hKK.moved hW⟩⟩, hS.F ht⟩) hS.2.2 d_Rd_init_82
