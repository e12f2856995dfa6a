/-! what the law stands on at its entry -/
theorem n_27 : Cond.instantiable R_Bs 2 ∈ TB := TB_in 105 (by decide +kernel) rfl
theorem n_57 : Cond.instantiable R_Cs 4 ∈ TB := TB_in 135 (by decide +kernel) rfl
theorem n_194 : Cond.instantiable R_Mr 1 ∈ TB := TB_in 272 (by decide +kernel) rfl
theorem n_76 : Cond.instantiable R_Mg 5 ∈ TB := TB_in 154 (by decide +kernel) rfl
theorem n_41 : Cond.instantiable R_Ou 3 ∈ TB := TB_in 119 (by decide +kernel) rfl
theorem n_123 : Cond.instantiable R_Rd 11 ∈ TB := TB_in 201 (by decide +kernel) rfl
theorem n_98 : Cond.instantiable R_Rs 3 ∈ TB := TB_in 176 (by decide +kernel) rfl
theorem n_129 : Cond.instantiable R_Tr 7 ∈ TB := TB_in 207 (by decide +kernel) rfl
theorem n_19 : Cond.instantiable R_Rn 16 ∈ TB := TB_in 97 (by decide +kernel) rfl
theorem n_811 : Cond.instantiable R_Mo 50 ∈ TB := TB_in 889 (by decide +kernel) rfl
theorem n_18 : Cond.classLink R_La 8 R_Rn ∈ TB := TB_in 96 (by decide +kernel) rfl
theorem n_20 : Cond.methodLink R_La 43 y_Rn_init ∈ TB := TB_in 98 (by decide +kernel) rfl
theorem n_21 : Cond.instanceMethod y_Rn_init ∈ TB := TB_in 99 (by decide +kernel) rfl
theorem n_22 : Cond.code y_Rn_init prog_1_method_1_code 2 none ∈ TB := TB_in 100 (by decide +kernel) rfl
theorem n_810 : Cond.classLink R_La 46 R_Mo ∈ TB := TB_in 888 (by decide +kernel) rfl
theorem n_812 : Cond.methodLink R_La 48 y_Mo_init ∈ TB := TB_in 890 (by decide +kernel) rfl
theorem n_813 : Cond.instanceMethod y_Mo_init ∈ TB := TB_in 891 (by decide +kernel) rfl
theorem n_814 : Cond.code y_Mo_init prog_11_method_1_code 2 none ∈ TB := TB_in 892 (by decide +kernel) rfl
theorem n_661 : Cond.methodLink R_La 37 y_La_cell ∈ TB := TB_in 739 (by decide +kernel) rfl
theorem n_662 : Cond.static y_La_cell ∈ TB := TB_in 740 (by decide +kernel) rfl
theorem n_663 : Cond.code y_La_cell method_2_code 2 (some .int) ∈ TB := TB_in 741 (by decide +kernel) rfl
theorem n_1203 : Cond.arrayClass .long ∈ TB := TB_in 1281 (by decide +kernel) rfl
theorem l_454 : Cond.methodLinkNest R_Rd 99 y_Rn_kindOf R_Rn ∈ lw_tbl := List.mem_of_getElem? (i := 532) (by decide +kernel)
theorem l_573 : Cond.methodLinkNest R_Tr 63 y_Rn_kindOf R_Rn ∈ lw_tbl := List.mem_of_getElem? (i := 651) (by decide +kernel)
theorem l_618 : Cond.methodLinkNest R_Rn 282 y_Mr_matches R_Rn ∈ lw_tbl := List.mem_of_getElem? (i := 696) (by decide +kernel)
theorem l_629 : Cond.methodLinkNest R_Mr 32 y_Rn_kindOf R_Rn ∈ lw_tbl := List.mem_of_getElem? (i := 707) (by decide +kernel)
theorem l_110 : Cond.arrayOver (.object "RecordNode$Bytes") ∈ lw_tbl := List.mem_of_getElem? (i := 188) (by decide +kernel)
theorem l_702 : Cond.laysStatic Bundle.tN "UNASSIGNED_STACK" Bundle.steD ∈ lw_tbl := List.mem_of_getElem? (i := 780) (by decide +kernel)
theorem l_704 : Cond.laysStatic Bundle.tN "SUPPRESSED_SENTINEL" Bundle.listD ∈ lw_tbl := List.mem_of_getElem? (i := 782) (by decide +kernel)
theorem ac_of {s : State} {args : Array Value} {ty : FieldType} (h : (Cond.arrayClass ty).before args s = true) : ∃ cA : ClassId, ArrOfT s cA ty ∧ s.vm.findClass ("[" ++ ty.toString) = some cA := by
  obtain ⟨c, k, comp, h1, h2, h3⟩ := Cond.arrayClass_spec h
  exact ⟨c, fun n z => ⟨fun k h => (by cases h), k, h2, comp, h3⟩, h1⟩
theorem ao_of {s : State} {C : String} (h : va_AO C s) : ∃ cA : ClassId, ArrOfT s cA (.object C) ∧ va_RA s cA (.object C) := by
  obtain ⟨comp, c, k, h1, h2, h3, h4, h5⟩ := Cond.arrayOver_spec h
  exact ⟨c, fun n z => ⟨fun k h => (by cases h), k, h3, comp, h4⟩, k, comp, h3, h4, h1, h5⟩
theorem K_long {D : va_G} {s : State} {gL cA : ClassId} (h : va_K D vwCl ([(gL, .long)] ++ [(cA, .long)]) s) : cA = gL := by
  have h1 : s.vm.findClass ("[" ++ (FieldType.long).toString) = some cA := (h.2 1 (cA, .long) rfl).2
  have h2 : s.vm.findClass ("[" ++ (FieldType.long).toString) = some gL := (h.2 0 (gL, .long) rfl).2
  exact Option.some.inj (h1.symm.trans h2)
theorem kk_of {s : State} {args : Array Value} (hts : ∀ w ∈ lw_tbl, w.before args s = true) : ∃ (D : va_G) (g : Nat → ClassId) (gL : ClassId), KK D g s ∧ va_K D vwCl [(gL, .long)] s := by
  have ht : ∀ w ∈ TB, w.before args s = true := fun w h => hts w (List.mem_filter.mp h).1
  obtain ⟨c0, i0, k0⟩ := u_known ht in_Bs (ht _ n_27)
  obtain ⟨c1, i1, k1⟩ := u_known ht in_Cs (ht _ n_57)
  obtain ⟨c2, i2, k2⟩ := u_known ht in_Mr (ht _ n_194)
  obtain ⟨c3, i3, k3⟩ := u_known ht in_Mg (ht _ n_76)
  obtain ⟨c4, i4, k4⟩ := u_known ht in_Ou (ht _ n_41)
  obtain ⟨c5, i5, k5⟩ := u_known ht in_Rd (ht _ n_123)
  obtain ⟨c6, i6, k6⟩ := u_known ht in_Rs (ht _ n_98)
  obtain ⟨c7, i7, k7⟩ := u_known ht in_Tr (ht _ n_129)
  obtain ⟨c8, i8, k8⟩ := u_known ht in_Rn (ht _ n_19)
  obtain ⟨c9, i9, k9⟩ := u_known ht in_Mo (ht _ n_811)
  obtain ⟨g0, a0, f0⟩ := ac_of (ht _ m_39)
  obtain ⟨g1, a1, f1⟩ := ac_of (ht _ m_192)
  have hAO : va_AO "RecordNode$Bytes" s := va_AO.of (hts _ l_110)
  obtain ⟨g2, a2, f2⟩ := ao_of hAO
  obtain ⟨gL, aL, fL⟩ := ac_of (ht _ n_1203)
  have hc : ∀ (c : Nat) (q : vw_C), vwCl[c]? = some q → u_Kn s q.1 q.2.1 q.2.2 ((fun j => [c0, c1, c2, c3, c4, c5, c6, c7, c8, c9].getD j c0 : Nat → ClassId) c) ((fun j => [i0, i1, i2, i3, i4, i5, i6, i7, i8, i9].getD j i0 : Nat → Nat → Nat) c) := by
    intro c q hq
    match c, hq with
    | 0, hq => exact Option.some.inj (show some (R_Bs, T_Bs, 2) = some q from hq) ▸ k0
    | 1, hq => exact Option.some.inj (show some (R_Cs, T_Cs, 4) = some q from hq) ▸ k1
    | 2, hq => exact Option.some.inj (show some (R_Mr, T_Mr, 1) = some q from hq) ▸ k2
    | 3, hq => exact Option.some.inj (show some (R_Mg, T_Mg, 5) = some q from hq) ▸ k3
    | 4, hq => exact Option.some.inj (show some (R_Ou, T_Ou, 3) = some q from hq) ▸ k4
    | 5, hq => exact Option.some.inj (show some (R_Rd, T_Rd, 11) = some q from hq) ▸ k5
    | 6, hq => exact Option.some.inj (show some (R_Rs, T_Rs, 3) = some q from hq) ▸ k6
    | 7, hq => exact Option.some.inj (show some (R_Tr, T_Tr, 7) = some q from hq) ▸ k7
    | 8, hq => exact Option.some.inj (show some (R_Rn, T_Rn, 16) = some q from hq) ▸ k8
    | 9, hq => exact Option.some.inj (show some (R_Mo, T_Mo, 50) = some q from hq) ▸ k9
    | j + 10, hq => exact absurd (show (none : Option vw_C) = some q from hq) (by simp)
  refine ⟨(fun j => [c0, c1, c2, c3, c4, c5, c6, c7, c8, c9].getD j c0, fun j => [i0, i1, i2, i3, i4, i5, i6, i7, i8, i9].getD j i0), fun j => [g0, g1, g2].getD j g0, gL, ⟨⟨hc, ?_⟩, va_Nw.of rfl (hts _ l_454), va_Nw.of rfl (hts _ l_573), va_Nw.of rfl (hts _ l_618), va_Nw.of rfl (hts _ l_629), hAO⟩, hc, ?_⟩
  · intro k q hq
    match k, hq with
    | 0, hq => exact Option.some.inj (show some (g0, FieldType.int) = some q from hq) ▸ ⟨a0, f0⟩
    | 1, hq => exact Option.some.inj (show some (g1, FieldType.boolean) = some q from hq) ▸ ⟨a1, f1⟩
    | 2, hq => exact Option.some.inj (show some (g2, FieldType.object "RecordNode$Bytes") = some q from hq) ▸ ⟨a2, f2⟩
    | j + 3, hq => exact absurd (show (none : Option (ClassId × FieldType)) = some q from hq) (by simp)
  · intro k q hq
    match k, hq with
    | 0, hq => exact Option.some.inj (show some (gL, FieldType.long) = some q from hq) ▸ ⟨aL, fL⟩
    | j + 1, hq => exact absurd (show (none : Option (ClassId × FieldType)) = some q from hq) (by simp)
theorem xw_l : ∀ w ∈ XW, w ∈ lw_tbl := by decide +kernel
theorem xw_t : ∀ w ∈ XW, w.onTables = true := by decide +kernel
theorem sz_of {s : State} {args : Array Value} {A : Nat → Prop} (hts : ∀ w ∈ lw_tbl, w.before args s = true) (hgv : (Jvm.Cond.and given_1 narrow_1).before args s = true) (hA : ∀ a : Nat, a < s.heap.size → ¬ A a) : SZ A s s.heap ∧ NC s := by
  have hs := flat_of_before _ hgv
  refine ⟨⟨fun w hw => va_Nw.of (xw_t w hw) (hts w (xw_l w hw)), SL.of (hts _ l_702) (hs _ (by decide +kernel)) hA, SL.of (hts _ l_704) (hs _ (by decide +kernel)) hA⟩, ?_⟩
  have hn : (Cond.not (.castable "java/lang/IllegalStateException" "java/lang/IllegalArgumentException")).before args s = true := hs _ (by decide +kernel)
  obtain ⟨c, t, h1, h2, h3⟩ := nc_spec hn
  unfold NC
  simp [Cond.before, Cond.holds, Cond.value, h1, h2, h3]
theorem cl_rows (x : Int32) : Mo_clamp x = nI (Rs_n0 x) := by
  rw [← (Rs_n0_spec x).2.2]
  unfold Mo_clamp Rs_rows
  have a1 : (1 ≤ x) ↔ (1 : Int) ≤ x.toInt := Int32.le_iff_toInt_le
  have a2 : (x ≤ 8) ↔ x.toInt ≤ (8 : Int) := Int32.le_iff_toInt_le
  have a3 : (x < 8) ↔ x.toInt < (8 : Int) := Int32.lt_iff_toInt_lt
  have a4 : (1 < x) ↔ (1 : Int) < x.toInt := Int32.lt_iff_toInt_lt
  have q1 : (1 : Int) = x.toInt → x = 1 := fun h => Int32.toInt_inj.mp h.symm
  have q8 : (8 : Int) = x.toInt → x = 8 := fun h => Int32.toInt_inj.mp h.symm
  by_cases p1 : 1 ≤ x
  · have b1 := a1.mp p1
    rw [if_pos p1]
    by_cases p2 : x ≤ 8
    · have b2 := a2.mp p2
      rw [if_pos p2]
      by_cases p3 : x < 8
      · rw [if_pos p3]
        by_cases p4 : 1 < x
        · rw [if_pos p4]
        · have b4 := _root_.mt a4.mpr p4
          rw [if_neg p4]
          exact q1 (by omega)
      · have b3 := _root_.mt a3.mpr p3
        rw [if_neg p3]
        exact q8 (by omega)
    · have b2 := _root_.mt a2.mpr p2
      rw [if_neg p2, if_neg (show ¬ x < 8 from fun h => b2 (by have := a3.mp h; omega))]
      rfl
  · have b1 := _root_.mt a1.mpr p1
    rw [if_neg p1, if_pos (a3.mpr (by omega)), if_neg (fun h => b1 (by have := a4.mp h; omega))]
abbrev PcC (D : va_G) (A : Nat → Prop) (g : Nat → ClassId) (b L : Nat) (xs : Nat → Int32) (av : List Value) (ws : va_W) : Array Value → State → Prop := va_Pc av (fun U => Iw D A ws U.heap ∧ KK D g U ∧ va_X b L xs U U.heap ∧ b < U.heap.size)
theorem PcC.blind {D : va_G} {A : Nat → Prop} {g : Nat → ClassId} {b L : Nat} {xs : Nat → Int32} {av : List Value} {ws : va_W} : FrameBlind (PcC D A g b L xs av ws) := fun a U gg mk q => by
  obtain ⟨q0, q1, qK, qX, qb⟩ := q
  exact ⟨q0, q1, qK.same rfl, va_X.moved (U := U.calling gg mk a) (Vm.Alike.refl U.vm) qX, qb⟩
theorem prC {s : State} {H : Heap} {locs : List Loc} {D : va_G} {A : Nat → Prop} {g : Nat → ClassId} {b L : Nat} {xs : Nat → Int32} {W0 : va_W} {As : List Value} (hK : KK D g s) (hI : Iw D A W0 H) (hX : va_X b L xs s s.heap) (hbl : b < s.heap.size) (hbA : ¬ A b) (hS : va_S A s.heap H locs) : PreS s H (PcC D A g b L xs As W0) As :=
  ⟨PcC.blind, fun U hU hW => ⟨rfl, by rw [hU]; exact hI, hK.moved hW, by rw [hU]; exact (va_X.moved hW.alike hX).kept (hS.2.1 b hbl hbA), by rw [hU]; exact Nat.lt_of_lt_of_le hbl hS.1⟩⟩
def c0L (L : Nat) (xs : Nat → Int32) : Int32 := if 0 < L then xs 0 else 0
theorem c_La_cell {l : Launch} {D : va_G} {A : Nat → Prop} {g : Nat → ClassId} {b L : Nat} {xs : Nat → Int32} {rest : va_W} (hbA : ¬ A b) (hL : L ≤ 2049) : Met l y_La_cell ws_La_cell { frames := 0, cells := 0, slots := 0, locals := 0 } (PcC D A g b L xs [.ref b, .int 0] rest) (QcI D A g (c0L L xs) (fun (_ : Unit) => rest)) 0 0 A := by
  refine Met.ofW (cc := method_2_code) (maxL := 2) (ret := (some .int)) (by decide) rfl ?_
  intro p e s m args below meth c s₁ B hml hv
  obtain ⟨rfl, hI, hKK, hX, hbl⟩ := hv
  have hx := B.exec
  have hb := B.bytes
  have hr := B.returns
  have hS : va_S A s.heap s.heap [] := va_S.rf
  have hl := lv_entry [.ref b, .int 0] (n := 2) (Nat.le_of_ble_eq_true rfl)
  rw [lg_entry_eq]
  generalize (lg_sl [.ref b, .int 0] ++ List.replicate (2 - (lg_sl [.ref b, .int 0]).length) Slot.unset).toArray = ls at hl ⊢
  have hl : lv_has ls 2 [(0, .ref b), (1, .int 0)] := hl
  refine lv_iload_n hx hb d_La_cell_0 rfl (lv_at hl 1 rfl) ?_
  refine lv_aload_n hx hb d_La_cell_1 rfl (lv_at hl 0 rfl) ?_
  refine va_slen hx hb hX hbl hbA hS d_La_cell_2 ?_
  have hge : (Int32.ofNat L ≤ 0) ↔ ¬ 0 < L := by
    rw [Int32.le_iff_toInt_le, show (Int32.ofNat L).toInt = (L : Int) from nI_toInt (n := L) (by omega), show (0 : Int32).toInt = 0 from rfl]
    omega
  refine lv_icmp_ge (tgt := 12) hx hb d_La_cell_3 (by decide) (fun hc => ?_) (fun hc => ?_)
  · have e : c0L L xs = 0 := if_neg (hge.mp hc)
    rw [e]
    refine lv_iconst (v := 0) hx hb d_La_cell_12 (by decide) ?_
    exact W.iret (v := 0) hx hb hr (fun t ht hW => ⟨⟨_, (), rfl, rfl, ⟨by rw [ht]; exact hI, hKK.moved hW⟩⟩, hS.F ht⟩) hS.2.2 d_La_cell_13
  · have hp : 0 < L := Decidable.byContradiction fun h => hc (hge.mpr h)
    have e : c0L L xs = xs 0 := if_pos hp
    rw [e]
    refine lv_aload_n hx hb d_La_cell_6 rfl (lv_at hl 0 rfl) ?_
    refine lv_iload_n hx hb d_La_cell_7 rfl (lv_at hl 1 rfl) ?_
    refine va_sld hx hb hX hbl hbA hS (nI_in (c := 0) hp (by omega)) d_La_cell_8 ?_
    refine lv_goto (tgt := 13) hx hb d_La_cell_9 (by decide) ?_
    exact W.iret (v := xs 0) hx hb hr (fun t ht hW => ⟨⟨_, (), rfl, rfl, ⟨by rw [ht]; exact hI, hKK.moved hW⟩⟩, hS.F ht⟩) hS.2.2 d_La_cell_13
