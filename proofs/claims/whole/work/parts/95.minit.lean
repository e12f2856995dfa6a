/-! RecordNodeModel(int) -/
set_option maxRecDepth 100000 in
set_option maxHeartbeats 2000000 in
theorem c_Mo_init {l : Launch} {D : va_G} {A : Nat → Prop} {g : Nat → ClassId} {rest : va_W} {h : Nat} {x1 : Int32} : Met l y_Mo_init ws_Mo_init { frames := 1, cells := 30, slots := 15944, locals := 12 } (PcN D A g [.ref h, .int x1] ([(h, .inr (9, [.int 0, .int 0, .null, .int 0, .null, .int 0, .null, .null, .null, .null, .null, .null, .null, .null, .null, .null, .null, .null, .null, .null, .null, .int 0, .null, .null, .null, .int 0, .null, .int 0, .int 0, .int 0, .null, .int 0, .null, .int 0, .int 0, .null, .null, .null, .int 0, .null, .int 0, .null, .int 0, .int 0, .int 0, .int 0, .int 0, .int 0, .null, .null]))] ++ (rest))) (QcN D A g (fun (u : Nat → Nat) => u 0 = h) (fun (u : Nat → Nat) => w_Mo g u (i_Mo (Mo_clamp x1)) ++ (rest))) 30 15944 A := by
  refine Met.ofW (cc := prog_11_method_1_code) (maxL := 2) (ret := none) (by decide) rfl ?_
  intro p e s m args below meth c s₁ B hml hv
  obtain ⟨rfl, hI, hKK, hA⟩ := hv
  have hK := hKK.1
  have hx := B.exec
  have hb := B.bytes
  have hr := B.returns
  have hts := atoms_spec (ws := ws_Mo_init) B.pre
  have ht := fun w (h : w ∈ TB) => hts w (List.mem_cons_of_mem _ h)
  have hown : s.vm.findClass R_Mo = some m.cls := findClass_of_methodNamed B.named
  have hlocks := B.notSynchronized
  have hin : meth.name = "<init>" := (name_of_methodNamed B.named B.method).1
  have hS : va_S A s.heap s.heap [] := va_S.rf
  have hl := lv_entry [.ref h, .int x1] (n := 2) (Nat.le_of_ble_eq_true rfl)
  rw [lg_entry_eq]
  generalize (lg_sl [.ref h, .int x1] ++ List.replicate (2 - (lg_sl [.ref h, .int x1]).length) Slot.unset).toArray = ls at hl ⊢
  have hl : lv_has ls 2 [(0, .ref h), (1, .int x1)] := hl
  refine lv_aload_n hx hb d_Mo_init_0 rfl (lv_at hl 0 rfl) ?_
  refine W.objInit hx hb hown (ht _ m_815) (ht _ m_24) (ht _ m_25) rfl (by rw [hml]; exact hl.1) rfl d_Mo_init_1 (Nat.le_of_ble_eq_true rfl) (Nat.le_of_ble_eq_true rfl) ?_
  refine W.eq (g2 := F0 m 4 ls []) rfl ?_
  have hI : Iw D A ([(h, .inr (9, moF 0 (fun _ => .null)))] ++ rest) s.heap := hI
  refine lv_aload_n hx hb d_Mo_init_4 rfl (lv_at hl 0 rfl) ?_
  refine lv_bipush (v := 120) hx hb d_Mo_init_5 (by decide) ?_
  refine mo_ti hx hb ht hown hin (ht _ m_39) hKK hA hI hS 2 1 (moF_1 0 _) (by decide) 120 (by decide) (by decide) (by decide) (Nat.le_of_ble_eq_true rfl) (Nat.le_of_ble_eq_true rfl) (ht _ m_818) rfl rfl (by decide +kernel) d_Mo_init_7 d_Mo_init_9 (fun q1 H locs hI hS => ?_)
  refine lv_aload_n hx hb d_Mo_init_12 rfl (lv_at hl 0 rfl) ?_
  refine lv_sipush (v := 240) hx hb d_Mo_init_13 (by decide) ?_
  refine mo_ti hx hb ht hown hin (ht _ m_39) hKK hA hI hS 4 2 (moF_2 0 _) (by decide) 240 (by decide) (by decide) (by decide) (Nat.le_of_ble_eq_true rfl) (Nat.le_of_ble_eq_true rfl) (ht _ m_820) rfl rfl (by decide +kernel) d_Mo_init_16 d_Mo_init_18 (fun q2 H locs hI hS => ?_)
  refine lv_aload_n hx hb d_Mo_init_21 rfl (lv_at hl 0 rfl) ?_
  refine lv_iconst (v := 2) hx hb d_Mo_init_22 (by decide) ?_
  refine mo_ti hx hb ht hown hin (ht _ m_39) hKK hA hI hS 6 3 (moF_3 0 _) (by decide) 2 (by decide) (by decide) (by decide) (Nat.le_of_ble_eq_true rfl) (Nat.le_of_ble_eq_true rfl) (ht _ m_822) rfl rfl (by decide +kernel) d_Mo_init_23 d_Mo_init_25 (fun q3 H locs hI hS => ?_)
  refine lv_aload_n hx hb d_Mo_init_28 rfl (lv_at hl 0 rfl) ?_
  refine lv_sipush (v := 260) hx hb d_Mo_init_29 (by decide) ?_
  refine mo_ti hx hb ht hown hin (ht _ m_39) hKK hA hI hS 7 4 (moF_4 0 _) (by decide) 260 (by decide) (by decide) (by decide) (Nat.le_of_ble_eq_true rfl) (Nat.le_of_ble_eq_true rfl) (ht _ m_823) rfl rfl (by decide +kernel) d_Mo_init_32 d_Mo_init_34 (fun q4 H locs hI hS => ?_)
  refine lv_aload_n hx hb d_Mo_init_37 rfl (lv_at hl 0 rfl) ?_
  refine lv_sipush (v := 260) hx hb d_Mo_init_38 (by decide) ?_
  refine mo_ti hx hb ht hown hin (ht _ m_39) hKK hA hI hS 8 5 (moF_5 0 _) (by decide) 260 (by decide) (by decide) (by decide) (Nat.le_of_ble_eq_true rfl) (Nat.le_of_ble_eq_true rfl) (ht _ m_824) rfl rfl (by decide +kernel) d_Mo_init_41 d_Mo_init_43 (fun q5 H locs hI hS => ?_)
  refine lv_aload_n hx hb d_Mo_init_46 rfl (lv_at hl 0 rfl) ?_
  refine lv_sipush (v := 260) hx hb d_Mo_init_47 (by decide) ?_
  refine mo_ti hx hb ht hown hin (ht _ m_39) hKK hA hI hS 9 6 (moF_6 0 _) (by decide) 260 (by decide) (by decide) (by decide) (Nat.le_of_ble_eq_true rfl) (Nat.le_of_ble_eq_true rfl) (ht _ m_825) rfl rfl (by decide +kernel) d_Mo_init_50 d_Mo_init_52 (fun q6 H locs hI hS => ?_)
  refine lv_aload_n hx hb d_Mo_init_55 rfl (lv_at hl 0 rfl) ?_
  refine lv_sipush (v := 260) hx hb d_Mo_init_56 (by decide) ?_
  refine mo_ti hx hb ht hown hin (ht _ m_39) hKK hA hI hS 10 7 (moF_7 0 _) (by decide) 260 (by decide) (by decide) (by decide) (Nat.le_of_ble_eq_true rfl) (Nat.le_of_ble_eq_true rfl) (ht _ m_826) rfl rfl (by decide +kernel) d_Mo_init_59 d_Mo_init_61 (fun q7 H locs hI hS => ?_)
  refine lv_aload_n hx hb d_Mo_init_64 rfl (lv_at hl 0 rfl) ?_
  refine lv_sipush (v := 260) hx hb d_Mo_init_65 (by decide) ?_
  refine mo_ti hx hb ht hown hin (ht _ m_39) hKK hA hI hS 11 8 (moF_8 0 _) (by decide) 260 (by decide) (by decide) (by decide) (Nat.le_of_ble_eq_true rfl) (Nat.le_of_ble_eq_true rfl) (ht _ m_827) rfl rfl (by decide +kernel) d_Mo_init_68 d_Mo_init_70 (fun q8 H locs hI hS => ?_)
  refine lv_aload_n hx hb d_Mo_init_73 rfl (lv_at hl 0 rfl) ?_
  refine lv_sipush (v := 260) hx hb d_Mo_init_74 (by decide) ?_
  refine mo_ti hx hb ht hown hin (ht _ m_39) hKK hA hI hS 12 9 (moF_9 0 _) (by decide) 260 (by decide) (by decide) (by decide) (Nat.le_of_ble_eq_true rfl) (Nat.le_of_ble_eq_true rfl) (ht _ m_828) rfl rfl (by decide +kernel) d_Mo_init_77 d_Mo_init_79 (fun q9 H locs hI hS => ?_)
  refine lv_aload_n hx hb d_Mo_init_82 rfl (lv_at hl 0 rfl) ?_
  refine lv_sipush (v := 260) hx hb d_Mo_init_83 (by decide) ?_
  refine mo_ti hx hb ht hown hin (ht _ m_39) hKK hA hI hS 13 10 (moF_10 0 _) (by decide) 260 (by decide) (by decide) (by decide) (Nat.le_of_ble_eq_true rfl) (Nat.le_of_ble_eq_true rfl) (ht _ m_829) rfl rfl (by decide +kernel) d_Mo_init_86 d_Mo_init_88 (fun q10 H locs hI hS => ?_)
  refine lv_aload_n hx hb d_Mo_init_91 rfl (lv_at hl 0 rfl) ?_
  refine lv_sipush (v := 260) hx hb d_Mo_init_92 (by decide) ?_
  refine mo_ti hx hb ht hown hin (ht _ m_39) hKK hA hI hS 14 11 (moF_11 0 _) (by decide) 260 (by decide) (by decide) (by decide) (Nat.le_of_ble_eq_true rfl) (Nat.le_of_ble_eq_true rfl) (ht _ m_830) rfl rfl (by decide +kernel) d_Mo_init_95 d_Mo_init_97 (fun q11 H locs hI hS => ?_)
  refine lv_aload_n hx hb d_Mo_init_100 rfl (lv_at hl 0 rfl) ?_
  refine lv_sipush (v := 260) hx hb d_Mo_init_101 (by decide) ?_
  refine mo_ti hx hb ht hown hin (ht _ m_39) hKK hA hI hS 15 12 (moF_12 0 _) (by decide) 260 (by decide) (by decide) (by decide) (Nat.le_of_ble_eq_true rfl) (Nat.le_of_ble_eq_true rfl) (ht _ m_831) rfl rfl (by decide +kernel) d_Mo_init_104 d_Mo_init_106 (fun q12 H locs hI hS => ?_)
  refine lv_aload_n hx hb d_Mo_init_109 rfl (lv_at hl 0 rfl) ?_
  refine lv_sipush (v := 260) hx hb d_Mo_init_110 (by decide) ?_
  refine mo_ti hx hb ht hown hin (ht _ m_39) hKK hA hI hS 16 13 (moF_13 0 _) (by decide) 260 (by decide) (by decide) (by decide) (Nat.le_of_ble_eq_true rfl) (Nat.le_of_ble_eq_true rfl) (ht _ m_832) rfl rfl (by decide +kernel) d_Mo_init_113 d_Mo_init_115 (fun q13 H locs hI hS => ?_)
  refine lv_aload_n hx hb d_Mo_init_118 rfl (lv_at hl 0 rfl) ?_
  refine lv_sipush (v := 260) hx hb d_Mo_init_119 (by decide) ?_
  refine mo_ti hx hb ht hown hin (ht _ m_39) hKK hA hI hS 17 14 (moF_14 0 _) (by decide) 260 (by decide) (by decide) (by decide) (Nat.le_of_ble_eq_true rfl) (Nat.le_of_ble_eq_true rfl) (ht _ m_833) rfl rfl (by decide +kernel) d_Mo_init_122 d_Mo_init_124 (fun q14 H locs hI hS => ?_)
  refine lv_aload_n hx hb d_Mo_init_127 rfl (lv_at hl 0 rfl) ?_
  refine lv_sipush (v := 480) hx hb d_Mo_init_128 (by decide) ?_
  refine mo_ti hx hb ht hown hin (ht _ m_39) hKK hA hI hS 18 15 (moF_15 0 _) (by decide) 480 (by decide) (by decide) (by decide) (Nat.le_of_ble_eq_true rfl) (Nat.le_of_ble_eq_true rfl) (ht _ m_834) rfl rfl (by decide +kernel) d_Mo_init_131 d_Mo_init_133 (fun q15 H locs hI hS => ?_)
  refine lv_aload_n hx hb d_Mo_init_136 rfl (lv_at hl 0 rfl) ?_
  refine lv_iconst (v := 2) hx hb d_Mo_init_137 (by decide) ?_
  refine mo_ti hx hb ht hown hin (ht _ m_39) hKK hA hI hS 19 16 (moF_16 0 _) (by decide) 2 (by decide) (by decide) (by decide) (Nat.le_of_ble_eq_true rfl) (Nat.le_of_ble_eq_true rfl) (ht _ m_835) rfl rfl (by decide +kernel) d_Mo_init_138 d_Mo_init_140 (fun q16 H locs hI hS => ?_)
  refine lv_aload_n hx hb d_Mo_init_143 rfl (lv_at hl 0 rfl) ?_
  refine lv_sipush (v := 8100) hx hb d_Mo_init_144 (by decide) ?_
  refine mo_tz hx hb ht hown hin (ht _ m_192) hKK hA hI hS 20 17 (moF_17 0 _) (by decide) 8100 (by decide) (by decide) (by decide) (Nat.le_of_ble_eq_true rfl) (Nat.le_of_ble_eq_true rfl) (ht _ m_836) rfl rfl (by decide +kernel) d_Mo_init_147 d_Mo_init_149 (fun q17 H locs hI hS => ?_)
  refine lv_aload_n hx hb d_Mo_init_152 rfl (lv_at hl 0 rfl) ?_
  refine lv_bipush (v := 6) hx hb d_Mo_init_153 (by decide) ?_
  refine mo_ti hx hb ht hown hin (ht _ m_39) hKK hA hI hS 22 18 (moF_18 0 _) (by decide) 6 (by decide) (by decide) (by decide) (Nat.le_of_ble_eq_true rfl) (Nat.le_of_ble_eq_true rfl) (ht _ m_838) rfl rfl (by decide +kernel) d_Mo_init_155 d_Mo_init_157 (fun q18 H locs hI hS => ?_)
  refine lv_aload_n hx hb d_Mo_init_160 rfl (lv_at hl 0 rfl) ?_
  refine lv_bipush (v := 6) hx hb d_Mo_init_161 (by decide) ?_
  refine mo_ti hx hb ht hown hin (ht _ m_39) hKK hA hI hS 23 19 (moF_19 0 _) (by decide) 6 (by decide) (by decide) (by decide) (Nat.le_of_ble_eq_true rfl) (Nat.le_of_ble_eq_true rfl) (ht _ m_839) rfl rfl (by decide +kernel) d_Mo_init_163 d_Mo_init_165 (fun q19 H locs hI hS => ?_)
  refine lv_aload_n hx hb d_Mo_init_168 rfl (lv_at hl 0 rfl) ?_
  refine lv_bipush (v := 6) hx hb d_Mo_init_169 (by decide) ?_
  refine mo_tz hx hb ht hown hin (ht _ m_192) hKK hA hI hS 24 20 (moF_20 0 _) (by decide) 6 (by decide) (by decide) (by decide) (Nat.le_of_ble_eq_true rfl) (Nat.le_of_ble_eq_true rfl) (ht _ m_840) rfl rfl (by decide +kernel) d_Mo_init_171 d_Mo_init_173 (fun q20 H locs hI hS => ?_)
  refine lv_aload_n hx hb d_Mo_init_176 rfl (lv_at hl 0 rfl) ?_
  refine lv_sipush (v := 1000) hx hb d_Mo_init_177 (by decide) ?_
  refine mo_ti hx hb ht hown hin (ht _ m_39) hKK hA hI hS 26 21 (moF_21 0 _) (by decide) 1000 (by decide) (by decide) (by decide) (Nat.le_of_ble_eq_true rfl) (Nat.le_of_ble_eq_true rfl) (ht _ m_842) rfl rfl (by decide +kernel) d_Mo_init_180 d_Mo_init_182 (fun q21 H locs hI hS => ?_)
  refine lv_aload_n hx hb d_Mo_init_185 rfl (lv_at hl 0 rfl) ?_
  refine lv_sipush (v := 202) hx hb d_Mo_init_186 (by decide) ?_
  refine mo_ti hx hb ht hown hin (ht _ m_39) hKK hA hI hS 30 22 (moF_22 0 _) (by decide) 202 (by decide) (by decide) (by decide) (Nat.le_of_ble_eq_true rfl) (Nat.le_of_ble_eq_true rfl) (ht _ m_846) rfl rfl (by decide +kernel) d_Mo_init_189 d_Mo_init_191 (fun q22 H locs hI hS => ?_)
  refine lv_aload_n hx hb d_Mo_init_194 rfl (lv_at hl 0 rfl) ?_
  refine lv_sipush (v := 900) hx hb d_Mo_init_195 (by decide) ?_
  refine mo_ti hx hb ht hown hin (ht _ m_39) hKK hA hI hS 32 23 (moF_23 0 _) (by decide) 900 (by decide) (by decide) (by decide) (Nat.le_of_ble_eq_true rfl) (Nat.le_of_ble_eq_true rfl) (ht _ m_848) rfl rfl (by decide +kernel) d_Mo_init_198 d_Mo_init_200 (fun q23 H locs hI hS => ?_)
  refine lv_aload_n hx hb d_Mo_init_203 rfl (lv_at hl 0 rfl) ?_
  refine lv_iconst (v := 4) hx hb d_Mo_init_204 (by decide) ?_
  refine mo_ti hx hb ht hown hin (ht _ m_39) hKK hA hI hS 35 24 (moF_24 0 _) (by decide) 4 (by decide) (by decide) (by decide) (Nat.le_of_ble_eq_true rfl) (Nat.le_of_ble_eq_true rfl) (ht _ m_851) rfl rfl (by decide +kernel) d_Mo_init_205 d_Mo_init_207 (fun q24 H locs hI hS => ?_)
  refine lv_aload_n hx hb d_Mo_init_210 rfl (lv_at hl 0 rfl) ?_
  refine lv_iconst (v := 4) hx hb d_Mo_init_211 (by decide) ?_
  refine mo_ti hx hb ht hown hin (ht _ m_39) hKK hA hI hS 36 25 (moF_25 0 _) (by decide) 4 (by decide) (by decide) (by decide) (Nat.le_of_ble_eq_true rfl) (Nat.le_of_ble_eq_true rfl) (ht _ m_852) rfl rfl (by decide +kernel) d_Mo_init_212 d_Mo_init_214 (fun q25 H locs hI hS => ?_)
  refine lv_aload_n hx hb d_Mo_init_217 rfl (lv_at hl 0 rfl) ?_
  refine lv_iconst (v := 4) hx hb d_Mo_init_218 (by decide) ?_
  refine mo_ti hx hb ht hown hin (ht _ m_39) hKK hA hI hS 37 26 (moF_26 0 _) (by decide) 4 (by decide) (by decide) (by decide) (Nat.le_of_ble_eq_true rfl) (Nat.le_of_ble_eq_true rfl) (ht _ m_853) rfl rfl (by decide +kernel) d_Mo_init_219 d_Mo_init_221 (fun q26 H locs hI hS => ?_)
  refine lv_aload_n hx hb d_Mo_init_224 rfl (lv_at hl 0 rfl) ?_
  refine lv_sipush (v := 200) hx hb d_Mo_init_225 (by decide) ?_
  refine mo_ti hx hb ht hown hin (ht _ m_39) hKK hA hI hS 39 27 (moF_27 0 _) (by decide) 200 (by decide) (by decide) (by decide) (Nat.le_of_ble_eq_true rfl) (Nat.le_of_ble_eq_true rfl) (ht _ m_855) rfl rfl (by decide +kernel) d_Mo_init_228 d_Mo_init_230 (fun q27 H locs hI hS => ?_)
  refine lv_aload_n hx hb d_Mo_init_233 rfl (lv_at hl 0 rfl) ?_
  refine lv_sipush (v := 200) hx hb d_Mo_init_234 (by decide) ?_
  refine mo_ti hx hb ht hown hin (ht _ m_39) hKK hA hI hS 41 28 (moF_28 0 _) (by decide) 200 (by decide) (by decide) (by decide) (Nat.le_of_ble_eq_true rfl) (Nat.le_of_ble_eq_true rfl) (ht _ m_857) rfl rfl (by decide +kernel) d_Mo_init_237 d_Mo_init_239 (fun q28 H locs hI hS => ?_)
  refine lv_aload_n hx hb d_Mo_init_242 rfl (lv_at hl 0 rfl) ?_
  refine lv_sipush (v := 1600) hx hb d_Mo_init_243 (by decide) ?_
  refine mo_ti hx hb ht hown hin (ht _ m_39) hKK hA hI hS 48 29 (moF_29 0 _) (by decide) 1600 (by decide) (by decide) (by decide) (Nat.le_of_ble_eq_true rfl) (Nat.le_of_ble_eq_true rfl) (ht _ m_864) rfl rfl (by decide +kernel) d_Mo_init_246 d_Mo_init_248 (fun q29 H locs hI hS => ?_)
  refine lv_aload_n hx hb d_Mo_init_251 rfl (lv_at hl 0 rfl) ?_
  refine lv_bipush (v := 8) hx hb d_Mo_init_252 (by decide) ?_
  refine mo_ti hx hb ht hown hin (ht _ m_39) hKK hA hI hS 49 30 (moF_30 0 _) (by decide) 8 (by decide) (by decide) (by decide) (Nat.le_of_ble_eq_true rfl) (Nat.le_of_ble_eq_true rfl) (ht _ m_865) rfl rfl (by decide +kernel) d_Mo_init_254 d_Mo_init_256 (fun q30 H locs hI hS => ?_)
  refine lv_aload_n hx hb d_Mo_init_259 rfl (lv_at hl 0 rfl) ?_
  refine lv_iload_n hx hb d_Mo_init_260 rfl (lv_at hl 1 rfl) ?_
  refine lv_iconst (v := 1) hx hb d_Mo_init_261 (by decide) ?_
  refine lv_icmp_ge (tgt := 269) hx hb d_Mo_init_262 (by decide) (fun hc262 => ?_) (fun hc262 => ?_)
  · refine lv_iload_n hx hb d_Mo_init_269 rfl (lv_at hl 1 rfl) ?_
    refine lv_bipush (v := 8) hx hb d_Mo_init_270 (by decide) ?_
    refine lv_icmp_le (tgt := 280) hx hb d_Mo_init_272 (by decide) (fun hc272 => ?_) (fun hc272 => ?_)
    · refine lv_iload_n hx hb d_Mo_init_280 rfl (lv_at hl 1 rfl) ?_
      refine va_putF (D := D) (ci := 9) (v := .int x1) (ty := .int) (C := R_Mo) (T := T_Mo) (N := 50) hx hb ht in_Mo ty_Mo tyok_Mo nm_Mo hown hK hI.1 hI.2 hS 0 rfl rfl 0 (by decide) (ht _ m_816) (fun _ h9 => h9) rfl hin rfl (by decide +kernel) rfl rfl (by show 0 < 50; decide) d_Mo_init_281 (fun H locs hP hD hS => ?_)
      have hI : Iw D A ([(h, .inr (9, (moF 0 (uV (uV (uV (uV (uV (uV (uV (uV (uV (uV (uV (uV (uV (uV (uV (uV (uV (uV (uV (uV (uV (uV (uV (uV (uV (uV (uV (uV (uV (uV (fun _ => .null) 1 (.ref q1)) 2 (.ref q2)) 3 (.ref q3)) 4 (.ref q4)) 5 (.ref q5)) 6 (.ref q6)) 7 (.ref q7)) 8 (.ref q8)) 9 (.ref q9)) 10 (.ref q10)) 11 (.ref q11)) 12 (.ref q12)) 13 (.ref q13)) 14 (.ref q14)) 15 (.ref q15)) 16 (.ref q16)) 17 (.ref q17)) 18 (.ref q18)) 19 (.ref q19)) 20 (.ref q20)) 21 (.ref q21)) 22 (.ref q22)) 23 (.ref q23)) 24 (.ref q24)) 25 (.ref q25)) 26 (.ref q26)) 27 (.ref q27)) 28 (.ref q28)) 29 (.ref q29)) 30 (.ref q30))).set 0 (.int x1)))] ++ ([(q30, .inl (g 0, 8, .inl (fun _ => 0)))] ++ ([(q29, .inl (g 0, 1600, .inl (fun _ => 0)))] ++ ([(q28, .inl (g 0, 200, .inl (fun _ => 0)))] ++ ([(q27, .inl (g 0, 200, .inl (fun _ => 0)))] ++ ([(q26, .inl (g 0, 4, .inl (fun _ => 0)))] ++ ([(q25, .inl (g 0, 4, .inl (fun _ => 0)))] ++ ([(q24, .inl (g 0, 4, .inl (fun _ => 0)))] ++ ([(q23, .inl (g 0, 900, .inl (fun _ => 0)))] ++ ([(q22, .inl (g 0, 202, .inl (fun _ => 0)))] ++ ([(q21, .inl (g 0, 1000, .inl (fun _ => 0)))] ++ ([(q20, .inl (g 1, 6, .inl (fun _ => 0)))] ++ ([(q19, .inl (g 0, 6, .inl (fun _ => 0)))] ++ ([(q18, .inl (g 0, 6, .inl (fun _ => 0)))] ++ ([(q17, .inl (g 1, 8100, .inl (fun _ => 0)))] ++ ([(q16, .inl (g 0, 2, .inl (fun _ => 0)))] ++ ([(q15, .inl (g 0, 480, .inl (fun _ => 0)))] ++ ([(q14, .inl (g 0, 260, .inl (fun _ => 0)))] ++ ([(q13, .inl (g 0, 260, .inl (fun _ => 0)))] ++ ([(q12, .inl (g 0, 260, .inl (fun _ => 0)))] ++ ([(q11, .inl (g 0, 260, .inl (fun _ => 0)))] ++ ([(q10, .inl (g 0, 260, .inl (fun _ => 0)))] ++ ([(q9, .inl (g 0, 260, .inl (fun _ => 0)))] ++ ([(q8, .inl (g 0, 260, .inl (fun _ => 0)))] ++ ([(q7, .inl (g 0, 260, .inl (fun _ => 0)))] ++ ([(q6, .inl (g 0, 260, .inl (fun _ => 0)))] ++ ([(q5, .inl (g 0, 260, .inl (fun _ => 0)))] ++ ([(q4, .inl (g 0, 260, .inl (fun _ => 0)))] ++ ([(q3, .inl (g 0, 2, .inl (fun _ => 0)))] ++ ([(q2, .inl (g 0, 240, .inl (fun _ => 0)))] ++ ([(q1, .inl (g 0, 120, .inl (fun _ => 0)))] ++ (rest)))))))))))))))))))))))))))))))) H := ⟨hP, hD⟩
      rw [moF_0] at hI
      have hI := mo_fin hI
      refine W.widen (k := 30) (n := 15944) (by omega) (by omega) ?_
      have e : Mo_clamp x1 = x1 := by unfold Mo_clamp; simp only [hc262, hc272, if_true, if_false]
      exact W.vret hx hb hr (fun t ht hW => ⟨⟨(am [h, q1, q2, q3, q4, q5, q6, q7, q8, q9, q10, q11, q12, q13, q14, q15, q16, q17, q18, q19, q20, q21, q22, q23, q24, q25, q26, q27, q28, q29, q30]), rfl, rfl, ⟨by rw [ht, e]; exact hI, hKK.moved hW⟩⟩, hS.F ht⟩) hS.2.2 d_Mo_init_284
    · refine lv_bipush (v := 8) hx hb d_Mo_init_275 (by decide) ?_
      refine lv_goto (tgt := 281) hx hb d_Mo_init_277 (by decide) ?_
      refine va_putF (D := D) (ci := 9) (v := .int (8 : Int32)) (ty := .int) (C := R_Mo) (T := T_Mo) (N := 50) hx hb ht in_Mo ty_Mo tyok_Mo nm_Mo hown hK hI.1 hI.2 hS 0 rfl rfl 0 (by decide) (ht _ m_816) (fun _ h9 => h9) rfl hin rfl (by decide +kernel) rfl rfl (by show 0 < 50; decide) d_Mo_init_281 (fun H locs hP hD hS => ?_)
      have hI : Iw D A ([(h, .inr (9, (moF 0 (uV (uV (uV (uV (uV (uV (uV (uV (uV (uV (uV (uV (uV (uV (uV (uV (uV (uV (uV (uV (uV (uV (uV (uV (uV (uV (uV (uV (uV (uV (fun _ => .null) 1 (.ref q1)) 2 (.ref q2)) 3 (.ref q3)) 4 (.ref q4)) 5 (.ref q5)) 6 (.ref q6)) 7 (.ref q7)) 8 (.ref q8)) 9 (.ref q9)) 10 (.ref q10)) 11 (.ref q11)) 12 (.ref q12)) 13 (.ref q13)) 14 (.ref q14)) 15 (.ref q15)) 16 (.ref q16)) 17 (.ref q17)) 18 (.ref q18)) 19 (.ref q19)) 20 (.ref q20)) 21 (.ref q21)) 22 (.ref q22)) 23 (.ref q23)) 24 (.ref q24)) 25 (.ref q25)) 26 (.ref q26)) 27 (.ref q27)) 28 (.ref q28)) 29 (.ref q29)) 30 (.ref q30))).set 0 (.int (8 : Int32))))] ++ ([(q30, .inl (g 0, 8, .inl (fun _ => 0)))] ++ ([(q29, .inl (g 0, 1600, .inl (fun _ => 0)))] ++ ([(q28, .inl (g 0, 200, .inl (fun _ => 0)))] ++ ([(q27, .inl (g 0, 200, .inl (fun _ => 0)))] ++ ([(q26, .inl (g 0, 4, .inl (fun _ => 0)))] ++ ([(q25, .inl (g 0, 4, .inl (fun _ => 0)))] ++ ([(q24, .inl (g 0, 4, .inl (fun _ => 0)))] ++ ([(q23, .inl (g 0, 900, .inl (fun _ => 0)))] ++ ([(q22, .inl (g 0, 202, .inl (fun _ => 0)))] ++ ([(q21, .inl (g 0, 1000, .inl (fun _ => 0)))] ++ ([(q20, .inl (g 1, 6, .inl (fun _ => 0)))] ++ ([(q19, .inl (g 0, 6, .inl (fun _ => 0)))] ++ ([(q18, .inl (g 0, 6, .inl (fun _ => 0)))] ++ ([(q17, .inl (g 1, 8100, .inl (fun _ => 0)))] ++ ([(q16, .inl (g 0, 2, .inl (fun _ => 0)))] ++ ([(q15, .inl (g 0, 480, .inl (fun _ => 0)))] ++ ([(q14, .inl (g 0, 260, .inl (fun _ => 0)))] ++ ([(q13, .inl (g 0, 260, .inl (fun _ => 0)))] ++ ([(q12, .inl (g 0, 260, .inl (fun _ => 0)))] ++ ([(q11, .inl (g 0, 260, .inl (fun _ => 0)))] ++ ([(q10, .inl (g 0, 260, .inl (fun _ => 0)))] ++ ([(q9, .inl (g 0, 260, .inl (fun _ => 0)))] ++ ([(q8, .inl (g 0, 260, .inl (fun _ => 0)))] ++ ([(q7, .inl (g 0, 260, .inl (fun _ => 0)))] ++ ([(q6, .inl (g 0, 260, .inl (fun _ => 0)))] ++ ([(q5, .inl (g 0, 260, .inl (fun _ => 0)))] ++ ([(q4, .inl (g 0, 260, .inl (fun _ => 0)))] ++ ([(q3, .inl (g 0, 2, .inl (fun _ => 0)))] ++ ([(q2, .inl (g 0, 240, .inl (fun _ => 0)))] ++ ([(q1, .inl (g 0, 120, .inl (fun _ => 0)))] ++ (rest)))))))))))))))))))))))))))))))) H := ⟨hP, hD⟩
      rw [moF_0] at hI
      have hI := mo_fin hI
      refine W.widen (k := 30) (n := 15944) (by omega) (by omega) ?_
      have e : Mo_clamp x1 = (8 : Int32) := by unfold Mo_clamp; simp only [hc262, hc272, if_true, if_false]
      exact W.vret hx hb hr (fun t ht hW => ⟨⟨(am [h, q1, q2, q3, q4, q5, q6, q7, q8, q9, q10, q11, q12, q13, q14, q15, q16, q17, q18, q19, q20, q21, q22, q23, q24, q25, q26, q27, q28, q29, q30]), rfl, rfl, ⟨by rw [ht, e]; exact hI, hKK.moved hW⟩⟩, hS.F ht⟩) hS.2.2 d_Mo_init_284
  · refine lv_iconst (v := 1) hx hb d_Mo_init_265 (by decide) ?_
    refine lv_goto (tgt := 281) hx hb d_Mo_init_266 (by decide) ?_
    refine va_putF (D := D) (ci := 9) (v := .int (1 : Int32)) (ty := .int) (C := R_Mo) (T := T_Mo) (N := 50) hx hb ht in_Mo ty_Mo tyok_Mo nm_Mo hown hK hI.1 hI.2 hS 0 rfl rfl 0 (by decide) (ht _ m_816) (fun _ h9 => h9) rfl hin rfl (by decide +kernel) rfl rfl (by show 0 < 50; decide) d_Mo_init_281 (fun H locs hP hD hS => ?_)
    have hI : Iw D A ([(h, .inr (9, (moF 0 (uV (uV (uV (uV (uV (uV (uV (uV (uV (uV (uV (uV (uV (uV (uV (uV (uV (uV (uV (uV (uV (uV (uV (uV (uV (uV (uV (uV (uV (uV (fun _ => .null) 1 (.ref q1)) 2 (.ref q2)) 3 (.ref q3)) 4 (.ref q4)) 5 (.ref q5)) 6 (.ref q6)) 7 (.ref q7)) 8 (.ref q8)) 9 (.ref q9)) 10 (.ref q10)) 11 (.ref q11)) 12 (.ref q12)) 13 (.ref q13)) 14 (.ref q14)) 15 (.ref q15)) 16 (.ref q16)) 17 (.ref q17)) 18 (.ref q18)) 19 (.ref q19)) 20 (.ref q20)) 21 (.ref q21)) 22 (.ref q22)) 23 (.ref q23)) 24 (.ref q24)) 25 (.ref q25)) 26 (.ref q26)) 27 (.ref q27)) 28 (.ref q28)) 29 (.ref q29)) 30 (.ref q30))).set 0 (.int (1 : Int32))))] ++ ([(q30, .inl (g 0, 8, .inl (fun _ => 0)))] ++ ([(q29, .inl (g 0, 1600, .inl (fun _ => 0)))] ++ ([(q28, .inl (g 0, 200, .inl (fun _ => 0)))] ++ ([(q27, .inl (g 0, 200, .inl (fun _ => 0)))] ++ ([(q26, .inl (g 0, 4, .inl (fun _ => 0)))] ++ ([(q25, .inl (g 0, 4, .inl (fun _ => 0)))] ++ ([(q24, .inl (g 0, 4, .inl (fun _ => 0)))] ++ ([(q23, .inl (g 0, 900, .inl (fun _ => 0)))] ++ ([(q22, .inl (g 0, 202, .inl (fun _ => 0)))] ++ ([(q21, .inl (g 0, 1000, .inl (fun _ => 0)))] ++ ([(q20, .inl (g 1, 6, .inl (fun _ => 0)))] ++ ([(q19, .inl (g 0, 6, .inl (fun _ => 0)))] ++ ([(q18, .inl (g 0, 6, .inl (fun _ => 0)))] ++ ([(q17, .inl (g 1, 8100, .inl (fun _ => 0)))] ++ ([(q16, .inl (g 0, 2, .inl (fun _ => 0)))] ++ ([(q15, .inl (g 0, 480, .inl (fun _ => 0)))] ++ ([(q14, .inl (g 0, 260, .inl (fun _ => 0)))] ++ ([(q13, .inl (g 0, 260, .inl (fun _ => 0)))] ++ ([(q12, .inl (g 0, 260, .inl (fun _ => 0)))] ++ ([(q11, .inl (g 0, 260, .inl (fun _ => 0)))] ++ ([(q10, .inl (g 0, 260, .inl (fun _ => 0)))] ++ ([(q9, .inl (g 0, 260, .inl (fun _ => 0)))] ++ ([(q8, .inl (g 0, 260, .inl (fun _ => 0)))] ++ ([(q7, .inl (g 0, 260, .inl (fun _ => 0)))] ++ ([(q6, .inl (g 0, 260, .inl (fun _ => 0)))] ++ ([(q5, .inl (g 0, 260, .inl (fun _ => 0)))] ++ ([(q4, .inl (g 0, 260, .inl (fun _ => 0)))] ++ ([(q3, .inl (g 0, 2, .inl (fun _ => 0)))] ++ ([(q2, .inl (g 0, 240, .inl (fun _ => 0)))] ++ ([(q1, .inl (g 0, 120, .inl (fun _ => 0)))] ++ (rest)))))))))))))))))))))))))))))))) H := ⟨hP, hD⟩
    rw [moF_0] at hI
    have hI := mo_fin hI
    refine W.widen (k := 30) (n := 15944) (by omega) (by omega) ?_
    have e : Mo_clamp x1 = (1 : Int32) := by unfold Mo_clamp; simp only [hc262, if_true, if_false]
    exact W.vret hx hb hr (fun t ht hW => ⟨⟨(am [h, q1, q2, q3, q4, q5, q6, q7, q8, q9, q10, q11, q12, q13, q14, q15, q16, q17, q18, q19, q20, q21, q22, q23, q24, q25, q26, q27, q28, q29, q30]), rfl, rfl, ⟨by rw [ht, e]; exact hI, hKK.moved hW⟩⟩, hS.F ht⟩) hS.2.2 d_Mo_init_284

