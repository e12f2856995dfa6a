/-! RecordNodeModel(int): a turn of its constructor at a time -/
def Mo_clamp (x : Int32) : Int32 := if 1 ≤ x then (if x ≤ 8 then x else 8) else 1
theorem d_Mo_init_0 : decode prog_11_method_1_code 0 = .ok (.aload_n 0, 1) := by decide +kernel
theorem d_Mo_init_1 : decode prog_11_method_1_code 1 = .ok (.invokespecial 1, 3) := by decide +kernel
theorem d_Mo_init_4 : decode prog_11_method_1_code 4 = .ok (.aload_n 0, 1) := by decide +kernel
theorem d_Mo_init_5 : decode prog_11_method_1_code 5 = .ok (.bipush 120, 2) := by decide +kernel
theorem d_Mo_init_7 : decode prog_11_method_1_code 7 = .ok (.newarray .int, 2) := by decide +kernel
theorem d_Mo_init_9 : decode prog_11_method_1_code 9 = .ok (.putfield 7, 3) := by decide +kernel
theorem d_Mo_init_12 : decode prog_11_method_1_code 12 = .ok (.aload_n 0, 1) := by decide +kernel
theorem d_Mo_init_13 : decode prog_11_method_1_code 13 = .ok (.sipush 240, 3) := by decide +kernel
theorem d_Mo_init_16 : decode prog_11_method_1_code 16 = .ok (.newarray .int, 2) := by decide +kernel
theorem d_Mo_init_18 : decode prog_11_method_1_code 18 = .ok (.putfield 13, 3) := by decide +kernel
theorem d_Mo_init_21 : decode prog_11_method_1_code 21 = .ok (.aload_n 0, 1) := by decide +kernel
theorem d_Mo_init_22 : decode prog_11_method_1_code 22 = .ok (.iconst 2, 1) := by decide +kernel
theorem d_Mo_init_23 : decode prog_11_method_1_code 23 = .ok (.newarray .int, 2) := by decide +kernel
theorem d_Mo_init_25 : decode prog_11_method_1_code 25 = .ok (.putfield 16, 3) := by decide +kernel
theorem d_Mo_init_28 : decode prog_11_method_1_code 28 = .ok (.aload_n 0, 1) := by decide +kernel
theorem d_Mo_init_29 : decode prog_11_method_1_code 29 = .ok (.sipush 260, 3) := by decide +kernel
theorem d_Mo_init_32 : decode prog_11_method_1_code 32 = .ok (.newarray .int, 2) := by decide +kernel
theorem d_Mo_init_34 : decode prog_11_method_1_code 34 = .ok (.putfield 19, 3) := by decide +kernel
theorem d_Mo_init_37 : decode prog_11_method_1_code 37 = .ok (.aload_n 0, 1) := by decide +kernel
theorem d_Mo_init_38 : decode prog_11_method_1_code 38 = .ok (.sipush 260, 3) := by decide +kernel
theorem d_Mo_init_41 : decode prog_11_method_1_code 41 = .ok (.newarray .int, 2) := by decide +kernel
theorem d_Mo_init_43 : decode prog_11_method_1_code 43 = .ok (.putfield 22, 3) := by decide +kernel
theorem d_Mo_init_46 : decode prog_11_method_1_code 46 = .ok (.aload_n 0, 1) := by decide +kernel
theorem d_Mo_init_47 : decode prog_11_method_1_code 47 = .ok (.sipush 260, 3) := by decide +kernel
theorem d_Mo_init_50 : decode prog_11_method_1_code 50 = .ok (.newarray .int, 2) := by decide +kernel
theorem d_Mo_init_52 : decode prog_11_method_1_code 52 = .ok (.putfield 25, 3) := by decide +kernel
theorem d_Mo_init_55 : decode prog_11_method_1_code 55 = .ok (.aload_n 0, 1) := by decide +kernel
theorem d_Mo_init_56 : decode prog_11_method_1_code 56 = .ok (.sipush 260, 3) := by decide +kernel
theorem d_Mo_init_59 : decode prog_11_method_1_code 59 = .ok (.newarray .int, 2) := by decide +kernel
theorem d_Mo_init_61 : decode prog_11_method_1_code 61 = .ok (.putfield 28, 3) := by decide +kernel
theorem d_Mo_init_64 : decode prog_11_method_1_code 64 = .ok (.aload_n 0, 1) := by decide +kernel
theorem d_Mo_init_65 : decode prog_11_method_1_code 65 = .ok (.sipush 260, 3) := by decide +kernel
theorem d_Mo_init_68 : decode prog_11_method_1_code 68 = .ok (.newarray .int, 2) := by decide +kernel
theorem d_Mo_init_70 : decode prog_11_method_1_code 70 = .ok (.putfield 31, 3) := by decide +kernel
theorem d_Mo_init_73 : decode prog_11_method_1_code 73 = .ok (.aload_n 0, 1) := by decide +kernel
theorem d_Mo_init_74 : decode prog_11_method_1_code 74 = .ok (.sipush 260, 3) := by decide +kernel
theorem d_Mo_init_77 : decode prog_11_method_1_code 77 = .ok (.newarray .int, 2) := by decide +kernel
theorem d_Mo_init_79 : decode prog_11_method_1_code 79 = .ok (.putfield 34, 3) := by decide +kernel
theorem d_Mo_init_82 : decode prog_11_method_1_code 82 = .ok (.aload_n 0, 1) := by decide +kernel
theorem d_Mo_init_83 : decode prog_11_method_1_code 83 = .ok (.sipush 260, 3) := by decide +kernel
theorem d_Mo_init_86 : decode prog_11_method_1_code 86 = .ok (.newarray .int, 2) := by decide +kernel
theorem d_Mo_init_88 : decode prog_11_method_1_code 88 = .ok (.putfield 37, 3) := by decide +kernel
theorem d_Mo_init_91 : decode prog_11_method_1_code 91 = .ok (.aload_n 0, 1) := by decide +kernel
theorem d_Mo_init_92 : decode prog_11_method_1_code 92 = .ok (.sipush 260, 3) := by decide +kernel
theorem d_Mo_init_95 : decode prog_11_method_1_code 95 = .ok (.newarray .int, 2) := by decide +kernel
theorem d_Mo_init_97 : decode prog_11_method_1_code 97 = .ok (.putfield 40, 3) := by decide +kernel
theorem d_Mo_init_100 : decode prog_11_method_1_code 100 = .ok (.aload_n 0, 1) := by decide +kernel
theorem d_Mo_init_101 : decode prog_11_method_1_code 101 = .ok (.sipush 260, 3) := by decide +kernel
theorem d_Mo_init_104 : decode prog_11_method_1_code 104 = .ok (.newarray .int, 2) := by decide +kernel
theorem d_Mo_init_106 : decode prog_11_method_1_code 106 = .ok (.putfield 43, 3) := by decide +kernel
theorem d_Mo_init_109 : decode prog_11_method_1_code 109 = .ok (.aload_n 0, 1) := by decide +kernel
theorem d_Mo_init_110 : decode prog_11_method_1_code 110 = .ok (.sipush 260, 3) := by decide +kernel
theorem d_Mo_init_113 : decode prog_11_method_1_code 113 = .ok (.newarray .int, 2) := by decide +kernel
theorem d_Mo_init_115 : decode prog_11_method_1_code 115 = .ok (.putfield 46, 3) := by decide +kernel
theorem d_Mo_init_118 : decode prog_11_method_1_code 118 = .ok (.aload_n 0, 1) := by decide +kernel
theorem d_Mo_init_119 : decode prog_11_method_1_code 119 = .ok (.sipush 260, 3) := by decide +kernel
theorem d_Mo_init_122 : decode prog_11_method_1_code 122 = .ok (.newarray .int, 2) := by decide +kernel
theorem d_Mo_init_124 : decode prog_11_method_1_code 124 = .ok (.putfield 49, 3) := by decide +kernel
theorem d_Mo_init_127 : decode prog_11_method_1_code 127 = .ok (.aload_n 0, 1) := by decide +kernel
theorem d_Mo_init_128 : decode prog_11_method_1_code 128 = .ok (.sipush 480, 3) := by decide +kernel
theorem d_Mo_init_131 : decode prog_11_method_1_code 131 = .ok (.newarray .int, 2) := by decide +kernel
theorem d_Mo_init_133 : decode prog_11_method_1_code 133 = .ok (.putfield 52, 3) := by decide +kernel
theorem d_Mo_init_136 : decode prog_11_method_1_code 136 = .ok (.aload_n 0, 1) := by decide +kernel
theorem d_Mo_init_137 : decode prog_11_method_1_code 137 = .ok (.iconst 2, 1) := by decide +kernel
theorem d_Mo_init_138 : decode prog_11_method_1_code 138 = .ok (.newarray .int, 2) := by decide +kernel
theorem d_Mo_init_140 : decode prog_11_method_1_code 140 = .ok (.putfield 55, 3) := by decide +kernel
theorem d_Mo_init_143 : decode prog_11_method_1_code 143 = .ok (.aload_n 0, 1) := by decide +kernel
theorem d_Mo_init_144 : decode prog_11_method_1_code 144 = .ok (.sipush 8100, 3) := by decide +kernel
theorem d_Mo_init_147 : decode prog_11_method_1_code 147 = .ok (.newarray .boolean, 2) := by decide +kernel
theorem d_Mo_init_149 : decode prog_11_method_1_code 149 = .ok (.putfield 58, 3) := by decide +kernel
theorem d_Mo_init_152 : decode prog_11_method_1_code 152 = .ok (.aload_n 0, 1) := by decide +kernel
theorem d_Mo_init_153 : decode prog_11_method_1_code 153 = .ok (.bipush 6, 2) := by decide +kernel
theorem d_Mo_init_155 : decode prog_11_method_1_code 155 = .ok (.newarray .int, 2) := by decide +kernel
theorem d_Mo_init_157 : decode prog_11_method_1_code 157 = .ok (.putfield 62, 3) := by decide +kernel
theorem d_Mo_init_160 : decode prog_11_method_1_code 160 = .ok (.aload_n 0, 1) := by decide +kernel
theorem d_Mo_init_161 : decode prog_11_method_1_code 161 = .ok (.bipush 6, 2) := by decide +kernel
theorem d_Mo_init_163 : decode prog_11_method_1_code 163 = .ok (.newarray .int, 2) := by decide +kernel
theorem d_Mo_init_165 : decode prog_11_method_1_code 165 = .ok (.putfield 65, 3) := by decide +kernel
theorem d_Mo_init_168 : decode prog_11_method_1_code 168 = .ok (.aload_n 0, 1) := by decide +kernel
theorem d_Mo_init_169 : decode prog_11_method_1_code 169 = .ok (.bipush 6, 2) := by decide +kernel
theorem d_Mo_init_171 : decode prog_11_method_1_code 171 = .ok (.newarray .boolean, 2) := by decide +kernel
theorem d_Mo_init_173 : decode prog_11_method_1_code 173 = .ok (.putfield 68, 3) := by decide +kernel
theorem d_Mo_init_176 : decode prog_11_method_1_code 176 = .ok (.aload_n 0, 1) := by decide +kernel
theorem d_Mo_init_177 : decode prog_11_method_1_code 177 = .ok (.sipush 1000, 3) := by decide +kernel
theorem d_Mo_init_180 : decode prog_11_method_1_code 180 = .ok (.newarray .int, 2) := by decide +kernel
theorem d_Mo_init_182 : decode prog_11_method_1_code 182 = .ok (.putfield 71, 3) := by decide +kernel
theorem d_Mo_init_185 : decode prog_11_method_1_code 185 = .ok (.aload_n 0, 1) := by decide +kernel
theorem d_Mo_init_186 : decode prog_11_method_1_code 186 = .ok (.sipush 202, 3) := by decide +kernel
theorem d_Mo_init_189 : decode prog_11_method_1_code 189 = .ok (.newarray .int, 2) := by decide +kernel
theorem d_Mo_init_191 : decode prog_11_method_1_code 191 = .ok (.putfield 74, 3) := by decide +kernel
theorem d_Mo_init_194 : decode prog_11_method_1_code 194 = .ok (.aload_n 0, 1) := by decide +kernel
theorem d_Mo_init_195 : decode prog_11_method_1_code 195 = .ok (.sipush 900, 3) := by decide +kernel
theorem d_Mo_init_198 : decode prog_11_method_1_code 198 = .ok (.newarray .int, 2) := by decide +kernel
theorem d_Mo_init_200 : decode prog_11_method_1_code 200 = .ok (.putfield 77, 3) := by decide +kernel
theorem d_Mo_init_203 : decode prog_11_method_1_code 203 = .ok (.aload_n 0, 1) := by decide +kernel
theorem d_Mo_init_204 : decode prog_11_method_1_code 204 = .ok (.iconst 4, 1) := by decide +kernel
theorem d_Mo_init_205 : decode prog_11_method_1_code 205 = .ok (.newarray .int, 2) := by decide +kernel
theorem d_Mo_init_207 : decode prog_11_method_1_code 207 = .ok (.putfield 80, 3) := by decide +kernel
theorem d_Mo_init_210 : decode prog_11_method_1_code 210 = .ok (.aload_n 0, 1) := by decide +kernel
theorem d_Mo_init_211 : decode prog_11_method_1_code 211 = .ok (.iconst 4, 1) := by decide +kernel
theorem d_Mo_init_212 : decode prog_11_method_1_code 212 = .ok (.newarray .int, 2) := by decide +kernel
theorem d_Mo_init_214 : decode prog_11_method_1_code 214 = .ok (.putfield 83, 3) := by decide +kernel
theorem d_Mo_init_217 : decode prog_11_method_1_code 217 = .ok (.aload_n 0, 1) := by decide +kernel
theorem d_Mo_init_218 : decode prog_11_method_1_code 218 = .ok (.iconst 4, 1) := by decide +kernel
theorem d_Mo_init_219 : decode prog_11_method_1_code 219 = .ok (.newarray .int, 2) := by decide +kernel
theorem d_Mo_init_221 : decode prog_11_method_1_code 221 = .ok (.putfield 86, 3) := by decide +kernel
theorem d_Mo_init_224 : decode prog_11_method_1_code 224 = .ok (.aload_n 0, 1) := by decide +kernel
theorem d_Mo_init_225 : decode prog_11_method_1_code 225 = .ok (.sipush 200, 3) := by decide +kernel
theorem d_Mo_init_228 : decode prog_11_method_1_code 228 = .ok (.newarray .int, 2) := by decide +kernel
theorem d_Mo_init_230 : decode prog_11_method_1_code 230 = .ok (.putfield 89, 3) := by decide +kernel
theorem d_Mo_init_233 : decode prog_11_method_1_code 233 = .ok (.aload_n 0, 1) := by decide +kernel
theorem d_Mo_init_234 : decode prog_11_method_1_code 234 = .ok (.sipush 200, 3) := by decide +kernel
theorem d_Mo_init_237 : decode prog_11_method_1_code 237 = .ok (.newarray .int, 2) := by decide +kernel
theorem d_Mo_init_239 : decode prog_11_method_1_code 239 = .ok (.putfield 92, 3) := by decide +kernel
theorem d_Mo_init_242 : decode prog_11_method_1_code 242 = .ok (.aload_n 0, 1) := by decide +kernel
theorem d_Mo_init_243 : decode prog_11_method_1_code 243 = .ok (.sipush 1600, 3) := by decide +kernel
theorem d_Mo_init_246 : decode prog_11_method_1_code 246 = .ok (.newarray .int, 2) := by decide +kernel
theorem d_Mo_init_248 : decode prog_11_method_1_code 248 = .ok (.putfield 95, 3) := by decide +kernel
theorem d_Mo_init_251 : decode prog_11_method_1_code 251 = .ok (.aload_n 0, 1) := by decide +kernel
theorem d_Mo_init_252 : decode prog_11_method_1_code 252 = .ok (.bipush 8, 2) := by decide +kernel
theorem d_Mo_init_254 : decode prog_11_method_1_code 254 = .ok (.newarray .int, 2) := by decide +kernel
theorem d_Mo_init_256 : decode prog_11_method_1_code 256 = .ok (.putfield 98, 3) := by decide +kernel
theorem d_Mo_init_259 : decode prog_11_method_1_code 259 = .ok (.aload_n 0, 1) := by decide +kernel
theorem d_Mo_init_260 : decode prog_11_method_1_code 260 = .ok (.iload_n 1, 1) := by decide +kernel
theorem d_Mo_init_261 : decode prog_11_method_1_code 261 = .ok (.iconst 1, 1) := by decide +kernel
theorem d_Mo_init_262 : decode prog_11_method_1_code 262 = .ok (.if_icmp .ge 7, 3) := by decide +kernel
theorem d_Mo_init_265 : decode prog_11_method_1_code 265 = .ok (.iconst 1, 1) := by decide +kernel
theorem d_Mo_init_266 : decode prog_11_method_1_code 266 = .ok (.goto 15, 3) := by decide +kernel
theorem d_Mo_init_269 : decode prog_11_method_1_code 269 = .ok (.iload_n 1, 1) := by decide +kernel
theorem d_Mo_init_270 : decode prog_11_method_1_code 270 = .ok (.bipush 8, 2) := by decide +kernel
theorem d_Mo_init_272 : decode prog_11_method_1_code 272 = .ok (.if_icmp .le 8, 3) := by decide +kernel
theorem d_Mo_init_275 : decode prog_11_method_1_code 275 = .ok (.bipush 8, 2) := by decide +kernel
theorem d_Mo_init_277 : decode prog_11_method_1_code 277 = .ok (.goto 4, 3) := by decide +kernel
theorem d_Mo_init_280 : decode prog_11_method_1_code 280 = .ok (.iload_n 1, 1) := by decide +kernel
theorem d_Mo_init_281 : decode prog_11_method_1_code 281 = .ok (.putfield 101, 3) := by decide +kernel
theorem d_Mo_init_284 : decode prog_11_method_1_code 284 = .ok (.return_, 1) := by decide +kernel
def ws_Mo_init : List Cond := .code y_Mo_init prog_11_method_1_code 2 none :: TB
def uV (v : Nat → Value) (i : Nat) (x : Value) : Nat → Value := fun j => if j = i then x else v j
def moF (r : Int32) (v : Nat → Value) : List Value := [.int r, .int 0, v 1, .int 0, v 2, .int 0, v 3, v 4, v 5, v 6, v 7, v 8, v 9, v 10, v 11, v 12, v 13, v 14, v 15, v 16, v 17, .int 0, v 18, v 19, v 20, .int 0, v 21, .int 0, .int 0, .int 0, v 22, .int 0, v 23, .int 0, .int 0, v 24, v 25, v 26, .int 0, v 27, .int 0, v 28, .int 0, .int 0, .int 0, .int 0, .int 0, .int 0, v 29, v 30]
theorem moF_1 (r : Int32) (v : Nat → Value) (q : Nat) : (moF r v).set 2 (.ref q) = moF r (uV v 1 (.ref q)) := rfl
theorem moF_2 (r : Int32) (v : Nat → Value) (q : Nat) : (moF r v).set 4 (.ref q) = moF r (uV v 2 (.ref q)) := rfl
theorem moF_3 (r : Int32) (v : Nat → Value) (q : Nat) : (moF r v).set 6 (.ref q) = moF r (uV v 3 (.ref q)) := rfl
theorem moF_4 (r : Int32) (v : Nat → Value) (q : Nat) : (moF r v).set 7 (.ref q) = moF r (uV v 4 (.ref q)) := rfl
theorem moF_5 (r : Int32) (v : Nat → Value) (q : Nat) : (moF r v).set 8 (.ref q) = moF r (uV v 5 (.ref q)) := rfl
theorem moF_6 (r : Int32) (v : Nat → Value) (q : Nat) : (moF r v).set 9 (.ref q) = moF r (uV v 6 (.ref q)) := rfl
theorem moF_7 (r : Int32) (v : Nat → Value) (q : Nat) : (moF r v).set 10 (.ref q) = moF r (uV v 7 (.ref q)) := rfl
theorem moF_8 (r : Int32) (v : Nat → Value) (q : Nat) : (moF r v).set 11 (.ref q) = moF r (uV v 8 (.ref q)) := rfl
theorem moF_9 (r : Int32) (v : Nat → Value) (q : Nat) : (moF r v).set 12 (.ref q) = moF r (uV v 9 (.ref q)) := rfl
theorem moF_10 (r : Int32) (v : Nat → Value) (q : Nat) : (moF r v).set 13 (.ref q) = moF r (uV v 10 (.ref q)) := rfl
theorem moF_11 (r : Int32) (v : Nat → Value) (q : Nat) : (moF r v).set 14 (.ref q) = moF r (uV v 11 (.ref q)) := rfl
theorem moF_12 (r : Int32) (v : Nat → Value) (q : Nat) : (moF r v).set 15 (.ref q) = moF r (uV v 12 (.ref q)) := rfl
theorem moF_13 (r : Int32) (v : Nat → Value) (q : Nat) : (moF r v).set 16 (.ref q) = moF r (uV v 13 (.ref q)) := rfl
theorem moF_14 (r : Int32) (v : Nat → Value) (q : Nat) : (moF r v).set 17 (.ref q) = moF r (uV v 14 (.ref q)) := rfl
theorem moF_15 (r : Int32) (v : Nat → Value) (q : Nat) : (moF r v).set 18 (.ref q) = moF r (uV v 15 (.ref q)) := rfl
theorem moF_16 (r : Int32) (v : Nat → Value) (q : Nat) : (moF r v).set 19 (.ref q) = moF r (uV v 16 (.ref q)) := rfl
theorem moF_17 (r : Int32) (v : Nat → Value) (q : Nat) : (moF r v).set 20 (.ref q) = moF r (uV v 17 (.ref q)) := rfl
theorem moF_18 (r : Int32) (v : Nat → Value) (q : Nat) : (moF r v).set 22 (.ref q) = moF r (uV v 18 (.ref q)) := rfl
theorem moF_19 (r : Int32) (v : Nat → Value) (q : Nat) : (moF r v).set 23 (.ref q) = moF r (uV v 19 (.ref q)) := rfl
theorem moF_20 (r : Int32) (v : Nat → Value) (q : Nat) : (moF r v).set 24 (.ref q) = moF r (uV v 20 (.ref q)) := rfl
theorem moF_21 (r : Int32) (v : Nat → Value) (q : Nat) : (moF r v).set 26 (.ref q) = moF r (uV v 21 (.ref q)) := rfl
theorem moF_22 (r : Int32) (v : Nat → Value) (q : Nat) : (moF r v).set 30 (.ref q) = moF r (uV v 22 (.ref q)) := rfl
theorem moF_23 (r : Int32) (v : Nat → Value) (q : Nat) : (moF r v).set 32 (.ref q) = moF r (uV v 23 (.ref q)) := rfl
theorem moF_24 (r : Int32) (v : Nat → Value) (q : Nat) : (moF r v).set 35 (.ref q) = moF r (uV v 24 (.ref q)) := rfl
theorem moF_25 (r : Int32) (v : Nat → Value) (q : Nat) : (moF r v).set 36 (.ref q) = moF r (uV v 25 (.ref q)) := rfl
theorem moF_26 (r : Int32) (v : Nat → Value) (q : Nat) : (moF r v).set 37 (.ref q) = moF r (uV v 26 (.ref q)) := rfl
theorem moF_27 (r : Int32) (v : Nat → Value) (q : Nat) : (moF r v).set 39 (.ref q) = moF r (uV v 27 (.ref q)) := rfl
theorem moF_28 (r : Int32) (v : Nat → Value) (q : Nat) : (moF r v).set 41 (.ref q) = moF r (uV v 28 (.ref q)) := rfl
theorem moF_29 (r : Int32) (v : Nat → Value) (q : Nat) : (moF r v).set 48 (.ref q) = moF r (uV v 29 (.ref q)) := rfl
theorem moF_30 (r : Int32) (v : Nat → Value) (q : Nat) : (moF r v).set 49 (.ref q) = moF r (uV v 30 (.ref q)) := rfl
theorem moF_0 (r x : Int32) (v : Nat → Value) : (moF r v).set 0 (.int x) = moF x v := rfl
theorem mo_ti {p : Program} {l : Launch} {e : Env} {R : Room} {s : State} {m : MethodId} {args : Array Value} {below : List Frame} {meth : Method} {c : Code} {H H0 : Heap} {locs : List Loc} {cells slots : Nat} {Q : State → Prop} {pc : Nat} {ls : Array Slot} {rest : List Value} {D : va_G} {A : Nat → Prop} {g : Nat → ClassId} {cc : ByteArray} {index h : Nat} {v : Nat → Value} {ws : va_W} (hx : p.tables.exec = Jvm.exec) (hb : c.code = cc) (ht : ∀ w ∈ TB, w.before args s = true) (hown : s.vm.findClass R_Mo = some m.cls) (hin : meth.name = "<init>") (harr : (Cond.arrayClass .int).before args s = true) (hK : KK D g s) (hA : ∀ q, H0.size ≤ q → A q) (hI : Iw D A ([(h, .inr (9, moF 0 v))] ++ ws) H) (hS : va_S A H0 H locs) (k i : Nat) (hset : ∀ q, (moF 0 v).set k (.ref q) = moF 0 (uV v i (.ref q))) (hk : k < 50) {n : Int32} (N' : Nat) (hn : ¬ n < 0) (hN : n.toNatClampNeg = N') (hbytes : N' * 4 ≤ 536870912) (hcells : cells + 1 ≤ R.cells) (hslots : slots + N' ≤ R.slots) (hlink : (Cond.fieldLink R_Mo index R_Mo (T_Mo k).2.1 (T_Mo k).2.2.1).before args s = true) (hfin : (T_Mo k).2.2.2 = true) (hdecl : (T_Mo k).1 = R_Mo) (hd : parseFieldDescriptor (T_Mo k).2.2.1 = some (.array .int)) (d1 : decode cc pc = .ok (.newarray .int, 2)) (d2 : decode cc (pc + 2) = .ok (.putfield index, 3))
    (kk : ∀ (q : Nat) (H1 : Heap) (locs1 : List Loc), Iw D A ([(h, .inr (9, moF 0 (uV v i (.ref q))))] ++ ([(q, .inl (g 0, N', .inl (fun _ => 0)))] ++ ws)) H1 → va_S A H0 H1 locs1 → W p l e R s m args below meth c H1 locs1 (cells + 1) (slots + N') Q (F0 m (pc + 2 + 3) ls rest)) : W p l e R s m args below meth c H locs cells slots Q (F0 m pc ls (.int n :: .ref h :: rest)) := by
  refine nw_i hx hb harr hK hI hS hA N' hn hN hbytes hcells hslots d1 (fun q H1 hI1 hS1 => ?_)
  refine va_putF (D := D) (ci := 9) (v := .ref q) (ty := .array .int) (C := R_Mo) (T := T_Mo) (N := 50) hx hb ht in_Mo ty_Mo tyok_Mo nm_Mo hown hK.1 hI1.1 hI1.2 hS1 1 rfl rfl k hk hlink (fun x h9 => by rw [hdecl] at h9; exact h9) hfin hin hdecl hd rfl rfl hk d2 (fun H2 locs2 hP hD hS2 => ?_)
  have hI2 : Iw D A ([(q, .inl (g 0, N', .inl (fun _ => 0)))] ++ ([(h, .inr (9, (moF 0 v).set k (.ref q)))] ++ ws)) H2 := ⟨hP, hD⟩
  rw [hset q] at hI2
  exact kk q H2 locs2 (hI2.pm mv_1) hS2
theorem mo_tz {p : Program} {l : Launch} {e : Env} {R : Room} {s : State} {m : MethodId} {args : Array Value} {below : List Frame} {meth : Method} {c : Code} {H H0 : Heap} {locs : List Loc} {cells slots : Nat} {Q : State → Prop} {pc : Nat} {ls : Array Slot} {rest : List Value} {D : va_G} {A : Nat → Prop} {g : Nat → ClassId} {cc : ByteArray} {index h : Nat} {v : Nat → Value} {ws : va_W} (hx : p.tables.exec = Jvm.exec) (hb : c.code = cc) (ht : ∀ w ∈ TB, w.before args s = true) (hown : s.vm.findClass R_Mo = some m.cls) (hin : meth.name = "<init>") (harr : (Cond.arrayClass .boolean).before args s = true) (hK : KK D g s) (hA : ∀ q, H0.size ≤ q → A q) (hI : Iw D A ([(h, .inr (9, moF 0 v))] ++ ws) H) (hS : va_S A H0 H locs) (k i : Nat) (hset : ∀ q, (moF 0 v).set k (.ref q) = moF 0 (uV v i (.ref q))) (hk : k < 50) {n : Int32} (N' : Nat) (hn : ¬ n < 0) (hN : n.toNatClampNeg = N') (hbytes : N' * 1 ≤ 536870912) (hcells : cells + 1 ≤ R.cells) (hslots : slots + N' ≤ R.slots) (hlink : (Cond.fieldLink R_Mo index R_Mo (T_Mo k).2.1 (T_Mo k).2.2.1).before args s = true) (hfin : (T_Mo k).2.2.2 = true) (hdecl : (T_Mo k).1 = R_Mo) (hd : parseFieldDescriptor (T_Mo k).2.2.1 = some (.array .boolean)) (d1 : decode cc pc = .ok (.newarray .boolean, 2)) (d2 : decode cc (pc + 2) = .ok (.putfield index, 3))
    (kk : ∀ (q : Nat) (H1 : Heap) (locs1 : List Loc), Iw D A ([(h, .inr (9, moF 0 (uV v i (.ref q))))] ++ ([(q, .inl (g 1, N', .inl (fun _ => 0)))] ++ ws)) H1 → va_S A H0 H1 locs1 → W p l e R s m args below meth c H1 locs1 (cells + 1) (slots + N') Q (F0 m (pc + 2 + 3) ls rest)) : W p l e R s m args below meth c H locs cells slots Q (F0 m pc ls (.int n :: .ref h :: rest)) := by
  refine nw_z hx hb harr hK hI hS hA N' hn hN hbytes hcells hslots d1 (fun q H1 hI1 hS1 => ?_)
  refine va_putF (D := D) (ci := 9) (v := .ref q) (ty := .array .boolean) (C := R_Mo) (T := T_Mo) (N := 50) hx hb ht in_Mo ty_Mo tyok_Mo nm_Mo hown hK.1 hI1.1 hI1.2 hS1 1 rfl rfl k hk hlink (fun x h9 => by rw [hdecl] at h9; exact h9) hfin hin hdecl hd rfl rfl hk d2 (fun H2 locs2 hP hD hS2 => ?_)
  have hI2 : Iw D A ([(q, .inl (g 1, N', .inl (fun _ => 0)))] ++ ([(h, .inr (9, (moF 0 v).set k (.ref q)))] ++ ws)) H2 := ⟨hP, hD⟩
  rw [hset q] at hI2
  exact kk q H2 locs2 (hI2.pm mv_1) hS2
set_option maxRecDepth 100000 in
set_option maxHeartbeats 400000 in
theorem mo_v {h q1 q2 q3 q4 q5 q6 q7 q8 q9 q10 q11 q12 q13 q14 q15 q16 q17 q18 q19 q20 q21 q22 q23 q24 q25 q26 q27 q28 q29 q30 : Nat} {r : Int32} : moF r (uV (uV (uV (uV (uV (uV (uV (uV (uV (uV (uV (uV (uV (uV (uV (uV (uV (uV (uV (uV (uV (uV (uV (uV (uV (uV (uV (uV (uV (uV (fun _ => .null) 1 (.ref q1)) 2 (.ref q2)) 3 (.ref q3)) 4 (.ref q4)) 5 (.ref q5)) 6 (.ref q6)) 7 (.ref q7)) 8 (.ref q8)) 9 (.ref q9)) 10 (.ref q10)) 11 (.ref q11)) 12 (.ref q12)) 13 (.ref q13)) 14 (.ref q14)) 15 (.ref q15)) 16 (.ref q16)) 17 (.ref q17)) 18 (.ref q18)) 19 (.ref q19)) 20 (.ref q20)) 21 (.ref q21)) 22 (.ref q22)) 23 (.ref q23)) 24 (.ref q24)) 25 (.ref q25)) 26 (.ref q26)) 27 (.ref q27)) 28 (.ref q28)) 29 (.ref q29)) 30 (.ref q30)) = moF r (fun j => .ref (am [h, q1, q2, q3, q4, q5, q6, q7, q8, q9, q10, q11, q12, q13, q14, q15, q16, q17, q18, q19, q20, q21, q22, q23, q24, q25, q26, q27, q28, q29, q30] j)) := rfl
set_option maxRecDepth 100000 in
set_option maxHeartbeats 400000 in
theorem mo_p {D : va_G} {A : Nat → Prop} {g : Nat → ClassId} {rest : va_W} {h q1 q2 q3 q4 q5 q6 q7 q8 q9 q10 q11 q12 q13 q14 q15 q16 q17 q18 q19 q20 q21 q22 q23 q24 q25 q26 q27 q28 q29 q30 : Nat} {X : List Value} {H : Heap} (hI : Iw D A ([(h, .inr (9, X))] ++ ([(q30, .inl (g 0, 8, .inl (fun _ => 0)))] ++ ([(q29, .inl (g 0, 1600, .inl (fun _ => 0)))] ++ ([(q28, .inl (g 0, 200, .inl (fun _ => 0)))] ++ ([(q27, .inl (g 0, 200, .inl (fun _ => 0)))] ++ ([(q26, .inl (g 0, 4, .inl (fun _ => 0)))] ++ ([(q25, .inl (g 0, 4, .inl (fun _ => 0)))] ++ ([(q24, .inl (g 0, 4, .inl (fun _ => 0)))] ++ ([(q23, .inl (g 0, 900, .inl (fun _ => 0)))] ++ ([(q22, .inl (g 0, 202, .inl (fun _ => 0)))] ++ ([(q21, .inl (g 0, 1000, .inl (fun _ => 0)))] ++ ([(q20, .inl (g 1, 6, .inl (fun _ => 0)))] ++ ([(q19, .inl (g 0, 6, .inl (fun _ => 0)))] ++ ([(q18, .inl (g 0, 6, .inl (fun _ => 0)))] ++ ([(q17, .inl (g 1, 8100, .inl (fun _ => 0)))] ++ ([(q16, .inl (g 0, 2, .inl (fun _ => 0)))] ++ ([(q15, .inl (g 0, 480, .inl (fun _ => 0)))] ++ ([(q14, .inl (g 0, 260, .inl (fun _ => 0)))] ++ ([(q13, .inl (g 0, 260, .inl (fun _ => 0)))] ++ ([(q12, .inl (g 0, 260, .inl (fun _ => 0)))] ++ ([(q11, .inl (g 0, 260, .inl (fun _ => 0)))] ++ ([(q10, .inl (g 0, 260, .inl (fun _ => 0)))] ++ ([(q9, .inl (g 0, 260, .inl (fun _ => 0)))] ++ ([(q8, .inl (g 0, 260, .inl (fun _ => 0)))] ++ ([(q7, .inl (g 0, 260, .inl (fun _ => 0)))] ++ ([(q6, .inl (g 0, 260, .inl (fun _ => 0)))] ++ ([(q5, .inl (g 0, 260, .inl (fun _ => 0)))] ++ ([(q4, .inl (g 0, 260, .inl (fun _ => 0)))] ++ ([(q3, .inl (g 0, 2, .inl (fun _ => 0)))] ++ ([(q2, .inl (g 0, 240, .inl (fun _ => 0)))] ++ ([(q1, .inl (g 0, 120, .inl (fun _ => 0)))] ++ (rest)))))))))))))))))))))))))))))))) H) : Iw D A (fl [[(h, .inr (9, X))], [(q1, .inl (g 0, 120, .inl (fun _ => 0)))], [(q2, .inl (g 0, 240, .inl (fun _ => 0)))], [(q3, .inl (g 0, 2, .inl (fun _ => 0)))], [(q4, .inl (g 0, 260, .inl (fun _ => 0)))], [(q5, .inl (g 0, 260, .inl (fun _ => 0)))], [(q6, .inl (g 0, 260, .inl (fun _ => 0)))], [(q7, .inl (g 0, 260, .inl (fun _ => 0)))], [(q8, .inl (g 0, 260, .inl (fun _ => 0)))], [(q9, .inl (g 0, 260, .inl (fun _ => 0)))], [(q10, .inl (g 0, 260, .inl (fun _ => 0)))], [(q11, .inl (g 0, 260, .inl (fun _ => 0)))], [(q12, .inl (g 0, 260, .inl (fun _ => 0)))], [(q13, .inl (g 0, 260, .inl (fun _ => 0)))], [(q14, .inl (g 0, 260, .inl (fun _ => 0)))], [(q15, .inl (g 0, 480, .inl (fun _ => 0)))], [(q16, .inl (g 0, 2, .inl (fun _ => 0)))], [(q17, .inl (g 1, 8100, .inl (fun _ => 0)))], [(q18, .inl (g 0, 6, .inl (fun _ => 0)))], [(q19, .inl (g 0, 6, .inl (fun _ => 0)))], [(q20, .inl (g 1, 6, .inl (fun _ => 0)))], [(q21, .inl (g 0, 1000, .inl (fun _ => 0)))], [(q22, .inl (g 0, 202, .inl (fun _ => 0)))], [(q23, .inl (g 0, 900, .inl (fun _ => 0)))], [(q24, .inl (g 0, 4, .inl (fun _ => 0)))], [(q25, .inl (g 0, 4, .inl (fun _ => 0)))], [(q26, .inl (g 0, 4, .inl (fun _ => 0)))], [(q27, .inl (g 0, 200, .inl (fun _ => 0)))], [(q28, .inl (g 0, 200, .inl (fun _ => 0)))], [(q29, .inl (g 0, 1600, .inl (fun _ => 0)))], [(q30, .inl (g 0, 8, .inl (fun _ => 0)))]] rest) H :=
  hI.pm (pmn (rest := rest) [[(h, .inr (9, X))], [(q30, .inl (g 0, 8, .inl (fun _ => 0)))], [(q29, .inl (g 0, 1600, .inl (fun _ => 0)))], [(q28, .inl (g 0, 200, .inl (fun _ => 0)))], [(q27, .inl (g 0, 200, .inl (fun _ => 0)))], [(q26, .inl (g 0, 4, .inl (fun _ => 0)))], [(q25, .inl (g 0, 4, .inl (fun _ => 0)))], [(q24, .inl (g 0, 4, .inl (fun _ => 0)))], [(q23, .inl (g 0, 900, .inl (fun _ => 0)))], [(q22, .inl (g 0, 202, .inl (fun _ => 0)))], [(q21, .inl (g 0, 1000, .inl (fun _ => 0)))], [(q20, .inl (g 1, 6, .inl (fun _ => 0)))], [(q19, .inl (g 0, 6, .inl (fun _ => 0)))], [(q18, .inl (g 0, 6, .inl (fun _ => 0)))], [(q17, .inl (g 1, 8100, .inl (fun _ => 0)))], [(q16, .inl (g 0, 2, .inl (fun _ => 0)))], [(q15, .inl (g 0, 480, .inl (fun _ => 0)))], [(q14, .inl (g 0, 260, .inl (fun _ => 0)))], [(q13, .inl (g 0, 260, .inl (fun _ => 0)))], [(q12, .inl (g 0, 260, .inl (fun _ => 0)))], [(q11, .inl (g 0, 260, .inl (fun _ => 0)))], [(q10, .inl (g 0, 260, .inl (fun _ => 0)))], [(q9, .inl (g 0, 260, .inl (fun _ => 0)))], [(q8, .inl (g 0, 260, .inl (fun _ => 0)))], [(q7, .inl (g 0, 260, .inl (fun _ => 0)))], [(q6, .inl (g 0, 260, .inl (fun _ => 0)))], [(q5, .inl (g 0, 260, .inl (fun _ => 0)))], [(q4, .inl (g 0, 260, .inl (fun _ => 0)))], [(q3, .inl (g 0, 2, .inl (fun _ => 0)))], [(q2, .inl (g 0, 240, .inl (fun _ => 0)))], [(q1, .inl (g 0, 120, .inl (fun _ => 0)))]] [[(h, .inr (9, X))], [(q1, .inl (g 0, 120, .inl (fun _ => 0)))], [(q2, .inl (g 0, 240, .inl (fun _ => 0)))], [(q3, .inl (g 0, 2, .inl (fun _ => 0)))], [(q4, .inl (g 0, 260, .inl (fun _ => 0)))], [(q5, .inl (g 0, 260, .inl (fun _ => 0)))], [(q6, .inl (g 0, 260, .inl (fun _ => 0)))], [(q7, .inl (g 0, 260, .inl (fun _ => 0)))], [(q8, .inl (g 0, 260, .inl (fun _ => 0)))], [(q9, .inl (g 0, 260, .inl (fun _ => 0)))], [(q10, .inl (g 0, 260, .inl (fun _ => 0)))], [(q11, .inl (g 0, 260, .inl (fun _ => 0)))], [(q12, .inl (g 0, 260, .inl (fun _ => 0)))], [(q13, .inl (g 0, 260, .inl (fun _ => 0)))], [(q14, .inl (g 0, 260, .inl (fun _ => 0)))], [(q15, .inl (g 0, 480, .inl (fun _ => 0)))], [(q16, .inl (g 0, 2, .inl (fun _ => 0)))], [(q17, .inl (g 1, 8100, .inl (fun _ => 0)))], [(q18, .inl (g 0, 6, .inl (fun _ => 0)))], [(q19, .inl (g 0, 6, .inl (fun _ => 0)))], [(q20, .inl (g 1, 6, .inl (fun _ => 0)))], [(q21, .inl (g 0, 1000, .inl (fun _ => 0)))], [(q22, .inl (g 0, 202, .inl (fun _ => 0)))], [(q23, .inl (g 0, 900, .inl (fun _ => 0)))], [(q24, .inl (g 0, 4, .inl (fun _ => 0)))], [(q25, .inl (g 0, 4, .inl (fun _ => 0)))], [(q26, .inl (g 0, 4, .inl (fun _ => 0)))], [(q27, .inl (g 0, 200, .inl (fun _ => 0)))], [(q28, .inl (g 0, 200, .inl (fun _ => 0)))], [(q29, .inl (g 0, 1600, .inl (fun _ => 0)))], [(q30, .inl (g 0, 8, .inl (fun _ => 0)))]] [0, 30, 29, 28, 27, 26, 25, 24, 23, 22, 21, 20, 19, 18, 17, 16, 15, 14, 13, 12, 11, 10, 9, 8, 7, 6, 5, 4, 3, 2, 1] 31 rfl rfl (by decide))
set_option maxRecDepth 100000 in
set_option maxHeartbeats 400000 in
theorem mo_fin {D : va_G} {A : Nat → Prop} {g : Nat → ClassId} {rest : va_W} {h q1 q2 q3 q4 q5 q6 q7 q8 q9 q10 q11 q12 q13 q14 q15 q16 q17 q18 q19 q20 q21 q22 q23 q24 q25 q26 q27 q28 q29 q30 : Nat} {r : Int32} {H : Heap} (hI : Iw D A ([(h, .inr (9, moF r (uV (uV (uV (uV (uV (uV (uV (uV (uV (uV (uV (uV (uV (uV (uV (uV (uV (uV (uV (uV (uV (uV (uV (uV (uV (uV (uV (uV (uV (uV (fun _ => .null) 1 (.ref q1)) 2 (.ref q2)) 3 (.ref q3)) 4 (.ref q4)) 5 (.ref q5)) 6 (.ref q6)) 7 (.ref q7)) 8 (.ref q8)) 9 (.ref q9)) 10 (.ref q10)) 11 (.ref q11)) 12 (.ref q12)) 13 (.ref q13)) 14 (.ref q14)) 15 (.ref q15)) 16 (.ref q16)) 17 (.ref q17)) 18 (.ref q18)) 19 (.ref q19)) 20 (.ref q20)) 21 (.ref q21)) 22 (.ref q22)) 23 (.ref q23)) 24 (.ref q24)) 25 (.ref q25)) 26 (.ref q26)) 27 (.ref q27)) 28 (.ref q28)) 29 (.ref q29)) 30 (.ref q30))))] ++ ([(q30, .inl (g 0, 8, .inl (fun _ => 0)))] ++ ([(q29, .inl (g 0, 1600, .inl (fun _ => 0)))] ++ ([(q28, .inl (g 0, 200, .inl (fun _ => 0)))] ++ ([(q27, .inl (g 0, 200, .inl (fun _ => 0)))] ++ ([(q26, .inl (g 0, 4, .inl (fun _ => 0)))] ++ ([(q25, .inl (g 0, 4, .inl (fun _ => 0)))] ++ ([(q24, .inl (g 0, 4, .inl (fun _ => 0)))] ++ ([(q23, .inl (g 0, 900, .inl (fun _ => 0)))] ++ ([(q22, .inl (g 0, 202, .inl (fun _ => 0)))] ++ ([(q21, .inl (g 0, 1000, .inl (fun _ => 0)))] ++ ([(q20, .inl (g 1, 6, .inl (fun _ => 0)))] ++ ([(q19, .inl (g 0, 6, .inl (fun _ => 0)))] ++ ([(q18, .inl (g 0, 6, .inl (fun _ => 0)))] ++ ([(q17, .inl (g 1, 8100, .inl (fun _ => 0)))] ++ ([(q16, .inl (g 0, 2, .inl (fun _ => 0)))] ++ ([(q15, .inl (g 0, 480, .inl (fun _ => 0)))] ++ ([(q14, .inl (g 0, 260, .inl (fun _ => 0)))] ++ ([(q13, .inl (g 0, 260, .inl (fun _ => 0)))] ++ ([(q12, .inl (g 0, 260, .inl (fun _ => 0)))] ++ ([(q11, .inl (g 0, 260, .inl (fun _ => 0)))] ++ ([(q10, .inl (g 0, 260, .inl (fun _ => 0)))] ++ ([(q9, .inl (g 0, 260, .inl (fun _ => 0)))] ++ ([(q8, .inl (g 0, 260, .inl (fun _ => 0)))] ++ ([(q7, .inl (g 0, 260, .inl (fun _ => 0)))] ++ ([(q6, .inl (g 0, 260, .inl (fun _ => 0)))] ++ ([(q5, .inl (g 0, 260, .inl (fun _ => 0)))] ++ ([(q4, .inl (g 0, 260, .inl (fun _ => 0)))] ++ ([(q3, .inl (g 0, 2, .inl (fun _ => 0)))] ++ ([(q2, .inl (g 0, 240, .inl (fun _ => 0)))] ++ ([(q1, .inl (g 0, 120, .inl (fun _ => 0)))] ++ (rest)))))))))))))))))))))))))))))))) H) : Iw D A (w_Mo g (am [h, q1, q2, q3, q4, q5, q6, q7, q8, q9, q10, q11, q12, q13, q14, q15, q16, q17, q18, q19, q20, q21, q22, q23, q24, q25, q26, q27, q28, q29, q30]) (i_Mo r) ++ rest) H := by
  rw [mo_v (h := h)] at hI
  exact mo_p hI
