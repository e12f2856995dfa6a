def y_Bs_init : MethodName := ⟨R_Bs, "<init>", "(I)V"⟩
def y_Cs_init : MethodName := ⟨R_Cs, "<init>", "()V"⟩
def y_Mr_init : MethodName := ⟨R_Mr, "<init>", "()V"⟩
def y_Mg_init : MethodName := ⟨R_Mg, "<init>", "()V"⟩
def y_Ou_init : MethodName := ⟨R_Ou, "<init>", "()V"⟩
def y_Rd_init : MethodName := ⟨R_Rd, "<init>", "()V"⟩
def y_Rs_init : MethodName := ⟨R_Rs, "<init>", "(I)V"⟩
def y_Tr_init : MethodName := ⟨R_Tr, "<init>", "()V"⟩
def y_Rn_init : MethodName := ⟨R_Rn, "<init>", "(I)V"⟩
def y_Mo_init : MethodName := ⟨R_Mo, "<init>", "(I)V"⟩
theorem m_23 : Cond.methodLink R_Rn 3 ⟨"java/lang/Object", "<init>", "()V"⟩ ∈ TB := TB_in 101 (by decide +kernel) rfl
theorem m_24 : Cond.instanceMethod ⟨"java/lang/Object", "<init>", "()V"⟩ ∈ TB := TB_in 102 (by decide +kernel) rfl
set_option maxRecDepth 100000 in
theorem m_25 : Cond.code ⟨"java/lang/Object", "<init>", "()V"⟩ object_method_1_code 1 none ∈ TB := TB_in 103 rfl rfl
theorem m_26 : Cond.classLink R_Rn 9 R_Bs ∈ TB := TB_in 104 (by decide +kernel) rfl
theorem m_27 : Cond.instantiable R_Bs 2 ∈ TB := TB_in 105 (by decide +kernel) rfl
theorem m_28 : Cond.methodLink R_Rn 11 y_Bs_init ∈ TB := TB_in 106 (by decide +kernel) rfl
theorem m_29 : Cond.instanceMethod y_Bs_init ∈ TB := TB_in 107 (by decide +kernel) rfl
set_option maxRecDepth 100000 in
theorem m_30 : Cond.code y_Bs_init prog_2_method_1_code 2 none ∈ TB := TB_in 108 rfl rfl
theorem m_31 : Cond.methodLink R_Bs 3 ⟨"java/lang/Object", "<init>", "()V"⟩ ∈ TB := TB_in 109 (by decide +kernel) rfl
theorem m_39 : Cond.arrayClass .int ∈ TB := TB_in 117 (by decide +kernel) rfl
theorem m_40 : Cond.classLink R_Rn 33 R_Ou ∈ TB := TB_in 118 (by decide +kernel) rfl
theorem m_41 : Cond.instantiable R_Ou 3 ∈ TB := TB_in 119 (by decide +kernel) rfl
theorem m_42 : Cond.methodLink R_Rn 35 y_Ou_init ∈ TB := TB_in 120 (by decide +kernel) rfl
theorem m_43 : Cond.instanceMethod y_Ou_init ∈ TB := TB_in 121 (by decide +kernel) rfl
set_option maxRecDepth 100000 in
theorem m_44 : Cond.code y_Ou_init prog_6_method_1_code 1 none ∈ TB := TB_in 122 rfl rfl
theorem m_45 : Cond.methodLink R_Ou 3 ⟨"java/lang/Object", "<init>", "()V"⟩ ∈ TB := TB_in 123 (by decide +kernel) rfl
theorem m_56 : Cond.classLink R_Rn 40 R_Cs ∈ TB := TB_in 134 (by decide +kernel) rfl
theorem m_57 : Cond.instantiable R_Cs 4 ∈ TB := TB_in 135 (by decide +kernel) rfl
theorem m_58 : Cond.methodLink R_Rn 42 y_Cs_init ∈ TB := TB_in 136 (by decide +kernel) rfl
theorem m_59 : Cond.instanceMethod y_Cs_init ∈ TB := TB_in 137 (by decide +kernel) rfl
set_option maxRecDepth 100000 in
theorem m_60 : Cond.code y_Cs_init prog_3_method_1_code 1 none ∈ TB := TB_in 138 rfl rfl
theorem m_61 : Cond.methodLink R_Cs 3 ⟨"java/lang/Object", "<init>", "()V"⟩ ∈ TB := TB_in 139 (by decide +kernel) rfl
theorem m_75 : Cond.classLink R_Rn 47 R_Mg ∈ TB := TB_in 153 (by decide +kernel) rfl
theorem m_76 : Cond.instantiable R_Mg 5 ∈ TB := TB_in 154 (by decide +kernel) rfl
theorem m_77 : Cond.methodLink R_Rn 49 y_Mg_init ∈ TB := TB_in 155 (by decide +kernel) rfl
theorem m_78 : Cond.instanceMethod y_Mg_init ∈ TB := TB_in 156 (by decide +kernel) rfl
set_option maxRecDepth 100000 in
theorem m_79 : Cond.code y_Mg_init prog_5_method_1_code 1 none ∈ TB := TB_in 157 rfl rfl
theorem m_80 : Cond.methodLink R_Mg 3 ⟨"java/lang/Object", "<init>", "()V"⟩ ∈ TB := TB_in 158 (by decide +kernel) rfl
theorem m_97 : Cond.classLink R_Rn 54 R_Rs ∈ TB := TB_in 175 (by decide +kernel) rfl
theorem m_98 : Cond.instantiable R_Rs 3 ∈ TB := TB_in 176 (by decide +kernel) rfl
theorem m_99 : Cond.methodLink R_Rn 56 y_Rs_init ∈ TB := TB_in 177 (by decide +kernel) rfl
theorem m_100 : Cond.instanceMethod y_Rs_init ∈ TB := TB_in 178 (by decide +kernel) rfl
set_option maxRecDepth 100000 in
theorem m_101 : Cond.code y_Rs_init prog_8_method_1_code 4 none ∈ TB := TB_in 179 rfl rfl
theorem m_102 : Cond.methodLink R_Rs 3 ⟨"java/lang/Object", "<init>", "()V"⟩ ∈ TB := TB_in 180 (by decide +kernel) rfl
theorem m_103 : Cond.methodLink R_Rs 11 ⟨"java/lang/Math", "min", "(II)I"⟩ ∈ TB := TB_in 181 (by decide +kernel) rfl
theorem m_106 : Cond.methodLink R_Rs 17 ⟨"java/lang/Math", "max", "(II)I"⟩ ∈ TB := TB_in 184 (by decide +kernel) rfl
theorem m_107 : Cond.static ⟨"java/lang/Math", "max", "(II)I"⟩ ∈ TB := TB_in 185 (by decide +kernel) rfl
set_option maxRecDepth 100000 in
theorem m_108 : Cond.code ⟨"java/lang/Math", "max", "(II)I"⟩ prog_15_method_65_code 2 (some .int) ∈ TB := TB_in 186 rfl rfl
theorem m_109 : Cond.classLink R_Rs 20 R_Bs ∈ TB := TB_in 187 (by decide +kernel) rfl
theorem m_111 : Cond.methodLink R_Rs 29 y_Bs_init ∈ TB := TB_in 189 (by decide +kernel) rfl
theorem m_122 : Cond.classLink R_Rn 61 R_Rd ∈ TB := TB_in 200 (by decide +kernel) rfl
theorem m_123 : Cond.instantiable R_Rd 11 ∈ TB := TB_in 201 (by decide +kernel) rfl
theorem m_124 : Cond.methodLink R_Rn 63 y_Rd_init ∈ TB := TB_in 202 (by decide +kernel) rfl
theorem m_125 : Cond.instanceMethod y_Rd_init ∈ TB := TB_in 203 (by decide +kernel) rfl
set_option maxRecDepth 100000 in
theorem m_126 : Cond.code y_Rd_init prog_7_method_1_code 1 none ∈ TB := TB_in 204 rfl rfl
theorem m_127 : Cond.methodLink R_Rd 3 ⟨"java/lang/Object", "<init>", "()V"⟩ ∈ TB := TB_in 205 (by decide +kernel) rfl
theorem m_128 : Cond.classLink R_Rd 9 R_Tr ∈ TB := TB_in 206 (by decide +kernel) rfl
theorem m_129 : Cond.instantiable R_Tr 7 ∈ TB := TB_in 207 (by decide +kernel) rfl
theorem m_130 : Cond.methodLink R_Rd 11 y_Tr_init ∈ TB := TB_in 208 (by decide +kernel) rfl
theorem m_131 : Cond.instanceMethod y_Tr_init ∈ TB := TB_in 209 (by decide +kernel) rfl
set_option maxRecDepth 100000 in
theorem m_132 : Cond.code y_Tr_init prog_9_method_1_code 1 none ∈ TB := TB_in 210 rfl rfl
theorem m_133 : Cond.methodLink R_Tr 3 ⟨"java/lang/Object", "<init>", "()V"⟩ ∈ TB := TB_in 211 (by decide +kernel) rfl
theorem m_156 : Cond.classLink R_Rd 35 R_Bs ∈ TB := TB_in 234 (by decide +kernel) rfl
theorem m_157 : Cond.methodLink R_Rd 37 y_Bs_init ∈ TB := TB_in 235 (by decide +kernel) rfl
theorem m_192 : Cond.arrayClass .boolean ∈ TB := TB_in 270 (by decide +kernel) rfl
theorem m_193 : Cond.classLink R_Rn 71 R_Mr ∈ TB := TB_in 271 (by decide +kernel) rfl
theorem m_194 : Cond.instantiable R_Mr 1 ∈ TB := TB_in 272 (by decide +kernel) rfl
theorem m_195 : Cond.methodLink R_Rn 73 y_Mr_init ∈ TB := TB_in 273 (by decide +kernel) rfl
theorem m_196 : Cond.instanceMethod y_Mr_init ∈ TB := TB_in 274 (by decide +kernel) rfl
set_option maxRecDepth 100000 in
theorem m_197 : Cond.code y_Mr_init prog_4_method_1_code 1 none ∈ TB := TB_in 275 rfl rfl
theorem m_198 : Cond.methodLink R_Mr 3 ⟨"java/lang/Object", "<init>", "()V"⟩ ∈ TB := TB_in 276 (by decide +kernel) rfl
theorem m_815 : Cond.methodLink R_Mo 1 ⟨"java/lang/Object", "<init>", "()V"⟩ ∈ TB := TB_in 893 (by decide +kernel) rfl
