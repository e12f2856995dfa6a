/-! the words that the methods use, by their places -/
theorem mp_0 : Cond.selects R_Rn y_Rn_begin y_Rn_begin ∈ TB := TB_in 0 (by decide +kernel) rfl
theorem mp_1 : Cond.selects R_Rn y_Rn_shut y_Rn_shut ∈ TB := TB_in 1 (by decide +kernel) rfl
theorem mp_2 : Cond.selects R_Rn y_Rn_byteIn y_Rn_byteIn ∈ TB := TB_in 2 (by decide +kernel) rfl
theorem mp_3 : Cond.selects R_Rn y_Rn_refuseLength y_Rn_refuseLength ∈ TB := TB_in 3 (by decide +kernel) rfl
theorem mp_4 : Cond.selects R_Rn y_Rn_breakOff y_Rn_breakOff ∈ TB := TB_in 4 (by decide +kernel) rfl
theorem mp_5 : Cond.selects R_Rn y_Rn_put y_Rn_put ∈ TB := TB_in 5 (by decide +kernel) rfl
theorem mp_6 : Cond.selects R_Rn y_Rn_lookAtPiece y_Rn_lookAtPiece ∈ TB := TB_in 6 (by decide +kernel) rfl
theorem mp_7 : Cond.selects R_Rn y_Rn_lookAtRequest y_Rn_lookAtRequest ∈ TB := TB_in 7 (by decide +kernel) rfl
theorem mp_8 : Cond.selects R_Rn y_Rn_refuse y_Rn_refuse ∈ TB := TB_in 8 (by decide +kernel) rfl
theorem mp_9 : Cond.selects R_Rn y_Rn_accept y_Rn_accept ∈ TB := TB_in 9 (by decide +kernel) rfl
theorem mp_10 : Cond.selects R_Cs y_Cs_has y_Cs_has ∈ TB := TB_in 10 (by decide +kernel) rfl
theorem mp_11 : Cond.selects R_Rn y_Rn_release y_Rn_release ∈ TB := TB_in 11 (by decide +kernel) rfl
theorem mp_12 : Cond.selects R_Rn y_Rn_takeFragment y_Rn_takeFragment ∈ TB := TB_in 12 (by decide +kernel) rfl
theorem mp_13 : Cond.selects R_Rn y_Rn_lookAtCommand y_Rn_lookAtCommand ∈ TB := TB_in 13 (by decide +kernel) rfl
theorem mp_14 : Cond.selects R_Rd y_Rd_enter y_Rd_enter ∈ TB := TB_in 14 (by decide +kernel) rfl
theorem mp_15 : Cond.selects R_Rd y_Rd_endLevel y_Rd_endLevel ∈ TB := TB_in 15 (by decide +kernel) rfl
theorem mp_16 : Cond.selects R_Rd y_Rd_fail y_Rd_fail ∈ TB := TB_in 16 (by decide +kernel) rfl
theorem mp_17 : Cond.selects R_Rd y_Rd_leave y_Rd_leave ∈ TB := TB_in 17 (by decide +kernel) rfl
theorem mp_18 : Cond.selects R_Rd y_Rd_isEndMark y_Rd_isEndMark ∈ TB := TB_in 18 (by decide +kernel) rfl
theorem mp_19 : Cond.selects R_Rd y_Rd_readElement y_Rd_readElement ∈ TB := TB_in 19 (by decide +kernel) rfl
theorem mp_20 : Cond.selects R_Rd y_Rd_readKind y_Rd_readKind ∈ TB := TB_in 20 (by decide +kernel) rfl
theorem mp_21 : Cond.selects R_Rd y_Rd_readLength y_Rd_readLength ∈ TB := TB_in 21 (by decide +kernel) rfl
theorem mp_22 : Cond.selects R_Rd y_Rd_readNumber y_Rd_readNumber ∈ TB := TB_in 22 (by decide +kernel) rfl
theorem mp_23 : Cond.selects R_Rd y_Rd_readText y_Rd_readText ∈ TB := TB_in 23 (by decide +kernel) rfl
theorem mp_24 : Cond.selects R_Rd y_Rd_endOf y_Rd_endOf ∈ TB := TB_in 24 (by decide +kernel) rfl
theorem mp_25 : Cond.selects R_Rd y_Rd_readItem y_Rd_readItem ∈ TB := TB_in 25 (by decide +kernel) rfl
theorem mp_26 : Cond.selects R_Rn y_Rn_answer y_Rn_answer ∈ TB := TB_in 26 (by decide +kernel) rfl
theorem mp_27 : Cond.selects R_Rn y_Rn_reply y_Rn_reply ∈ TB := TB_in 27 (by decide +kernel) rfl
theorem mp_28 : Cond.selects R_Rn y_Rn_startData y_Rn_startData ∈ TB := TB_in 28 (by decide +kernel) rfl
theorem mp_29 : Cond.selects R_Rn y_Rn_store y_Rn_store ∈ TB := TB_in 29 (by decide +kernel) rfl
theorem mp_30 : Cond.selects R_Tr y_Tr_writeNode y_Tr_writeNode ∈ TB := TB_in 30 (by decide +kernel) rfl
theorem mp_31 : Cond.selects R_Tr y_Tr_valueLength y_Tr_valueLength ∈ TB := TB_in 31 (by decide +kernel) rfl
theorem mp_32 : Cond.selects R_Rn y_Rn_find y_Rn_find ∈ TB := TB_in 32 (by decide +kernel) rfl
theorem mp_33 : Cond.selects R_Mr y_Mr_matches y_Mr_matches ∈ TB := TB_in 33 (by decide +kernel) rfl
theorem mp_34 : Cond.selects R_Mr y_Mr_fits y_Mr_fits ∈ TB := TB_in 34 (by decide +kernel) rfl
theorem mp_35 : Cond.selects R_Mr y_Mr_textFits y_Mr_textFits ∈ TB := TB_in 35 (by decide +kernel) rfl
theorem mp_37 : Cond.selects R_Mo y_Mo_readDraft y_Mo_readDraft ∈ TB := TB_in 37 (by decide +kernel) rfl
theorem mp_38 : Cond.selects R_Mo y_Mo_read y_Mo_read ∈ TB := TB_in 38 (by decide +kernel) rfl
theorem mp_39 : Cond.selects R_Mo y_Mo_add y_Mo_add ∈ TB := TB_in 39 (by decide +kernel) rfl
theorem mp_40 : Cond.selects R_Mo y_Mo_push y_Mo_push ∈ TB := TB_in 40 (by decide +kernel) rfl
theorem mp_41 : Cond.selects R_Mo y_Mo_goOn y_Mo_goOn ∈ TB := TB_in 41 (by decide +kernel) rfl
theorem mp_42 : Cond.selects R_Mo y_Mo_wrong y_Mo_wrong ∈ TB := TB_in 42 (by decide +kernel) rfl
theorem mp_43 : Cond.selects R_Mo y_Mo_element y_Mo_element ∈ TB := TB_in 43 (by decide +kernel) rfl
theorem mp_44 : Cond.selects R_Mo y_Mo_whole y_Mo_whole ∈ TB := TB_in 44 (by decide +kernel) rfl
theorem mp_45 : Cond.selects R_Mo y_Mo_spelled y_Mo_spelled ∈ TB := TB_in 45 (by decide +kernel) rfl
theorem mp_46 : Cond.selects R_Mo y_Mo_item y_Mo_item ∈ TB := TB_in 46 (by decide +kernel) rfl
theorem mp_47 : Cond.selects R_Mo y_Mo_canonical y_Mo_canonical ∈ TB := TB_in 47 (by decide +kernel) rfl
theorem mp_48 : Cond.selects R_Mo y_Mo_measure y_Mo_measure ∈ TB := TB_in 48 (by decide +kernel) rfl
theorem mp_49 : Cond.selects R_Mo y_Mo_write y_Mo_write ∈ TB := TB_in 49 (by decide +kernel) rfl
theorem mp_50 : Cond.selects R_Mo y_Mo_make y_Mo_make ∈ TB := TB_in 50 (by decide +kernel) rfl
theorem mp_51 : Cond.selects R_Mo y_Mo_fails y_Mo_fails ∈ TB := TB_in 51 (by decide +kernel) rfl
theorem mp_52 : Cond.selects R_Mo y_Mo_comesTo y_Mo_comesTo ∈ TB := TB_in 52 (by decide +kernel) rfl
theorem mp_53 : Cond.selects R_Mo y_Mo_forget y_Mo_forget ∈ TB := TB_in 53 (by decide +kernel) rfl
theorem mp_54 : Cond.selects R_Mo y_Mo_shut y_Mo_shut ∈ TB := TB_in 54 (by decide +kernel) rfl
theorem mp_55 : Cond.selects R_Mo y_Mo_comes y_Mo_comes ∈ TB := TB_in 55 (by decide +kernel) rfl
theorem mp_56 : Cond.selects R_Mo y_Mo_breakOff y_Mo_breakOff ∈ TB := TB_in 56 (by decide +kernel) rfl
theorem mp_57 : Cond.selects R_Mo y_Mo_sends y_Mo_sends ∈ TB := TB_in 57 (by decide +kernel) rfl
theorem mp_58 : Cond.selects R_Mo y_Mo_piece y_Mo_piece ∈ TB := TB_in 58 (by decide +kernel) rfl
theorem mp_59 : Cond.selects R_Mo y_Mo_isRequest y_Mo_isRequest ∈ TB := TB_in 59 (by decide +kernel) rfl
theorem mp_60 : Cond.selects R_Mo y_Mo_request y_Mo_request ∈ TB := TB_in 60 (by decide +kernel) rfl
theorem mp_61 : Cond.selects R_Mo y_Mo_fragment y_Mo_fragment ∈ TB := TB_in 61 (by decide +kernel) rfl
theorem mp_62 : Cond.selects R_Mo y_Mo_contextOf y_Mo_contextOf ∈ TB := TB_in 62 (by decide +kernel) rfl
theorem mp_63 : Cond.selects R_Mo y_Mo_answer y_Mo_answer ∈ TB := TB_in 63 (by decide +kernel) rfl
theorem mp_64 : Cond.selects R_Mo y_Mo_replies y_Mo_replies ∈ TB := TB_in 64 (by decide +kernel) rfl
theorem mp_65 : Cond.selects R_Mo y_Mo_number y_Mo_number ∈ TB := TB_in 65 (by decide +kernel) rfl
theorem mp_66 : Cond.selects R_Mo y_Mo_store y_Mo_store ∈ TB := TB_in 66 (by decide +kernel) rfl
theorem mp_67 : Cond.selects R_Mo y_Mo_placeOf y_Mo_placeOf ∈ TB := TB_in 67 (by decide +kernel) rfl
theorem mp_68 : Cond.selects R_Mo y_Mo_load y_Mo_load ∈ TB := TB_in 68 (by decide +kernel) rfl
theorem mp_69 : Cond.selects R_Mo y_Mo_find y_Mo_find ∈ TB := TB_in 69 (by decide +kernel) rfl
theorem mp_70 : Cond.selects R_Mo y_Mo_matches y_Mo_matches ∈ TB := TB_in 70 (by decide +kernel) rfl
theorem mp_71 : Cond.selects R_Mo y_Mo_sets y_Mo_sets ∈ TB := TB_in 71 (by decide +kernel) rfl
theorem mp_72 : Cond.selects R_Mo y_Mo_fitsSet y_Mo_fitsSet ∈ TB := TB_in 72 (by decide +kernel) rfl
theorem mp_73 : Cond.selects R_Mo y_Mo_fitsElement y_Mo_fitsElement ∈ TB := TB_in 73 (by decide +kernel) rfl
theorem mp_74 : Cond.selects R_Mo y_Mo_likes y_Mo_likes ∈ TB := TB_in 74 (by decide +kernel) rfl
theorem mp_75 : Cond.selects R_Mo y_Mo_shows y_Mo_shows ∈ TB := TB_in 75 (by decide +kernel) rfl
theorem mp_76 : Cond.selects R_Mo y_Mo_commanded y_Mo_commanded ∈ TB := TB_in 76 (by decide +kernel) rfl
theorem mp_77 : Cond.selects R_Mo y_Mo_numberAt y_Mo_numberAt ∈ TB := TB_in 77 (by decide +kernel) rfl
theorem m_1 : Cond.initialized R_Rn ∈ TB := TB_in 79 (by decide +kernel) rfl
theorem m_2 : Cond.initialized R_Bs ∈ TB := TB_in 80 (by decide +kernel) rfl
theorem m_3 : Cond.initialized R_Ou ∈ TB := TB_in 81 (by decide +kernel) rfl
theorem m_4 : Cond.initialized R_Cs ∈ TB := TB_in 82 (by decide +kernel) rfl
theorem m_5 : Cond.initialized R_Mg ∈ TB := TB_in 83 (by decide +kernel) rfl
theorem m_6 : Cond.initialized R_Rs ∈ TB := TB_in 84 (by decide +kernel) rfl
theorem m_7 : Cond.initialized "java/lang/Math" ∈ TB := TB_in 85 (by decide +kernel) rfl
theorem m_8 : Cond.initialized R_Rd ∈ TB := TB_in 86 (by decide +kernel) rfl
theorem m_9 : Cond.initialized R_Tr ∈ TB := TB_in 87 (by decide +kernel) rfl
theorem m_10 : Cond.initialized R_Mr ∈ TB := TB_in 88 (by decide +kernel) rfl
theorem m_11 : Cond.initialized R_Mo ∈ TB := TB_in 89 (by decide +kernel) rfl
theorem m_32 : Cond.fieldLink R_Bs 9 "RecordNode$Bytes" "values" "[I" ∈ TB := TB_in 110 (by decide +kernel) rfl
theorem m_33 : Cond.fieldLink R_Bs 15 "RecordNode$Bytes" "count" "I" ∈ TB := TB_in 111 (by decide +kernel) rfl
theorem m_46 : Cond.fieldLink R_Ou 9 "RecordNode$Output" "values" "[I" ∈ TB := TB_in 124 (by decide +kernel) rfl
theorem m_47 : Cond.fieldLink R_Ou 15 "RecordNode$Output" "first" "I" ∈ TB := TB_in 125 (by decide +kernel) rfl
theorem m_48 : Cond.fieldLink R_Ou 19 "RecordNode$Output" "count" "I" ∈ TB := TB_in 126 (by decide +kernel) rfl
theorem m_62 : Cond.fieldLink R_Cs 11 "RecordNode$Contexts" "ids" "[I" ∈ TB := TB_in 140 (by decide +kernel) rfl
theorem m_63 : Cond.fieldLink R_Cs 15 "RecordNode$Contexts" "services" "[I" ∈ TB := TB_in 141 (by decide +kernel) rfl
theorem m_64 : Cond.fieldLink R_Cs 18 "RecordNode$Contexts" "results" "[I" ∈ TB := TB_in 142 (by decide +kernel) rfl
theorem m_65 : Cond.fieldLink R_Cs 21 "RecordNode$Contexts" "count" "I" ∈ TB := TB_in 143 (by decide +kernel) rfl
theorem m_81 : Cond.fieldLink R_Mg 11 "RecordNode$Message" "stage" "I" ∈ TB := TB_in 159 (by decide +kernel) rfl
theorem m_82 : Cond.fieldLink R_Mg 15 "RecordNode$Message" "context" "I" ∈ TB := TB_in 160 (by decide +kernel) rfl
theorem m_83 : Cond.fieldLink R_Mg 18 "RecordNode$Message" "kind" "I" ∈ TB := TB_in 161 (by decide +kernel) rfl
theorem m_84 : Cond.fieldLink R_Mg 21 "RecordNode$Message" "number" "I" ∈ TB := TB_in 162 (by decide +kernel) rfl
theorem m_85 : Cond.fieldLink R_Mg 24 "RecordNode$Message" "hasSet" "Z" ∈ TB := TB_in 163 (by decide +kernel) rfl
theorem m_104 : Cond.static ⟨"java/lang/Math", "min", "(II)I"⟩ ∈ TB := TB_in 182 (by decide +kernel) rfl
set_option maxRecDepth 100000 in
theorem m_105 : Cond.code ⟨"java/lang/Math", "min", "(II)I"⟩ prog_15_method_69_code 2 (some .int) ∈ TB := TB_in 183 rfl rfl
theorem m_112 : Cond.fieldLink R_Rs 22 "RecordNode$Records" "names" "[LRecordNode$Bytes;" ∈ TB := TB_in 190 (by decide +kernel) rfl
theorem m_113 : Cond.fieldLink R_Rs 26 "RecordNode$Records" "bytes" "[LRecordNode$Bytes;" ∈ TB := TB_in 191 (by decide +kernel) rfl
theorem m_114 : Cond.fieldLink R_Rs 32 "RecordNode$Records" "count" "I" ∈ TB := TB_in 192 (by decide +kernel) rfl
theorem m_134 : Cond.fieldLink R_Tr 9 "RecordNode$Tree" "tags" "[I" ∈ TB := TB_in 212 (by decide +kernel) rfl
theorem m_135 : Cond.fieldLink R_Tr 15 "RecordNode$Tree" "behind" "[I" ∈ TB := TB_in 213 (by decide +kernel) rfl
theorem m_136 : Cond.fieldLink R_Tr 18 "RecordNode$Tree" "values" "[I" ∈ TB := TB_in 214 (by decide +kernel) rfl
theorem m_137 : Cond.fieldLink R_Tr 21 "RecordNode$Tree" "lengths" "[I" ∈ TB := TB_in 215 (by decide +kernel) rfl
theorem m_138 : Cond.fieldLink R_Tr 24 "RecordNode$Tree" "characters" "[I" ∈ TB := TB_in 216 (by decide +kernel) rfl
theorem m_139 : Cond.fieldLink R_Tr 27 "RecordNode$Tree" "count" "I" ∈ TB := TB_in 217 (by decide +kernel) rfl
theorem m_140 : Cond.fieldLink R_Tr 31 "RecordNode$Tree" "characterCount" "I" ∈ TB := TB_in 218 (by decide +kernel) rfl
theorem m_158 : Cond.fieldLink R_Rd 12 "RecordNode$Reader" "tree" "LRecordNode$Tree;" ∈ TB := TB_in 236 (by decide +kernel) rfl
theorem m_159 : Cond.fieldLink R_Rd 18 "RecordNode$Reader" "nodes" "[I" ∈ TB := TB_in 237 (by decide +kernel) rfl
theorem m_160 : Cond.fieldLink R_Rd 22 "RecordNode$Reader" "ends" "[I" ∈ TB := TB_in 238 (by decide +kernel) rfl
theorem m_161 : Cond.fieldLink R_Rd 25 "RecordNode$Reader" "isOpen" "[Z" ∈ TB := TB_in 239 (by decide +kernel) rfl
theorem m_162 : Cond.fieldLink R_Rd 29 "RecordNode$Reader" "counts" "[I" ∈ TB := TB_in 240 (by decide +kernel) rfl
theorem m_163 : Cond.fieldLink R_Rd 32 "RecordNode$Reader" "lastTags" "[I" ∈ TB := TB_in 241 (by decide +kernel) rfl
theorem m_164 : Cond.fieldLink R_Rd 40 "RecordNode$Reader" "source" "LRecordNode$Bytes;" ∈ TB := TB_in 242 (by decide +kernel) rfl
theorem m_165 : Cond.fieldLink R_Rd 44 "RecordNode$Reader" "syntax" "I" ∈ TB := TB_in 243 (by decide +kernel) rfl
theorem m_166 : Cond.fieldLink R_Rd 48 "RecordNode$Reader" "position" "I" ∈ TB := TB_in 244 (by decide +kernel) rfl
theorem m_167 : Cond.fieldLink R_Rd 51 "RecordNode$Reader" "level" "I" ∈ TB := TB_in 245 (by decide +kernel) rfl
theorem m_168 : Cond.fieldLink R_Rd 54 "RecordNode$Reader" "result" "I" ∈ TB := TB_in 246 (by decide +kernel) rfl
theorem m_199 : Cond.fieldLink R_Mr 9 "RecordNode$Matcher" "reach" "[Z" ∈ TB := TB_in 277 (by decide +kernel) rfl
theorem m_203 : Cond.fieldLink R_Rn 14 "RecordNode" "draft" "LRecordNode$Bytes;" ∈ TB := TB_in 281 (by decide +kernel) rfl
theorem m_204 : Cond.fieldLink R_Rn 18 "RecordNode" "canonical" "LRecordNode$Bytes;" ∈ TB := TB_in 282 (by decide +kernel) rfl
theorem m_205 : Cond.fieldLink R_Rn 21 "RecordNode" "name" "LRecordNode$Bytes;" ∈ TB := TB_in 283 (by decide +kernel) rfl
theorem m_206 : Cond.fieldLink R_Rn 24 "RecordNode" "input" "LRecordNode$Bytes;" ∈ TB := TB_in 284 (by decide +kernel) rfl
theorem m_207 : Cond.fieldLink R_Rn 27 "RecordNode" "part" "LRecordNode$Bytes;" ∈ TB := TB_in 285 (by decide +kernel) rfl
theorem m_208 : Cond.fieldLink R_Rn 30 "RecordNode" "body" "LRecordNode$Bytes;" ∈ TB := TB_in 286 (by decide +kernel) rfl
theorem m_209 : Cond.fieldLink R_Rn 36 "RecordNode" "output" "LRecordNode$Output;" ∈ TB := TB_in 287 (by decide +kernel) rfl
theorem m_210 : Cond.fieldLink R_Rn 43 "RecordNode" "contexts" "LRecordNode$Contexts;" ∈ TB := TB_in 288 (by decide +kernel) rfl
theorem m_211 : Cond.fieldLink R_Rn 50 "RecordNode" "message" "LRecordNode$Message;" ∈ TB := TB_in 289 (by decide +kernel) rfl
theorem m_212 : Cond.fieldLink R_Rn 57 "RecordNode" "records" "LRecordNode$Records;" ∈ TB := TB_in 290 (by decide +kernel) rfl
theorem m_213 : Cond.fieldLink R_Rn 64 "RecordNode" "reader" "LRecordNode$Reader;" ∈ TB := TB_in 291 (by decide +kernel) rfl
theorem m_214 : Cond.fieldLink R_Rn 68 "RecordNode" "recordReader" "LRecordNode$Reader;" ∈ TB := TB_in 292 (by decide +kernel) rfl
theorem m_215 : Cond.fieldLink R_Rn 74 "RecordNode" "matcher" "LRecordNode$Matcher;" ∈ TB := TB_in 293 (by decide +kernel) rfl
theorem m_216 : Cond.fieldLink R_Rn 78 "RecordNode" "phase" "I" ∈ TB := TB_in 294 (by decide +kernel) rfl
theorem m_217 : Cond.fieldLink R_Rn 82 "RecordNode" "timer" "I" ∈ TB := TB_in 295 (by decide +kernel) rfl
theorem m_218 : Cond.fieldLink R_Rn 85 "RecordNode" "answered" "I" ∈ TB := TB_in 296 (by decide +kernel) rfl
theorem m_256 : Cond.methodLink R_Rn 88 y_Rn_isCount ∈ TB := TB_in 334 (by decide +kernel) rfl
theorem m_257 : Cond.static y_Rn_isCount ∈ TB := TB_in 335 (by decide +kernel) rfl
set_option maxRecDepth 100000 in
theorem m_258 : Cond.code y_Rn_isCount prog_1_method_16_code 1 (some .boolean) ∈ TB := TB_in 336 rfl rfl
theorem m_259 : Cond.methodLink R_Rn 92 y_Bs_hasRoom ∈ TB := TB_in 337 (by decide +kernel) rfl
theorem m_260 : Cond.instanceMethod y_Bs_hasRoom ∈ TB := TB_in 338 (by decide +kernel) rfl
theorem m_261 : Cond.selects R_Bs y_Bs_hasRoom y_Bs_hasRoom ∈ TB := TB_in 339 (by decide +kernel) rfl
set_option maxRecDepth 100000 in
theorem m_262 : Cond.code y_Bs_hasRoom prog_2_method_4_code 2 (some .boolean) ∈ TB := TB_in 340 rfl rfl
theorem m_263 : Cond.methodLink R_Rn 95 y_Rn_byteOf ∈ TB := TB_in 341 (by decide +kernel) rfl
theorem m_264 : Cond.static y_Rn_byteOf ∈ TB := TB_in 342 (by decide +kernel) rfl
set_option maxRecDepth 100000 in
theorem m_265 : Cond.code y_Rn_byteOf prog_1_method_18_code 3 (some .int) ∈ TB := TB_in 343 rfl rfl
theorem m_266 : Cond.methodLink R_Rn 99 y_Bs_append ∈ TB := TB_in 344 (by decide +kernel) rfl
theorem m_267 : Cond.instanceMethod y_Bs_append ∈ TB := TB_in 345 (by decide +kernel) rfl
theorem m_268 : Cond.selects R_Bs y_Bs_append y_Bs_append ∈ TB := TB_in 346 (by decide +kernel) rfl
set_option maxRecDepth 100000 in
theorem m_269 : Cond.code y_Bs_append prog_2_method_5_code 2 none ∈ TB := TB_in 347 rfl rfl
theorem m_274 : Cond.methodLink R_Rn 102 y_Bs_reset ∈ TB := TB_in 352 (by decide +kernel) rfl
theorem m_275 : Cond.instanceMethod y_Bs_reset ∈ TB := TB_in 353 (by decide +kernel) rfl
theorem m_276 : Cond.selects R_Bs y_Bs_reset y_Bs_reset ∈ TB := TB_in 354 (by decide +kernel) rfl
set_option maxRecDepth 100000 in
theorem m_277 : Cond.code y_Bs_reset prog_2_method_2_code 1 none ∈ TB := TB_in 355 rfl rfl
theorem m_282 : Cond.methodLink R_Rn 143 y_Rn_begin ∈ TB := TB_in 360 (by decide +kernel) rfl
theorem m_284 : Cond.instanceMethod y_Rn_begin ∈ TB := TB_in 362 (by decide +kernel) rfl
set_option maxRecDepth 100000 in
theorem m_285 : Cond.code y_Rn_begin prog_1_method_20_code 2 none ∈ TB := TB_in 363 rfl rfl
theorem m_290 : Cond.methodLink R_Rn 146 y_Rn_shut ∈ TB := TB_in 368 (by decide +kernel) rfl
theorem m_292 : Cond.instanceMethod y_Rn_shut ∈ TB := TB_in 370 (by decide +kernel) rfl
set_option maxRecDepth 100000 in
theorem m_293 : Cond.code y_Rn_shut prog_1_method_21_code 1 none ∈ TB := TB_in 371 rfl rfl
theorem m_294 : Cond.methodLink R_Rn 171 y_Mg_reset ∈ TB := TB_in 372 (by decide +kernel) rfl
theorem m_295 : Cond.instanceMethod y_Mg_reset ∈ TB := TB_in 373 (by decide +kernel) rfl
theorem m_296 : Cond.selects R_Mg y_Mg_reset y_Mg_reset ∈ TB := TB_in 374 (by decide +kernel) rfl
set_option maxRecDepth 100000 in
theorem m_297 : Cond.code y_Mg_reset prog_5_method_2_code 1 none ∈ TB := TB_in 375 rfl rfl
theorem m_302 : Cond.methodLink R_Rn 125 y_Bs_count ∈ TB := TB_in 380 (by decide +kernel) rfl
theorem m_303 : Cond.instanceMethod y_Bs_count ∈ TB := TB_in 381 (by decide +kernel) rfl
theorem m_304 : Cond.selects R_Bs y_Bs_count y_Bs_count ∈ TB := TB_in 382 (by decide +kernel) rfl
set_option maxRecDepth 100000 in
theorem m_305 : Cond.code y_Bs_count prog_2_method_3_code 1 (some .int) ∈ TB := TB_in 383 rfl rfl
theorem m_306 : Cond.methodLink R_Rn 139 y_Bs_get ∈ TB := TB_in 384 (by decide +kernel) rfl
theorem m_307 : Cond.instanceMethod y_Bs_get ∈ TB := TB_in 385 (by decide +kernel) rfl
theorem m_308 : Cond.selects R_Bs y_Bs_get y_Bs_get ∈ TB := TB_in 386 (by decide +kernel) rfl
set_option maxRecDepth 100000 in
theorem m_309 : Cond.code y_Bs_get prog_2_method_6_code 2 (some .int) ∈ TB := TB_in 387 rfl rfl
theorem m_310 : Cond.methodLink R_Rn 149 y_Rn_byteIn ∈ TB := TB_in 388 (by decide +kernel) rfl
theorem m_312 : Cond.instanceMethod y_Rn_byteIn ∈ TB := TB_in 390 (by decide +kernel) rfl
set_option maxRecDepth 100000 in
theorem m_313 : Cond.code y_Rn_byteIn prog_1_method_24_code 2 none ∈ TB := TB_in 391 rfl rfl
theorem m_314 : Cond.methodLink R_Rn 179 y_Rn_refuseLength ∈ TB := TB_in 392 (by decide +kernel) rfl
theorem m_316 : Cond.instanceMethod y_Rn_refuseLength ∈ TB := TB_in 394 (by decide +kernel) rfl
set_option maxRecDepth 100000 in
theorem m_317 : Cond.code y_Rn_refuseLength prog_1_method_25_code 1 none ∈ TB := TB_in 395 rfl rfl
theorem m_318 : Cond.methodLink R_Rn 197 y_Rn_breakOff ∈ TB := TB_in 396 (by decide +kernel) rfl
theorem m_320 : Cond.instanceMethod y_Rn_breakOff ∈ TB := TB_in 398 (by decide +kernel) rfl
set_option maxRecDepth 100000 in
theorem m_321 : Cond.code y_Rn_breakOff prog_1_method_22_code 1 none ∈ TB := TB_in 399 rfl rfl
theorem m_322 : Cond.methodLink R_Rn 172 y_Rn_put ∈ TB := TB_in 400 (by decide +kernel) rfl
theorem m_324 : Cond.instanceMethod y_Rn_put ∈ TB := TB_in 402 (by decide +kernel) rfl
set_option maxRecDepth 100000 in
theorem m_325 : Cond.code y_Rn_put prog_1_method_23_code 3 (some .boolean) ∈ TB := TB_in 403 rfl rfl
theorem m_326 : Cond.methodLink R_Rn 175 y_Ou_hasRoom ∈ TB := TB_in 404 (by decide +kernel) rfl
theorem m_327 : Cond.instanceMethod y_Ou_hasRoom ∈ TB := TB_in 405 (by decide +kernel) rfl
theorem m_328 : Cond.selects R_Ou y_Ou_hasRoom y_Ou_hasRoom ∈ TB := TB_in 406 (by decide +kernel) rfl
set_option maxRecDepth 100000 in
theorem m_329 : Cond.code y_Ou_hasRoom prog_6_method_3_code 2 (some .boolean) ∈ TB := TB_in 407 rfl rfl
theorem m_330 : Cond.methodLink R_Rn 176 y_Ou_push ∈ TB := TB_in 408 (by decide +kernel) rfl
theorem m_331 : Cond.instanceMethod y_Ou_push ∈ TB := TB_in 409 (by decide +kernel) rfl
theorem m_332 : Cond.selects R_Ou y_Ou_push y_Ou_push ∈ TB := TB_in 410 (by decide +kernel) rfl
set_option maxRecDepth 100000 in
theorem m_333 : Cond.code y_Ou_push prog_6_method_4_code 2 none ∈ TB := TB_in 411 rfl rfl
theorem m_334 : Cond.methodLink R_Rn 182 y_Rn_lookAtPiece ∈ TB := TB_in 412 (by decide +kernel) rfl
theorem m_336 : Cond.instanceMethod y_Rn_lookAtPiece ∈ TB := TB_in 414 (by decide +kernel) rfl
set_option maxRecDepth 100000 in
theorem m_337 : Cond.code y_Rn_lookAtPiece prog_1_method_26_code 2 none ∈ TB := TB_in 415 rfl rfl
theorem m_338 : Cond.methodLink R_Rn 200 y_Rn_lookAtRequest ∈ TB := TB_in 416 (by decide +kernel) rfl
theorem m_340 : Cond.instanceMethod y_Rn_lookAtRequest ∈ TB := TB_in 418 (by decide +kernel) rfl
set_option maxRecDepth 100000 in
theorem m_341 : Cond.code y_Rn_lookAtRequest prog_1_method_27_code 2 none ∈ TB := TB_in 419 rfl rfl
theorem m_342 : Cond.methodLink R_Rn 209 y_Cs_readRequest ∈ TB := TB_in 420 (by decide +kernel) rfl
theorem m_343 : Cond.instanceMethod y_Cs_readRequest ∈ TB := TB_in 421 (by decide +kernel) rfl
theorem m_344 : Cond.selects R_Cs y_Cs_readRequest y_Cs_readRequest ∈ TB := TB_in 422 (by decide +kernel) rfl
set_option maxRecDepth 100000 in
theorem m_345 : Cond.code y_Cs_readRequest prog_3_method_9_code 7 (some .boolean) ∈ TB := TB_in 423 rfl rfl
theorem m_346 : Cond.methodLink R_Cs 29 y_Bs_count ∈ TB := TB_in 424 (by decide +kernel) rfl
theorem m_347 : Cond.methodLink R_Cs 34 y_Bs_get ∈ TB := TB_in 425 (by decide +kernel) rfl
theorem m_348 : Cond.methodLink R_Cs 38 y_Cs_find ∈ TB := TB_in 426 (by decide +kernel) rfl
theorem m_349 : Cond.instanceMethod y_Cs_find ∈ TB := TB_in 427 (by decide +kernel) rfl
theorem m_350 : Cond.selects R_Cs y_Cs_find y_Cs_find ∈ TB := TB_in 428 (by decide +kernel) rfl
set_option maxRecDepth 100000 in
theorem m_351 : Cond.code y_Cs_find prog_3_method_7_code 3 (some .int) ∈ TB := TB_in 429 rfl rfl
theorem m_352 : Cond.methodLink R_Cs 41 y_Cs_resultOf ∈ TB := TB_in 430 (by decide +kernel) rfl
theorem m_353 : Cond.static y_Cs_resultOf ∈ TB := TB_in 431 (by decide +kernel) rfl
set_option maxRecDepth 100000 in
theorem m_354 : Cond.code y_Cs_resultOf prog_3_method_10_code 2 (some .int) ∈ TB := TB_in 432 rfl rfl
theorem m_355 : Cond.methodLink R_Rn 213 y_Rn_refuse ∈ TB := TB_in 433 (by decide +kernel) rfl
theorem m_357 : Cond.instanceMethod y_Rn_refuse ∈ TB := TB_in 435 (by decide +kernel) rfl
set_option maxRecDepth 100000 in
theorem m_358 : Cond.code y_Rn_refuse prog_1_method_28_code 2 none ∈ TB := TB_in 436 rfl rfl
theorem m_359 : Cond.methodLink R_Rn 216 y_Rn_accept ∈ TB := TB_in 437 (by decide +kernel) rfl
theorem m_361 : Cond.instanceMethod y_Rn_accept ∈ TB := TB_in 439 (by decide +kernel) rfl
set_option maxRecDepth 100000 in
theorem m_362 : Cond.code y_Rn_accept prog_1_method_29_code 2 none ∈ TB := TB_in 440 rfl rfl
theorem m_363 : Cond.methodLink R_Rn 219 y_Cs_count ∈ TB := TB_in 441 (by decide +kernel) rfl
theorem m_364 : Cond.instanceMethod y_Cs_count ∈ TB := TB_in 442 (by decide +kernel) rfl
theorem m_365 : Cond.selects R_Cs y_Cs_count y_Cs_count ∈ TB := TB_in 443 (by decide +kernel) rfl
set_option maxRecDepth 100000 in
theorem m_366 : Cond.code y_Cs_count prog_3_method_2_code 1 (some .int) ∈ TB := TB_in 444 rfl rfl
theorem m_367 : Cond.methodLink R_Rn 220 y_Cs_id ∈ TB := TB_in 445 (by decide +kernel) rfl
theorem m_368 : Cond.instanceMethod y_Cs_id ∈ TB := TB_in 446 (by decide +kernel) rfl
theorem m_369 : Cond.selects R_Cs y_Cs_id y_Cs_id ∈ TB := TB_in 447 (by decide +kernel) rfl
set_option maxRecDepth 100000 in
theorem m_370 : Cond.code y_Cs_id prog_3_method_3_code 2 (some .int) ∈ TB := TB_in 448 rfl rfl
theorem m_371 : Cond.methodLink R_Cs 25 y_Cs_has ∈ TB := TB_in 449 (by decide +kernel) rfl
theorem m_373 : Cond.instanceMethod y_Cs_has ∈ TB := TB_in 451 (by decide +kernel) rfl
set_option maxRecDepth 100000 in
theorem m_374 : Cond.code y_Cs_has prog_3_method_6_code 2 (some .boolean) ∈ TB := TB_in 452 rfl rfl
theorem m_375 : Cond.methodLink R_Rn 164 y_Cs_result ∈ TB := TB_in 453 (by decide +kernel) rfl
theorem m_376 : Cond.instanceMethod y_Cs_result ∈ TB := TB_in 454 (by decide +kernel) rfl
theorem m_377 : Cond.selects R_Cs y_Cs_result y_Cs_result ∈ TB := TB_in 455 (by decide +kernel) rfl
set_option maxRecDepth 100000 in
theorem m_378 : Cond.code y_Cs_result prog_3_method_5_code 2 (some .int) ∈ TB := TB_in 456 rfl rfl
theorem m_379 : Cond.methodLink R_Rn 203 y_Rn_release ∈ TB := TB_in 457 (by decide +kernel) rfl
theorem m_381 : Cond.instanceMethod y_Rn_release ∈ TB := TB_in 459 (by decide +kernel) rfl
set_option maxRecDepth 100000 in
theorem m_382 : Cond.code y_Rn_release prog_1_method_30_code 1 none ∈ TB := TB_in 460 rfl rfl
theorem m_383 : Cond.methodLink R_Rn 206 y_Rn_takeFragment ∈ TB := TB_in 461 (by decide +kernel) rfl
theorem m_385 : Cond.instanceMethod y_Rn_takeFragment ∈ TB := TB_in 463 (by decide +kernel) rfl
set_option maxRecDepth 100000 in
theorem m_386 : Cond.code y_Rn_takeFragment prog_1_method_31_code 5 (some .boolean) ∈ TB := TB_in 464 rfl rfl
theorem m_387 : Cond.methodLink R_Rn 161 y_Cs_find ∈ TB := TB_in 465 (by decide +kernel) rfl
theorem m_388 : Cond.methodLink R_Rn 223 y_Cs_isUsable ∈ TB := TB_in 466 (by decide +kernel) rfl
theorem m_389 : Cond.instanceMethod y_Cs_isUsable ∈ TB := TB_in 467 (by decide +kernel) rfl
theorem m_390 : Cond.selects R_Cs y_Cs_isUsable y_Cs_isUsable ∈ TB := TB_in 468 (by decide +kernel) rfl
set_option maxRecDepth 100000 in
theorem m_391 : Cond.code y_Cs_isUsable prog_3_method_8_code 2 (some .boolean) ∈ TB := TB_in 469 rfl rfl
theorem m_392 : Cond.methodLink R_Rn 226 y_Mg_wants ∈ TB := TB_in 470 (by decide +kernel) rfl
theorem m_393 : Cond.instanceMethod y_Mg_wants ∈ TB := TB_in 471 (by decide +kernel) rfl
theorem m_394 : Cond.selects R_Mg y_Mg_wants y_Mg_wants ∈ TB := TB_in 472 (by decide +kernel) rfl
set_option maxRecDepth 100000 in
theorem m_395 : Cond.code y_Mg_wants prog_5_method_3_code 3 (some .boolean) ∈ TB := TB_in 473 rfl rfl
theorem m_396 : Cond.methodLink R_Mg 28 y_Mg_wantsSet ∈ TB := TB_in 474 (by decide +kernel) rfl
theorem m_397 : Cond.instanceMethod y_Mg_wantsSet ∈ TB := TB_in 475 (by decide +kernel) rfl
theorem m_398 : Cond.selects R_Mg y_Mg_wantsSet y_Mg_wantsSet ∈ TB := TB_in 476 (by decide +kernel) rfl
set_option maxRecDepth 100000 in
theorem m_399 : Cond.code y_Mg_wantsSet prog_5_method_4_code 1 (some .boolean) ∈ TB := TB_in 477 rfl rfl
theorem m_400 : Cond.methodLink R_Rn 230 y_Mg_addFragment ∈ TB := TB_in 478 (by decide +kernel) rfl
theorem m_401 : Cond.instanceMethod y_Mg_addFragment ∈ TB := TB_in 479 (by decide +kernel) rfl
theorem m_402 : Cond.selects R_Mg y_Mg_addFragment y_Mg_addFragment ∈ TB := TB_in 480 (by decide +kernel) rfl
set_option maxRecDepth 100000 in
theorem m_403 : Cond.code y_Mg_addFragment prog_5_method_11_code 3 none ∈ TB := TB_in 481 rfl rfl
theorem m_404 : Cond.methodLink R_Rn 185 y_Mg_isCommandThere ∈ TB := TB_in 482 (by decide +kernel) rfl
theorem m_405 : Cond.instanceMethod y_Mg_isCommandThere ∈ TB := TB_in 483 (by decide +kernel) rfl
theorem m_406 : Cond.selects R_Mg y_Mg_isCommandThere y_Mg_isCommandThere ∈ TB := TB_in 484 (by decide +kernel) rfl
set_option maxRecDepth 100000 in
theorem m_407 : Cond.code y_Mg_isCommandThere prog_5_method_5_code 1 (some .boolean) ∈ TB := TB_in 485 rfl rfl
theorem m_408 : Cond.methodLink R_Rn 188 y_Rn_lookAtCommand ∈ TB := TB_in 486 (by decide +kernel) rfl
theorem m_410 : Cond.instanceMethod y_Rn_lookAtCommand ∈ TB := TB_in 488 (by decide +kernel) rfl
set_option maxRecDepth 100000 in
theorem m_411 : Cond.code y_Rn_lookAtCommand prog_1_method_32_code 2 none ∈ TB := TB_in 489 rfl rfl
theorem m_412 : Cond.methodLink R_Rn 111 y_Rd_read ∈ TB := TB_in 490 (by decide +kernel) rfl
theorem m_413 : Cond.instanceMethod y_Rd_read ∈ TB := TB_in 491 (by decide +kernel) rfl
theorem m_414 : Cond.selects R_Rd y_Rd_read y_Rd_read ∈ TB := TB_in 492 (by decide +kernel) rfl
set_option maxRecDepth 100000 in
theorem m_415 : Cond.code y_Rd_read prog_7_method_3_code 5 (some .int) ∈ TB := TB_in 493 rfl rfl
theorem m_416 : Cond.methodLink R_Rd 57 y_Tr_reset ∈ TB := TB_in 494 (by decide +kernel) rfl
theorem m_417 : Cond.instanceMethod y_Tr_reset ∈ TB := TB_in 495 (by decide +kernel) rfl
theorem m_418 : Cond.selects R_Tr y_Tr_reset y_Tr_reset ∈ TB := TB_in 496 (by decide +kernel) rfl
set_option maxRecDepth 100000 in
theorem m_419 : Cond.code y_Tr_reset prog_9_method_2_code 1 none ∈ TB := TB_in 497 rfl rfl
theorem m_420 : Cond.methodLink R_Rd 60 y_Bs_count ∈ TB := TB_in 498 (by decide +kernel) rfl
theorem m_421 : Cond.methodLink R_Rd 64 y_Rd_enter ∈ TB := TB_in 499 (by decide +kernel) rfl
theorem m_423 : Cond.instanceMethod y_Rd_enter ∈ TB := TB_in 501 (by decide +kernel) rfl
set_option maxRecDepth 100000 in
theorem m_424 : Cond.code y_Rd_enter prog_7_method_5_code 4 none ∈ TB := TB_in 502 rfl rfl
theorem m_425 : Cond.methodLink R_Rd 88 y_Tr_add ∈ TB := TB_in 503 (by decide +kernel) rfl
theorem m_426 : Cond.instanceMethod y_Tr_add ∈ TB := TB_in 504 (by decide +kernel) rfl
theorem m_427 : Cond.selects R_Tr y_Tr_add y_Tr_add ∈ TB := TB_in 505 (by decide +kernel) rfl
set_option maxRecDepth 100000 in
theorem m_428 : Cond.code y_Tr_add prog_9_method_3_code 5 (some .int) ∈ TB := TB_in 506 rfl rfl
theorem m_429 : Cond.methodLink R_Rd 68 y_Rd_endLevel ∈ TB := TB_in 507 (by decide +kernel) rfl
theorem m_431 : Cond.instanceMethod y_Rd_endLevel ∈ TB := TB_in 509 (by decide +kernel) rfl
set_option maxRecDepth 100000 in
theorem m_432 : Cond.code y_Rd_endLevel prog_7_method_7_code 1 none ∈ TB := TB_in 510 rfl rfl
theorem m_433 : Cond.methodLink R_Rd 95 y_Rd_fail ∈ TB := TB_in 511 (by decide +kernel) rfl
theorem m_435 : Cond.instanceMethod y_Rd_fail ∈ TB := TB_in 513 (by decide +kernel) rfl
set_option maxRecDepth 100000 in
theorem m_436 : Cond.code y_Rd_fail prog_7_method_4_code 3 none ∈ TB := TB_in 514 rfl rfl
theorem m_437 : Cond.methodLink R_Rd 79 y_Rd_leave ∈ TB := TB_in 515 (by decide +kernel) rfl
theorem m_439 : Cond.instanceMethod y_Rd_leave ∈ TB := TB_in 517 (by decide +kernel) rfl
set_option maxRecDepth 100000 in
theorem m_440 : Cond.code y_Rd_leave prog_7_method_6_code 1 none ∈ TB := TB_in 518 rfl rfl
theorem m_441 : Cond.methodLink R_Rd 92 y_Tr_finish ∈ TB := TB_in 519 (by decide +kernel) rfl
theorem m_442 : Cond.instanceMethod y_Tr_finish ∈ TB := TB_in 520 (by decide +kernel) rfl
theorem m_443 : Cond.selects R_Tr y_Tr_finish y_Tr_finish ∈ TB := TB_in 521 (by decide +kernel) rfl
set_option maxRecDepth 100000 in
theorem m_444 : Cond.code y_Tr_finish prog_9_method_6_code 2 none ∈ TB := TB_in 522 rfl rfl
theorem m_445 : Cond.methodLink R_Rd 71 y_Bs_get ∈ TB := TB_in 523 (by decide +kernel) rfl
theorem m_446 : Cond.methodLink R_Rd 75 y_Rd_isEndMark ∈ TB := TB_in 524 (by decide +kernel) rfl
theorem m_448 : Cond.instanceMethod y_Rd_isEndMark ∈ TB := TB_in 526 (by decide +kernel) rfl
set_option maxRecDepth 100000 in
theorem m_449 : Cond.code y_Rd_isEndMark prog_7_method_8_code 2 (some .boolean) ∈ TB := TB_in 527 rfl rfl
theorem m_450 : Cond.methodLink R_Rd 82 y_Rd_readElement ∈ TB := TB_in 528 (by decide +kernel) rfl
theorem m_452 : Cond.instanceMethod y_Rd_readElement ∈ TB := TB_in 530 (by decide +kernel) rfl
set_option maxRecDepth 100000 in
theorem m_453 : Cond.code y_Rd_readElement prog_7_method_9_code 4 none ∈ TB := TB_in 531 rfl rfl
theorem m_455 : Cond.static y_Rn_kindOf ∈ TB := TB_in 533 (by decide +kernel) rfl
set_option maxRecDepth 100000 in
theorem m_456 : Cond.code y_Rn_kindOf prog_1_method_19_code 1 (some .int) ∈ TB := TB_in 534 rfl rfl
theorem m_457 : Cond.methodLink R_Rd 102 y_Rd_readKind ∈ TB := TB_in 535 (by decide +kernel) rfl
theorem m_459 : Cond.instanceMethod y_Rd_readKind ∈ TB := TB_in 537 (by decide +kernel) rfl
set_option maxRecDepth 100000 in
theorem m_460 : Cond.code y_Rd_readKind prog_7_method_12_code 2 (some .boolean) ∈ TB := TB_in 538 rfl rfl
theorem m_461 : Cond.methodLink R_Rd 105 y_Rd_readLength ∈ TB := TB_in 539 (by decide +kernel) rfl
theorem m_463 : Cond.instanceMethod y_Rd_readLength ∈ TB := TB_in 541 (by decide +kernel) rfl
set_option maxRecDepth 100000 in
theorem m_464 : Cond.code y_Rd_readLength prog_7_method_13_code 4 (some .int) ∈ TB := TB_in 542 rfl rfl
theorem m_465 : Cond.methodLink R_Rd 117 y_Rd_isLength ∈ TB := TB_in 543 (by decide +kernel) rfl
theorem m_466 : Cond.static y_Rd_isLength ∈ TB := TB_in 544 (by decide +kernel) rfl
set_option maxRecDepth 100000 in
theorem m_467 : Cond.code y_Rd_isLength prog_7_method_14_code 2 (some .boolean) ∈ TB := TB_in 545 rfl rfl
theorem m_468 : Cond.methodLink R_Rd 108 y_Rd_readNumber ∈ TB := TB_in 546 (by decide +kernel) rfl
theorem m_470 : Cond.instanceMethod y_Rd_readNumber ∈ TB := TB_in 548 (by decide +kernel) rfl
set_option maxRecDepth 100000 in
theorem m_471 : Cond.code y_Rd_readNumber prog_7_method_15_code 6 none ∈ TB := TB_in 549 rfl rfl
theorem m_472 : Cond.methodLink R_Rd 121 y_Tr_numberLength ∈ TB := TB_in 550 (by decide +kernel) rfl
theorem m_473 : Cond.static y_Tr_numberLength ∈ TB := TB_in 551 (by decide +kernel) rfl
set_option maxRecDepth 100000 in
theorem m_474 : Cond.code y_Tr_numberLength prog_9_method_19_code 3 (some .int) ∈ TB := TB_in 552 rfl rfl
theorem m_475 : Cond.methodLink R_Rd 111 y_Rd_readText ∈ TB := TB_in 553 (by decide +kernel) rfl
theorem m_477 : Cond.instanceMethod y_Rd_readText ∈ TB := TB_in 555 (by decide +kernel) rfl
set_option maxRecDepth 100000 in
theorem m_478 : Cond.code y_Rd_readText prog_7_method_16_code 6 none ∈ TB := TB_in 556 rfl rfl
theorem m_479 : Cond.methodLink R_Rd 124 y_Tr_characterCount ∈ TB := TB_in 557 (by decide +kernel) rfl
theorem m_480 : Cond.instanceMethod y_Tr_characterCount ∈ TB := TB_in 558 (by decide +kernel) rfl
theorem m_481 : Cond.selects R_Tr y_Tr_characterCount y_Tr_characterCount ∈ TB := TB_in 559 (by decide +kernel) rfl
set_option maxRecDepth 100000 in
theorem m_482 : Cond.code y_Tr_characterCount prog_9_method_4_code 1 (some .int) ∈ TB := TB_in 560 rfl rfl
theorem m_483 : Cond.methodLink R_Rd 127 y_Tr_addCharacter ∈ TB := TB_in 561 (by decide +kernel) rfl
theorem m_484 : Cond.instanceMethod y_Tr_addCharacter ∈ TB := TB_in 562 (by decide +kernel) rfl
theorem m_485 : Cond.selects R_Tr y_Tr_addCharacter y_Tr_addCharacter ∈ TB := TB_in 563 (by decide +kernel) rfl
set_option maxRecDepth 100000 in
theorem m_486 : Cond.code y_Tr_addCharacter prog_9_method_5_code 2 none ∈ TB := TB_in 564 rfl rfl
theorem m_487 : Cond.methodLink R_Rd 114 y_Rd_endOf ∈ TB := TB_in 565 (by decide +kernel) rfl
theorem m_489 : Cond.instanceMethod y_Rd_endOf ∈ TB := TB_in 567 (by decide +kernel) rfl
set_option maxRecDepth 100000 in
theorem m_490 : Cond.code y_Rd_endOf prog_7_method_11_code 2 (some .int) ∈ TB := TB_in 568 rfl rfl
theorem m_491 : Cond.methodLink R_Rd 85 y_Rd_readItem ∈ TB := TB_in 569 (by decide +kernel) rfl
theorem m_493 : Cond.instanceMethod y_Rd_readItem ∈ TB := TB_in 571 (by decide +kernel) rfl
set_option maxRecDepth 100000 in
theorem m_494 : Cond.code y_Rd_readItem prog_7_method_10_code 2 none ∈ TB := TB_in 572 rfl rfl
theorem m_495 : Cond.methodLink R_Rn 115 y_Rd_tree ∈ TB := TB_in 573 (by decide +kernel) rfl
theorem m_496 : Cond.instanceMethod y_Rd_tree ∈ TB := TB_in 574 (by decide +kernel) rfl
theorem m_497 : Cond.selects R_Rd y_Rd_tree y_Rd_tree ∈ TB := TB_in 575 (by decide +kernel) rfl
set_option maxRecDepth 100000 in
theorem m_498 : Cond.code y_Rd_tree prog_7_method_2_code 1 (some (.object R_Tr)) ∈ TB := TB_in 576 rfl rfl
theorem m_499 : Cond.methodLink R_Rn 234 y_Mg_understand ∈ TB := TB_in 577 (by decide +kernel) rfl
theorem m_500 : Cond.instanceMethod y_Mg_understand ∈ TB := TB_in 578 (by decide +kernel) rfl
theorem m_501 : Cond.selects R_Mg y_Mg_understand y_Mg_understand ∈ TB := TB_in 579 (by decide +kernel) rfl
set_option maxRecDepth 100000 in
theorem m_502 : Cond.code y_Mg_understand prog_5_method_12_code 6 (some .boolean) ∈ TB := TB_in 580 rfl rfl
theorem m_503 : Cond.methodLink R_Mg 32 y_Tr_find ∈ TB := TB_in 581 (by decide +kernel) rfl
theorem m_504 : Cond.instanceMethod y_Tr_find ∈ TB := TB_in 582 (by decide +kernel) rfl
theorem m_505 : Cond.selects R_Tr y_Tr_find y_Tr_find ∈ TB := TB_in 583 (by decide +kernel) rfl
set_option maxRecDepth 100000 in
theorem m_506 : Cond.code y_Tr_find prog_9_method_13_code 6 (some .int) ∈ TB := TB_in 584 rfl rfl
theorem m_507 : Cond.methodLink R_Tr 48 y_Tr_behind ∈ TB := TB_in 585 (by decide +kernel) rfl
theorem m_508 : Cond.instanceMethod y_Tr_behind ∈ TB := TB_in 586 (by decide +kernel) rfl
theorem m_509 : Cond.selects R_Tr y_Tr_behind y_Tr_behind ∈ TB := TB_in 587 (by decide +kernel) rfl
set_option maxRecDepth 100000 in
theorem m_510 : Cond.code y_Tr_behind prog_9_method_8_code 2 (some .int) ∈ TB := TB_in 588 rfl rfl
theorem m_511 : Cond.methodLink R_Tr 50 y_Tr_tag ∈ TB := TB_in 589 (by decide +kernel) rfl
theorem m_512 : Cond.instanceMethod y_Tr_tag ∈ TB := TB_in 590 (by decide +kernel) rfl
theorem m_513 : Cond.selects R_Tr y_Tr_tag y_Tr_tag ∈ TB := TB_in 591 (by decide +kernel) rfl
set_option maxRecDepth 100000 in
theorem m_514 : Cond.code y_Tr_tag prog_9_method_7_code 2 (some .int) ∈ TB := TB_in 592 rfl rfl
theorem m_515 : Cond.methodLink R_Mg 38 y_Tr_number ∈ TB := TB_in 593 (by decide +kernel) rfl
theorem m_516 : Cond.instanceMethod y_Tr_number ∈ TB := TB_in 594 (by decide +kernel) rfl
theorem m_517 : Cond.selects R_Tr y_Tr_number y_Tr_number ∈ TB := TB_in 595 (by decide +kernel) rfl
set_option maxRecDepth 100000 in
theorem m_518 : Cond.code y_Tr_number prog_9_method_9_code 2 (some .int) ∈ TB := TB_in 596 rfl rfl
theorem m_519 : Cond.methodLink R_Rn 191 y_Mg_isWhole ∈ TB := TB_in 597 (by decide +kernel) rfl
theorem m_520 : Cond.instanceMethod y_Mg_isWhole ∈ TB := TB_in 598 (by decide +kernel) rfl
theorem m_521 : Cond.selects R_Mg y_Mg_isWhole y_Mg_isWhole ∈ TB := TB_in 599 (by decide +kernel) rfl
set_option maxRecDepth 100000 in
theorem m_522 : Cond.code y_Mg_isWhole prog_5_method_6_code 1 (some .boolean) ∈ TB := TB_in 600 rfl rfl
theorem m_523 : Cond.methodLink R_Rn 194 y_Rn_answer ∈ TB := TB_in 601 (by decide +kernel) rfl
theorem m_525 : Cond.instanceMethod y_Rn_answer ∈ TB := TB_in 603 (by decide +kernel) rfl
set_option maxRecDepth 100000 in
theorem m_526 : Cond.code y_Rn_answer prog_1_method_33_code 4 none ∈ TB := TB_in 604 rfl rfl
theorem m_527 : Cond.methodLink R_Rn 238 y_Mg_contextIndex ∈ TB := TB_in 605 (by decide +kernel) rfl
theorem m_528 : Cond.instanceMethod y_Mg_contextIndex ∈ TB := TB_in 606 (by decide +kernel) rfl
theorem m_529 : Cond.selects R_Mg y_Mg_contextIndex y_Mg_contextIndex ∈ TB := TB_in 607 (by decide +kernel) rfl
set_option maxRecDepth 100000 in
theorem m_530 : Cond.code y_Mg_contextIndex prog_5_method_7_code 1 (some .int) ∈ TB := TB_in 608 rfl rfl
theorem m_531 : Cond.methodLink R_Rn 241 y_Mg_kind ∈ TB := TB_in 609 (by decide +kernel) rfl
theorem m_532 : Cond.instanceMethod y_Mg_kind ∈ TB := TB_in 610 (by decide +kernel) rfl
theorem m_533 : Cond.selects R_Mg y_Mg_kind y_Mg_kind ∈ TB := TB_in 611 (by decide +kernel) rfl
set_option maxRecDepth 100000 in
theorem m_534 : Cond.code y_Mg_kind prog_5_method_8_code 1 (some .int) ∈ TB := TB_in 612 rfl rfl
theorem m_535 : Cond.methodLink R_Rn 244 y_Mg_hasSet ∈ TB := TB_in 613 (by decide +kernel) rfl
theorem m_536 : Cond.instanceMethod y_Mg_hasSet ∈ TB := TB_in 614 (by decide +kernel) rfl
theorem m_537 : Cond.selects R_Mg y_Mg_hasSet y_Mg_hasSet ∈ TB := TB_in 615 (by decide +kernel) rfl
set_option maxRecDepth 100000 in
theorem m_538 : Cond.code y_Mg_hasSet prog_5_method_10_code 1 (some .boolean) ∈ TB := TB_in 616 rfl rfl
theorem m_539 : Cond.methodLink R_Rn 247 y_Cs_service ∈ TB := TB_in 617 (by decide +kernel) rfl
theorem m_540 : Cond.instanceMethod y_Cs_service ∈ TB := TB_in 618 (by decide +kernel) rfl
theorem m_541 : Cond.selects R_Cs y_Cs_service y_Cs_service ∈ TB := TB_in 619 (by decide +kernel) rfl
set_option maxRecDepth 100000 in
theorem m_542 : Cond.code y_Cs_service prog_3_method_4_code 2 (some .int) ∈ TB := TB_in 620 rfl rfl
theorem m_543 : Cond.methodLink R_Rn 250 y_Rn_reply ∈ TB := TB_in 621 (by decide +kernel) rfl
theorem m_545 : Cond.instanceMethod y_Rn_reply ∈ TB := TB_in 623 (by decide +kernel) rfl
set_option maxRecDepth 100000 in
theorem m_546 : Cond.code y_Rn_reply prog_1_method_34_code 3 none ∈ TB := TB_in 624 rfl rfl
theorem m_547 : Cond.methodLink R_Rn 258 y_Rn_startData ∈ TB := TB_in 625 (by decide +kernel) rfl
theorem m_549 : Cond.instanceMethod y_Rn_startData ∈ TB := TB_in 627 (by decide +kernel) rfl
set_option maxRecDepth 100000 in
theorem m_550 : Cond.code y_Rn_startData prog_1_method_35_code 2 none ∈ TB := TB_in 628 rfl rfl
theorem m_551 : Cond.methodLink R_Rn 261 y_Tr_writeNumber ∈ TB := TB_in 629 (by decide +kernel) rfl
theorem m_552 : Cond.static y_Tr_writeNumber ∈ TB := TB_in 630 (by decide +kernel) rfl
set_option maxRecDepth 100000 in
theorem m_553 : Cond.code y_Tr_writeNumber prog_9_method_18_code 6 none ∈ TB := TB_in 631 rfl rfl
theorem m_554 : Cond.methodLink R_Tr 73 y_Tr_numberLength ∈ TB := TB_in 632 (by decide +kernel) rfl
theorem m_555 : Cond.methodLink R_Tr 42 y_Bs_append ∈ TB := TB_in 633 (by decide +kernel) rfl
theorem m_556 : Cond.methodLink R_Rn 265 y_Mg_number ∈ TB := TB_in 634 (by decide +kernel) rfl
theorem m_557 : Cond.instanceMethod y_Mg_number ∈ TB := TB_in 635 (by decide +kernel) rfl
theorem m_558 : Cond.selects R_Mg y_Mg_number y_Mg_number ∈ TB := TB_in 636 (by decide +kernel) rfl
set_option maxRecDepth 100000 in
theorem m_559 : Cond.code y_Mg_number prog_5_method_9_code 1 (some .int) ∈ TB := TB_in 637 rfl rfl
theorem m_560 : Cond.methodLink R_Rn 253 y_Rn_store ∈ TB := TB_in 638 (by decide +kernel) rfl
theorem m_562 : Cond.instanceMethod y_Rn_store ∈ TB := TB_in 640 (by decide +kernel) rfl
set_option maxRecDepth 100000 in
theorem m_563 : Cond.code y_Rn_store prog_1_method_36_code 3 (some .int) ∈ TB := TB_in 641 rfl rfl
theorem m_564 : Cond.methodLink R_Rn 119 y_Tr_writeAll ∈ TB := TB_in 642 (by decide +kernel) rfl
theorem m_565 : Cond.instanceMethod y_Tr_writeAll ∈ TB := TB_in 643 (by decide +kernel) rfl
theorem m_566 : Cond.selects R_Tr y_Tr_writeAll y_Tr_writeAll ∈ TB := TB_in 644 (by decide +kernel) rfl
set_option maxRecDepth 100000 in
theorem m_567 : Cond.code y_Tr_writeAll prog_9_method_14_code 5 (some .boolean) ∈ TB := TB_in 645 rfl rfl
theorem m_568 : Cond.methodLink R_Tr 53 y_Bs_reset ∈ TB := TB_in 646 (by decide +kernel) rfl
theorem m_569 : Cond.methodLink R_Tr 56 y_Tr_writeNode ∈ TB := TB_in 647 (by decide +kernel) rfl
theorem m_571 : Cond.instanceMethod y_Tr_writeNode ∈ TB := TB_in 649 (by decide +kernel) rfl
set_option maxRecDepth 100000 in
theorem m_572 : Cond.code y_Tr_writeNode prog_9_method_16_code 8 (some .boolean) ∈ TB := TB_in 650 rfl rfl
theorem m_574 : Cond.methodLink R_Tr 66 y_Tr_writeNumber ∈ TB := TB_in 652 (by decide +kernel) rfl
theorem m_575 : Cond.methodLink R_Tr 70 y_Tr_valueLength ∈ TB := TB_in 653 (by decide +kernel) rfl
theorem m_577 : Cond.instanceMethod y_Tr_valueLength ∈ TB := TB_in 655 (by decide +kernel) rfl
set_option maxRecDepth 100000 in
theorem m_578 : Cond.code y_Tr_valueLength prog_9_method_17_code 6 (some .int) ∈ TB := TB_in 656 rfl rfl
theorem m_579 : Cond.methodLink R_Tr 38 y_Tr_character ∈ TB := TB_in 657 (by decide +kernel) rfl
theorem m_580 : Cond.instanceMethod y_Tr_character ∈ TB := TB_in 658 (by decide +kernel) rfl
theorem m_581 : Cond.selects R_Tr y_Tr_character y_Tr_character ∈ TB := TB_in 659 (by decide +kernel) rfl
set_option maxRecDepth 100000 in
theorem m_582 : Cond.code y_Tr_character prog_9_method_11_code 4 (some .int) ∈ TB := TB_in 660 rfl rfl
theorem m_583 : Cond.methodLink R_Rn 268 y_Tr_find ∈ TB := TB_in 661 (by decide +kernel) rfl
theorem m_584 : Cond.methodLink R_Rn 271 y_Tr_textLength ∈ TB := TB_in 662 (by decide +kernel) rfl
theorem m_585 : Cond.instanceMethod y_Tr_textLength ∈ TB := TB_in 663 (by decide +kernel) rfl
theorem m_586 : Cond.selects R_Tr y_Tr_textLength y_Tr_textLength ∈ TB := TB_in 664 (by decide +kernel) rfl
set_option maxRecDepth 100000 in
theorem m_587 : Cond.code y_Tr_textLength prog_9_method_10_code 2 (some .int) ∈ TB := TB_in 665 rfl rfl
theorem m_588 : Cond.methodLink R_Rn 274 y_Tr_copyText ∈ TB := TB_in 666 (by decide +kernel) rfl
theorem m_589 : Cond.instanceMethod y_Tr_copyText ∈ TB := TB_in 667 (by decide +kernel) rfl
theorem m_590 : Cond.selects R_Tr y_Tr_copyText y_Tr_copyText ∈ TB := TB_in 668 (by decide +kernel) rfl
set_option maxRecDepth 100000 in
theorem m_591 : Cond.code y_Tr_copyText prog_9_method_12_code 5 none ∈ TB := TB_in 669 rfl rfl
theorem m_592 : Cond.methodLink R_Tr 34 y_Tr_textLength ∈ TB := TB_in 670 (by decide +kernel) rfl
theorem m_593 : Cond.methodLink R_Rn 278 y_Rs_keep ∈ TB := TB_in 671 (by decide +kernel) rfl
theorem m_594 : Cond.instanceMethod y_Rs_keep ∈ TB := TB_in 672 (by decide +kernel) rfl
theorem m_595 : Cond.selects R_Rs y_Rs_keep y_Rs_keep ∈ TB := TB_in 673 (by decide +kernel) rfl
set_option maxRecDepth 100000 in
theorem m_596 : Cond.code y_Rs_keep prog_8_method_4_code 4 (some .boolean) ∈ TB := TB_in 674 rfl rfl
theorem m_597 : Cond.methodLink R_Rs 36 y_Bs_isSame ∈ TB := TB_in 675 (by decide +kernel) rfl
theorem m_598 : Cond.instanceMethod y_Bs_isSame ∈ TB := TB_in 676 (by decide +kernel) rfl
theorem m_599 : Cond.selects R_Bs y_Bs_isSame y_Bs_isSame ∈ TB := TB_in 677 (by decide +kernel) rfl
set_option maxRecDepth 100000 in
theorem m_600 : Cond.code y_Bs_isSame prog_2_method_8_code 4 (some .boolean) ∈ TB := TB_in 678 rfl rfl
theorem m_601 : Cond.methodLink R_Rs 40 y_Bs_become ∈ TB := TB_in 679 (by decide +kernel) rfl
theorem m_602 : Cond.instanceMethod y_Bs_become ∈ TB := TB_in 680 (by decide +kernel) rfl
theorem m_603 : Cond.selects R_Bs y_Bs_become y_Bs_become ∈ TB := TB_in 681 (by decide +kernel) rfl
set_option maxRecDepth 100000 in
theorem m_604 : Cond.code y_Bs_become prog_2_method_7_code 3 none ∈ TB := TB_in 682 rfl rfl
theorem m_605 : Cond.methodLink R_Bs 19 y_Bs_append ∈ TB := TB_in 683 (by decide +kernel) rfl
theorem m_606 : Cond.methodLink R_Rn 256 y_Rn_find ∈ TB := TB_in 684 (by decide +kernel) rfl
theorem m_608 : Cond.instanceMethod y_Rn_find ∈ TB := TB_in 686 (by decide +kernel) rfl
set_option maxRecDepth 100000 in
theorem m_609 : Cond.code y_Rn_find prog_1_method_37_code 5 none ∈ TB := TB_in 687 rfl rfl
theorem m_610 : Cond.methodLink R_Rn 160 y_Rs_count ∈ TB := TB_in 688 (by decide +kernel) rfl
theorem m_611 : Cond.instanceMethod y_Rs_count ∈ TB := TB_in 689 (by decide +kernel) rfl
theorem m_612 : Cond.selects R_Rs y_Rs_count y_Rs_count ∈ TB := TB_in 690 (by decide +kernel) rfl
set_option maxRecDepth 100000 in
theorem m_613 : Cond.code y_Rs_count prog_8_method_2_code 1 (some .int) ∈ TB := TB_in 691 rfl rfl
theorem m_614 : Cond.methodLink R_Rn 167 y_Rs_bytes ∈ TB := TB_in 692 (by decide +kernel) rfl
theorem m_615 : Cond.instanceMethod y_Rs_bytes ∈ TB := TB_in 693 (by decide +kernel) rfl
theorem m_616 : Cond.selects R_Rs y_Rs_bytes y_Rs_bytes ∈ TB := TB_in 694 (by decide +kernel) rfl
set_option maxRecDepth 100000 in
theorem m_617 : Cond.code y_Rs_bytes prog_8_method_3_code 2 (some (.object R_Bs)) ∈ TB := TB_in 695 rfl rfl
theorem m_620 : Cond.instanceMethod y_Mr_matches ∈ TB := TB_in 698 (by decide +kernel) rfl
set_option maxRecDepth 100000 in
theorem m_621 : Cond.code y_Mr_matches prog_4_method_2_code 9 (some .boolean) ∈ TB := TB_in 699 rfl rfl
theorem m_622 : Cond.methodLink R_Mr 15 y_Tr_behind ∈ TB := TB_in 700 (by decide +kernel) rfl
theorem m_623 : Cond.methodLink R_Mr 21 y_Tr_tag ∈ TB := TB_in 701 (by decide +kernel) rfl
theorem m_624 : Cond.methodLink R_Mr 24 y_Tr_find ∈ TB := TB_in 702 (by decide +kernel) rfl
theorem m_625 : Cond.methodLink R_Mr 28 y_Mr_fits ∈ TB := TB_in 703 (by decide +kernel) rfl
theorem m_627 : Cond.instanceMethod y_Mr_fits ∈ TB := TB_in 705 (by decide +kernel) rfl
set_option maxRecDepth 100000 in
theorem m_628 : Cond.code y_Mr_fits prog_4_method_3_code 11 (some .boolean) ∈ TB := TB_in 706 rfl rfl
theorem m_630 : Cond.methodLink R_Mr 35 y_Tr_number ∈ TB := TB_in 708 (by decide +kernel) rfl
theorem m_631 : Cond.methodLink R_Mr 38 y_Mr_textFits ∈ TB := TB_in 709 (by decide +kernel) rfl
theorem m_633 : Cond.instanceMethod y_Mr_textFits ∈ TB := TB_in 711 (by decide +kernel) rfl
set_option maxRecDepth 100000 in
theorem m_634 : Cond.code y_Mr_textFits prog_4_method_4_code 11 (some .boolean) ∈ TB := TB_in 712 rfl rfl
theorem m_635 : Cond.methodLink R_Mr 45 y_Tr_textLength ∈ TB := TB_in 713 (by decide +kernel) rfl
theorem m_636 : Cond.methodLink R_Mr 48 ⟨"java/lang/Math", "min", "(II)I"⟩ ∈ TB := TB_in 714 (by decide +kernel) rfl
theorem m_637 : Cond.methodLink R_Mr 53 y_Tr_character ∈ TB := TB_in 715 (by decide +kernel) rfl
theorem m_638 : Cond.methodLink R_Mr 42 y_Mr_matches ∈ TB := TB_in 716 (by decide +kernel) rfl
theorem m_639 : Cond.methodLink R_Rn 286 y_Tr_writeChosen ∈ TB := TB_in 717 (by decide +kernel) rfl
theorem m_640 : Cond.instanceMethod y_Tr_writeChosen ∈ TB := TB_in 718 (by decide +kernel) rfl
theorem m_641 : Cond.selects R_Tr y_Tr_writeChosen y_Tr_writeChosen ∈ TB := TB_in 719 (by decide +kernel) rfl
set_option maxRecDepth 100000 in
theorem m_642 : Cond.code y_Tr_writeChosen prog_9_method_15_code 7 none ∈ TB := TB_in 720 rfl rfl
theorem m_643 : Cond.methodLink R_Tr 60 y_Tr_find ∈ TB := TB_in 721 (by decide +kernel) rfl
theorem m_652 : Cond.methodLink R_Rn 152 y_Ou_count ∈ TB := TB_in 730 (by decide +kernel) rfl
theorem m_653 : Cond.instanceMethod y_Ou_count ∈ TB := TB_in 731 (by decide +kernel) rfl
theorem m_654 : Cond.selects R_Ou y_Ou_count y_Ou_count ∈ TB := TB_in 732 (by decide +kernel) rfl
set_option maxRecDepth 100000 in
theorem m_655 : Cond.code y_Ou_count prog_6_method_2_code 1 (some .int) ∈ TB := TB_in 733 rfl rfl
theorem m_656 : Cond.methodLink R_Rn 156 y_Mg_wantsSet ∈ TB := TB_in 734 (by decide +kernel) rfl
theorem m_672 : Cond.methodLink R_Rn 105 y_Rn_isSyntax ∈ TB := TB_in 750 (by decide +kernel) rfl
theorem m_673 : Cond.static y_Rn_isSyntax ∈ TB := TB_in 751 (by decide +kernel) rfl
set_option maxRecDepth 100000 in
theorem m_674 : Cond.code y_Rn_isSyntax prog_1_method_17_code 1 (some .boolean) ∈ TB := TB_in 752 rfl rfl
theorem m_761 : Cond.methodLink R_Rn 132 y_Bs_become ∈ TB := TB_in 839 (by decide +kernel) rfl
theorem m_799 : Cond.methodLink R_Rn 153 y_Ou_pull ∈ TB := TB_in 877 (by decide +kernel) rfl
theorem m_800 : Cond.instanceMethod y_Ou_pull ∈ TB := TB_in 878 (by decide +kernel) rfl
theorem m_801 : Cond.selects R_Ou y_Ou_pull y_Ou_pull ∈ TB := TB_in 879 (by decide +kernel) rfl
set_option maxRecDepth 100000 in
theorem m_802 : Cond.code y_Ou_pull prog_6_method_5_code 2 (some .int) ∈ TB := TB_in 880 rfl rfl
theorem m_816 : Cond.fieldLink R_Mo 101 "RecordNodeModel" "room" "I" ∈ TB := TB_in 894 (by decide +kernel) rfl
theorem m_817 : Cond.fieldLink R_Mo 105 "RecordNodeModel" "code" "I" ∈ TB := TB_in 895 (by decide +kernel) rfl
theorem m_818 : Cond.fieldLink R_Mo 7 "RecordNodeModel" "draft" "[I" ∈ TB := TB_in 896 (by decide +kernel) rfl
theorem m_819 : Cond.fieldLink R_Mo 169 "RecordNodeModel" "drafted" "I" ∈ TB := TB_in 897 (by decide +kernel) rfl
theorem m_820 : Cond.fieldLink R_Mo 13 "RecordNodeModel" "source" "[I" ∈ TB := TB_in 898 (by decide +kernel) rfl
theorem m_821 : Cond.fieldLink R_Mo 108 "RecordNodeModel" "fault" "I" ∈ TB := TB_in 899 (by decide +kernel) rfl
theorem m_822 : Cond.fieldLink R_Mo 16 "RecordNodeModel" "count" "[I" ∈ TB := TB_in 900 (by decide +kernel) rfl
theorem m_823 : Cond.fieldLink R_Mo 19 "RecordNodeModel" "kind" "[I" ∈ TB := TB_in 901 (by decide +kernel) rfl
theorem m_824 : Cond.fieldLink R_Mo 22 "RecordNodeModel" "tag" "[I" ∈ TB := TB_in 902 (by decide +kernel) rfl
theorem m_825 : Cond.fieldLink R_Mo 25 "RecordNodeModel" "value" "[I" ∈ TB := TB_in 903 (by decide +kernel) rfl
theorem m_826 : Cond.fieldLink R_Mo 28 "RecordNodeModel" "letters" "[I" ∈ TB := TB_in 904 (by decide +kernel) rfl
theorem m_827 : Cond.fieldLink R_Mo 31 "RecordNodeModel" "parent" "[I" ∈ TB := TB_in 905 (by decide +kernel) rfl
theorem m_828 : Cond.fieldLink R_Mo 34 "RecordNodeModel" "first" "[I" ∈ TB := TB_in 906 (by decide +kernel) rfl
theorem m_829 : Cond.fieldLink R_Mo 37 "RecordNodeModel" "next" "[I" ∈ TB := TB_in 907 (by decide +kernel) rfl
theorem m_830 : Cond.fieldLink R_Mo 40 "RecordNodeModel" "last" "[I" ∈ TB := TB_in 908 (by decide +kernel) rfl
theorem m_831 : Cond.fieldLink R_Mo 43 "RecordNodeModel" "many" "[I" ∈ TB := TB_in 909 (by decide +kernel) rfl
theorem m_832 : Cond.fieldLink R_Mo 46 "RecordNodeModel" "size" "[I" ∈ TB := TB_in 910 (by decide +kernel) rfl
theorem m_833 : Cond.fieldLink R_Mo 49 "RecordNodeModel" "number" "[I" ∈ TB := TB_in 911 (by decide +kernel) rfl
theorem m_834 : Cond.fieldLink R_Mo 52 "RecordNodeModel" "chars" "[I" ∈ TB := TB_in 912 (by decide +kernel) rfl
theorem m_835 : Cond.fieldLink R_Mo 55 "RecordNodeModel" "held" "[I" ∈ TB := TB_in 913 (by decide +kernel) rfl
theorem m_836 : Cond.fieldLink R_Mo 58 "RecordNodeModel" "fits" "[Z" ∈ TB := TB_in 914 (by decide +kernel) rfl
theorem m_837 : Cond.fieldLink R_Mo 111 "RecordNodeModel" "depth" "I" ∈ TB := TB_in 915 (by decide +kernel) rfl
theorem m_838 : Cond.fieldLink R_Mo 62 "RecordNodeModel" "node" "[I" ∈ TB := TB_in 916 (by decide +kernel) rfl
theorem m_839 : Cond.fieldLink R_Mo 65 "RecordNodeModel" "end" "[I" ∈ TB := TB_in 917 (by decide +kernel) rfl
theorem m_840 : Cond.fieldLink R_Mo 68 "RecordNodeModel" "loose" "[Z" ∈ TB := TB_in 918 (by decide +kernel) rfl
theorem m_841 : Cond.fieldLink R_Mo 114 "RecordNodeModel" "at" "I" ∈ TB := TB_in 919 (by decide +kernel) rfl
theorem m_842 : Cond.fieldLink R_Mo 71 "RecordNodeModel" "made" "[I" ∈ TB := TB_in 920 (by decide +kernel) rfl
theorem m_843 : Cond.fieldLink R_Mo 155 "RecordNodeModel" "makes" "I" ∈ TB := TB_in 921 (by decide +kernel) rfl
theorem m_844 : Cond.fieldLink R_Mo 186 "RecordNodeModel" "line" "I" ∈ TB := TB_in 922 (by decide +kernel) rfl
theorem m_845 : Cond.fieldLink R_Mo 189 "RecordNodeModel" "timer" "I" ∈ TB := TB_in 923 (by decide +kernel) rfl
theorem m_846 : Cond.fieldLink R_Mo 74 "RecordNodeModel" "input" "[I" ∈ TB := TB_in 924 (by decide +kernel) rfl
theorem m_847 : Cond.fieldLink R_Mo 192 "RecordNodeModel" "inputs" "I" ∈ TB := TB_in 925 (by decide +kernel) rfl
theorem m_848 : Cond.fieldLink R_Mo 77 "RecordNodeModel" "output" "[I" ∈ TB := TB_in 926 (by decide +kernel) rfl
theorem m_849 : Cond.fieldLink R_Mo 210 "RecordNodeModel" "outputs" "I" ∈ TB := TB_in 927 (by decide +kernel) rfl
theorem m_850 : Cond.fieldLink R_Mo 241 "RecordNodeModel" "contexts" "I" ∈ TB := TB_in 928 (by decide +kernel) rfl
theorem m_851 : Cond.fieldLink R_Mo 80 "RecordNodeModel" "ids" "[I" ∈ TB := TB_in 929 (by decide +kernel) rfl
theorem m_852 : Cond.fieldLink R_Mo 83 "RecordNodeModel" "services" "[I" ∈ TB := TB_in 930 (by decide +kernel) rfl
theorem m_853 : Cond.fieldLink R_Mo 86 "RecordNodeModel" "results" "[I" ∈ TB := TB_in 931 (by decide +kernel) rfl
theorem m_854 : Cond.fieldLink R_Mo 198 "RecordNodeModel" "wanted" "I" ∈ TB := TB_in 932 (by decide +kernel) rfl
theorem m_855 : Cond.fieldLink R_Mo 89 "RecordNodeModel" "command" "[I" ∈ TB := TB_in 933 (by decide +kernel) rfl
theorem m_856 : Cond.fieldLink R_Mo 201 "RecordNodeModel" "commands" "I" ∈ TB := TB_in 934 (by decide +kernel) rfl
theorem m_857 : Cond.fieldLink R_Mo 92 "RecordNodeModel" "body" "[I" ∈ TB := TB_in 935 (by decide +kernel) rfl
theorem m_858 : Cond.fieldLink R_Mo 204 "RecordNodeModel" "bodies" "I" ∈ TB := TB_in 936 (by decide +kernel) rfl
theorem m_859 : Cond.fieldLink R_Mo 207 "RecordNodeModel" "speaker" "I" ∈ TB := TB_in 937 (by decide +kernel) rfl
theorem m_860 : Cond.fieldLink R_Mo 260 "RecordNodeModel" "what" "I" ∈ TB := TB_in 938 (by decide +kernel) rfl
theorem m_861 : Cond.fieldLink R_Mo 263 "RecordNodeModel" "message" "I" ∈ TB := TB_in 939 (by decide +kernel) rfl
theorem m_862 : Cond.fieldLink R_Mo 268 "RecordNodeModel" "answered" "I" ∈ TB := TB_in 940 (by decide +kernel) rfl
theorem m_863 : Cond.fieldLink R_Mo 284 "RecordNodeModel" "records" "I" ∈ TB := TB_in 941 (by decide +kernel) rfl
theorem m_864 : Cond.fieldLink R_Mo 95 "RecordNodeModel" "kept" "[I" ∈ TB := TB_in 942 (by decide +kernel) rfl
theorem m_865 : Cond.fieldLink R_Mo 98 "RecordNodeModel" "lengths" "[I" ∈ TB := TB_in 943 (by decide +kernel) rfl
theorem m_975 : Cond.methodLink R_Mo 139 y_Mo_in ∈ TB := TB_in 1053 (by decide +kernel) rfl
theorem m_976 : Cond.static y_Mo_in ∈ TB := TB_in 1054 (by decide +kernel) rfl
set_option maxRecDepth 100000 in
theorem m_977 : Cond.code y_Mo_in prog_11_method_4_code 3 (some .boolean) ∈ TB := TB_in 1055 rfl rfl
theorem m_978 : Cond.constantLong R_Mo 172 (255 : Int64) ∈ TB := TB_in 1056 (by decide +kernel) rfl
theorem m_987 : Cond.methodLink R_Mo 177 y_Mo_readDraft ∈ TB := TB_in 1065 (by decide +kernel) rfl
theorem m_989 : Cond.instanceMethod y_Mo_readDraft ∈ TB := TB_in 1067 (by decide +kernel) rfl
set_option maxRecDepth 100000 in
theorem m_990 : Cond.code y_Mo_readDraft prog_11_method_21_code 3 (some .boolean) ∈ TB := TB_in 1068 rfl rfl
theorem m_991 : Cond.methodLink R_Mo 174 y_Mo_read ∈ TB := TB_in 1069 (by decide +kernel) rfl
theorem m_993 : Cond.instanceMethod y_Mo_read ∈ TB := TB_in 1071 (by decide +kernel) rfl
set_option maxRecDepth 100000 in
theorem m_994 : Cond.code y_Mo_read prog_11_method_8_code 6 (some .boolean) ∈ TB := TB_in 1072 rfl rfl
theorem m_995 : Cond.methodLink R_Mo 117 y_Mo_add ∈ TB := TB_in 1073 (by decide +kernel) rfl
theorem m_997 : Cond.instanceMethod y_Mo_add ∈ TB := TB_in 1075 (by decide +kernel) rfl
set_option maxRecDepth 100000 in
theorem m_998 : Cond.code y_Mo_add prog_11_method_6_code 5 (some .int) ∈ TB := TB_in 1076 rfl rfl
theorem m_999 : Cond.methodLink R_Mo 121 y_Mo_push ∈ TB := TB_in 1077 (by decide +kernel) rfl
theorem m_1001 : Cond.instanceMethod y_Mo_push ∈ TB := TB_in 1079 (by decide +kernel) rfl
set_option maxRecDepth 100000 in
theorem m_1002 : Cond.code y_Mo_push prog_11_method_7_code 4 none ∈ TB := TB_in 1080 rfl rfl
theorem m_1003 : Cond.methodLink R_Mo 125 y_Mo_goOn ∈ TB := TB_in 1081 (by decide +kernel) rfl
theorem m_1005 : Cond.instanceMethod y_Mo_goOn ∈ TB := TB_in 1083 (by decide +kernel) rfl
set_option maxRecDepth 100000 in
theorem m_1006 : Cond.code y_Mo_goOn prog_11_method_9_code 5 (some .boolean) ∈ TB := TB_in 1084 rfl rfl
theorem m_1007 : Cond.methodLink R_Mo 129 y_Mo_wrong ∈ TB := TB_in 1085 (by decide +kernel) rfl
theorem m_1009 : Cond.instanceMethod y_Mo_wrong ∈ TB := TB_in 1087 (by decide +kernel) rfl
set_option maxRecDepth 100000 in
theorem m_1010 : Cond.code y_Mo_wrong prog_11_method_5_code 3 (some .boolean) ∈ TB := TB_in 1088 rfl rfl
theorem m_1011 : Cond.methodLink R_Mo 132 y_Mo_element ∈ TB := TB_in 1089 (by decide +kernel) rfl
theorem m_1013 : Cond.instanceMethod y_Mo_element ∈ TB := TB_in 1091 (by decide +kernel) rfl
set_option maxRecDepth 100000 in
theorem m_1014 : Cond.code y_Mo_element prog_11_method_11_code 12 (some .boolean) ∈ TB := TB_in 1092 rfl rfl
theorem m_1015 : Cond.methodLink R_Mo 143 y_Mo_whole ∈ TB := TB_in 1093 (by decide +kernel) rfl
theorem m_1017 : Cond.instanceMethod y_Mo_whole ∈ TB := TB_in 1095 (by decide +kernel) rfl
set_option maxRecDepth 100000 in
theorem m_1018 : Cond.code y_Mo_whole prog_11_method_12_code 5 (some .boolean) ∈ TB := TB_in 1096 rfl rfl
theorem m_1019 : Cond.methodLink R_Mo 146 y_Mo_spelled ∈ TB := TB_in 1097 (by decide +kernel) rfl
theorem m_1021 : Cond.instanceMethod y_Mo_spelled ∈ TB := TB_in 1099 (by decide +kernel) rfl
set_option maxRecDepth 100000 in
theorem m_1022 : Cond.code y_Mo_spelled prog_11_method_13_code 7 (some .boolean) ∈ TB := TB_in 1100 rfl rfl
theorem m_1023 : Cond.methodLink R_Mo 135 y_Mo_item ∈ TB := TB_in 1101 (by decide +kernel) rfl
theorem m_1025 : Cond.instanceMethod y_Mo_item ∈ TB := TB_in 1103 (by decide +kernel) rfl
set_option maxRecDepth 100000 in
theorem m_1026 : Cond.code y_Mo_item prog_11_method_10_code 6 (some .boolean) ∈ TB := TB_in 1104 rfl rfl
theorem m_1031 : Cond.methodLink R_Mo 180 y_Mo_canonical ∈ TB := TB_in 1109 (by decide +kernel) rfl
theorem m_1033 : Cond.instanceMethod y_Mo_canonical ∈ TB := TB_in 1111 (by decide +kernel) rfl
set_option maxRecDepth 100000 in
theorem m_1034 : Cond.code y_Mo_canonical prog_11_method_18_code 4 (some .boolean) ∈ TB := TB_in 1112 rfl rfl
theorem m_1035 : Cond.methodLink R_Mo 162 y_Mo_measure ∈ TB := TB_in 1113 (by decide +kernel) rfl
theorem m_1037 : Cond.instanceMethod y_Mo_measure ∈ TB := TB_in 1115 (by decide +kernel) rfl
set_option maxRecDepth 100000 in
theorem m_1038 : Cond.code y_Mo_measure prog_11_method_15_code 7 (some .boolean) ∈ TB := TB_in 1116 rfl rfl
theorem m_1039 : Cond.methodLink R_Mo 151 y_Mo_bytesOf ∈ TB := TB_in 1117 (by decide +kernel) rfl
theorem m_1040 : Cond.static y_Mo_bytesOf ∈ TB := TB_in 1118 (by decide +kernel) rfl
set_option maxRecDepth 100000 in
theorem m_1041 : Cond.code y_Mo_bytesOf prog_11_method_14_code 1 (some .int) ∈ TB := TB_in 1119 rfl rfl
theorem m_1042 : Cond.constant R_Mo 149 (-8388608 : Int32) ∈ TB := TB_in 1120 (by decide +kernel) rfl
theorem m_1043 : Cond.constant R_Mo 150 (8388607 : Int32) ∈ TB := TB_in 1121 (by decide +kernel) rfl
theorem m_1044 : Cond.methodLink R_Mo 165 y_Mo_write ∈ TB := TB_in 1122 (by decide +kernel) rfl
theorem m_1046 : Cond.instanceMethod y_Mo_write ∈ TB := TB_in 1124 (by decide +kernel) rfl
set_option maxRecDepth 100000 in
theorem m_1047 : Cond.code y_Mo_write prog_11_method_17_code 6 none ∈ TB := TB_in 1125 rfl rfl
theorem m_1048 : Cond.methodLink R_Mo 158 y_Mo_make ∈ TB := TB_in 1126 (by decide +kernel) rfl
theorem m_1050 : Cond.instanceMethod y_Mo_make ∈ TB := TB_in 1128 (by decide +kernel) rfl
set_option maxRecDepth 100000 in
theorem m_1051 : Cond.code y_Mo_make prog_11_method_16_code 2 none ∈ TB := TB_in 1129 rfl rfl
theorem m_1052 : Cond.methodLink R_Mo 183 y_Mo_fails ∈ TB := TB_in 1130 (by decide +kernel) rfl
theorem m_1054 : Cond.instanceMethod y_Mo_fails ∈ TB := TB_in 1132 (by decide +kernel) rfl
set_option maxRecDepth 100000 in
theorem m_1055 : Cond.code y_Mo_fails prog_11_method_3_code 2 (some .int) ∈ TB := TB_in 1133 rfl rfl
theorem m_1064 : Cond.methodLink R_Mo 219 y_Mo_comesTo ∈ TB := TB_in 1142 (by decide +kernel) rfl
theorem m_1066 : Cond.instanceMethod y_Mo_comesTo ∈ TB := TB_in 1144 (by decide +kernel) rfl
set_option maxRecDepth 100000 in
theorem m_1067 : Cond.code y_Mo_comesTo prog_11_method_28_code 2 none ∈ TB := TB_in 1145 rfl rfl
theorem m_1068 : Cond.methodLink R_Mo 195 y_Mo_forget ∈ TB := TB_in 1146 (by decide +kernel) rfl
theorem m_1070 : Cond.instanceMethod y_Mo_forget ∈ TB := TB_in 1148 (by decide +kernel) rfl
set_option maxRecDepth 100000 in
theorem m_1071 : Cond.code y_Mo_forget prog_11_method_26_code 1 none ∈ TB := TB_in 1149 rfl rfl
theorem m_1076 : Cond.methodLink R_Mo 213 y_Mo_shut ∈ TB := TB_in 1154 (by decide +kernel) rfl
theorem m_1078 : Cond.instanceMethod y_Mo_shut ∈ TB := TB_in 1156 (by decide +kernel) rfl
set_option maxRecDepth 100000 in
theorem m_1079 : Cond.code y_Mo_shut prog_11_method_25_code 1 none ∈ TB := TB_in 1157 rfl rfl
theorem m_1084 : Cond.methodLink R_Mo 222 y_Mo_comes ∈ TB := TB_in 1162 (by decide +kernel) rfl
theorem m_1086 : Cond.instanceMethod y_Mo_comes ∈ TB := TB_in 1164 (by decide +kernel) rfl
set_option maxRecDepth 100000 in
theorem m_1087 : Cond.code y_Mo_comes prog_11_method_34_code 2 none ∈ TB := TB_in 1165 rfl rfl
theorem m_1088 : Cond.methodLink R_Mo 225 y_Mo_breakOff ∈ TB := TB_in 1166 (by decide +kernel) rfl
theorem m_1090 : Cond.instanceMethod y_Mo_breakOff ∈ TB := TB_in 1168 (by decide +kernel) rfl
set_option maxRecDepth 100000 in
theorem m_1091 : Cond.code y_Mo_breakOff prog_11_method_29_code 1 none ∈ TB := TB_in 1169 rfl rfl
theorem m_1092 : Cond.methodLink R_Mo 216 y_Mo_sends ∈ TB := TB_in 1170 (by decide +kernel) rfl
theorem m_1094 : Cond.instanceMethod y_Mo_sends ∈ TB := TB_in 1172 (by decide +kernel) rfl
set_option maxRecDepth 100000 in
theorem m_1095 : Cond.code y_Mo_sends prog_11_method_27_code 3 (some .boolean) ∈ TB := TB_in 1173 rfl rfl
theorem m_1096 : Cond.methodLink R_Mo 228 y_Mo_piece ∈ TB := TB_in 1174 (by decide +kernel) rfl
theorem m_1098 : Cond.instanceMethod y_Mo_piece ∈ TB := TB_in 1176 (by decide +kernel) rfl
set_option maxRecDepth 100000 in
theorem m_1099 : Cond.code y_Mo_piece prog_11_method_35_code 3 none ∈ TB := TB_in 1177 rfl rfl
theorem m_1100 : Cond.methodLink R_Mo 232 y_Mo_isRequest ∈ TB := TB_in 1178 (by decide +kernel) rfl
theorem m_1102 : Cond.instanceMethod y_Mo_isRequest ∈ TB := TB_in 1180 (by decide +kernel) rfl
set_option maxRecDepth 100000 in
theorem m_1103 : Cond.code y_Mo_isRequest prog_11_method_36_code 5 (some .boolean) ∈ TB := TB_in 1181 rfl rfl
theorem m_1104 : Cond.methodLink R_Mo 235 y_Mo_request ∈ TB := TB_in 1182 (by decide +kernel) rfl
theorem m_1106 : Cond.instanceMethod y_Mo_request ∈ TB := TB_in 1184 (by decide +kernel) rfl
set_option maxRecDepth 100000 in
theorem m_1107 : Cond.code y_Mo_request prog_11_method_37_code 4 none ∈ TB := TB_in 1185 rfl rfl
theorem m_1108 : Cond.methodLink R_Mo 238 y_Mo_fragment ∈ TB := TB_in 1186 (by decide +kernel) rfl
theorem m_1110 : Cond.instanceMethod y_Mo_fragment ∈ TB := TB_in 1188 (by decide +kernel) rfl
set_option maxRecDepth 100000 in
theorem m_1111 : Cond.code y_Mo_fragment prog_11_method_39_code 6 (some .boolean) ∈ TB := TB_in 1189 rfl rfl
theorem m_1112 : Cond.methodLink R_Mo 244 y_Mo_contextOf ∈ TB := TB_in 1190 (by decide +kernel) rfl
theorem m_1114 : Cond.instanceMethod y_Mo_contextOf ∈ TB := TB_in 1192 (by decide +kernel) rfl
set_option maxRecDepth 100000 in
theorem m_1115 : Cond.code y_Mo_contextOf prog_11_method_38_code 3 (some .int) ∈ TB := TB_in 1193 rfl rfl
theorem m_1116 : Cond.methodLink R_Mo 247 y_Mo_answer ∈ TB := TB_in 1194 (by decide +kernel) rfl
theorem m_1118 : Cond.instanceMethod y_Mo_answer ∈ TB := TB_in 1196 (by decide +kernel) rfl
set_option maxRecDepth 100000 in
theorem m_1119 : Cond.code y_Mo_answer prog_11_method_44_code 5 none ∈ TB := TB_in 1197 rfl rfl
theorem m_1120 : Cond.methodLink R_Mo 271 y_Mo_replies ∈ TB := TB_in 1198 (by decide +kernel) rfl
theorem m_1122 : Cond.instanceMethod y_Mo_replies ∈ TB := TB_in 1200 (by decide +kernel) rfl
set_option maxRecDepth 100000 in
theorem m_1123 : Cond.code y_Mo_replies prog_11_method_43_code 3 (some .boolean) ∈ TB := TB_in 1201 rfl rfl
theorem m_1124 : Cond.methodLink R_Mo 266 y_Mo_number ∈ TB := TB_in 1202 (by decide +kernel) rfl
theorem m_1126 : Cond.instanceMethod y_Mo_number ∈ TB := TB_in 1204 (by decide +kernel) rfl
set_option maxRecDepth 100000 in
theorem m_1127 : Cond.code y_Mo_number prog_11_method_42_code 5 none ∈ TB := TB_in 1205 rfl rfl
theorem m_1128 : Cond.methodLink R_Mo 275 y_Mo_store ∈ TB := TB_in 1206 (by decide +kernel) rfl
theorem m_1130 : Cond.instanceMethod y_Mo_store ∈ TB := TB_in 1208 (by decide +kernel) rfl
set_option maxRecDepth 100000 in
theorem m_1131 : Cond.code y_Mo_store prog_11_method_45_code 7 none ∈ TB := TB_in 1209 rfl rfl
theorem m_1132 : Cond.methodLink R_Mo 281 y_Mo_placeOf ∈ TB := TB_in 1210 (by decide +kernel) rfl
theorem m_1134 : Cond.instanceMethod y_Mo_placeOf ∈ TB := TB_in 1212 (by decide +kernel) rfl
set_option maxRecDepth 100000 in
theorem m_1135 : Cond.code y_Mo_placeOf prog_11_method_47_code 6 (some .int) ∈ TB := TB_in 1213 rfl rfl
theorem m_1136 : Cond.methodLink R_Mo 287 y_Mo_load ∈ TB := TB_in 1214 (by decide +kernel) rfl
theorem m_1138 : Cond.instanceMethod y_Mo_load ∈ TB := TB_in 1216 (by decide +kernel) rfl
set_option maxRecDepth 100000 in
theorem m_1139 : Cond.code y_Mo_load prog_11_method_46_code 3 none ∈ TB := TB_in 1217 rfl rfl
theorem m_1140 : Cond.methodLink R_Mo 278 y_Mo_find ∈ TB := TB_in 1218 (by decide +kernel) rfl
theorem m_1142 : Cond.instanceMethod y_Mo_find ∈ TB := TB_in 1220 (by decide +kernel) rfl
set_option maxRecDepth 100000 in
theorem m_1143 : Cond.code y_Mo_find prog_11_method_48_code 4 none ∈ TB := TB_in 1221 rfl rfl
theorem m_1144 : Cond.methodLink R_Mo 290 y_Mo_matches ∈ TB := TB_in 1222 (by decide +kernel) rfl
theorem m_1146 : Cond.instanceMethod y_Mo_matches ∈ TB := TB_in 1224 (by decide +kernel) rfl
set_option maxRecDepth 100000 in
theorem m_1147 : Cond.code y_Mo_matches prog_11_method_51_code 3 (some .boolean) ∈ TB := TB_in 1225 rfl rfl
theorem m_1148 : Cond.methodLink R_Mo 296 y_Mo_sets ∈ TB := TB_in 1226 (by decide +kernel) rfl
theorem m_1150 : Cond.instanceMethod y_Mo_sets ∈ TB := TB_in 1228 (by decide +kernel) rfl
set_option maxRecDepth 100000 in
theorem m_1151 : Cond.code y_Mo_sets prog_11_method_50_code 4 (some .int) ∈ TB := TB_in 1229 rfl rfl
theorem m_1152 : Cond.methodLink R_Mo 299 y_Mo_fitsSet ∈ TB := TB_in 1230 (by decide +kernel) rfl
theorem m_1154 : Cond.instanceMethod y_Mo_fitsSet ∈ TB := TB_in 1232 (by decide +kernel) rfl
set_option maxRecDepth 100000 in
theorem m_1155 : Cond.code y_Mo_fitsSet prog_11_method_52_code 7 (some .boolean) ∈ TB := TB_in 1233 rfl rfl
theorem m_1156 : Cond.methodLink R_Mo 302 y_Mo_fitsElement ∈ TB := TB_in 1234 (by decide +kernel) rfl
theorem m_1158 : Cond.instanceMethod y_Mo_fitsElement ∈ TB := TB_in 1236 (by decide +kernel) rfl
set_option maxRecDepth 100000 in
theorem m_1159 : Cond.code y_Mo_fitsElement prog_11_method_53_code 5 (some .boolean) ∈ TB := TB_in 1237 rfl rfl
theorem m_1160 : Cond.methodLink R_Mo 305 y_Mo_likes ∈ TB := TB_in 1238 (by decide +kernel) rfl
theorem m_1162 : Cond.instanceMethod y_Mo_likes ∈ TB := TB_in 1240 (by decide +kernel) rfl
set_option maxRecDepth 100000 in
theorem m_1163 : Cond.code y_Mo_likes prog_11_method_54_code 10 (some .boolean) ∈ TB := TB_in 1241 rfl rfl
theorem m_1164 : Cond.methodLink R_Mo 293 y_Mo_shows ∈ TB := TB_in 1242 (by decide +kernel) rfl
theorem m_1166 : Cond.instanceMethod y_Mo_shows ∈ TB := TB_in 1244 (by decide +kernel) rfl
set_option maxRecDepth 100000 in
theorem m_1167 : Cond.code y_Mo_shows prog_11_method_49_code 5 (some .boolean) ∈ TB := TB_in 1245 rfl rfl
theorem m_1168 : Cond.methodLink R_Mo 251 y_Mo_commanded ∈ TB := TB_in 1246 (by decide +kernel) rfl
theorem m_1170 : Cond.instanceMethod y_Mo_commanded ∈ TB := TB_in 1248 (by decide +kernel) rfl
set_option maxRecDepth 100000 in
theorem m_1171 : Cond.code y_Mo_commanded prog_11_method_41_code 4 (some .boolean) ∈ TB := TB_in 1249 rfl rfl
theorem m_1172 : Cond.methodLink R_Mo 255 y_Mo_numberAt ∈ TB := TB_in 1250 (by decide +kernel) rfl
theorem m_1174 : Cond.instanceMethod y_Mo_numberAt ∈ TB := TB_in 1252 (by decide +kernel) rfl
set_option maxRecDepth 100000 in
theorem m_1175 : Cond.code y_Mo_numberAt prog_11_method_40_code 5 (some .int) ∈ TB := TB_in 1253 rfl rfl
theorem m_1176 : Cond.constant R_Mo 258 (-2147483648 : Int32) ∈ TB := TB_in 1254 (by decide +kernel) rfl
theorem m_1177 : Cond.constant R_Mo 259 (2147483647 : Int32) ∈ TB := TB_in 1255 (by decide +kernel) rfl
