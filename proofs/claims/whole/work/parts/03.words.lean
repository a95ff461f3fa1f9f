/-! THE WORDS: all of the tables' words that last, in one list for all methods -/
def hr_W : List Cond := lw_tbl.filter goodWord
theorem hr_W_mem {w : Cond} (h : w ∈ tables_1) (g : goodWord w = true) : w ∈ hr_W := List.mem_filter.mpr ⟨List.mem_append_right _ h, g⟩
theorem hr_W_sel {w : Cond} (h : w ∈ k2_sels lw_privs) (g : goodWord w = true) : w ∈ hr_W := List.mem_filter.mpr ⟨List.mem_append_left _ h, g⟩
theorem hr_W_ok {w : Cond} (h : w ∈ hr_W) : (w.onTables && w.keeps) = true ∨ ∃ ty, w = .arrayClass ty := good_of_word (List.mem_filter.mp h).2
theorem hr_t1 {w : Cond} {n : Nat} (h : tables_1_1[n]? = some w) : w ∈ tables_1 := List.mem_append_left _ (List.mem_of_getElem? h)
theorem hr_t2 {w : Cond} {n : Nat} (h : tables_1_2[n]? = some w) : w ∈ tables_1 := List.mem_append_right _ (List.mem_append_left _ (List.mem_of_getElem? h))
theorem hr_t3 {w : Cond} {n : Nat} (h : tables_1_3[n]? = some w) : w ∈ tables_1 := List.mem_append_right _ (List.mem_append_right _ (List.mem_append_left _ (List.mem_of_getElem? h)))
theorem hr_t4 {w : Cond} {n : Nat} (h : tables_1_4[n]? = some w) : w ∈ tables_1 := List.mem_append_right _ (List.mem_append_right _ (List.mem_append_right _ (List.mem_of_getElem? h)))
/-- a callee's words, by its links -/
theorem hr_gV {c0 cy : Cond} {own C : String} {idx : Nat} {y : MethodName} (h1 : Cond.methodLink own idx y ∈ hr_W) (h2 : Cond.instanceMethod y ∈ hr_W) (h3 : Cond.selects C y y ∈ hr_W) (h4 : Cond.initialized C ∈ hr_W) (h5 : cy ∈ hr_W) : GoodIn (c0 :: hr_W) (wsV own idx C y (cy :: hr_W)) := by
  intro w hw
  have key : w ∈ hr_W := by
    unfold wsV at hw
    simp only [List.cons_append, List.nil_append, List.mem_cons] at hw
    rcases hw with rfl | rfl | rfl | rfl | rfl | hw <;> assumption
  exact ⟨List.mem_cons_of_mem _ key, hr_W_ok key⟩
theorem hr_gS {c0 cy : Cond} {own : String} {idx : Nat} {y : MethodName} (h1 : Cond.methodLink own idx y ∈ hr_W) (h2 : Cond.static y ∈ hr_W) (h4 : Cond.initialized own ∈ hr_W) (h5 : cy ∈ hr_W) : GoodIn (c0 :: hr_W) (wsS own idx y (cy :: hr_W)) := by
  intro w hw
  have key : w ∈ hr_W := by
    unfold wsS at hw
    simp only [List.cons_append, List.nil_append, List.mem_cons] at hw
    rcases hw with rfl | rfl | rfl | rfl | hw <;> assumption
  exact ⟨List.mem_cons_of_mem _ key, hr_W_ok key⟩
theorem hr_gT {c0 cy : Cond} {own : String} {idx : Nat} {y : MethodName} (h1 : Cond.methodLink own idx y ∈ hr_W) (h2 : Cond.static y ∈ hr_W) (h4 : Cond.initialized y.cls ∈ hr_W) (h5 : cy ∈ hr_W) : GoodIn (c0 :: hr_W) (va_wsS own idx y (cy :: hr_W)) := by
  intro w hw
  have key : w ∈ hr_W := by
    unfold va_wsS at hw
    simp only [List.cons_append, List.nil_append, List.mem_cons] at hw
    rcases hw with rfl | rfl | rfl | rfl | hw <;> assumption
  exact ⟨List.mem_cons_of_mem _ key, hr_W_ok key⟩
theorem hr_gI {c0 cy : Cond} (h5 : cy ∈ hr_W) : GoodIn (c0 :: hr_W) (cy :: hr_W) := by
  intro w hw
  have key : w ∈ hr_W := (List.mem_cons.mp hw).elim (fun h => h ▸ h5) id
  exact ⟨List.mem_cons_of_mem _ key, hr_W_ok key⟩
theorem kN_L : Cond.initialized RL ∈ hr_W := hr_W_mem (hr_t1 (n := 0) rfl) rfl
theorem kN_X3 : Cond.initialized RX3 ∈ hr_W := hr_W_mem (hr_t1 (n := 1) rfl) rfl
theorem kN_X0 : Cond.initialized RX0 ∈ hr_W := hr_W_mem (hr_t1 (n := 2) rfl) rfl
theorem kN_X1 : Cond.initialized RX1 ∈ hr_W := hr_W_mem (hr_t1 (n := 3) rfl) rfl
theorem kN_X2 : Cond.initialized RX2 ∈ hr_W := hr_W_mem (hr_t1 (n := 4) rfl) rfl
theorem kN_Arrays : Cond.initialized "java/util/Arrays" ∈ hr_W := hr_W_mem (hr_t1 (n := 5) rfl) rfl
theorem kN_X4 : Cond.initialized RX4 ∈ hr_W := hr_W_mem (hr_t1 (n := 6) rfl) rfl
theorem kN_Throwable : Cond.initialized "java/lang/Throwable" ∈ hr_W := hr_W_mem (hr_t1 (n := 7) rfl) rfl
theorem kN_Exception : Cond.initialized "java/lang/Exception" ∈ hr_W := hr_W_mem (hr_t1 (n := 8) rfl) rfl
theorem kN_RuntimeException : Cond.initialized "java/lang/RuntimeException" ∈ hr_W := hr_W_mem (hr_t1 (n := 9) rfl) rfl
theorem kN_IndexOutOfBoundsException : Cond.initialized "java/lang/IndexOutOfBoundsException" ∈ hr_W := hr_W_mem (hr_t1 (n := 10) rfl) rfl
theorem kN_IllegalArgumentException : Cond.initialized "java/lang/IllegalArgumentException" ∈ hr_W := hr_W_mem (hr_t1 (n := 11) rfl) rfl
theorem kN_IllegalStateException : Cond.initialized "java/lang/IllegalStateException" ∈ hr_W := hr_W_mem (hr_t1 (n := 12) rfl) rfl
theorem kN_System : Cond.initialized "java/lang/System" ∈ hr_W := hr_W_mem (hr_t1 (n := 13) rfl) rfl
theorem kN_Math : Cond.initialized "java/lang/Math" ∈ hr_W := hr_W_mem (hr_t1 (n := 14) rfl) rfl
theorem kL_L_8 : Cond.classLink RL 8 RX3 ∈ hr_W := hr_W_mem (hr_t1 (n := 15) rfl) rfl
theorem kP_X3 : Cond.instantiable RX3 8 ∈ hr_W := hr_W_mem (hr_t1 (n := 16) rfl) rfl
theorem kM_L_64 : Cond.methodLink RL 64 yX3_init ∈ hr_W := hr_W_mem (hr_t1 (n := 17) rfl) rfl
theorem kI_X3_init : Cond.instanceMethod yX3_init ∈ hr_W := hr_W_mem (hr_t1 (n := 18) rfl) rfl
theorem kC_X3_init : Cond.code yX3_init cX3_init 2 none ∈ hr_W := hr_W_mem (hr_t1 (n := 19) rfl) rfl
theorem kM_X3_1 : Cond.methodLink RX3 1 objectInit ∈ hr_W := hr_W_mem (hr_t1 (n := 20) rfl) rfl
theorem kI_objinit : Cond.instanceMethod objectInit ∈ hr_W := hr_W_mem (hr_t1 (n := 21) rfl) rfl
theorem kC_objinit : Cond.code objectInit ⟨#[0xb1]⟩ 1 none ∈ hr_W := hr_W_mem (hr_t1 (n := 22) rfl) rfl
theorem kL_X3_13 : Cond.classLink RX3 13 RX2 ∈ hr_W := hr_W_mem (hr_t1 (n := 23) rfl) rfl
theorem kL_X3_19 : Cond.classLink RX3 19 RX0 ∈ hr_W := hr_W_mem (hr_t1 (n := 25) rfl) rfl
theorem kP_X0 : Cond.instantiable RX0 5 ∈ hr_W := hr_W_mem (hr_t1 (n := 26) rfl) rfl
theorem kM_X3_21 : Cond.methodLink RX3 21 yX0_init ∈ hr_W := hr_W_mem (hr_t1 (n := 27) rfl) rfl
theorem kI_X0_init : Cond.instanceMethod yX0_init ∈ hr_W := hr_W_mem (hr_t1 (n := 28) rfl) rfl
theorem kC_X0_init : Cond.code yX0_init cX0_init 2 none ∈ hr_W := hr_W_mem (hr_t1 (n := 29) rfl) rfl
theorem kM_X0_3 : Cond.methodLink RX0 3 objectInit ∈ hr_W := hr_W_mem (hr_t1 (n := 30) rfl) rfl
theorem kL_X0_9 : Cond.classLink RX0 9 RX1 ∈ hr_W := hr_W_mem (hr_t1 (n := 31) rfl) rfl
theorem kP_X1 : Cond.instantiable RX1 4 ∈ hr_W := hr_W_mem (hr_t1 (n := 33) rfl) rfl
theorem kI_X1_init : Cond.instanceMethod yX1_init ∈ hr_W := hr_W_mem (hr_t1 (n := 35) rfl) rfl
theorem kC_X1_init : Cond.code yX1_init cX1_init 1 none ∈ hr_W := hr_W_mem (hr_t1 (n := 36) rfl) rfl
theorem kM_X1_5 : Cond.methodLink RX1 5 objectInit ∈ hr_W := hr_W_mem (hr_t1 (n := 37) rfl) rfl
theorem kF_X1_15 : Cond.fieldLink RX1 15 "HopRouters$Packet" "from" "I" ∈ hr_W := hr_W_mem (hr_t1 (n := 38) rfl) rfl
theorem kF_X3_125 : Cond.fieldLink RX3 125 "HopRouters$Packet" "from" "I" ∈ hr_W := hr_W_mem (hr_t1 (n := 39) rfl) rfl
theorem kF_X1_19 : Cond.fieldLink RX1 19 "HopRouters$Packet" "to" "I" ∈ hr_W := hr_W_mem (hr_t1 (n := 40) rfl) rfl
theorem kF_X3_128 : Cond.fieldLink RX3 128 "HopRouters$Packet" "to" "I" ∈ hr_W := hr_W_mem (hr_t1 (n := 41) rfl) rfl
theorem kF_X1_22 : Cond.fieldLink RX1 22 "HopRouters$Packet" "length" "I" ∈ hr_W := hr_W_mem (hr_t1 (n := 42) rfl) rfl
theorem kF_X3_120 : Cond.fieldLink RX3 120 "HopRouters$Packet" "length" "I" ∈ hr_W := hr_W_mem (hr_t1 (n := 43) rfl) rfl
theorem kF_X1_11 : Cond.fieldLink RX1 11 "HopRouters$Packet" "words" "[I" ∈ hr_W := hr_W_mem (hr_t1 (n := 44) rfl) rfl
theorem kA_boolean : Cond.arrayClass .boolean ∈ hr_W := hr_W_mem (hr_t1 (n := 54) rfl) rfl
theorem kA_int : Cond.arrayClass .int ∈ hr_W := hr_W_mem (hr_t1 (n := 55) rfl) rfl
theorem kF_X0_11 : Cond.fieldLink RX0 11 "HopRouters$Air" "places" "[LHopRouters$Packet;" ∈ hr_W := hr_W_mem (hr_t1 (n := 56) rfl) rfl
theorem kF_X0_17 : Cond.fieldLink RX0 17 "HopRouters$Air" "order" "[I" ∈ hr_W := hr_W_mem (hr_t1 (n := 57) rfl) rfl
theorem kF_X0_26 : Cond.fieldLink RX0 26 "HopRouters$Air" "size" "I" ∈ hr_W := hr_W_mem (hr_t1 (n := 58) rfl) rfl
theorem kF_X3_79 : Cond.fieldLink RX3 79 "HopRouters$Air" "size" "I" ∈ hr_W := hr_W_mem (hr_t1 (n := 59) rfl) rfl
theorem kF_X0_22 : Cond.fieldLink RX0 22 "HopRouters$Air" "sent" "I" ∈ hr_W := hr_W_mem (hr_t1 (n := 60) rfl) rfl
theorem kF_X3_150 : Cond.fieldLink RX3 150 "HopRouters$Air" "sent" "I" ∈ hr_W := hr_W_mem (hr_t1 (n := 61) rfl) rfl
theorem kF_X0_29 : Cond.fieldLink RX0 29 "HopRouters$Air" "lost" "I" ∈ hr_W := hr_W_mem (hr_t1 (n := 62) rfl) rfl
theorem kF_X3_147 : Cond.fieldLink RX3 147 "HopRouters$Air" "lost" "I" ∈ hr_W := hr_W_mem (hr_t1 (n := 63) rfl) rfl
theorem kL_X3_26 : Cond.classLink RX3 26 RX1 ∈ hr_W := hr_W_mem (hr_t1 (n := 75) rfl) rfl
theorem kP_X2 : Cond.instantiable RX2 5 ∈ hr_W := hr_W_mem (hr_t1 (n := 77) rfl) rfl
theorem kM_X3_36 : Cond.methodLink RX3 36 yX2_init ∈ hr_W := hr_W_mem (hr_t1 (n := 78) rfl) rfl
theorem kI_X2_init : Cond.instanceMethod yX2_init ∈ hr_W := hr_W_mem (hr_t1 (n := 79) rfl) rfl
theorem kC_X2_init : Cond.code yX2_init cX2_init 1 none ∈ hr_W := hr_W_mem (hr_t1 (n := 80) rfl) rfl
theorem kM_X2_3 : Cond.methodLink RX2 3 objectInit ∈ hr_W := hr_W_mem (hr_t1 (n := 81) rfl) rfl
theorem kM_X2_28 : Cond.methodLink RX2 28 ⟨"java/util/Arrays", "fill", "([II)V"⟩ ∈ hr_W := hr_W_mem (hr_t1 (n := 82) rfl) rfl
theorem kT_fill : Cond.static yJ7_fill_53178 ∈ hr_W := hr_W_mem (hr_t1 (n := 83) rfl) rfl
theorem kC_fill : Cond.code yJ7_fill_53178 cJ7_fill_53178 4 none ∈ hr_W := hr_W_mem (hr_t1 (n := 84) rfl) rfl
theorem kF_X2_9 : Cond.fieldLink RX2 9 "HopRouters$Table" "metric" "[I" ∈ hr_W := hr_W_mem (hr_t1 (n := 85) rfl) rfl
theorem kF_X3_231 : Cond.fieldLink RX3 231 "HopRouters$Table" "metric" "[I" ∈ hr_W := hr_W_mem (hr_t1 (n := 86) rfl) rfl
theorem kF_X2_15 : Cond.fieldLink RX2 15 "HopRouters$Table" "next" "[I" ∈ hr_W := hr_W_mem (hr_t1 (n := 87) rfl) rfl
theorem kF_X3_143 : Cond.fieldLink RX3 143 "HopRouters$Table" "next" "[I" ∈ hr_W := hr_W_mem (hr_t1 (n := 88) rfl) rfl
theorem kF_X2_18 : Cond.fieldLink RX2 18 "HopRouters$Table" "age" "[I" ∈ hr_W := hr_W_mem (hr_t1 (n := 89) rfl) rfl
theorem kF_X2_21 : Cond.fieldLink RX2 21 "HopRouters$Table" "silent" "[I" ∈ hr_W := hr_W_mem (hr_t1 (n := 90) rfl) rfl
theorem kF_X2_24 : Cond.fieldLink RX2 24 "HopRouters$Table" "changed" "[Z" ∈ hr_W := hr_W_mem (hr_t1 (n := 91) rfl) rfl
theorem kF_X3_188 : Cond.fieldLink RX3 188 "HopRouters$Table" "changed" "[Z" ∈ hr_W := hr_W_mem (hr_t1 (n := 92) rfl) rfl
theorem kF_X3_9 : Cond.fieldLink RX3 9 "HopRouters" "linked" "[Z" ∈ hr_W := hr_W_mem (hr_t1 (n := 104) rfl) rfl
theorem kF_X3_15 : Cond.fieldLink RX3 15 "HopRouters" "tables" "[LHopRouters$Table;" ∈ hr_W := hr_W_mem (hr_t1 (n := 105) rfl) rfl
theorem kF_X3_22 : Cond.fieldLink RX3 22 "HopRouters" "air" "LHopRouters$Air;" ∈ hr_W := hr_W_mem (hr_t1 (n := 106) rfl) rfl
theorem kF_X3_29 : Cond.fieldLink RX3 29 "HopRouters" "draft" "LHopRouters$Packet;" ∈ hr_W := hr_W_mem (hr_t1 (n := 107) rfl) rfl
theorem kF_X3_33 : Cond.fieldLink RX3 33 "HopRouters" "arriving" "LHopRouters$Packet;" ∈ hr_W := hr_W_mem (hr_t1 (n := 108) rfl) rfl
theorem kF_X3_153 : Cond.fieldLink RX3 153 "HopRouters" "time" "I" ∈ hr_W := hr_W_mem (hr_t1 (n := 109) rfl) rfl
theorem kF_X3_45 : Cond.fieldLink RX3 45 "HopRouters" "linksUp" "I" ∈ hr_W := hr_W_mem (hr_t1 (n := 110) rfl) rfl
theorem kF_X3_156 : Cond.fieldLink RX3 156 "HopRouters" "unsoundPackets" "I" ∈ hr_W := hr_W_mem (hr_t1 (n := 111) rfl) rfl
theorem kM_L_68 : Cond.methodLink RL 68 yL_link ∈ hr_W := hr_W_mem (hr_t1 (n := 129) rfl) rfl
theorem kT_L_link : Cond.static yL_link ∈ hr_W := hr_W_mem (hr_t1 (n := 130) rfl) rfl
theorem kC_L_link : Cond.codeWith yL_link cL_link 6 (some .int) [(0, 19, 22, 13), (0, 19, 26, 15)] ∈ hr_W := hr_W_mem (hr_t1 (n := 131) rfl) rfl
theorem kL_L_13 : Cond.classLink RL 13 "java/lang/IndexOutOfBoundsException" ∈ hr_W := hr_W_mem (hr_t1 (n := 132) rfl) rfl
theorem kL_L_15 : Cond.classLink RL 15 "java/lang/IllegalArgumentException" ∈ hr_W := hr_W_mem (hr_t1 (n := 133) rfl) rfl
theorem kM_L_7 : Cond.methodLink RL 7 yX3_link ∈ hr_W := hr_W_mem (hr_t1 (n := 134) rfl) rfl
theorem kI_X3_link : Cond.instanceMethod yX3_link ∈ hr_W := hr_W_mem (hr_t1 (n := 135) rfl) rfl
theorem kS_X3_link : Cond.selects RX3 yX3_link yX3_link ∈ hr_W := hr_W_mem (hr_t1 (n := 136) rfl) rfl
theorem kC_X3_link : Cond.code yX3_link cX3_link 4 (some .boolean) ∈ hr_W := hr_W_mem (hr_t1 (n := 137) rfl) rfl
theorem kM_X3_37 : Cond.methodLink RX3 37 yX3_checkPair ∈ hr_W := hr_W_mem (hr_t1 (n := 138) rfl) rfl
theorem kT_X3_checkPair : Cond.static yX3_checkPair ∈ hr_W := hr_W_mem (hr_t1 (n := 139) rfl) rfl
theorem kC_X3_checkPair : Cond.code yX3_checkPair cX3_checkPair 2 none ∈ hr_W := hr_W_mem (hr_t1 (n := 140) rfl) rfl
theorem kM_X3_60 : Cond.methodLink RX3 60 yX3_checkRouter ∈ hr_W := hr_W_mem (hr_t1 (n := 141) rfl) rfl
theorem kT_X3_checkRouter : Cond.static yX3_checkRouter ∈ hr_W := hr_W_mem (hr_t1 (n := 142) rfl) rfl
theorem kC_X3_checkRouter : Cond.code yX3_checkRouter cX3_checkRouter 1 none ∈ hr_W := hr_W_mem (hr_t1 (n := 143) rfl) rfl
theorem kL_X3_131 : Cond.classLink RX3 131 "java/lang/IndexOutOfBoundsException" ∈ hr_W := hr_W_mem (hr_t1 (n := 144) rfl) rfl
theorem kM_X3_135 : Cond.methodLink RX3 135 ⟨"java/lang/IndexOutOfBoundsException", "<init>", "(Ljava/lang/String;)V"⟩ ∈ hr_W := hr_W_mem (hr_t1 (n := 186) rfl) rfl
theorem kA_byte : Cond.arrayClass .byte ∈ hr_W := hr_W_mem (hr_t1 (n := 211) rfl) rfl
theorem kL_X3_82 : Cond.classLink RX3 82 "java/lang/IllegalArgumentException" ∈ hr_W := hr_W_mem (hr_t1 (n := 212) rfl) rfl
theorem kM_X3_86 : Cond.methodLink RX3 86 ⟨"java/lang/IllegalArgumentException", "<init>", "(Ljava/lang/String;)V"⟩ ∈ hr_W := hr_W_mem (hr_t1 (n := 222) rfl) rfl
theorem kM_X3_41 : Cond.methodLink RX3 41 yX3_isUp ∈ hr_W := hr_W_mem (hr_t1 (n := 228) rfl) rfl
theorem kI_X3_isUp : Cond.instanceMethod yX3_isUp ∈ hr_W := hr_W_mem (hr_t1 (n := 230) rfl) rfl
theorem kC_X3_isUp : Cond.code yX3_isUp cX3_isUp 3 (some .boolean) ∈ hr_W := hr_W_mem (hr_t1 (n := 231) rfl) rfl
theorem kM_L_78 : Cond.methodLink RL 78 yL_sees ∈ hr_W := hr_W_mem (hr_t1 (n := 232) rfl) rfl
theorem kT_L_sees : Cond.static yL_sees ∈ hr_W := hr_W_mem (hr_t1 (n := 233) rfl) rfl
theorem kC_L_sees : Cond.codeWith yL_sees cL_sees 5 (some .int) [(0, 10, 13, 13), (0, 10, 17, 15), (0, 10, 21, 21)] ∈ hr_W := hr_W_mem (hr_t1 (n := 234) rfl) rfl
theorem kL_L_21 : Cond.classLink RL 21 "java/lang/IllegalStateException" ∈ hr_W := hr_W_mem (hr_t1 (n := 235) rfl) rfl
theorem kM_L_17 : Cond.methodLink RL 17 yX3_sees ∈ hr_W := hr_W_mem (hr_t1 (n := 236) rfl) rfl
theorem kI_X3_sees : Cond.instanceMethod yX3_sees ∈ hr_W := hr_W_mem (hr_t1 (n := 237) rfl) rfl
theorem kS_X3_sees : Cond.selects RX3 yX3_sees yX3_sees ∈ hr_W := hr_W_mem (hr_t1 (n := 238) rfl) rfl
theorem kC_X3_sees : Cond.code yX3_sees cX3_sees 3 (some .int) ∈ hr_W := hr_W_mem (hr_t1 (n := 239) rfl) rfl
theorem kL_X3_49 : Cond.classLink RX3 49 "java/lang/IllegalStateException" ∈ hr_W := hr_W_mem (hr_t2 (n := 0) rfl) rfl
theorem kM_X3_53 : Cond.methodLink RX3 53 ⟨"java/lang/IllegalStateException", "<init>", "(Ljava/lang/String;)V"⟩ ∈ hr_W := hr_W_mem (hr_t2 (n := 10) rfl) rfl
theorem kM_X3_56 : Cond.methodLink RX3 56 yX2_loseNext ∈ hr_W := hr_W_mem (hr_t2 (n := 16) rfl) rfl
theorem kI_X2_loseNext : Cond.instanceMethod yX2_loseNext ∈ hr_W := hr_W_mem (hr_t2 (n := 17) rfl) rfl
theorem kS_X2_loseNext : Cond.selects RX2 yX2_loseNext yX2_loseNext ∈ hr_W := hr_W_mem (hr_t2 (n := 18) rfl) rfl
theorem kC_X2_loseNext : Cond.code yX2_loseNext cX2_loseNext 4 (some .int) ∈ hr_W := hr_W_mem (hr_t2 (n := 19) rfl) rfl
theorem kM_X2_59 : Cond.methodLink RX2 59 yX2_reaches ∈ hr_W := hr_W_mem (hr_t2 (n := 20) rfl) rfl
theorem kI_X2_reaches : Cond.instanceMethod yX2_reaches ∈ hr_W := hr_W_mem (hr_t2 (n := 21) rfl) rfl
theorem kS_X2_reaches : Cond.selects RX2 yX2_reaches yX2_reaches ∈ hr_W := hr_W_mem (hr_t2 (n := 22) rfl) rfl
theorem kC_X2_reaches : Cond.code yX2_reaches cX2_reaches 2 (some .boolean) ∈ hr_W := hr_W_mem (hr_t2 (n := 23) rfl) rfl
theorem kM_X2_34 : Cond.methodLink RX2 34 yX2_has ∈ hr_W := hr_W_mem (hr_t2 (n := 24) rfl) rfl
theorem kI_X2_has : Cond.instanceMethod yX2_has ∈ hr_W := hr_W_mem (hr_t2 (n := 25) rfl) rfl
theorem kS_X2_has : Cond.selects RX2 yX2_has yX2_has ∈ hr_W := hr_W_mem (hr_t2 (n := 26) rfl) rfl
theorem kC_X2_has : Cond.code yX2_has cX2_has 2 (some .boolean) ∈ hr_W := hr_W_mem (hr_t2 (n := 27) rfl) rfl
theorem kM_X2_52 : Cond.methodLink RX2 52 yX2_becomeGone ∈ hr_W := hr_W_mem (hr_t2 (n := 28) rfl) rfl
theorem kI_X2_becomeGone : Cond.instanceMethod yX2_becomeGone ∈ hr_W := hr_W_mem (hr_t2 (n := 30) rfl) rfl
theorem kC_X2_becomeGone : Cond.code yX2_becomeGone cX2_becomeGone 2 none ∈ hr_W := hr_W_mem (hr_t2 (n := 31) rfl) rfl
theorem kM_L_82 : Cond.methodLink RL 82 yL_restart ∈ hr_W := hr_W_mem (hr_t2 (n := 32) rfl) rfl
theorem kT_L_restart : Cond.static yL_restart ∈ hr_W := hr_W_mem (hr_t2 (n := 33) rfl) rfl
theorem kC_L_restart : Cond.codeWith yL_restart cL_restart 4 (some .int) [(0, 9, 12, 13)] ∈ hr_W := hr_W_mem (hr_t2 (n := 34) rfl) rfl
theorem kM_L_23 : Cond.methodLink RL 23 yX3_restart ∈ hr_W := hr_W_mem (hr_t2 (n := 35) rfl) rfl
theorem kI_X3_restart : Cond.instanceMethod yX3_restart ∈ hr_W := hr_W_mem (hr_t2 (n := 36) rfl) rfl
theorem kS_X3_restart : Cond.selects RX3 yX3_restart yX3_restart ∈ hr_W := hr_W_mem (hr_t2 (n := 37) rfl) rfl
theorem kC_X3_restart : Cond.code yX3_restart cX3_restart 3 (some .int) ∈ hr_W := hr_W_mem (hr_t2 (n := 38) rfl) rfl
theorem kM_X3_64 : Cond.methodLink RX3 64 yX2_forgetAll ∈ hr_W := hr_W_mem (hr_t2 (n := 39) rfl) rfl
theorem kI_X2_forgetAll : Cond.instanceMethod yX2_forgetAll ∈ hr_W := hr_W_mem (hr_t2 (n := 40) rfl) rfl
theorem kS_X2_forgetAll : Cond.selects RX2 yX2_forgetAll yX2_forgetAll ∈ hr_W := hr_W_mem (hr_t2 (n := 41) rfl) rfl
theorem kC_X2_forgetAll : Cond.code yX2_forgetAll cX2_forgetAll 2 none ∈ hr_W := hr_W_mem (hr_t2 (n := 42) rfl) rfl
theorem kM_X2_56 : Cond.methodLink RX2 56 yX2_forget ∈ hr_W := hr_W_mem (hr_t2 (n := 43) rfl) rfl
theorem kI_X2_forget : Cond.instanceMethod yX2_forget ∈ hr_W := hr_W_mem (hr_t2 (n := 45) rfl) rfl
theorem kC_X2_forget : Cond.code yX2_forget cX2_forget 2 none ∈ hr_W := hr_W_mem (hr_t2 (n := 46) rfl) rfl
theorem kK_X3_67 : Cond.constant RX3 67 (16908288) ∈ hr_W := hr_W_mem (hr_t2 (n := 47) rfl) rfl
theorem kM_X3_68 : Cond.methodLink RX3 68 yX1_begin ∈ hr_W := hr_W_mem (hr_t2 (n := 48) rfl) rfl
theorem kI_X1_begin : Cond.instanceMethod yX1_begin ∈ hr_W := hr_W_mem (hr_t2 (n := 49) rfl) rfl
theorem kS_X1_begin : Cond.selects RX1 yX1_begin yX1_begin ∈ hr_W := hr_W_mem (hr_t2 (n := 50) rfl) rfl
theorem kC_X1_begin : Cond.code yX1_begin cX1_begin 4 none ∈ hr_W := hr_W_mem (hr_t2 (n := 51) rfl) rfl
theorem kM_X3_72 : Cond.methodLink RX3 72 yX1_addEntry ∈ hr_W := hr_W_mem (hr_t2 (n := 52) rfl) rfl
theorem kI_X1_addEntry : Cond.instanceMethod yX1_addEntry ∈ hr_W := hr_W_mem (hr_t2 (n := 53) rfl) rfl
theorem kS_X1_addEntry : Cond.selects RX1 yX1_addEntry yX1_addEntry ∈ hr_W := hr_W_mem (hr_t2 (n := 54) rfl) rfl
theorem kC_X1_addEntry : Cond.code yX1_addEntry cX1_addEntry 5 none ∈ hr_W := hr_W_mem (hr_t2 (n := 55) rfl) rfl
theorem kM_X1_25 : Cond.methodLink RX1 25 yX1_entries ∈ hr_W := hr_W_mem (hr_t2 (n := 56) rfl) rfl
theorem kI_X1_entries : Cond.instanceMethod yX1_entries ∈ hr_W := hr_W_mem (hr_t2 (n := 57) rfl) rfl
theorem kS_X1_entries : Cond.selects RX1 yX1_entries yX1_entries ∈ hr_W := hr_W_mem (hr_t2 (n := 58) rfl) rfl
theorem kC_X1_entries : Cond.code yX1_entries cX1_entries 1 (some .int) ∈ hr_W := hr_W_mem (hr_t2 (n := 59) rfl) rfl
theorem kM_X1_29 : Cond.methodLink RX1 29 yX1_firstWord ∈ hr_W := hr_W_mem (hr_t2 (n := 60) rfl) rfl
theorem kT_X1_firstWord : Cond.static yX1_firstWord ∈ hr_W := hr_W_mem (hr_t2 (n := 61) rfl) rfl
theorem kC_X1_firstWord : Cond.code yX1_firstWord cX1_firstWord 1 (some .int) ∈ hr_W := hr_W_mem (hr_t2 (n := 62) rfl) rfl
theorem kK_X1_33 : Cond.constant RX1 33 (167772160) ∈ hr_W := hr_W_mem (hr_t2 (n := 63) rfl) rfl
theorem kM_X3_75 : Cond.methodLink RX3 75 yX0_launch ∈ hr_W := hr_W_mem (hr_t2 (n := 64) rfl) rfl
theorem kI_X0_launch : Cond.instanceMethod yX0_launch ∈ hr_W := hr_W_mem (hr_t2 (n := 65) rfl) rfl
theorem kS_X0_launch : Cond.selects RX0 yX0_launch yX0_launch ∈ hr_W := hr_W_mem (hr_t2 (n := 66) rfl) rfl
theorem kC_X0_launch : Cond.code yX0_launch cX0_launch 2 none ∈ hr_W := hr_W_mem (hr_t2 (n := 67) rfl) rfl
theorem kM_X0_32 : Cond.methodLink RX0 32 yX1_become ∈ hr_W := hr_W_mem (hr_t2 (n := 68) rfl) rfl
theorem kI_X1_become : Cond.instanceMethod yX1_become ∈ hr_W := hr_W_mem (hr_t2 (n := 69) rfl) rfl
theorem kS_X1_become : Cond.selects RX1 yX1_become yX1_become ∈ hr_W := hr_W_mem (hr_t2 (n := 70) rfl) rfl
theorem kC_X1_become : Cond.code yX1_become cX1_become 2 none ∈ hr_W := hr_W_mem (hr_t2 (n := 71) rfl) rfl
theorem kM_X1_34 : Cond.methodLink RX1 34 arraycopyName ∈ hr_W := hr_W_mem (hr_t2 (n := 72) rfl) rfl
theorem kT_arraycopy : Cond.static arraycopyName ∈ hr_W := hr_W_mem (hr_t2 (n := 73) rfl) rfl
theorem kV_arraycopy : Cond.native arraycopyName ∈ hr_W := hr_W_mem (hr_t2 (n := 74) rfl) rfl
theorem kM_L_86 : Cond.methodLink RL 86 yL_ask ∈ hr_W := hr_W_mem (hr_t2 (n := 75) rfl) rfl
theorem kT_L_ask : Cond.static yL_ask ∈ hr_W := hr_W_mem (hr_t2 (n := 76) rfl) rfl
theorem kC_L_ask : Cond.codeWith yL_ask cL_ask 6 (some .int) [(0, 12, 15, 13), (0, 12, 19, 15), (0, 12, 23, 21)] ∈ hr_W := hr_W_mem (hr_t2 (n := 77) rfl) rfl
theorem kM_L_27 : Cond.methodLink RL 27 yX3_ask ∈ hr_W := hr_W_mem (hr_t2 (n := 78) rfl) rfl
theorem kI_X3_ask : Cond.instanceMethod yX3_ask ∈ hr_W := hr_W_mem (hr_t2 (n := 79) rfl) rfl
theorem kS_X3_ask : Cond.selects RX3 yX3_ask yX3_ask ∈ hr_W := hr_W_mem (hr_t2 (n := 80) rfl) rfl
theorem kC_X3_ask : Cond.code yX3_ask cX3_ask 5 (some .int) ∈ hr_W := hr_W_mem (hr_t2 (n := 81) rfl) rfl
theorem kM_L_90 : Cond.methodLink RL 90 yL_tick ∈ hr_W := hr_W_mem (hr_t2 (n := 84) rfl) rfl
theorem kT_L_tick : Cond.static yL_tick ∈ hr_W := hr_W_mem (hr_t2 (n := 85) rfl) rfl
theorem kC_L_tick : Cond.codeWith yL_tick cL_tick 5 (some .int) [(0, 10, 13, 15)] ∈ hr_W := hr_W_mem (hr_t2 (n := 86) rfl) rfl
theorem kM_L_31 : Cond.methodLink RL 31 yX3_tick ∈ hr_W := hr_W_mem (hr_t2 (n := 87) rfl) rfl
theorem kI_X3_tick : Cond.instanceMethod yX3_tick ∈ hr_W := hr_W_mem (hr_t2 (n := 88) rfl) rfl
theorem kS_X3_tick : Cond.selects RX3 yX3_tick yX3_tick ∈ hr_W := hr_W_mem (hr_t2 (n := 89) rfl) rfl
theorem kC_X3_tick : Cond.code yX3_tick cX3_tick 5 (some .int) ∈ hr_W := hr_W_mem (hr_t2 (n := 90) rfl) rfl
theorem kM_X3_91 : Cond.methodLink RX3 91 yX3_passTime ∈ hr_W := hr_W_mem (hr_t2 (n := 92) rfl) rfl
theorem kI_X3_passTime : Cond.instanceMethod yX3_passTime ∈ hr_W := hr_W_mem (hr_t2 (n := 94) rfl) rfl
theorem kC_X3_passTime : Cond.code yX3_passTime cX3_passTime 2 none ∈ hr_W := hr_W_mem (hr_t2 (n := 95) rfl) rfl
theorem kM_X3_167 : Cond.methodLink RX3 167 yX2_growOlder ∈ hr_W := hr_W_mem (hr_t2 (n := 96) rfl) rfl
theorem kI_X2_growOlder : Cond.instanceMethod yX2_growOlder ∈ hr_W := hr_W_mem (hr_t2 (n := 97) rfl) rfl
theorem kS_X2_growOlder : Cond.selects RX2 yX2_growOlder yX2_growOlder ∈ hr_W := hr_W_mem (hr_t2 (n := 98) rfl) rfl
theorem kC_X2_growOlder : Cond.code yX2_growOlder cX2_growOlder 2 none ∈ hr_W := hr_W_mem (hr_t2 (n := 99) rfl) rfl
theorem kM_X2_62 : Cond.methodLink RX2 62 yX2_ageRoute ∈ hr_W := hr_W_mem (hr_t2 (n := 100) rfl) rfl
theorem kI_X2_ageRoute : Cond.instanceMethod yX2_ageRoute ∈ hr_W := hr_W_mem (hr_t2 (n := 102) rfl) rfl
theorem kC_X2_ageRoute : Cond.code yX2_ageRoute cX2_ageRoute 2 none ∈ hr_W := hr_W_mem (hr_t2 (n := 103) rfl) rfl
theorem kM_X3_170 : Cond.methodLink RX3 170 yX3_tellInTurn ∈ hr_W := hr_W_mem (hr_t2 (n := 104) rfl) rfl
theorem kI_X3_tellInTurn : Cond.instanceMethod yX3_tellInTurn ∈ hr_W := hr_W_mem (hr_t2 (n := 106) rfl) rfl
theorem kC_X3_tellInTurn : Cond.code yX3_tellInTurn cX3_tellInTurn 5 none ∈ hr_W := hr_W_mem (hr_t2 (n := 107) rfl) rfl
theorem kM_X3_173 : Cond.methodLink RX3 173 yX2_hasChanges ∈ hr_W := hr_W_mem (hr_t2 (n := 108) rfl) rfl
theorem kI_X2_hasChanges : Cond.instanceMethod yX2_hasChanges ∈ hr_W := hr_W_mem (hr_t2 (n := 109) rfl) rfl
theorem kS_X2_hasChanges : Cond.selects RX2 yX2_hasChanges yX2_hasChanges ∈ hr_W := hr_W_mem (hr_t2 (n := 110) rfl) rfl
theorem kC_X2_hasChanges : Cond.code yX2_hasChanges cX2_hasChanges 2 (some .boolean) ∈ hr_W := hr_W_mem (hr_t2 (n := 111) rfl) rfl
theorem kM_X3_177 : Cond.methodLink RX3 177 yX3_tell ∈ hr_W := hr_W_mem (hr_t2 (n := 112) rfl) rfl
theorem kI_X3_tell : Cond.instanceMethod yX3_tell ∈ hr_W := hr_W_mem (hr_t2 (n := 114) rfl) rfl
theorem kC_X3_tell : Cond.code yX3_tell cX3_tell 6 none ∈ hr_W := hr_W_mem (hr_t2 (n := 115) rfl) rfl
theorem kK_X3_184 : Cond.constant RX3 184 (33685504) ∈ hr_W := hr_W_mem (hr_t2 (n := 116) rfl) rfl
theorem kM_X3_185 : Cond.methodLink RX3 185 yX2_has ∈ hr_W := hr_W_mem (hr_t2 (n := 117) rfl) rfl
theorem kM_X3_191 : Cond.methodLink RX3 191 yX2_metricTold ∈ hr_W := hr_W_mem (hr_t2 (n := 118) rfl) rfl
theorem kI_X2_metricTold : Cond.instanceMethod yX2_metricTold ∈ hr_W := hr_W_mem (hr_t2 (n := 119) rfl) rfl
theorem kS_X2_metricTold : Cond.selects RX2 yX2_metricTold yX2_metricTold ∈ hr_W := hr_W_mem (hr_t2 (n := 120) rfl) rfl
theorem kC_X2_metricTold : Cond.code yX2_metricTold cX2_metricTold 3 (some .int) ∈ hr_W := hr_W_mem (hr_t2 (n := 121) rfl) rfl
theorem kM_X2_38 : Cond.methodLink RX2 38 Lib.Math.min.name ∈ hr_W := hr_W_mem (hr_t2 (n := 122) rfl) rfl
theorem kT_min : Cond.static Lib.Math.min.name ∈ hr_W := hr_W_mem (hr_t2 (n := 123) rfl) rfl
theorem kC_min : Cond.code Lib.Math.min.name Lib.Math.min.code 2 (some .int) ∈ hr_W := hr_W_mem (hr_t2 (n := 124) rfl) rfl
theorem kM_X3_181 : Cond.methodLink RX3 181 yX2_clearChanges ∈ hr_W := hr_W_mem (hr_t2 (n := 125) rfl) rfl
theorem kI_X2_clearChanges : Cond.instanceMethod yX2_clearChanges ∈ hr_W := hr_W_mem (hr_t2 (n := 126) rfl) rfl
theorem kS_X2_clearChanges : Cond.selects RX2 yX2_clearChanges yX2_clearChanges ∈ hr_W := hr_W_mem (hr_t2 (n := 127) rfl) rfl
theorem kC_X2_clearChanges : Cond.code yX2_clearChanges cX2_clearChanges 2 none ∈ hr_W := hr_W_mem (hr_t2 (n := 128) rfl) rfl
theorem kM_X3_94 : Cond.methodLink RX3 94 yX3_bring ∈ hr_W := hr_W_mem (hr_t2 (n := 129) rfl) rfl
theorem kI_X3_bring : Cond.instanceMethod yX3_bring ∈ hr_W := hr_W_mem (hr_t2 (n := 131) rfl) rfl
theorem kC_X3_bring : Cond.code yX3_bring cX3_bring 2 (some .boolean) ∈ hr_W := hr_W_mem (hr_t2 (n := 132) rfl) rfl
theorem kM_X3_104 : Cond.methodLink RX3 104 yX0_at ∈ hr_W := hr_W_mem (hr_t2 (n := 133) rfl) rfl
theorem kI_X0_at : Cond.instanceMethod yX0_at ∈ hr_W := hr_W_mem (hr_t2 (n := 134) rfl) rfl
theorem kS_X0_at : Cond.selects RX0 yX0_at yX0_at ∈ hr_W := hr_W_mem (hr_t2 (n := 135) rfl) rfl
theorem kC_X0_at : Cond.code yX0_at cX0_at 2 (some (.object "HopRouters$Packet")) ∈ hr_W := hr_W_mem (hr_t2 (n := 136) rfl) rfl
theorem kM_X3_194 : Cond.methodLink RX3 194 yX1_become ∈ hr_W := hr_W_mem (hr_t2 (n := 137) rfl) rfl
theorem kM_X3_101 : Cond.methodLink RX3 101 yX0_remove ∈ hr_W := hr_W_mem (hr_t2 (n := 138) rfl) rfl
theorem kI_X0_remove : Cond.instanceMethod yX0_remove ∈ hr_W := hr_W_mem (hr_t2 (n := 139) rfl) rfl
theorem kS_X0_remove : Cond.selects RX0 yX0_remove yX0_remove ∈ hr_W := hr_W_mem (hr_t2 (n := 140) rfl) rfl
theorem kC_X0_remove : Cond.code yX0_remove cX0_remove 3 none ∈ hr_W := hr_W_mem (hr_t2 (n := 141) rfl) rfl
theorem kM_X0_36 : Cond.methodLink RX0 36 arraycopyName ∈ hr_W := hr_W_mem (hr_t2 (n := 142) rfl) rfl
theorem kM_X3_197 : Cond.methodLink RX3 197 yX1_isSound ∈ hr_W := hr_W_mem (hr_t2 (n := 143) rfl) rfl
theorem kI_X1_isSound : Cond.instanceMethod yX1_isSound ∈ hr_W := hr_W_mem (hr_t2 (n := 144) rfl) rfl
theorem kS_X1_isSound : Cond.selects RX1 yX1_isSound yX1_isSound ∈ hr_W := hr_W_mem (hr_t2 (n := 145) rfl) rfl
theorem kC_X1_isSound : Cond.code yX1_isSound cX1_isSound 1 (some .boolean) ∈ hr_W := hr_W_mem (hr_t2 (n := 146) rfl) rfl
theorem kK_X1_43 : Cond.constant RX1 43 (16908288) ∈ hr_W := hr_W_mem (hr_t2 (n := 147) rfl) rfl
theorem kK_X1_44 : Cond.constant RX1 44 (33685504) ∈ hr_W := hr_W_mem (hr_t2 (n := 148) rfl) rfl
theorem kM_X3_200 : Cond.methodLink RX3 200 yX1_isRequest ∈ hr_W := hr_W_mem (hr_t2 (n := 149) rfl) rfl
theorem kI_X1_isRequest : Cond.instanceMethod yX1_isRequest ∈ hr_W := hr_W_mem (hr_t2 (n := 150) rfl) rfl
theorem kS_X1_isRequest : Cond.selects RX1 yX1_isRequest yX1_isRequest ∈ hr_W := hr_W_mem (hr_t2 (n := 151) rfl) rfl
theorem kC_X1_isRequest : Cond.code yX1_isRequest cX1_isRequest 1 (some .boolean) ∈ hr_W := hr_W_mem (hr_t2 (n := 152) rfl) rfl
theorem kM_X3_203 : Cond.methodLink RX3 203 yX3_answerRequest ∈ hr_W := hr_W_mem (hr_t2 (n := 153) rfl) rfl
theorem kI_X3_answerRequest : Cond.instanceMethod yX3_answerRequest ∈ hr_W := hr_W_mem (hr_t2 (n := 155) rfl) rfl
theorem kC_X3_answerRequest : Cond.code yX3_answerRequest cX3_answerRequest 5 none ∈ hr_W := hr_W_mem (hr_t2 (n := 156) rfl) rfl
theorem kM_X3_225 : Cond.methodLink RX3 225 yX1_asksForAll ∈ hr_W := hr_W_mem (hr_t2 (n := 157) rfl) rfl
theorem kI_X1_asksForAll : Cond.instanceMethod yX1_asksForAll ∈ hr_W := hr_W_mem (hr_t2 (n := 158) rfl) rfl
theorem kS_X1_asksForAll : Cond.selects RX1 yX1_asksForAll yX1_asksForAll ∈ hr_W := hr_W_mem (hr_t2 (n := 159) rfl) rfl
theorem kC_X1_asksForAll : Cond.code yX1_asksForAll cX1_asksForAll 1 (some .boolean) ∈ hr_W := hr_W_mem (hr_t2 (n := 160) rfl) rfl
theorem kK_X1_53 : Cond.constant RX1 53 (65280) ∈ hr_W := hr_W_mem (hr_t2 (n := 161) rfl) rfl
theorem kM_X1_49 : Cond.methodLink RX1 49 yX1_hasPlainFields ∈ hr_W := hr_W_mem (hr_t2 (n := 162) rfl) rfl
theorem kI_X1_hasPlainFields : Cond.instanceMethod yX1_hasPlainFields ∈ hr_W := hr_W_mem (hr_t2 (n := 164) rfl) rfl
theorem kC_X1_hasPlainFields : Cond.code yX1_hasPlainFields cX1_hasPlainFields 4 (some .boolean) ∈ hr_W := hr_W_mem (hr_t2 (n := 165) rfl) rfl
theorem kM_X1_45 : Cond.methodLink RX1 45 yX1_metric ∈ hr_W := hr_W_mem (hr_t2 (n := 166) rfl) rfl
theorem kI_X1_metric : Cond.instanceMethod yX1_metric ∈ hr_W := hr_W_mem (hr_t2 (n := 167) rfl) rfl
theorem kS_X1_metric : Cond.selects RX1 yX1_metric yX1_metric ∈ hr_W := hr_W_mem (hr_t2 (n := 168) rfl) rfl
theorem kC_X1_metric : Cond.code yX1_metric cX1_metric 2 (some .int) ∈ hr_W := hr_W_mem (hr_t2 (n := 169) rfl) rfl
theorem kM_X3_209 : Cond.methodLink RX3 209 yX1_entries ∈ hr_W := hr_W_mem (hr_t2 (n := 170) rfl) rfl
theorem kM_X3_213 : Cond.methodLink RX3 213 yX1_isSoundEntry ∈ hr_W := hr_W_mem (hr_t2 (n := 171) rfl) rfl
theorem kI_X1_isSoundEntry : Cond.instanceMethod yX1_isSoundEntry ∈ hr_W := hr_W_mem (hr_t2 (n := 172) rfl) rfl
theorem kS_X1_isSoundEntry : Cond.selects RX1 yX1_isSoundEntry yX1_isSoundEntry ∈ hr_W := hr_W_mem (hr_t2 (n := 173) rfl) rfl
theorem kC_X1_isSoundEntry : Cond.code yX1_isSoundEntry cX1_isSoundEntry 3 (some .boolean) ∈ hr_W := hr_W_mem (hr_t2 (n := 174) rfl) rfl
theorem kK_X1_48 : Cond.constant RX1 48 (131072) ∈ hr_W := hr_W_mem (hr_t2 (n := 175) rfl) rfl
theorem kM_X3_216 : Cond.methodLink RX3 216 yX1_destination ∈ hr_W := hr_W_mem (hr_t2 (n := 176) rfl) rfl
theorem kI_X1_destination : Cond.instanceMethod yX1_destination ∈ hr_W := hr_W_mem (hr_t2 (n := 177) rfl) rfl
theorem kS_X1_destination : Cond.selects RX1 yX1_destination yX1_destination ∈ hr_W := hr_W_mem (hr_t2 (n := 178) rfl) rfl
theorem kC_X1_destination : Cond.code yX1_destination cX1_destination 2 (some .int) ∈ hr_W := hr_W_mem (hr_t2 (n := 179) rfl) rfl
theorem kM_X3_228 : Cond.methodLink RX3 228 yX3_metricAnswered ∈ hr_W := hr_W_mem (hr_t2 (n := 180) rfl) rfl
theorem kI_X3_metricAnswered : Cond.instanceMethod yX3_metricAnswered ∈ hr_W := hr_W_mem (hr_t2 (n := 182) rfl) rfl
theorem kC_X3_metricAnswered : Cond.code yX3_metricAnswered cX3_metricAnswered 3 (some .int) ∈ hr_W := hr_W_mem (hr_t2 (n := 183) rfl) rfl
theorem kM_X3_206 : Cond.methodLink RX3 206 yX3_hearResponse ∈ hr_W := hr_W_mem (hr_t2 (n := 184) rfl) rfl
theorem kI_X3_hearResponse : Cond.instanceMethod yX3_hearResponse ∈ hr_W := hr_W_mem (hr_t2 (n := 186) rfl) rfl
theorem kC_X3_hearResponse : Cond.code yX3_hearResponse cX3_hearResponse 5 none ∈ hr_W := hr_W_mem (hr_t2 (n := 187) rfl) rfl
theorem kM_X3_219 : Cond.methodLink RX3 219 yX1_metric ∈ hr_W := hr_W_mem (hr_t2 (n := 188) rfl) rfl
theorem kM_X3_222 : Cond.methodLink RX3 222 yX2_hear ∈ hr_W := hr_W_mem (hr_t2 (n := 189) rfl) rfl
theorem kI_X2_hear : Cond.instanceMethod yX2_hear ∈ hr_W := hr_W_mem (hr_t2 (n := 190) rfl) rfl
theorem kS_X2_hear : Cond.selects RX2 yX2_hear yX2_hear ∈ hr_W := hr_W_mem (hr_t2 (n := 191) rfl) rfl
theorem kC_X2_hear : Cond.code yX2_hear cX2_hear 4 none ∈ hr_W := hr_W_mem (hr_t2 (n := 192) rfl) rfl
theorem kM_X2_44 : Cond.methodLink RX2 44 yX2_adopt ∈ hr_W := hr_W_mem (hr_t2 (n := 193) rfl) rfl
theorem kI_X2_adopt : Cond.instanceMethod yX2_adopt ∈ hr_W := hr_W_mem (hr_t2 (n := 195) rfl) rfl
theorem kC_X2_adopt : Cond.code yX2_adopt cX2_adopt 4 none ∈ hr_W := hr_W_mem (hr_t2 (n := 196) rfl) rfl
theorem kM_X2_48 : Cond.methodLink RX2 48 yX2_hearFromNext ∈ hr_W := hr_W_mem (hr_t2 (n := 197) rfl) rfl
theorem kI_X2_hearFromNext : Cond.instanceMethod yX2_hearFromNext ∈ hr_W := hr_W_mem (hr_t2 (n := 199) rfl) rfl
theorem kC_X2_hearFromNext : Cond.code yX2_hearFromNext cX2_hearFromNext 3 none ∈ hr_W := hr_W_mem (hr_t2 (n := 200) rfl) rfl
theorem kM_L_94 : Cond.methodLink RL 94 yL_deliver ∈ hr_W := hr_W_mem (hr_t2 (n := 201) rfl) rfl
theorem kT_L_deliver : Cond.static yL_deliver ∈ hr_W := hr_W_mem (hr_t2 (n := 202) rfl) rfl
theorem kC_L_deliver : Cond.codeWith yL_deliver cL_deliver 4 (some .int) [(0, 16, 19, 13)] ∈ hr_W := hr_W_mem (hr_t2 (n := 203) rfl) rfl
theorem kM_L_35 : Cond.methodLink RL 35 yX3_deliver ∈ hr_W := hr_W_mem (hr_t2 (n := 204) rfl) rfl
theorem kI_X3_deliver : Cond.instanceMethod yX3_deliver ∈ hr_W := hr_W_mem (hr_t2 (n := 205) rfl) rfl
theorem kS_X3_deliver : Cond.selects RX3 yX3_deliver yX3_deliver ∈ hr_W := hr_W_mem (hr_t2 (n := 206) rfl) rfl
theorem kC_X3_deliver : Cond.code yX3_deliver cX3_deliver 2 (some .boolean) ∈ hr_W := hr_W_mem (hr_t2 (n := 207) rfl) rfl
theorem kM_X3_98 : Cond.methodLink RX3 98 yX3_checkPacket ∈ hr_W := hr_W_mem (hr_t2 (n := 208) rfl) rfl
theorem kI_X3_checkPacket : Cond.instanceMethod yX3_checkPacket ∈ hr_W := hr_W_mem (hr_t2 (n := 210) rfl) rfl
theorem kC_X3_checkPacket : Cond.code yX3_checkPacket cX3_checkPacket 2 none ∈ hr_W := hr_W_mem (hr_t2 (n := 211) rfl) rfl
theorem kM_L_97 : Cond.methodLink RL 97 yL_lose ∈ hr_W := hr_W_mem (hr_t2 (n := 213) rfl) rfl
theorem kT_L_lose : Cond.static yL_lose ∈ hr_W := hr_W_mem (hr_t2 (n := 214) rfl) rfl
theorem kC_L_lose : Cond.codeWith yL_lose cL_lose 4 (some .int) [(0, 9, 12, 13)] ∈ hr_W := hr_W_mem (hr_t2 (n := 215) rfl) rfl
theorem kM_L_39 : Cond.methodLink RL 39 yX3_lose ∈ hr_W := hr_W_mem (hr_t2 (n := 216) rfl) rfl
theorem kI_X3_lose : Cond.instanceMethod yX3_lose ∈ hr_W := hr_W_mem (hr_t2 (n := 217) rfl) rfl
theorem kS_X3_lose : Cond.selects RX3 yX3_lose yX3_lose ∈ hr_W := hr_W_mem (hr_t2 (n := 218) rfl) rfl
theorem kC_X3_lose : Cond.code yX3_lose cX3_lose 2 (some .int) ∈ hr_W := hr_W_mem (hr_t2 (n := 219) rfl) rfl
theorem kM_L_100 : Cond.methodLink RL 100 yL_twice ∈ hr_W := hr_W_mem (hr_t2 (n := 220) rfl) rfl
theorem kT_L_twice : Cond.static yL_twice ∈ hr_W := hr_W_mem (hr_t2 (n := 221) rfl) rfl
theorem kC_L_twice : Cond.codeWith yL_twice cL_twice 4 (some .int) [(0, 9, 12, 13)] ∈ hr_W := hr_W_mem (hr_t2 (n := 222) rfl) rfl
theorem kM_L_42 : Cond.methodLink RL 42 yX3_twice ∈ hr_W := hr_W_mem (hr_t2 (n := 223) rfl) rfl
theorem kI_X3_twice : Cond.instanceMethod yX3_twice ∈ hr_W := hr_W_mem (hr_t2 (n := 224) rfl) rfl
theorem kS_X3_twice : Cond.selects RX3 yX3_twice yX3_twice ∈ hr_W := hr_W_mem (hr_t2 (n := 225) rfl) rfl
theorem kC_X3_twice : Cond.code yX3_twice cX3_twice 2 (some .int) ∈ hr_W := hr_W_mem (hr_t2 (n := 226) rfl) rfl
theorem kM_L_103 : Cond.methodLink RL 103 yL_poke ∈ hr_W := hr_W_mem (hr_t2 (n := 227) rfl) rfl
theorem kT_L_poke : Cond.static yL_poke ∈ hr_W := hr_W_mem (hr_t2 (n := 228) rfl) rfl
theorem kC_L_poke : Cond.codeWith yL_poke cL_poke 6 (some .int) [(0, 12, 15, 13), (0, 12, 19, 15)] ∈ hr_W := hr_W_mem (hr_t2 (n := 229) rfl) rfl
theorem kM_L_45 : Cond.methodLink RL 45 yX3_poke ∈ hr_W := hr_W_mem (hr_t2 (n := 230) rfl) rfl
theorem kI_X3_poke : Cond.instanceMethod yX3_poke ∈ hr_W := hr_W_mem (hr_t2 (n := 231) rfl) rfl
theorem kS_X3_poke : Cond.selects RX3 yX3_poke yX3_poke ∈ hr_W := hr_W_mem (hr_t2 (n := 232) rfl) rfl
theorem kC_X3_poke : Cond.code yX3_poke cX3_poke 6 (some .int) ∈ hr_W := hr_W_mem (hr_t2 (n := 233) rfl) rfl
theorem kM_X3_108 : Cond.methodLink RX3 108 yX3_checkByte ∈ hr_W := hr_W_mem (hr_t2 (n := 234) rfl) rfl
theorem kT_X3_checkByte : Cond.static yX3_checkByte ∈ hr_W := hr_W_mem (hr_t2 (n := 235) rfl) rfl
theorem kC_X3_checkByte : Cond.code yX3_checkByte cX3_checkByte 2 none ∈ hr_W := hr_W_mem (hr_t2 (n := 236) rfl) rfl
theorem kM_X3_114 : Cond.methodLink RX3 114 yX1_byteAt ∈ hr_W := hr_W_mem (hr_t2 (n := 239) rfl) rfl
theorem kI_X1_byteAt : Cond.instanceMethod yX1_byteAt ∈ hr_W := hr_W_mem (hr_t3 (n := 0) rfl) rfl
theorem kS_X1_byteAt : Cond.selects RX1 yX1_byteAt yX1_byteAt ∈ hr_W := hr_W_mem (hr_t3 (n := 1) rfl) rfl
theorem kC_X1_byteAt : Cond.code yX1_byteAt cX1_byteAt 2 (some .int) ∈ hr_W := hr_W_mem (hr_t3 (n := 2) rfl) rfl
theorem kM_X1_40 : Cond.methodLink RX1 40 yX1_shiftOf ∈ hr_W := hr_W_mem (hr_t3 (n := 3) rfl) rfl
theorem kT_X1_shiftOf : Cond.static yX1_shiftOf ∈ hr_W := hr_W_mem (hr_t3 (n := 4) rfl) rfl
theorem kC_X1_shiftOf : Cond.code yX1_shiftOf cX1_shiftOf 1 (some .int) ∈ hr_W := hr_W_mem (hr_t3 (n := 5) rfl) rfl
theorem kM_X3_117 : Cond.methodLink RX3 117 yX1_setByte ∈ hr_W := hr_W_mem (hr_t3 (n := 6) rfl) rfl
theorem kI_X1_setByte : Cond.instanceMethod yX1_setByte ∈ hr_W := hr_W_mem (hr_t3 (n := 7) rfl) rfl
theorem kS_X1_setByte : Cond.selects RX1 yX1_setByte yX1_setByte ∈ hr_W := hr_W_mem (hr_t3 (n := 8) rfl) rfl
theorem kC_X1_setByte : Cond.code yX1_setByte cX1_setByte 4 none ∈ hr_W := hr_W_mem (hr_t3 (n := 9) rfl) rfl
theorem kM_L_106 : Cond.methodLink RL 106 yL_cut ∈ hr_W := hr_W_mem (hr_t3 (n := 10) rfl) rfl
theorem kT_L_cut : Cond.static yL_cut ∈ hr_W := hr_W_mem (hr_t3 (n := 11) rfl) rfl
theorem kC_L_cut : Cond.codeWith yL_cut cL_cut 4 (some .int) [(0, 6, 9, 13), (0, 6, 12, 15)] ∈ hr_W := hr_W_mem (hr_t3 (n := 12) rfl) rfl
theorem kM_L_48 : Cond.methodLink RL 48 yX3_cut ∈ hr_W := hr_W_mem (hr_t3 (n := 13) rfl) rfl
theorem kI_X3_cut : Cond.instanceMethod yX3_cut ∈ hr_W := hr_W_mem (hr_t3 (n := 14) rfl) rfl
theorem kS_X3_cut : Cond.selects RX3 yX3_cut yX3_cut ∈ hr_W := hr_W_mem (hr_t3 (n := 15) rfl) rfl
theorem kC_X3_cut : Cond.code yX3_cut cX3_cut 4 none ∈ hr_W := hr_W_mem (hr_t3 (n := 16) rfl) rfl
theorem kM_L_110 : Cond.methodLink RL 110 yL_packet ∈ hr_W := hr_W_mem (hr_t3 (n := 18) rfl) rfl
theorem kT_L_packet : Cond.static yL_packet ∈ hr_W := hr_W_mem (hr_t3 (n := 19) rfl) rfl
theorem kC_L_packet : Cond.codeWith yL_packet cL_packet 5 (some .int) [(0, 10, 13, 13)] ∈ hr_W := hr_W_mem (hr_t3 (n := 20) rfl) rfl
theorem kM_L_52 : Cond.methodLink RL 52 yX3_packet ∈ hr_W := hr_W_mem (hr_t3 (n := 21) rfl) rfl
theorem kI_X3_packet : Cond.instanceMethod yX3_packet ∈ hr_W := hr_W_mem (hr_t3 (n := 22) rfl) rfl
theorem kS_X3_packet : Cond.selects RX3 yX3_packet yX3_packet ∈ hr_W := hr_W_mem (hr_t3 (n := 23) rfl) rfl
theorem kC_X3_packet : Cond.code yX3_packet cX3_packet 4 (some .int) ∈ hr_W := hr_W_mem (hr_t3 (n := 24) rfl) rfl
theorem kM_L_113 : Cond.methodLink RL 113 yL_route ∈ hr_W := hr_W_mem (hr_t3 (n := 25) rfl) rfl
theorem kT_L_route : Cond.static yL_route ∈ hr_W := hr_W_mem (hr_t3 (n := 26) rfl) rfl
theorem kC_L_route : Cond.codeWith yL_route cL_route 6 (some .int) [(0, 12, 15, 13)] ∈ hr_W := hr_W_mem (hr_t3 (n := 27) rfl) rfl
theorem kM_L_55 : Cond.methodLink RL 55 yX3_route ∈ hr_W := hr_W_mem (hr_t3 (n := 28) rfl) rfl
theorem kI_X3_route : Cond.instanceMethod yX3_route ∈ hr_W := hr_W_mem (hr_t3 (n := 29) rfl) rfl
theorem kS_X3_route : Cond.selects RX3 yX3_route yX3_route ∈ hr_W := hr_W_mem (hr_t3 (n := 30) rfl) rfl
theorem kC_X3_route : Cond.code yX3_route cX3_route 4 (some .int) ∈ hr_W := hr_W_mem (hr_t3 (n := 31) rfl) rfl
theorem kM_X3_136 : Cond.methodLink RX3 136 yX2_read ∈ hr_W := hr_W_mem (hr_t3 (n := 33) rfl) rfl
theorem kI_X2_read : Cond.instanceMethod yX2_read ∈ hr_W := hr_W_mem (hr_t3 (n := 34) rfl) rfl
theorem kS_X2_read : Cond.selects RX2 yX2_read yX2_read ∈ hr_W := hr_W_mem (hr_t3 (n := 35) rfl) rfl
theorem kC_X2_read : Cond.code yX2_read cX2_read 3 (some .int) ∈ hr_W := hr_W_mem (hr_t3 (n := 36) rfl) rfl
theorem kM_L_116 : Cond.methodLink RL 116 yL_send ∈ hr_W := hr_W_mem (hr_t3 (n := 37) rfl) rfl
theorem kT_L_send : Cond.static yL_send ∈ hr_W := hr_W_mem (hr_t3 (n := 38) rfl) rfl
theorem kC_L_send : Cond.codeWith yL_send cL_send 5 (some .int) [(0, 10, 13, 13)] ∈ hr_W := hr_W_mem (hr_t3 (n := 39) rfl) rfl
theorem kM_L_58 : Cond.methodLink RL 58 yX3_send ∈ hr_W := hr_W_mem (hr_t3 (n := 40) rfl) rfl
theorem kI_X3_send : Cond.instanceMethod yX3_send ∈ hr_W := hr_W_mem (hr_t3 (n := 41) rfl) rfl
theorem kS_X3_send : Cond.selects RX3 yX3_send yX3_send ∈ hr_W := hr_W_mem (hr_t3 (n := 42) rfl) rfl
theorem kC_X3_send : Cond.code yX3_send cX3_send 7 (some .int) ∈ hr_W := hr_W_mem (hr_t3 (n := 43) rfl) rfl
theorem kM_X3_140 : Cond.methodLink RX3 140 yX2_reaches ∈ hr_W := hr_W_mem (hr_t3 (n := 44) rfl) rfl
theorem kM_L_119 : Cond.methodLink RL 119 yL_count ∈ hr_W := hr_W_mem (hr_t3 (n := 45) rfl) rfl
theorem kT_L_count : Cond.static yL_count ∈ hr_W := hr_W_mem (hr_t3 (n := 46) rfl) rfl
theorem kC_L_count : Cond.codeWith yL_count cL_count 4 (some .int) [(0, 9, 12, 13)] ∈ hr_W := hr_W_mem (hr_t3 (n := 47) rfl) rfl
theorem kM_L_61 : Cond.methodLink RL 61 yX3_count ∈ hr_W := hr_W_mem (hr_t3 (n := 48) rfl) rfl
theorem kI_X3_count : Cond.instanceMethod yX3_count ∈ hr_W := hr_W_mem (hr_t3 (n := 49) rfl) rfl
theorem kS_X3_count : Cond.selects RX3 yX3_count yX3_count ∈ hr_W := hr_W_mem (hr_t3 (n := 50) rfl) rfl
theorem kC_X3_count : Cond.code yX3_count cX3_count 2 (some .int) ∈ hr_W := hr_W_mem (hr_t3 (n := 51) rfl) rfl
theorem kL_L_65 : Cond.classLink RL 65 RX4 ∈ hr_W := hr_W_mem (hr_t3 (n := 52) rfl) rfl
theorem kP_X4 : Cond.instantiable RX4 20 ∈ hr_W := hr_W_mem (hr_t3 (n := 53) rfl) rfl
theorem kM_L_67 : Cond.methodLink RL 67 yX4_init ∈ hr_W := hr_W_mem (hr_t3 (n := 54) rfl) rfl
theorem kI_X4_init : Cond.instanceMethod yX4_init ∈ hr_W := hr_W_mem (hr_t3 (n := 55) rfl) rfl
theorem kC_X4_init : Cond.code yX4_init cX4_init 1 none ∈ hr_W := hr_W_mem (hr_t3 (n := 56) rfl) rfl
theorem kM_X4_1 : Cond.methodLink RX4 1 objectInit ∈ hr_W := hr_W_mem (hr_t3 (n := 57) rfl) rfl
theorem kK_X4_38 : Cond.constant RX4 38 (32800) ∈ hr_W := hr_W_mem (hr_t3 (n := 58) rfl) rfl
theorem kF_X4_48 : Cond.fieldLink RX4 48 "HopRoutersModel" "thrown" "I" ∈ hr_W := hr_W_mem (hr_t3 (n := 59) rfl) rfl
theorem kF_X4_114 : Cond.fieldLink RX4 114 "HopRoutersModel" "time" "I" ∈ hr_W := hr_W_mem (hr_t3 (n := 60) rfl) rfl
theorem kF_X4_69 : Cond.fieldLink RX4 69 "HopRoutersModel" "lost" "I" ∈ hr_W := hr_W_mem (hr_t3 (n := 61) rfl) rfl
theorem kF_X4_63 : Cond.fieldLink RX4 63 "HopRoutersModel" "sent" "I" ∈ hr_W := hr_W_mem (hr_t3 (n := 62) rfl) rfl
theorem kF_X4_104 : Cond.fieldLink RX4 104 "HopRoutersModel" "unsound" "I" ∈ hr_W := hr_W_mem (hr_t3 (n := 63) rfl) rfl
theorem kF_X4_7 : Cond.fieldLink RX4 7 "HopRoutersModel" "up" "[Z" ∈ hr_W := hr_W_mem (hr_t3 (n := 64) rfl) rfl
theorem kF_X4_13 : Cond.fieldLink RX4 13 "HopRoutersModel" "metric" "[I" ∈ hr_W := hr_W_mem (hr_t3 (n := 65) rfl) rfl
theorem kF_X4_17 : Cond.fieldLink RX4 17 "HopRoutersModel" "next" "[I" ∈ hr_W := hr_W_mem (hr_t3 (n := 66) rfl) rfl
theorem kF_X4_20 : Cond.fieldLink RX4 20 "HopRoutersModel" "age" "[I" ∈ hr_W := hr_W_mem (hr_t3 (n := 67) rfl) rfl
theorem kF_X4_23 : Cond.fieldLink RX4 23 "HopRoutersModel" "isChanged" "[Z" ∈ hr_W := hr_W_mem (hr_t3 (n := 68) rfl) rfl
theorem kF_X4_26 : Cond.fieldLink RX4 26 "HopRoutersModel" "silent" "[I" ∈ hr_W := hr_W_mem (hr_t3 (n := 69) rfl) rfl
theorem kF_X4_66 : Cond.fieldLink RX4 66 "HopRoutersModel" "packets" "I" ∈ hr_W := hr_W_mem (hr_t3 (n := 70) rfl) rfl
theorem kF_X4_29 : Cond.fieldLink RX4 29 "HopRoutersModel" "from" "[I" ∈ hr_W := hr_W_mem (hr_t3 (n := 71) rfl) rfl
theorem kF_X4_32 : Cond.fieldLink RX4 32 "HopRoutersModel" "to" "[I" ∈ hr_W := hr_W_mem (hr_t3 (n := 72) rfl) rfl
theorem kF_X4_35 : Cond.fieldLink RX4 35 "HopRoutersModel" "size" "[I" ∈ hr_W := hr_W_mem (hr_t3 (n := 73) rfl) rfl
theorem kF_X4_39 : Cond.fieldLink RX4 39 "HopRoutersModel" "bytes" "[I" ∈ hr_W := hr_W_mem (hr_t3 (n := 74) rfl) rfl
theorem kF_X4_56 : Cond.fieldLink RX4 56 "HopRoutersModel" "made" "I" ∈ hr_W := hr_W_mem (hr_t3 (n := 75) rfl) rfl
theorem kF_X4_42 : Cond.fieldLink RX4 42 "HopRoutersModel" "draft" "[I" ∈ hr_W := hr_W_mem (hr_t3 (n := 76) rfl) rfl
theorem kF_X4_90 : Cond.fieldLink RX4 90 "HopRoutersModel" "came" "I" ∈ hr_W := hr_W_mem (hr_t3 (n := 77) rfl) rfl
theorem kF_X4_45 : Cond.fieldLink RX4 45 "HopRoutersModel" "coming" "[I" ∈ hr_W := hr_W_mem (hr_t3 (n := 78) rfl) rfl
theorem kM_L_74 : Cond.methodLink RL 74 yX4_thrown ∈ hr_W := hr_W_mem (hr_t3 (n := 120) rfl) rfl
theorem kI_X4_thrown : Cond.instanceMethod yX4_thrown ∈ hr_W := hr_W_mem (hr_t3 (n := 121) rfl) rfl
theorem kS_X4_thrown : Cond.selects RX4 yX4_thrown yX4_thrown ∈ hr_W := hr_W_mem (hr_t3 (n := 122) rfl) rfl
theorem kC_X4_thrown : Cond.code yX4_thrown cX4_thrown 1 (some .int) ∈ hr_W := hr_W_mem (hr_t3 (n := 123) rfl) rfl
theorem kM_L_73 : Cond.methodLink RL 73 yX4_link ∈ hr_W := hr_W_mem (hr_t3 (n := 124) rfl) rfl
theorem kI_X4_link : Cond.instanceMethod yX4_link ∈ hr_W := hr_W_mem (hr_t3 (n := 125) rfl) rfl
theorem kS_X4_link : Cond.selects RX4 yX4_link yX4_link ∈ hr_W := hr_W_mem (hr_t3 (n := 126) rfl) rfl
theorem kC_X4_link : Cond.code yX4_link cX4_link 5 (some .boolean) ∈ hr_W := hr_W_mem (hr_t3 (n := 127) rfl) rfl
theorem kM_X4_120 : Cond.methodLink RX4 120 yX4_isRouter ∈ hr_W := hr_W_mem (hr_t3 (n := 128) rfl) rfl
theorem kT_X4_isRouter : Cond.static yX4_isRouter ∈ hr_W := hr_W_mem (hr_t3 (n := 129) rfl) rfl
theorem kC_X4_isRouter : Cond.code yX4_isRouter cX4_isRouter 1 (some .boolean) ∈ hr_W := hr_W_mem (hr_t3 (n := 130) rfl) rfl
theorem kM_X4_52 : Cond.methodLink RX4 52 yX4_in ∈ hr_W := hr_W_mem (hr_t3 (n := 131) rfl) rfl
theorem kT_X4_in : Cond.static yX4_in ∈ hr_W := hr_W_mem (hr_t3 (n := 132) rfl) rfl
theorem kC_X4_in : Cond.code yX4_in cX4_in 3 (some .boolean) ∈ hr_W := hr_W_mem (hr_t3 (n := 133) rfl) rfl
theorem kM_X4_123 : Cond.methodLink RX4 123 yX4_refuses ∈ hr_W := hr_W_mem (hr_t3 (n := 134) rfl) rfl
theorem kI_X4_refuses : Cond.instanceMethod yX4_refuses ∈ hr_W := hr_W_mem (hr_t3 (n := 136) rfl) rfl
theorem kC_X4_refuses : Cond.code yX4_refuses cX4_refuses 3 (some .boolean) ∈ hr_W := hr_W_mem (hr_t3 (n := 137) rfl) rfl
theorem kM_L_81 : Cond.methodLink RL 81 yX4_sees ∈ hr_W := hr_W_mem (hr_t3 (n := 138) rfl) rfl
theorem kI_X4_sees : Cond.instanceMethod yX4_sees ∈ hr_W := hr_W_mem (hr_t3 (n := 139) rfl) rfl
theorem kS_X4_sees : Cond.selects RX4 yX4_sees yX4_sees ∈ hr_W := hr_W_mem (hr_t3 (n := 140) rfl) rfl
theorem kC_X4_sees : Cond.code yX4_sees cX4_sees 5 (some .int) ∈ hr_W := hr_W_mem (hr_t3 (n := 141) rfl) rfl
theorem kM_X4_87 : Cond.methodLink RX4 87 yX4_gone ∈ hr_W := hr_W_mem (hr_t3 (n := 142) rfl) rfl
theorem kI_X4_gone : Cond.instanceMethod yX4_gone ∈ hr_W := hr_W_mem (hr_t3 (n := 144) rfl) rfl
theorem kC_X4_gone : Cond.code yX4_gone cX4_gone 2 none ∈ hr_W := hr_W_mem (hr_t3 (n := 145) rfl) rfl
theorem kM_L_85 : Cond.methodLink RL 85 yX4_restart ∈ hr_W := hr_W_mem (hr_t3 (n := 146) rfl) rfl
theorem kI_X4_restart : Cond.instanceMethod yX4_restart ∈ hr_W := hr_W_mem (hr_t3 (n := 147) rfl) rfl
theorem kS_X4_restart : Cond.selects RX4 yX4_restart yX4_restart ∈ hr_W := hr_W_mem (hr_t3 (n := 148) rfl) rfl
theorem kC_X4_restart : Cond.code yX4_restart cX4_restart 3 (some .int) ∈ hr_W := hr_W_mem (hr_t3 (n := 149) rfl) rfl
theorem kM_X4_72 : Cond.methodLink RX4 72 yX4_begin ∈ hr_W := hr_W_mem (hr_t3 (n := 150) rfl) rfl
theorem kI_X4_begin : Cond.instanceMethod yX4_begin ∈ hr_W := hr_W_mem (hr_t3 (n := 152) rfl) rfl
theorem kC_X4_begin : Cond.code yX4_begin cX4_begin 2 none ∈ hr_W := hr_W_mem (hr_t3 (n := 153) rfl) rfl
theorem kM_X4_59 : Cond.methodLink RX4 59 yX4_put ∈ hr_W := hr_W_mem (hr_t3 (n := 154) rfl) rfl
theorem kI_X4_put : Cond.instanceMethod yX4_put ∈ hr_W := hr_W_mem (hr_t3 (n := 156) rfl) rfl
theorem kC_X4_put : Cond.code yX4_put cX4_put 2 none ∈ hr_W := hr_W_mem (hr_t3 (n := 157) rfl) rfl
theorem kM_X4_75 : Cond.methodLink RX4 75 yX4_entry ∈ hr_W := hr_W_mem (hr_t3 (n := 158) rfl) rfl
theorem kI_X4_entry : Cond.instanceMethod yX4_entry ∈ hr_W := hr_W_mem (hr_t3 (n := 160) rfl) rfl
theorem kC_X4_entry : Cond.code yX4_entry cX4_entry 5 none ∈ hr_W := hr_W_mem (hr_t3 (n := 161) rfl) rfl
theorem kM_X4_79 : Cond.methodLink RX4 79 yX4_post ∈ hr_W := hr_W_mem (hr_t3 (n := 162) rfl) rfl
theorem kI_X4_post : Cond.instanceMethod yX4_post ∈ hr_W := hr_W_mem (hr_t3 (n := 164) rfl) rfl
theorem kC_X4_post : Cond.code yX4_post cX4_post 4 none ∈ hr_W := hr_W_mem (hr_t3 (n := 165) rfl) rfl
theorem kM_L_89 : Cond.methodLink RL 89 yX4_ask ∈ hr_W := hr_W_mem (hr_t3 (n := 166) rfl) rfl
theorem kI_X4_ask : Cond.instanceMethod yX4_ask ∈ hr_W := hr_W_mem (hr_t3 (n := 167) rfl) rfl
theorem kS_X4_ask : Cond.selects RX4 yX4_ask yX4_ask ∈ hr_W := hr_W_mem (hr_t3 (n := 168) rfl) rfl
theorem kC_X4_ask : Cond.code yX4_ask cX4_ask 5 (some .int) ∈ hr_W := hr_W_mem (hr_t3 (n := 169) rfl) rfl
theorem kM_L_93 : Cond.methodLink RL 93 yX4_tick ∈ hr_W := hr_W_mem (hr_t3 (n := 170) rfl) rfl
theorem kI_X4_tick : Cond.instanceMethod yX4_tick ∈ hr_W := hr_W_mem (hr_t3 (n := 171) rfl) rfl
theorem kS_X4_tick : Cond.selects RX4 yX4_tick yX4_tick ∈ hr_W := hr_W_mem (hr_t3 (n := 172) rfl) rfl
theorem kC_X4_tick : Cond.code yX4_tick cX4_tick 6 (some .int) ∈ hr_W := hr_W_mem (hr_t3 (n := 173) rfl) rfl
theorem kM_X4_127 : Cond.methodLink RX4 127 yX4_turn ∈ hr_W := hr_W_mem (hr_t3 (n := 174) rfl) rfl
theorem kI_X4_turn : Cond.instanceMethod yX4_turn ∈ hr_W := hr_W_mem (hr_t3 (n := 176) rfl) rfl
theorem kC_X4_turn : Cond.code yX4_turn cX4_turn 2 none ∈ hr_W := hr_W_mem (hr_t3 (n := 177) rfl) rfl
theorem kM_X4_117 : Cond.methodLink RX4 117 yX4_turnRouter ∈ hr_W := hr_W_mem (hr_t3 (n := 178) rfl) rfl
theorem kI_X4_turnRouter : Cond.instanceMethod yX4_turnRouter ∈ hr_W := hr_W_mem (hr_t3 (n := 180) rfl) rfl
theorem kC_X4_turnRouter : Cond.code yX4_turnRouter cX4_turnRouter 5 none ∈ hr_W := hr_W_mem (hr_t3 (n := 181) rfl) rfl
theorem kM_X4_93 : Cond.methodLink RX4 93 yX4_tell ∈ hr_W := hr_W_mem (hr_t3 (n := 182) rfl) rfl
theorem kI_X4_tell : Cond.instanceMethod yX4_tell ∈ hr_W := hr_W_mem (hr_t3 (n := 184) rfl) rfl
theorem kC_X4_tell : Cond.code yX4_tell cX4_tell 8 none ∈ hr_W := hr_W_mem (hr_t3 (n := 185) rfl) rfl
theorem kM_X4_130 : Cond.methodLink RX4 130 yX4_arrive ∈ hr_W := hr_W_mem (hr_t3 (n := 186) rfl) rfl
theorem kI_X4_arrive : Cond.instanceMethod yX4_arrive ∈ hr_W := hr_W_mem (hr_t3 (n := 188) rfl) rfl
theorem kC_X4_arrive : Cond.code yX4_arrive cX4_arrive 6 (some .boolean) ∈ hr_W := hr_W_mem (hr_t3 (n := 189) rfl) rfl
theorem kM_X4_101 : Cond.methodLink RX4 101 yX4_takeOut ∈ hr_W := hr_W_mem (hr_t3 (n := 190) rfl) rfl
theorem kI_X4_takeOut : Cond.instanceMethod yX4_takeOut ∈ hr_W := hr_W_mem (hr_t3 (n := 192) rfl) rfl
theorem kC_X4_takeOut : Cond.code yX4_takeOut cX4_takeOut 4 none ∈ hr_W := hr_W_mem (hr_t3 (n := 193) rfl) rfl
theorem kM_X4_107 : Cond.methodLink RX4 107 yX4_answer ∈ hr_W := hr_W_mem (hr_t3 (n := 194) rfl) rfl
theorem kI_X4_answer : Cond.instanceMethod yX4_answer ∈ hr_W := hr_W_mem (hr_t3 (n := 196) rfl) rfl
theorem kC_X4_answer : Cond.code yX4_answer cX4_answer 6 none ∈ hr_W := hr_W_mem (hr_t3 (n := 197) rfl) rfl
theorem kM_X4_83 : Cond.methodLink RX4 83 yX4_isFilled ∈ hr_W := hr_W_mem (hr_t3 (n := 198) rfl) rfl
theorem kI_X4_isFilled : Cond.instanceMethod yX4_isFilled ∈ hr_W := hr_W_mem (hr_t3 (n := 200) rfl) rfl
theorem kC_X4_isFilled : Cond.code yX4_isFilled cX4_isFilled 5 (some .boolean) ∈ hr_W := hr_W_mem (hr_t3 (n := 201) rfl) rfl
theorem kM_X4_97 : Cond.methodLink RX4 97 yX4_isSound ∈ hr_W := hr_W_mem (hr_t3 (n := 202) rfl) rfl
theorem kI_X4_isSound : Cond.instanceMethod yX4_isSound ∈ hr_W := hr_W_mem (hr_t3 (n := 204) rfl) rfl
theorem kC_X4_isSound : Cond.code yX4_isSound cX4_isSound 2 (some .boolean) ∈ hr_W := hr_W_mem (hr_t3 (n := 205) rfl) rfl
theorem kM_X4_110 : Cond.methodLink RX4 110 yX4_hear ∈ hr_W := hr_W_mem (hr_t3 (n := 206) rfl) rfl
theorem kI_X4_hear : Cond.instanceMethod yX4_hear ∈ hr_W := hr_W_mem (hr_t3 (n := 208) rfl) rfl
theorem kC_X4_hear : Cond.code yX4_hear cX4_hear 6 none ∈ hr_W := hr_W_mem (hr_t3 (n := 209) rfl) rfl
theorem kM_L_96 : Cond.methodLink RL 96 yX4_deliver ∈ hr_W := hr_W_mem (hr_t3 (n := 210) rfl) rfl
theorem kI_X4_deliver : Cond.instanceMethod yX4_deliver ∈ hr_W := hr_W_mem (hr_t3 (n := 211) rfl) rfl
theorem kS_X4_deliver : Cond.selects RX4 yX4_deliver yX4_deliver ∈ hr_W := hr_W_mem (hr_t3 (n := 212) rfl) rfl
theorem kC_X4_deliver : Cond.code yX4_deliver cX4_deliver 2 (some .boolean) ∈ hr_W := hr_W_mem (hr_t3 (n := 213) rfl) rfl
theorem kM_X4_133 : Cond.methodLink RX4 133 yX4_lacks ∈ hr_W := hr_W_mem (hr_t3 (n := 214) rfl) rfl
theorem kI_X4_lacks : Cond.instanceMethod yX4_lacks ∈ hr_W := hr_W_mem (hr_t3 (n := 216) rfl) rfl
theorem kC_X4_lacks : Cond.code yX4_lacks cX4_lacks 2 (some .boolean) ∈ hr_W := hr_W_mem (hr_t3 (n := 217) rfl) rfl
theorem kM_L_99 : Cond.methodLink RL 99 yX4_lose ∈ hr_W := hr_W_mem (hr_t3 (n := 218) rfl) rfl
theorem kI_X4_lose : Cond.instanceMethod yX4_lose ∈ hr_W := hr_W_mem (hr_t3 (n := 219) rfl) rfl
theorem kS_X4_lose : Cond.selects RX4 yX4_lose yX4_lose ∈ hr_W := hr_W_mem (hr_t3 (n := 220) rfl) rfl
theorem kC_X4_lose : Cond.code yX4_lose cX4_lose 2 (some .int) ∈ hr_W := hr_W_mem (hr_t3 (n := 221) rfl) rfl
theorem kM_L_102 : Cond.methodLink RL 102 yX4_twice ∈ hr_W := hr_W_mem (hr_t3 (n := 222) rfl) rfl
theorem kI_X4_twice : Cond.instanceMethod yX4_twice ∈ hr_W := hr_W_mem (hr_t3 (n := 223) rfl) rfl
theorem kS_X4_twice : Cond.selects RX4 yX4_twice yX4_twice ∈ hr_W := hr_W_mem (hr_t3 (n := 224) rfl) rfl
theorem kC_X4_twice : Cond.code yX4_twice cX4_twice 3 (some .int) ∈ hr_W := hr_W_mem (hr_t3 (n := 225) rfl) rfl
theorem kM_L_105 : Cond.methodLink RL 105 yX4_poke ∈ hr_W := hr_W_mem (hr_t3 (n := 226) rfl) rfl
theorem kI_X4_poke : Cond.instanceMethod yX4_poke ∈ hr_W := hr_W_mem (hr_t3 (n := 227) rfl) rfl
theorem kS_X4_poke : Cond.selects RX4 yX4_poke yX4_poke ∈ hr_W := hr_W_mem (hr_t3 (n := 228) rfl) rfl
theorem kC_X4_poke : Cond.code yX4_poke cX4_poke 5 (some .int) ∈ hr_W := hr_W_mem (hr_t3 (n := 229) rfl) rfl
theorem kM_L_109 : Cond.methodLink RL 109 yX4_cut ∈ hr_W := hr_W_mem (hr_t3 (n := 230) rfl) rfl
theorem kI_X4_cut : Cond.instanceMethod yX4_cut ∈ hr_W := hr_W_mem (hr_t3 (n := 231) rfl) rfl
theorem kS_X4_cut : Cond.selects RX4 yX4_cut yX4_cut ∈ hr_W := hr_W_mem (hr_t3 (n := 232) rfl) rfl
theorem kC_X4_cut : Cond.code yX4_cut cX4_cut 3 none ∈ hr_W := hr_W_mem (hr_t3 (n := 233) rfl) rfl
theorem kM_L_112 : Cond.methodLink RL 112 yX4_packet ∈ hr_W := hr_W_mem (hr_t3 (n := 234) rfl) rfl
theorem kI_X4_packet : Cond.instanceMethod yX4_packet ∈ hr_W := hr_W_mem (hr_t3 (n := 235) rfl) rfl
theorem kS_X4_packet : Cond.selects RX4 yX4_packet yX4_packet ∈ hr_W := hr_W_mem (hr_t3 (n := 236) rfl) rfl
theorem kC_X4_packet : Cond.code yX4_packet cX4_packet 3 (some .int) ∈ hr_W := hr_W_mem (hr_t3 (n := 237) rfl) rfl
theorem kM_L_115 : Cond.methodLink RL 115 yX4_route ∈ hr_W := hr_W_mem (hr_t3 (n := 238) rfl) rfl
theorem kI_X4_route : Cond.instanceMethod yX4_route ∈ hr_W := hr_W_mem (hr_t3 (n := 239) rfl) rfl
theorem kS_X4_route : Cond.selects RX4 yX4_route yX4_route ∈ hr_W := hr_W_mem (hr_t4 (n := 0) rfl) rfl
theorem kC_X4_route : Cond.code yX4_route cX4_route 5 (some .int) ∈ hr_W := hr_W_mem (hr_t4 (n := 1) rfl) rfl
theorem kM_L_118 : Cond.methodLink RL 118 yX4_send ∈ hr_W := hr_W_mem (hr_t4 (n := 2) rfl) rfl
theorem kI_X4_send : Cond.instanceMethod yX4_send ∈ hr_W := hr_W_mem (hr_t4 (n := 3) rfl) rfl
theorem kS_X4_send : Cond.selects RX4 yX4_send yX4_send ∈ hr_W := hr_W_mem (hr_t4 (n := 4) rfl) rfl
theorem kC_X4_send : Cond.code yX4_send cX4_send 6 (some .int) ∈ hr_W := hr_W_mem (hr_t4 (n := 5) rfl) rfl
theorem kM_L_121 : Cond.methodLink RL 121 yX4_count ∈ hr_W := hr_W_mem (hr_t4 (n := 6) rfl) rfl
theorem kI_X4_count : Cond.instanceMethod yX4_count ∈ hr_W := hr_W_mem (hr_t4 (n := 7) rfl) rfl
theorem kS_X4_count : Cond.selects RX4 yX4_count yX4_count ∈ hr_W := hr_W_mem (hr_t4 (n := 8) rfl) rfl
theorem kC_X4_count : Cond.code yX4_count cX4_count 4 (some .int) ∈ hr_W := hr_W_mem (hr_t4 (n := 9) rfl) rfl
theorem kA_long : Cond.arrayClass .long ∈ hr_W := hr_W_mem (hr_t4 (n := 10) rfl) rfl
theorem kS_X3_isUp : Cond.selects RX3 yX3_isUp yX3_isUp ∈ hr_W := hr_W_sel (List.mem_of_getElem? (i := 1) rfl) rfl
theorem kS_X2_becomeGone : Cond.selects RX2 yX2_becomeGone yX2_becomeGone ∈ hr_W := hr_W_sel (List.mem_of_getElem? (i := 2) rfl) rfl
theorem kS_X2_forget : Cond.selects RX2 yX2_forget yX2_forget ∈ hr_W := hr_W_sel (List.mem_of_getElem? (i := 3) rfl) rfl
theorem kS_X3_passTime : Cond.selects RX3 yX3_passTime yX3_passTime ∈ hr_W := hr_W_sel (List.mem_of_getElem? (i := 4) rfl) rfl
theorem kS_X2_ageRoute : Cond.selects RX2 yX2_ageRoute yX2_ageRoute ∈ hr_W := hr_W_sel (List.mem_of_getElem? (i := 5) rfl) rfl
theorem kS_X3_tellInTurn : Cond.selects RX3 yX3_tellInTurn yX3_tellInTurn ∈ hr_W := hr_W_sel (List.mem_of_getElem? (i := 6) rfl) rfl
theorem kS_X3_tell : Cond.selects RX3 yX3_tell yX3_tell ∈ hr_W := hr_W_sel (List.mem_of_getElem? (i := 7) rfl) rfl
theorem kS_X3_bring : Cond.selects RX3 yX3_bring yX3_bring ∈ hr_W := hr_W_sel (List.mem_of_getElem? (i := 8) rfl) rfl
theorem kS_X3_answerRequest : Cond.selects RX3 yX3_answerRequest yX3_answerRequest ∈ hr_W := hr_W_sel (List.mem_of_getElem? (i := 9) rfl) rfl
theorem kS_X1_hasPlainFields : Cond.selects RX1 yX1_hasPlainFields yX1_hasPlainFields ∈ hr_W := hr_W_sel (List.mem_of_getElem? (i := 10) rfl) rfl
theorem kS_X3_metricAnswered : Cond.selects RX3 yX3_metricAnswered yX3_metricAnswered ∈ hr_W := hr_W_sel (List.mem_of_getElem? (i := 11) rfl) rfl
theorem kS_X3_hearResponse : Cond.selects RX3 yX3_hearResponse yX3_hearResponse ∈ hr_W := hr_W_sel (List.mem_of_getElem? (i := 12) rfl) rfl
theorem kS_X2_adopt : Cond.selects RX2 yX2_adopt yX2_adopt ∈ hr_W := hr_W_sel (List.mem_of_getElem? (i := 13) rfl) rfl
theorem kS_X2_hearFromNext : Cond.selects RX2 yX2_hearFromNext yX2_hearFromNext ∈ hr_W := hr_W_sel (List.mem_of_getElem? (i := 14) rfl) rfl
theorem kS_X3_checkPacket : Cond.selects RX3 yX3_checkPacket yX3_checkPacket ∈ hr_W := hr_W_sel (List.mem_of_getElem? (i := 15) rfl) rfl
theorem kS_X4_refuses : Cond.selects RX4 yX4_refuses yX4_refuses ∈ hr_W := hr_W_sel (List.mem_of_getElem? (i := 16) rfl) rfl
theorem kS_X4_gone : Cond.selects RX4 yX4_gone yX4_gone ∈ hr_W := hr_W_sel (List.mem_of_getElem? (i := 17) rfl) rfl
theorem kS_X4_begin : Cond.selects RX4 yX4_begin yX4_begin ∈ hr_W := hr_W_sel (List.mem_of_getElem? (i := 18) rfl) rfl
theorem kS_X4_put : Cond.selects RX4 yX4_put yX4_put ∈ hr_W := hr_W_sel (List.mem_of_getElem? (i := 19) rfl) rfl
theorem kS_X4_entry : Cond.selects RX4 yX4_entry yX4_entry ∈ hr_W := hr_W_sel (List.mem_of_getElem? (i := 20) rfl) rfl
theorem kS_X4_post : Cond.selects RX4 yX4_post yX4_post ∈ hr_W := hr_W_sel (List.mem_of_getElem? (i := 21) rfl) rfl
theorem kS_X4_turn : Cond.selects RX4 yX4_turn yX4_turn ∈ hr_W := hr_W_sel (List.mem_of_getElem? (i := 22) rfl) rfl
theorem kS_X4_turnRouter : Cond.selects RX4 yX4_turnRouter yX4_turnRouter ∈ hr_W := hr_W_sel (List.mem_of_getElem? (i := 23) rfl) rfl
theorem kS_X4_tell : Cond.selects RX4 yX4_tell yX4_tell ∈ hr_W := hr_W_sel (List.mem_of_getElem? (i := 24) rfl) rfl
theorem kS_X4_arrive : Cond.selects RX4 yX4_arrive yX4_arrive ∈ hr_W := hr_W_sel (List.mem_of_getElem? (i := 25) rfl) rfl
theorem kS_X4_takeOut : Cond.selects RX4 yX4_takeOut yX4_takeOut ∈ hr_W := hr_W_sel (List.mem_of_getElem? (i := 26) rfl) rfl
theorem kS_X4_answer : Cond.selects RX4 yX4_answer yX4_answer ∈ hr_W := hr_W_sel (List.mem_of_getElem? (i := 27) rfl) rfl
theorem kS_X4_isFilled : Cond.selects RX4 yX4_isFilled yX4_isFilled ∈ hr_W := hr_W_sel (List.mem_of_getElem? (i := 28) rfl) rfl
theorem kS_X4_isSound : Cond.selects RX4 yX4_isSound yX4_isSound ∈ hr_W := hr_W_sel (List.mem_of_getElem? (i := 29) rfl) rfl
theorem kS_X4_hear : Cond.selects RX4 yX4_hear yX4_hear ∈ hr_W := hr_W_sel (List.mem_of_getElem? (i := 30) rfl) rfl
theorem kS_X4_lacks : Cond.selects RX4 yX4_lacks yX4_lacks ∈ hr_W := hr_W_sel (List.mem_of_getElem? (i := 31) rfl) rfl
theorem kU_X0 : ∀ w ∈ u_ws RX0 TX0 5, w ∈ hr_W := by decide +kernel
theorem kU_X1 : ∀ w ∈ u_ws RX1 TX1 4, w ∈ hr_W := by decide +kernel
theorem kU_X2 : ∀ w ∈ u_ws RX2 TX2 5, w ∈ hr_W := by decide +kernel
theorem kU_X3 : ∀ w ∈ u_ws RX3 TX3 8, w ∈ hr_W := by decide +kernel
theorem kU_X4 : ∀ w ∈ u_ws RX4 TX4 20, w ∈ hr_W := by decide +kernel
