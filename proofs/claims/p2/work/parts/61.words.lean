/-! ===== words in the tables, by their places ===== -/
theorem tb_1 : ∀ w ∈ tables_1_1, w ∈ lw_tbl := fun w h => List.mem_append_right _ (by unfold tables_1; exact List.mem_append_left _ h)
theorem tb_2 : ∀ w ∈ tables_1_2, w ∈ lw_tbl := fun w h => List.mem_append_right _ (by unfold tables_1; exact List.mem_append_right _ (List.mem_append_left _ h))
theorem tb_3 : ∀ w ∈ tables_1_3, w ∈ lw_tbl := fun w h => List.mem_append_right _ (by unfold tables_1; exact List.mem_append_right _ (List.mem_append_right _ (List.mem_append_left _ h)))
theorem tb_4 : ∀ w ∈ tables_1_4, w ∈ lw_tbl := fun w h => List.mem_append_right _ (by unfold tables_1; exact List.mem_append_right _ (List.mem_append_right _ (List.mem_append_right _ (List.mem_append_left _ h))))
theorem tb_5 : ∀ w ∈ tables_1_5, w ∈ lw_tbl := fun w h => List.mem_append_right _ (by unfold tables_1; exact List.mem_append_right _ (List.mem_append_right _ (List.mem_append_right _ (List.mem_append_right _ (List.mem_append_left _ h)))))
theorem tb_6 : ∀ w ∈ tables_1_6, w ∈ lw_tbl := fun w h => List.mem_append_right _ (by unfold tables_1; exact List.mem_append_right _ (List.mem_append_right _ (List.mem_append_right _ (List.mem_append_right _ (List.mem_append_right _ (List.mem_append_left _ h))))))
theorem tb_7 : ∀ w ∈ tables_1_7, w ∈ lw_tbl := fun w h => List.mem_append_right _ (by unfold tables_1; exact List.mem_append_right _ (List.mem_append_right _ (List.mem_append_right _ (List.mem_append_right _ (List.mem_append_right _ (List.mem_append_right _ (List.mem_append_left _ h)))))))
theorem tb_8 : ∀ w ∈ tables_1_8, w ∈ lw_tbl := fun w h => List.mem_append_right _ (by unfold tables_1; exact List.mem_append_right _ (List.mem_append_right _ (List.mem_append_right _ (List.mem_append_right _ (List.mem_append_right _ (List.mem_append_right _ (List.mem_append_right _ (List.mem_append_left _ h))))))))
theorem tb_9 : ∀ w ∈ tables_1_9, w ∈ lw_tbl := fun w h => List.mem_append_right _ (by unfold tables_1; exact List.mem_append_right _ (List.mem_append_right _ (List.mem_append_right _ (List.mem_append_right _ (List.mem_append_right _ (List.mem_append_right _ (List.mem_append_right _ (List.mem_append_right _ (h)))))))))
def wqc_0 : List Cond := [.classLink RL 8 RX11, .instantiable RX11 9, .initialized RX11, .code yX11_init cX11_init 1 none, .methodLink RX11 1 objectInit, .instanceMethod objectInit, .code objectInit ⟨#[0xb1]⟩ 1 none, .classLink RX11 7 RX6, .instantiable RX6 4, .initialized RX6, .code yX6_init cX6_init 1 none, .methodLink RX6 3 objectInit, .classLink RX6 9 RX4, .instantiable RX4 8, .initialized RX4, .code yX4_init cX4_init 1 none, .methodLink RX4 3 objectInit, .arrayClass .char, .fieldLink RX4 9 "PhraseDesk$Lexer" "letters" "[C", .arrayClass .int]
set_option maxRecDepth 100000 in
theorem iw_0_0 : (Cond.classLink RL 8 RX11) ∈ lw_tbl := tb_1 _ (List.mem_of_getElem? (i := 30) rfl)
set_option maxRecDepth 100000 in
theorem iw_0_1 : (Cond.instantiable RX11 9) ∈ lw_tbl := tb_1 _ (List.mem_of_getElem? (i := 31) rfl)
set_option maxRecDepth 100000 in
theorem iw_0_2 : (Cond.initialized RX11) ∈ lw_tbl := tb_1 _ (List.mem_of_getElem? (i := 1) rfl)
set_option maxRecDepth 100000 in
theorem iw_0_3 : (Cond.code yX11_init cX11_init 1 none) ∈ lw_tbl := tb_1 _ (List.mem_of_getElem? (i := 34) rfl)
set_option maxRecDepth 100000 in
theorem iw_0_4 : (Cond.methodLink RX11 1 objectInit) ∈ lw_tbl := tb_1 _ (List.mem_of_getElem? (i := 35) rfl)
set_option maxRecDepth 100000 in
theorem iw_0_5 : (Cond.instanceMethod objectInit) ∈ lw_tbl := tb_1 _ (List.mem_of_getElem? (i := 36) rfl)
set_option maxRecDepth 100000 in
theorem iw_0_6 : (Cond.code objectInit ⟨#[0xb1]⟩ 1 none) ∈ lw_tbl := tb_1 _ (List.mem_of_getElem? (i := 37) rfl)
set_option maxRecDepth 100000 in
theorem iw_0_7 : (Cond.classLink RX11 7 RX6) ∈ lw_tbl := tb_1 _ (List.mem_of_getElem? (i := 38) rfl)
set_option maxRecDepth 100000 in
theorem iw_0_8 : (Cond.instantiable RX6 4) ∈ lw_tbl := tb_1 _ (List.mem_of_getElem? (i := 39) rfl)
set_option maxRecDepth 100000 in
theorem iw_0_9 : (Cond.initialized RX6) ∈ lw_tbl := tb_1 _ (List.mem_of_getElem? (i := 2) rfl)
set_option maxRecDepth 100000 in
theorem iw_0_10 : (Cond.code yX6_init cX6_init 1 none) ∈ lw_tbl := tb_1 _ (List.mem_of_getElem? (i := 42) rfl)
set_option maxRecDepth 100000 in
theorem iw_0_11 : (Cond.methodLink RX6 3 objectInit) ∈ lw_tbl := tb_1 _ (List.mem_of_getElem? (i := 43) rfl)
set_option maxRecDepth 100000 in
theorem iw_0_12 : (Cond.classLink RX6 9 RX4) ∈ lw_tbl := tb_1 _ (List.mem_of_getElem? (i := 44) rfl)
set_option maxRecDepth 100000 in
theorem iw_0_13 : (Cond.instantiable RX4 8) ∈ lw_tbl := tb_1 _ (List.mem_of_getElem? (i := 45) rfl)
set_option maxRecDepth 100000 in
theorem iw_0_14 : (Cond.initialized RX4) ∈ lw_tbl := tb_1 _ (List.mem_of_getElem? (i := 3) rfl)
set_option maxRecDepth 100000 in
theorem iw_0_15 : (Cond.code yX4_init cX4_init 1 none) ∈ lw_tbl := tb_1 _ (List.mem_of_getElem? (i := 48) rfl)
set_option maxRecDepth 100000 in
theorem iw_0_16 : (Cond.methodLink RX4 3 objectInit) ∈ lw_tbl := tb_1 _ (List.mem_of_getElem? (i := 49) rfl)
set_option maxRecDepth 100000 in
theorem iw_0_17 : (Cond.arrayClass .char) ∈ lw_tbl := tb_1 _ (List.mem_of_getElem? (i := 84) rfl)
set_option maxRecDepth 100000 in
theorem iw_0_18 : (Cond.fieldLink RX4 9 "PhraseDesk$Lexer" "letters" "[C") ∈ lw_tbl := tb_1 _ (List.mem_of_getElem? (i := 87) rfl)
set_option maxRecDepth 100000 in
theorem iw_0_19 : (Cond.arrayClass .int) ∈ lw_tbl := tb_1 _ (List.mem_of_getElem? (i := 85) rfl)
theorem iC_0 : ∀ w ∈ wqc_0, w ∈ lw_tbl := List.forall_mem_cons.mpr ⟨iw_0_0, List.forall_mem_cons.mpr ⟨iw_0_1, List.forall_mem_cons.mpr ⟨iw_0_2, List.forall_mem_cons.mpr ⟨iw_0_3, List.forall_mem_cons.mpr ⟨iw_0_4, List.forall_mem_cons.mpr ⟨iw_0_5, List.forall_mem_cons.mpr ⟨iw_0_6, List.forall_mem_cons.mpr ⟨iw_0_7, List.forall_mem_cons.mpr ⟨iw_0_8, List.forall_mem_cons.mpr ⟨iw_0_9, List.forall_mem_cons.mpr ⟨iw_0_10, List.forall_mem_cons.mpr ⟨iw_0_11, List.forall_mem_cons.mpr ⟨iw_0_12, List.forall_mem_cons.mpr ⟨iw_0_13, List.forall_mem_cons.mpr ⟨iw_0_14, List.forall_mem_cons.mpr ⟨iw_0_15, List.forall_mem_cons.mpr ⟨iw_0_16, List.forall_mem_cons.mpr ⟨iw_0_17, List.forall_mem_cons.mpr ⟨iw_0_18, List.forall_mem_cons.mpr ⟨iw_0_19, fun _ h => absurd h List.not_mem_nil⟩⟩⟩⟩⟩⟩⟩⟩⟩⟩⟩⟩⟩⟩⟩⟩⟩⟩⟩⟩
def wqc_1 : List Cond := [.fieldLink RX4 15 "PhraseDesk$Lexer" "kinds" "[I", .fieldLink RX4 19 "PhraseDesk$Lexer" "places" "[I", .fieldLink RX4 22 "PhraseDesk$Lexer" "names" "[I", .classLink RX4 25 RX10, .fieldLink RX4 27 "PhraseDesk$Lexer" "literals" "[LPhraseDesk$Value;", .classLink RX4 31 RJ4, .instantiable RJ4 4, .initialized RJ4, .code yJ4_init_da8c8 cJ4_init_da8c8 1 none, .code yJ5_init_d00df cJ5_init_d00df 2 none, .methodLink RJ5 3 objectInit, .fieldLink RJ5 18 "java/lang/String" "COMPACT_STRINGS" "Z", .arrayClass .byte, .fieldLink RJ5 15 "java/lang/AbstractStringBuilder" "value" "[B", .fieldLink RJ5 22 "java/lang/AbstractStringBuilder" "coder" "B", .initialized RJ5, .methodLink RJ4 1 yJ5_init_d00df, .instanceMethod yJ5_init_d00df, .methodLink RX4 33 yJ4_init_da8c8, .instanceMethod yJ4_init_da8c8]
set_option maxRecDepth 100000 in
theorem iw_1_0 : (Cond.fieldLink RX4 15 "PhraseDesk$Lexer" "kinds" "[I") ∈ lw_tbl := tb_1 _ (List.mem_of_getElem? (i := 91) rfl)
set_option maxRecDepth 100000 in
theorem iw_1_1 : (Cond.fieldLink RX4 19 "PhraseDesk$Lexer" "places" "[I") ∈ lw_tbl := tb_1 _ (List.mem_of_getElem? (i := 92) rfl)
set_option maxRecDepth 100000 in
theorem iw_1_2 : (Cond.fieldLink RX4 22 "PhraseDesk$Lexer" "names" "[I") ∈ lw_tbl := tb_1 _ (List.mem_of_getElem? (i := 93) rfl)
set_option maxRecDepth 100000 in
theorem iw_1_3 : (Cond.classLink RX4 25 RX10) ∈ lw_tbl := tb_1 _ (List.mem_of_getElem? (i := 50) rfl)
set_option maxRecDepth 100000 in
theorem iw_1_4 : (Cond.fieldLink RX4 27 "PhraseDesk$Lexer" "literals" "[LPhraseDesk$Value;") ∈ lw_tbl := tb_1 _ (List.mem_of_getElem? (i := 94) rfl)
set_option maxRecDepth 100000 in
theorem iw_1_5 : (Cond.classLink RX4 31 RJ4) ∈ lw_tbl := tb_1 _ (List.mem_of_getElem? (i := 52) rfl)
set_option maxRecDepth 100000 in
theorem iw_1_6 : (Cond.instantiable RJ4 4) ∈ lw_tbl := tb_1 _ (List.mem_of_getElem? (i := 53) rfl)
set_option maxRecDepth 100000 in
theorem iw_1_7 : (Cond.initialized RJ4) ∈ lw_tbl := tb_1 _ (List.mem_of_getElem? (i := 5) rfl)
set_option maxRecDepth 100000 in
theorem iw_1_8 : (Cond.code yJ4_init_da8c8 cJ4_init_da8c8 1 none) ∈ lw_tbl := tb_1 _ (List.mem_of_getElem? (i := 56) rfl)
set_option maxRecDepth 100000 in
theorem iw_1_9 : (Cond.code yJ5_init_d00df cJ5_init_d00df 2 none) ∈ lw_tbl := tb_1 _ (List.mem_of_getElem? (i := 59) rfl)
set_option maxRecDepth 100000 in
theorem iw_1_10 : (Cond.methodLink RJ5 3 objectInit) ∈ lw_tbl := tb_1 _ (List.mem_of_getElem? (i := 60) rfl)
set_option maxRecDepth 100000 in
theorem iw_1_11 : (Cond.fieldLink RJ5 18 "java/lang/String" "COMPACT_STRINGS" "Z") ∈ lw_tbl := tb_1 _ (List.mem_of_getElem? (i := 61) rfl)
set_option maxRecDepth 100000 in
theorem iw_1_12 : (Cond.arrayClass .byte) ∈ lw_tbl := tb_1 _ (List.mem_of_getElem? (i := 86) rfl)
set_option maxRecDepth 100000 in
theorem iw_1_13 : (Cond.fieldLink RJ5 15 "java/lang/AbstractStringBuilder" "value" "[B") ∈ lw_tbl := tb_1 _ (List.mem_of_getElem? (i := 70) rfl)
set_option maxRecDepth 100000 in
theorem iw_1_14 : (Cond.fieldLink RJ5 22 "java/lang/AbstractStringBuilder" "coder" "B") ∈ lw_tbl := tb_1 _ (List.mem_of_getElem? (i := 71) rfl)
set_option maxRecDepth 100000 in
theorem iw_1_15 : (Cond.initialized RJ5) ∈ lw_tbl := tb_1 _ (List.mem_of_getElem? (i := 4) rfl)
set_option maxRecDepth 100000 in
theorem iw_1_16 : (Cond.methodLink RJ4 1 yJ5_init_d00df) ∈ lw_tbl := tb_1 _ (List.mem_of_getElem? (i := 57) rfl)
set_option maxRecDepth 100000 in
theorem iw_1_17 : (Cond.instanceMethod yJ5_init_d00df) ∈ lw_tbl := tb_1 _ (List.mem_of_getElem? (i := 58) rfl)
set_option maxRecDepth 100000 in
theorem iw_1_18 : (Cond.methodLink RX4 33 yJ4_init_da8c8) ∈ lw_tbl := tb_1 _ (List.mem_of_getElem? (i := 54) rfl)
set_option maxRecDepth 100000 in
theorem iw_1_19 : (Cond.instanceMethod yJ4_init_da8c8) ∈ lw_tbl := tb_1 _ (List.mem_of_getElem? (i := 55) rfl)
theorem iC_1 : ∀ w ∈ wqc_1, w ∈ lw_tbl := List.forall_mem_cons.mpr ⟨iw_1_0, List.forall_mem_cons.mpr ⟨iw_1_1, List.forall_mem_cons.mpr ⟨iw_1_2, List.forall_mem_cons.mpr ⟨iw_1_3, List.forall_mem_cons.mpr ⟨iw_1_4, List.forall_mem_cons.mpr ⟨iw_1_5, List.forall_mem_cons.mpr ⟨iw_1_6, List.forall_mem_cons.mpr ⟨iw_1_7, List.forall_mem_cons.mpr ⟨iw_1_8, List.forall_mem_cons.mpr ⟨iw_1_9, List.forall_mem_cons.mpr ⟨iw_1_10, List.forall_mem_cons.mpr ⟨iw_1_11, List.forall_mem_cons.mpr ⟨iw_1_12, List.forall_mem_cons.mpr ⟨iw_1_13, List.forall_mem_cons.mpr ⟨iw_1_14, List.forall_mem_cons.mpr ⟨iw_1_15, List.forall_mem_cons.mpr ⟨iw_1_16, List.forall_mem_cons.mpr ⟨iw_1_17, List.forall_mem_cons.mpr ⟨iw_1_18, List.forall_mem_cons.mpr ⟨iw_1_19, fun _ h => absurd h List.not_mem_nil⟩⟩⟩⟩⟩⟩⟩⟩⟩⟩⟩⟩⟩⟩⟩⟩⟩⟩⟩⟩
def wqc_2 : List Cond := [.fieldLink RX4 34 "PhraseDesk$Lexer" "scratch" "Ljava/lang/StringBuilder;", .methodLink RX6 11 yX4_init, .instanceMethod yX4_init, .fieldLink RX6 12 "PhraseDesk$Parser" "lexer" "LPhraseDesk$Lexer;", .methodLink RX11 9 yX6_init, .instanceMethod yX6_init, .fieldLink RX11 10 "PhraseDesk" "parser" "LPhraseDesk$Parser;", .classLink RX11 16 RX8, .instantiable RX8 8, .initialized RX8, .code yX8_init cX8_init 1 none, .methodLink RX8 3 objectInit, .methodLink RX8 9 yX10_ofNull, .static yX10_ofNull, .initialized RX10, .code yX10_ofNull cX10_ofNull 0 (some (.object "PhraseDesk$Value")), .classLink RX10 10 RX10, .instantiable RX10 5, .code yX10_init cX10_init 7 none, .methodLink RX10 3 objectInit]
set_option maxRecDepth 100000 in
theorem iw_2_0 : (Cond.fieldLink RX4 34 "PhraseDesk$Lexer" "scratch" "Ljava/lang/StringBuilder;") ∈ lw_tbl := tb_1 _ (List.mem_of_getElem? (i := 96) rfl)
set_option maxRecDepth 100000 in
theorem iw_2_1 : (Cond.methodLink RX6 11 yX4_init) ∈ lw_tbl := tb_1 _ (List.mem_of_getElem? (i := 46) rfl)
set_option maxRecDepth 100000 in
theorem iw_2_2 : (Cond.instanceMethod yX4_init) ∈ lw_tbl := tb_1 _ (List.mem_of_getElem? (i := 47) rfl)
set_option maxRecDepth 100000 in
theorem iw_2_3 : (Cond.fieldLink RX6 12 "PhraseDesk$Parser" "lexer" "LPhraseDesk$Lexer;") ∈ lw_tbl := tb_1 _ (List.mem_of_getElem? (i := 114) rfl)
set_option maxRecDepth 100000 in
theorem iw_2_4 : (Cond.methodLink RX11 9 yX6_init) ∈ lw_tbl := tb_1 _ (List.mem_of_getElem? (i := 40) rfl)
set_option maxRecDepth 100000 in
theorem iw_2_5 : (Cond.instanceMethod yX6_init) ∈ lw_tbl := tb_1 _ (List.mem_of_getElem? (i := 41) rfl)
set_option maxRecDepth 100000 in
theorem iw_2_6 : (Cond.fieldLink RX11 10 "PhraseDesk" "parser" "LPhraseDesk$Parser;") ∈ lw_tbl := tb_2 _ (List.mem_of_getElem? (i := 8) rfl)
set_option maxRecDepth 100000 in
theorem iw_2_7 : (Cond.classLink RX11 16 RX8) ∈ lw_tbl := tb_1 _ (List.mem_of_getElem? (i := 130) rfl)
set_option maxRecDepth 100000 in
theorem iw_2_8 : (Cond.instantiable RX8 8) ∈ lw_tbl := tb_1 _ (List.mem_of_getElem? (i := 131) rfl)
set_option maxRecDepth 100000 in
theorem iw_2_9 : (Cond.initialized RX8) ∈ lw_tbl := tb_1 _ (List.mem_of_getElem? (i := 8) rfl)
set_option maxRecDepth 100000 in
theorem iw_2_10 : (Cond.code yX8_init cX8_init 1 none) ∈ lw_tbl := tb_1 _ (List.mem_of_getElem? (i := 134) rfl)
set_option maxRecDepth 100000 in
theorem iw_2_11 : (Cond.methodLink RX8 3 objectInit) ∈ lw_tbl := tb_1 _ (List.mem_of_getElem? (i := 135) rfl)
set_option maxRecDepth 100000 in
theorem iw_2_12 : (Cond.methodLink RX8 9 yX10_ofNull) ∈ lw_tbl := tb_1 _ (List.mem_of_getElem? (i := 136) rfl)
set_option maxRecDepth 100000 in
theorem iw_2_13 : (Cond.static yX10_ofNull) ∈ lw_tbl := tb_1 _ (List.mem_of_getElem? (i := 137) rfl)
set_option maxRecDepth 100000 in
theorem iw_2_14 : (Cond.initialized RX10) ∈ lw_tbl := tb_1 _ (List.mem_of_getElem? (i := 9) rfl)
set_option maxRecDepth 100000 in
theorem iw_2_15 : (Cond.code yX10_ofNull cX10_ofNull 0 (some (.object "PhraseDesk$Value"))) ∈ lw_tbl := tb_1 _ (List.mem_of_getElem? (i := 138) rfl)
set_option maxRecDepth 100000 in
theorem iw_2_16 : (Cond.classLink RX10 10 RX10) ∈ lw_tbl := tb_1 _ (List.mem_of_getElem? (i := 139) rfl)
set_option maxRecDepth 100000 in
theorem iw_2_17 : (Cond.instantiable RX10 5) ∈ lw_tbl := tb_1 _ (List.mem_of_getElem? (i := 140) rfl)
set_option maxRecDepth 100000 in
theorem iw_2_18 : (Cond.code yX10_init cX10_init 7 none) ∈ lw_tbl := tb_1 _ (List.mem_of_getElem? (i := 144) rfl)
set_option maxRecDepth 100000 in
theorem iw_2_19 : (Cond.methodLink RX10 3 objectInit) ∈ lw_tbl := tb_1 _ (List.mem_of_getElem? (i := 145) rfl)
theorem iC_2 : ∀ w ∈ wqc_2, w ∈ lw_tbl := List.forall_mem_cons.mpr ⟨iw_2_0, List.forall_mem_cons.mpr ⟨iw_2_1, List.forall_mem_cons.mpr ⟨iw_2_2, List.forall_mem_cons.mpr ⟨iw_2_3, List.forall_mem_cons.mpr ⟨iw_2_4, List.forall_mem_cons.mpr ⟨iw_2_5, List.forall_mem_cons.mpr ⟨iw_2_6, List.forall_mem_cons.mpr ⟨iw_2_7, List.forall_mem_cons.mpr ⟨iw_2_8, List.forall_mem_cons.mpr ⟨iw_2_9, List.forall_mem_cons.mpr ⟨iw_2_10, List.forall_mem_cons.mpr ⟨iw_2_11, List.forall_mem_cons.mpr ⟨iw_2_12, List.forall_mem_cons.mpr ⟨iw_2_13, List.forall_mem_cons.mpr ⟨iw_2_14, List.forall_mem_cons.mpr ⟨iw_2_15, List.forall_mem_cons.mpr ⟨iw_2_16, List.forall_mem_cons.mpr ⟨iw_2_17, List.forall_mem_cons.mpr ⟨iw_2_18, List.forall_mem_cons.mpr ⟨iw_2_19, fun _ h => absurd h List.not_mem_nil⟩⟩⟩⟩⟩⟩⟩⟩⟩⟩⟩⟩⟩⟩⟩⟩⟩⟩⟩⟩
def wqc_3 : List Cond := [.fieldLink RX10 9 "PhraseDesk$Value" "kind" "I", .fieldLink RX10 15 "PhraseDesk$Value" "number" "I", .fieldLink RX10 18 "PhraseDesk$Value" "real" "D", .fieldLink RX10 22 "PhraseDesk$Value" "chars" "Ljava/lang/String;", .fieldLink RX10 26 "PhraseDesk$Value" "thing" "LPhraseDesk$Thing;", .methodLink RX10 32 yX10_init, .instanceMethod yX10_init, .fieldLink RX8 15 "PhraseDesk$Runner" "nothing" "LPhraseDesk$Value;", .classLink RX8 21 RX0, .instantiable RX0 2, .initialized RX0, .code yX0_init cX0_init 1 none, .methodLink RX0 3 objectInit, .arrayClass .boolean, .fieldLink RX0 11 "PhraseDesk$Converters" "there" "[Z", .classLink RX0 15 RJ4, .methodLink RX0 17 yJ4_init_da8c8, .fieldLink RX0 18 "PhraseDesk$Converters" "scratch" "Ljava/lang/StringBuilder;", .methodLink RX8 23 yX0_init, .instanceMethod yX0_init]
set_option maxRecDepth 100000 in
theorem iw_3_0 : (Cond.fieldLink RX10 9 "PhraseDesk$Value" "kind" "I") ∈ lw_tbl := tb_1 _ (List.mem_of_getElem? (i := 146) rfl)
set_option maxRecDepth 100000 in
theorem iw_3_1 : (Cond.fieldLink RX10 15 "PhraseDesk$Value" "number" "I") ∈ lw_tbl := tb_1 _ (List.mem_of_getElem? (i := 151) rfl)
set_option maxRecDepth 100000 in
theorem iw_3_2 : (Cond.fieldLink RX10 18 "PhraseDesk$Value" "real" "D") ∈ lw_tbl := tb_1 _ (List.mem_of_getElem? (i := 155) rfl)
set_option maxRecDepth 100000 in
theorem iw_3_3 : (Cond.fieldLink RX10 22 "PhraseDesk$Value" "chars" "Ljava/lang/String;") ∈ lw_tbl := tb_1 _ (List.mem_of_getElem? (i := 159) rfl)
set_option maxRecDepth 100000 in
theorem iw_3_4 : (Cond.fieldLink RX10 26 "PhraseDesk$Value" "thing" "LPhraseDesk$Thing;") ∈ lw_tbl := tb_1 _ (List.mem_of_getElem? (i := 163) rfl)
set_option maxRecDepth 100000 in
theorem iw_3_5 : (Cond.methodLink RX10 32 yX10_init) ∈ lw_tbl := tb_1 _ (List.mem_of_getElem? (i := 142) rfl)
set_option maxRecDepth 100000 in
theorem iw_3_6 : (Cond.instanceMethod yX10_init) ∈ lw_tbl := tb_1 _ (List.mem_of_getElem? (i := 143) rfl)
set_option maxRecDepth 100000 in
theorem iw_3_7 : (Cond.fieldLink RX8 15 "PhraseDesk$Runner" "nothing" "LPhraseDesk$Value;") ∈ lw_tbl := tb_1 _ (List.mem_of_getElem? (i := 213) rfl)
set_option maxRecDepth 100000 in
theorem iw_3_8 : (Cond.classLink RX8 21 RX0) ∈ lw_tbl := tb_1 _ (List.mem_of_getElem? (i := 177) rfl)
set_option maxRecDepth 100000 in
theorem iw_3_9 : (Cond.instantiable RX0 2) ∈ lw_tbl := tb_1 _ (List.mem_of_getElem? (i := 178) rfl)
set_option maxRecDepth 100000 in
theorem iw_3_10 : (Cond.initialized RX0) ∈ lw_tbl := tb_1 _ (List.mem_of_getElem? (i := 10) rfl)
set_option maxRecDepth 100000 in
theorem iw_3_11 : (Cond.code yX0_init cX0_init 1 none) ∈ lw_tbl := tb_1 _ (List.mem_of_getElem? (i := 181) rfl)
set_option maxRecDepth 100000 in
theorem iw_3_12 : (Cond.methodLink RX0 3 objectInit) ∈ lw_tbl := tb_1 _ (List.mem_of_getElem? (i := 182) rfl)
set_option maxRecDepth 100000 in
theorem iw_3_13 : (Cond.arrayClass .boolean) ∈ lw_tbl := tb_1 _ (List.mem_of_getElem? (i := 192) rfl)
set_option maxRecDepth 100000 in
theorem iw_3_14 : (Cond.fieldLink RX0 11 "PhraseDesk$Converters" "there" "[Z") ∈ lw_tbl := tb_1 _ (List.mem_of_getElem? (i := 185) rfl)
set_option maxRecDepth 100000 in
theorem iw_3_15 : (Cond.classLink RX0 15 RJ4) ∈ lw_tbl := tb_1 _ (List.mem_of_getElem? (i := 183) rfl)
set_option maxRecDepth 100000 in
theorem iw_3_16 : (Cond.methodLink RX0 17 yJ4_init_da8c8) ∈ lw_tbl := tb_1 _ (List.mem_of_getElem? (i := 184) rfl)
set_option maxRecDepth 100000 in
theorem iw_3_17 : (Cond.fieldLink RX0 18 "PhraseDesk$Converters" "scratch" "Ljava/lang/StringBuilder;") ∈ lw_tbl := tb_1 _ (List.mem_of_getElem? (i := 186) rfl)
set_option maxRecDepth 100000 in
theorem iw_3_18 : (Cond.methodLink RX8 23 yX0_init) ∈ lw_tbl := tb_1 _ (List.mem_of_getElem? (i := 179) rfl)
set_option maxRecDepth 100000 in
theorem iw_3_19 : (Cond.instanceMethod yX0_init) ∈ lw_tbl := tb_1 _ (List.mem_of_getElem? (i := 180) rfl)
theorem iC_3 : ∀ w ∈ wqc_3, w ∈ lw_tbl := List.forall_mem_cons.mpr ⟨iw_3_0, List.forall_mem_cons.mpr ⟨iw_3_1, List.forall_mem_cons.mpr ⟨iw_3_2, List.forall_mem_cons.mpr ⟨iw_3_3, List.forall_mem_cons.mpr ⟨iw_3_4, List.forall_mem_cons.mpr ⟨iw_3_5, List.forall_mem_cons.mpr ⟨iw_3_6, List.forall_mem_cons.mpr ⟨iw_3_7, List.forall_mem_cons.mpr ⟨iw_3_8, List.forall_mem_cons.mpr ⟨iw_3_9, List.forall_mem_cons.mpr ⟨iw_3_10, List.forall_mem_cons.mpr ⟨iw_3_11, List.forall_mem_cons.mpr ⟨iw_3_12, List.forall_mem_cons.mpr ⟨iw_3_13, List.forall_mem_cons.mpr ⟨iw_3_14, List.forall_mem_cons.mpr ⟨iw_3_15, List.forall_mem_cons.mpr ⟨iw_3_16, List.forall_mem_cons.mpr ⟨iw_3_17, List.forall_mem_cons.mpr ⟨iw_3_18, List.forall_mem_cons.mpr ⟨iw_3_19, fun _ h => absurd h List.not_mem_nil⟩⟩⟩⟩⟩⟩⟩⟩⟩⟩⟩⟩⟩⟩⟩⟩⟩⟩⟩⟩
def wqc_4 : List Cond := [.fieldLink RX8 24 "PhraseDesk$Runner" "converters" "LPhraseDesk$Converters;", .classLink RX8 28 RX3, .instantiable RX3 3, .initialized RX3, .code yX3_init cX3_init 1 none, .methodLink RX3 3 objectInit, .classLink RX3 9 RX7, .fieldLink RX3 11 "PhraseDesk$Finder" "candidates" "[LPhraseDesk$Routine;", .methodLink RX8 30 yX3_init, .instanceMethod yX3_init, .fieldLink RX8 31 "PhraseDesk$Runner" "finder" "LPhraseDesk$Finder;", .fieldLink RX8 35 "PhraseDesk$Runner" "variableNames" "[I", .classLink RX8 10 RX10, .fieldLink RX8 39 "PhraseDesk$Runner" "variableValues" "[LPhraseDesk$Value;", .fieldLink RX8 43 "PhraseDesk$Runner" "root" "LPhraseDesk$Value;", .methodLink RX11 18 yX8_init, .instanceMethod yX8_init, .fieldLink RX11 19 "PhraseDesk" "runner" "LPhraseDesk$Runner;", .classLink RX11 23 RX5, .fieldLink RX11 25 "PhraseDesk" "programs" "[LPhraseDesk$Node;"]
set_option maxRecDepth 100000 in
theorem iw_4_0 : (Cond.fieldLink RX8 24 "PhraseDesk$Runner" "converters" "LPhraseDesk$Converters;") ∈ lw_tbl := tb_1 _ (List.mem_of_getElem? (i := 215) rfl)
set_option maxRecDepth 100000 in
theorem iw_4_1 : (Cond.classLink RX8 28 RX3) ∈ lw_tbl := tb_1 _ (List.mem_of_getElem? (i := 193) rfl)
set_option maxRecDepth 100000 in
theorem iw_4_2 : (Cond.instantiable RX3 3) ∈ lw_tbl := tb_1 _ (List.mem_of_getElem? (i := 194) rfl)
set_option maxRecDepth 100000 in
theorem iw_4_3 : (Cond.initialized RX3) ∈ lw_tbl := tb_1 _ (List.mem_of_getElem? (i := 11) rfl)
set_option maxRecDepth 100000 in
theorem iw_4_4 : (Cond.code yX3_init cX3_init 1 none) ∈ lw_tbl := tb_1 _ (List.mem_of_getElem? (i := 197) rfl)
set_option maxRecDepth 100000 in
theorem iw_4_5 : (Cond.methodLink RX3 3 objectInit) ∈ lw_tbl := tb_1 _ (List.mem_of_getElem? (i := 198) rfl)
set_option maxRecDepth 100000 in
theorem iw_4_6 : (Cond.classLink RX3 9 RX7) ∈ lw_tbl := tb_1 _ (List.mem_of_getElem? (i := 199) rfl)
set_option maxRecDepth 100000 in
theorem iw_4_7 : (Cond.fieldLink RX3 11 "PhraseDesk$Finder" "candidates" "[LPhraseDesk$Routine;") ∈ lw_tbl := tb_1 _ (List.mem_of_getElem? (i := 201) rfl)
set_option maxRecDepth 100000 in
theorem iw_4_8 : (Cond.methodLink RX8 30 yX3_init) ∈ lw_tbl := tb_1 _ (List.mem_of_getElem? (i := 195) rfl)
set_option maxRecDepth 100000 in
theorem iw_4_9 : (Cond.instanceMethod yX3_init) ∈ lw_tbl := tb_1 _ (List.mem_of_getElem? (i := 196) rfl)
set_option maxRecDepth 100000 in
theorem iw_4_10 : (Cond.fieldLink RX8 31 "PhraseDesk$Runner" "finder" "LPhraseDesk$Finder;") ∈ lw_tbl := tb_1 _ (List.mem_of_getElem? (i := 217) rfl)
set_option maxRecDepth 100000 in
theorem iw_4_11 : (Cond.fieldLink RX8 35 "PhraseDesk$Runner" "variableNames" "[I") ∈ lw_tbl := tb_1 _ (List.mem_of_getElem? (i := 218) rfl)
set_option maxRecDepth 100000 in
theorem iw_4_12 : (Cond.classLink RX8 10 RX10) ∈ lw_tbl := tb_1 _ (List.mem_of_getElem? (i := 212) rfl)
set_option maxRecDepth 100000 in
theorem iw_4_13 : (Cond.fieldLink RX8 39 "PhraseDesk$Runner" "variableValues" "[LPhraseDesk$Value;") ∈ lw_tbl := tb_1 _ (List.mem_of_getElem? (i := 219) rfl)
set_option maxRecDepth 100000 in
theorem iw_4_14 : (Cond.fieldLink RX8 43 "PhraseDesk$Runner" "root" "LPhraseDesk$Value;") ∈ lw_tbl := tb_1 _ (List.mem_of_getElem? (i := 222) rfl)
set_option maxRecDepth 100000 in
theorem iw_4_15 : (Cond.methodLink RX11 18 yX8_init) ∈ lw_tbl := tb_1 _ (List.mem_of_getElem? (i := 132) rfl)
set_option maxRecDepth 100000 in
theorem iw_4_16 : (Cond.instanceMethod yX8_init) ∈ lw_tbl := tb_1 _ (List.mem_of_getElem? (i := 133) rfl)
set_option maxRecDepth 100000 in
theorem iw_4_17 : (Cond.fieldLink RX11 19 "PhraseDesk" "runner" "LPhraseDesk$Runner;") ∈ lw_tbl := tb_2 _ (List.mem_of_getElem? (i := 9) rfl)
set_option maxRecDepth 100000 in
theorem iw_4_18 : (Cond.classLink RX11 23 RX5) ∈ lw_tbl := tb_2 _ (List.mem_of_getElem? (i := 2) rfl)
set_option maxRecDepth 100000 in
theorem iw_4_19 : (Cond.fieldLink RX11 25 "PhraseDesk" "programs" "[LPhraseDesk$Node;") ∈ lw_tbl := tb_2 _ (List.mem_of_getElem? (i := 10) rfl)
theorem iC_4 : ∀ w ∈ wqc_4, w ∈ lw_tbl := List.forall_mem_cons.mpr ⟨iw_4_0, List.forall_mem_cons.mpr ⟨iw_4_1, List.forall_mem_cons.mpr ⟨iw_4_2, List.forall_mem_cons.mpr ⟨iw_4_3, List.forall_mem_cons.mpr ⟨iw_4_4, List.forall_mem_cons.mpr ⟨iw_4_5, List.forall_mem_cons.mpr ⟨iw_4_6, List.forall_mem_cons.mpr ⟨iw_4_7, List.forall_mem_cons.mpr ⟨iw_4_8, List.forall_mem_cons.mpr ⟨iw_4_9, List.forall_mem_cons.mpr ⟨iw_4_10, List.forall_mem_cons.mpr ⟨iw_4_11, List.forall_mem_cons.mpr ⟨iw_4_12, List.forall_mem_cons.mpr ⟨iw_4_13, List.forall_mem_cons.mpr ⟨iw_4_14, List.forall_mem_cons.mpr ⟨iw_4_15, List.forall_mem_cons.mpr ⟨iw_4_16, List.forall_mem_cons.mpr ⟨iw_4_17, List.forall_mem_cons.mpr ⟨iw_4_18, List.forall_mem_cons.mpr ⟨iw_4_19, fun _ h => absurd h List.not_mem_nil⟩⟩⟩⟩⟩⟩⟩⟩⟩⟩⟩⟩⟩⟩⟩⟩⟩⟩⟩⟩
def wqc_5 : List Cond := [.classLink RX11 29 RX1, .fieldLink RX11 31 "PhraseDesk" "families" "[LPhraseDesk$Family;", .classLink RX11 35 RX10, .fieldLink RX11 37 "PhraseDesk" "objects" "[LPhraseDesk$Value;", .methodLink RX11 41 yX10_ofNull, .fieldLink RX11 45 "PhraseDesk" "latest" "LPhraseDesk$Value;", .methodLink RL 49 yX11_init, .instanceMethod yX11_init, .classLink RL 50 RX12, .instantiable RX12 60, .initialized RX12, .code yX12_init cX12_init 1 none, .methodLink RX12 1 objectInit, .fieldLink RX12 7 "PhraseDeskModel" "letters" "[I", .fieldLink RX12 13 "PhraseDeskModel" "tokenKind" "[I", .fieldLink RX12 16 "PhraseDeskModel" "tokenAt" "[I", .arrayClass .long, .fieldLink RX12 19 "PhraseDeskModel" "token" "[J", .fieldLink RX12 23 "PhraseDeskModel" "scale" "[I", .fieldLink RX12 26 "PhraseDeskModel" "step" "[I"]
set_option maxRecDepth 100000 in
theorem iw_5_0 : (Cond.classLink RX11 29 RX1) ∈ lw_tbl := tb_2 _ (List.mem_of_getElem? (i := 4) rfl)
set_option maxRecDepth 100000 in
theorem iw_5_1 : (Cond.fieldLink RX11 31 "PhraseDesk" "families" "[LPhraseDesk$Family;") ∈ lw_tbl := tb_2 _ (List.mem_of_getElem? (i := 12) rfl)
set_option maxRecDepth 100000 in
theorem iw_5_2 : (Cond.classLink RX11 35 RX10) ∈ lw_tbl := tb_2 _ (List.mem_of_getElem? (i := 6) rfl)
set_option maxRecDepth 100000 in
theorem iw_5_3 : (Cond.fieldLink RX11 37 "PhraseDesk" "objects" "[LPhraseDesk$Value;") ∈ lw_tbl := tb_2 _ (List.mem_of_getElem? (i := 14) rfl)
set_option maxRecDepth 100000 in
theorem iw_5_4 : (Cond.methodLink RX11 41 yX10_ofNull) ∈ lw_tbl := tb_2 _ (List.mem_of_getElem? (i := 7) rfl)
set_option maxRecDepth 100000 in
theorem iw_5_5 : (Cond.fieldLink RX11 45 "PhraseDesk" "latest" "LPhraseDesk$Value;") ∈ lw_tbl := tb_2 _ (List.mem_of_getElem? (i := 16) rfl)
set_option maxRecDepth 100000 in
theorem iw_5_6 : (Cond.methodLink RL 49 yX11_init) ∈ lw_tbl := tb_1 _ (List.mem_of_getElem? (i := 32) rfl)
set_option maxRecDepth 100000 in
theorem iw_5_7 : (Cond.instanceMethod yX11_init) ∈ lw_tbl := tb_1 _ (List.mem_of_getElem? (i := 33) rfl)
set_option maxRecDepth 100000 in
theorem iw_5_8 : (Cond.classLink RL 50 RX12) ∈ lw_tbl := tb_6 _ (List.mem_of_getElem? (i := 131) rfl)
set_option maxRecDepth 100000 in
theorem iw_5_9 : (Cond.instantiable RX12 60) ∈ lw_tbl := tb_6 _ (List.mem_of_getElem? (i := 132) rfl)
set_option maxRecDepth 100000 in
theorem iw_5_10 : (Cond.initialized RX12) ∈ lw_tbl := tb_1 _ (List.mem_of_getElem? (i := 12) rfl)
set_option maxRecDepth 100000 in
theorem iw_5_11 : (Cond.code yX12_init cX12_init 1 none) ∈ lw_tbl := tb_6 _ (List.mem_of_getElem? (i := 135) rfl)
set_option maxRecDepth 100000 in
theorem iw_5_12 : (Cond.methodLink RX12 1 objectInit) ∈ lw_tbl := tb_6 _ (List.mem_of_getElem? (i := 136) rfl)
set_option maxRecDepth 100000 in
theorem iw_5_13 : (Cond.fieldLink RX12 7 "PhraseDeskModel" "letters" "[I") ∈ lw_tbl := tb_6 _ (List.mem_of_getElem? (i := 139) rfl)
set_option maxRecDepth 100000 in
theorem iw_5_14 : (Cond.fieldLink RX12 13 "PhraseDeskModel" "tokenKind" "[I") ∈ lw_tbl := tb_6 _ (List.mem_of_getElem? (i := 141) rfl)
set_option maxRecDepth 100000 in
theorem iw_5_15 : (Cond.fieldLink RX12 16 "PhraseDeskModel" "tokenAt" "[I") ∈ lw_tbl := tb_6 _ (List.mem_of_getElem? (i := 142) rfl)
set_option maxRecDepth 100000 in
theorem iw_5_16 : (Cond.arrayClass .long) ∈ lw_tbl := tb_7 _ (List.mem_of_getElem? (i := 78) rfl)
set_option maxRecDepth 100000 in
theorem iw_5_17 : (Cond.fieldLink RX12 19 "PhraseDeskModel" "token" "[J") ∈ lw_tbl := tb_6 _ (List.mem_of_getElem? (i := 143) rfl)
set_option maxRecDepth 100000 in
theorem iw_5_18 : (Cond.fieldLink RX12 23 "PhraseDeskModel" "scale" "[I") ∈ lw_tbl := tb_6 _ (List.mem_of_getElem? (i := 144) rfl)
set_option maxRecDepth 100000 in
theorem iw_5_19 : (Cond.fieldLink RX12 26 "PhraseDeskModel" "step" "[I") ∈ lw_tbl := tb_6 _ (List.mem_of_getElem? (i := 148) rfl)
theorem iC_5 : ∀ w ∈ wqc_5, w ∈ lw_tbl := List.forall_mem_cons.mpr ⟨iw_5_0, List.forall_mem_cons.mpr ⟨iw_5_1, List.forall_mem_cons.mpr ⟨iw_5_2, List.forall_mem_cons.mpr ⟨iw_5_3, List.forall_mem_cons.mpr ⟨iw_5_4, List.forall_mem_cons.mpr ⟨iw_5_5, List.forall_mem_cons.mpr ⟨iw_5_6, List.forall_mem_cons.mpr ⟨iw_5_7, List.forall_mem_cons.mpr ⟨iw_5_8, List.forall_mem_cons.mpr ⟨iw_5_9, List.forall_mem_cons.mpr ⟨iw_5_10, List.forall_mem_cons.mpr ⟨iw_5_11, List.forall_mem_cons.mpr ⟨iw_5_12, List.forall_mem_cons.mpr ⟨iw_5_13, List.forall_mem_cons.mpr ⟨iw_5_14, List.forall_mem_cons.mpr ⟨iw_5_15, List.forall_mem_cons.mpr ⟨iw_5_16, List.forall_mem_cons.mpr ⟨iw_5_17, List.forall_mem_cons.mpr ⟨iw_5_18, List.forall_mem_cons.mpr ⟨iw_5_19, fun _ h => absurd h List.not_mem_nil⟩⟩⟩⟩⟩⟩⟩⟩⟩⟩⟩⟩⟩⟩⟩⟩⟩⟩⟩⟩
def wqc_6 : List Cond := [.fieldLink RX12 29 "PhraseDeskModel" "with" "[J", .fieldLink RX12 32 "PhraseDeskModel" "lengths" "[I", .fieldLink RX12 35 "PhraseDeskModel" "frame" "[I", .fieldLink RX12 38 "PhraseDeskModel" "base" "[I", .fieldLink RX12 41 "PhraseDeskModel" "sign" "[I", .fieldLink RX12 44 "PhraseDeskModel" "patch" "[I", .fieldLink RX12 47 "PhraseDeskModel" "callName" "[I", .fieldLink RX12 50 "PhraseDeskModel" "callCount" "[I", .fieldLink RX12 53 "PhraseDeskModel" "closed" "[Z", .fieldLink RX12 57 "PhraseDeskModel" "plain" "[Z", .fieldLink RX12 60 "PhraseDeskModel" "aims" "[Z", .fieldLink RX12 63 "PhraseDeskModel" "operation" "[I", .fieldLink RX12 66 "PhraseDeskModel" "level" "[I", .fieldLink RX12 69 "PhraseDeskModel" "jump" "[I", .fieldLink RX12 72 "PhraseDeskModel" "parent" "[I", .fieldLink RX12 75 "PhraseDeskModel" "fields" "[I", .fieldLink RX12 78 "PhraseDeskModel" "fieldName" "[I", .fieldLink RX12 81 "PhraseDeskModel" "fieldType" "[I", .fieldLink RX12 84 "PhraseDeskModel" "methods" "[I", .fieldLink RX12 87 "PhraseDeskModel" "methodName" "[I"]
set_option maxRecDepth 100000 in
theorem iw_6_0 : (Cond.fieldLink RX12 29 "PhraseDeskModel" "with" "[J") ∈ lw_tbl := tb_6 _ (List.mem_of_getElem? (i := 149) rfl)
set_option maxRecDepth 100000 in
theorem iw_6_1 : (Cond.fieldLink RX12 32 "PhraseDeskModel" "lengths" "[I") ∈ lw_tbl := tb_6 _ (List.mem_of_getElem? (i := 150) rfl)
set_option maxRecDepth 100000 in
theorem iw_6_2 : (Cond.fieldLink RX12 35 "PhraseDeskModel" "frame" "[I") ∈ lw_tbl := tb_6 _ (List.mem_of_getElem? (i := 157) rfl)
set_option maxRecDepth 100000 in
theorem iw_6_3 : (Cond.fieldLink RX12 38 "PhraseDeskModel" "base" "[I") ∈ lw_tbl := tb_6 _ (List.mem_of_getElem? (i := 158) rfl)
set_option maxRecDepth 100000 in
theorem iw_6_4 : (Cond.fieldLink RX12 41 "PhraseDeskModel" "sign" "[I") ∈ lw_tbl := tb_6 _ (List.mem_of_getElem? (i := 159) rfl)
set_option maxRecDepth 100000 in
theorem iw_6_5 : (Cond.fieldLink RX12 44 "PhraseDeskModel" "patch" "[I") ∈ lw_tbl := tb_6 _ (List.mem_of_getElem? (i := 160) rfl)
set_option maxRecDepth 100000 in
theorem iw_6_6 : (Cond.fieldLink RX12 47 "PhraseDeskModel" "callName" "[I") ∈ lw_tbl := tb_6 _ (List.mem_of_getElem? (i := 161) rfl)
set_option maxRecDepth 100000 in
theorem iw_6_7 : (Cond.fieldLink RX12 50 "PhraseDeskModel" "callCount" "[I") ∈ lw_tbl := tb_6 _ (List.mem_of_getElem? (i := 162) rfl)
set_option maxRecDepth 100000 in
theorem iw_6_8 : (Cond.fieldLink RX12 53 "PhraseDeskModel" "closed" "[Z") ∈ lw_tbl := tb_6 _ (List.mem_of_getElem? (i := 163) rfl)
set_option maxRecDepth 100000 in
theorem iw_6_9 : (Cond.fieldLink RX12 57 "PhraseDeskModel" "plain" "[Z") ∈ lw_tbl := tb_6 _ (List.mem_of_getElem? (i := 164) rfl)
set_option maxRecDepth 100000 in
theorem iw_6_10 : (Cond.fieldLink RX12 60 "PhraseDeskModel" "aims" "[Z") ∈ lw_tbl := tb_6 _ (List.mem_of_getElem? (i := 165) rfl)
set_option maxRecDepth 100000 in
theorem iw_6_11 : (Cond.fieldLink RX12 63 "PhraseDeskModel" "operation" "[I") ∈ lw_tbl := tb_6 _ (List.mem_of_getElem? (i := 167) rfl)
set_option maxRecDepth 100000 in
theorem iw_6_12 : (Cond.fieldLink RX12 66 "PhraseDeskModel" "level" "[I") ∈ lw_tbl := tb_6 _ (List.mem_of_getElem? (i := 168) rfl)
set_option maxRecDepth 100000 in
theorem iw_6_13 : (Cond.fieldLink RX12 69 "PhraseDeskModel" "jump" "[I") ∈ lw_tbl := tb_6 _ (List.mem_of_getElem? (i := 169) rfl)
set_option maxRecDepth 100000 in
theorem iw_6_14 : (Cond.fieldLink RX12 72 "PhraseDeskModel" "parent" "[I") ∈ lw_tbl := tb_6 _ (List.mem_of_getElem? (i := 173) rfl)
set_option maxRecDepth 100000 in
theorem iw_6_15 : (Cond.fieldLink RX12 75 "PhraseDeskModel" "fields" "[I") ∈ lw_tbl := tb_6 _ (List.mem_of_getElem? (i := 174) rfl)
set_option maxRecDepth 100000 in
theorem iw_6_16 : (Cond.fieldLink RX12 78 "PhraseDeskModel" "fieldName" "[I") ∈ lw_tbl := tb_6 _ (List.mem_of_getElem? (i := 175) rfl)
set_option maxRecDepth 100000 in
theorem iw_6_17 : (Cond.fieldLink RX12 81 "PhraseDeskModel" "fieldType" "[I") ∈ lw_tbl := tb_6 _ (List.mem_of_getElem? (i := 176) rfl)
set_option maxRecDepth 100000 in
theorem iw_6_18 : (Cond.fieldLink RX12 84 "PhraseDeskModel" "methods" "[I") ∈ lw_tbl := tb_6 _ (List.mem_of_getElem? (i := 177) rfl)
set_option maxRecDepth 100000 in
theorem iw_6_19 : (Cond.fieldLink RX12 87 "PhraseDeskModel" "methodName" "[I") ∈ lw_tbl := tb_6 _ (List.mem_of_getElem? (i := 178) rfl)
theorem iC_6 : ∀ w ∈ wqc_6, w ∈ lw_tbl := List.forall_mem_cons.mpr ⟨iw_6_0, List.forall_mem_cons.mpr ⟨iw_6_1, List.forall_mem_cons.mpr ⟨iw_6_2, List.forall_mem_cons.mpr ⟨iw_6_3, List.forall_mem_cons.mpr ⟨iw_6_4, List.forall_mem_cons.mpr ⟨iw_6_5, List.forall_mem_cons.mpr ⟨iw_6_6, List.forall_mem_cons.mpr ⟨iw_6_7, List.forall_mem_cons.mpr ⟨iw_6_8, List.forall_mem_cons.mpr ⟨iw_6_9, List.forall_mem_cons.mpr ⟨iw_6_10, List.forall_mem_cons.mpr ⟨iw_6_11, List.forall_mem_cons.mpr ⟨iw_6_12, List.forall_mem_cons.mpr ⟨iw_6_13, List.forall_mem_cons.mpr ⟨iw_6_14, List.forall_mem_cons.mpr ⟨iw_6_15, List.forall_mem_cons.mpr ⟨iw_6_16, List.forall_mem_cons.mpr ⟨iw_6_17, List.forall_mem_cons.mpr ⟨iw_6_18, List.forall_mem_cons.mpr ⟨iw_6_19, fun _ h => absurd h List.not_mem_nil⟩⟩⟩⟩⟩⟩⟩⟩⟩⟩⟩⟩⟩⟩⟩⟩⟩⟩⟩⟩
def wqc_7 : List Cond := [.fieldLink RX12 90 "PhraseDeskModel" "one" "[I", .fieldLink RX12 93 "PhraseDeskModel" "two" "[I", .fieldLink RX12 96 "PhraseDeskModel" "action" "[I", .fieldLink RX12 99 "PhraseDeskModel" "methodNumber" "[I", .fieldLink RX12 102 "PhraseDeskModel" "converts" "[Z", .fieldLink RX12 105 "PhraseDeskModel" "classOf" "[I", .fieldLink RX12 108 "PhraseDeskModel" "variable" "[I", .fieldLink RX12 111 "PhraseDeskModel" "kind" "[I", .fieldLink RX12 114 "PhraseDeskModel" "a" "[J", .fieldLink RX12 117 "PhraseDeskModel" "b" "[J", .arrayClass .double, .fieldLink RX12 120 "PhraseDeskModel" "real" "[D", .fieldLink RX12 124 "PhraseDeskModel" "built" "[I", .methodLink RL 52 yX12_init, .instanceMethod yX12_init, .methodLink RL 53 yL_letter, .static yL_letter, .initialized RL, .codeWith yL_letter cL_letter 4 (some .int) [(0, 9, 12, 13), (0, 9, 15, 15)], .methodLink RL 7 yX11_letter]
set_option maxRecDepth 100000 in
theorem iw_7_0 : (Cond.fieldLink RX12 90 "PhraseDeskModel" "one" "[I") ∈ lw_tbl := tb_6 _ (List.mem_of_getElem? (i := 179) rfl)
set_option maxRecDepth 100000 in
theorem iw_7_1 : (Cond.fieldLink RX12 93 "PhraseDeskModel" "two" "[I") ∈ lw_tbl := tb_6 _ (List.mem_of_getElem? (i := 180) rfl)
set_option maxRecDepth 100000 in
theorem iw_7_2 : (Cond.fieldLink RX12 96 "PhraseDeskModel" "action" "[I") ∈ lw_tbl := tb_6 _ (List.mem_of_getElem? (i := 181) rfl)
set_option maxRecDepth 100000 in
theorem iw_7_3 : (Cond.fieldLink RX12 99 "PhraseDeskModel" "methodNumber" "[I") ∈ lw_tbl := tb_6 _ (List.mem_of_getElem? (i := 182) rfl)
set_option maxRecDepth 100000 in
theorem iw_7_4 : (Cond.fieldLink RX12 102 "PhraseDeskModel" "converts" "[Z") ∈ lw_tbl := tb_6 _ (List.mem_of_getElem? (i := 183) rfl)
set_option maxRecDepth 100000 in
theorem iw_7_5 : (Cond.fieldLink RX12 105 "PhraseDeskModel" "classOf" "[I") ∈ lw_tbl := tb_6 _ (List.mem_of_getElem? (i := 185) rfl)
set_option maxRecDepth 100000 in
theorem iw_7_6 : (Cond.fieldLink RX12 108 "PhraseDeskModel" "variable" "[I") ∈ lw_tbl := tb_6 _ (List.mem_of_getElem? (i := 187) rfl)
set_option maxRecDepth 100000 in
theorem iw_7_7 : (Cond.fieldLink RX12 111 "PhraseDeskModel" "kind" "[I") ∈ lw_tbl := tb_6 _ (List.mem_of_getElem? (i := 188) rfl)
set_option maxRecDepth 100000 in
theorem iw_7_8 : (Cond.fieldLink RX12 114 "PhraseDeskModel" "a" "[J") ∈ lw_tbl := tb_6 _ (List.mem_of_getElem? (i := 189) rfl)
set_option maxRecDepth 100000 in
theorem iw_7_9 : (Cond.fieldLink RX12 117 "PhraseDeskModel" "b" "[J") ∈ lw_tbl := tb_6 _ (List.mem_of_getElem? (i := 190) rfl)
set_option maxRecDepth 100000 in
theorem iw_7_10 : (Cond.arrayClass .double) ∈ lw_tbl := tb_7 _ (List.mem_of_getElem? (i := 79) rfl)
set_option maxRecDepth 100000 in
theorem iw_7_11 : (Cond.fieldLink RX12 120 "PhraseDeskModel" "real" "[D") ∈ lw_tbl := tb_6 _ (List.mem_of_getElem? (i := 191) rfl)
set_option maxRecDepth 100000 in
theorem iw_7_12 : (Cond.fieldLink RX12 124 "PhraseDeskModel" "built" "[I") ∈ lw_tbl := tb_6 _ (List.mem_of_getElem? (i := 195) rfl)
set_option maxRecDepth 100000 in
theorem iw_7_13 : (Cond.methodLink RL 52 yX12_init) ∈ lw_tbl := tb_6 _ (List.mem_of_getElem? (i := 133) rfl)
set_option maxRecDepth 100000 in
theorem iw_7_14 : (Cond.instanceMethod yX12_init) ∈ lw_tbl := tb_6 _ (List.mem_of_getElem? (i := 134) rfl)
set_option maxRecDepth 100000 in
theorem iw_7_15 : (Cond.methodLink RL 53 yL_letter) ∈ lw_tbl := tb_2 _ (List.mem_of_getElem? (i := 96) rfl)
set_option maxRecDepth 100000 in
theorem iw_7_16 : (Cond.static yL_letter) ∈ lw_tbl := tb_2 _ (List.mem_of_getElem? (i := 97) rfl)
set_option maxRecDepth 100000 in
theorem iw_7_17 : (Cond.initialized RL) ∈ lw_tbl := tb_1 _ (List.mem_of_getElem? (i := 0) rfl)
set_option maxRecDepth 100000 in
theorem iw_7_18 : (Cond.codeWith yL_letter cL_letter 4 (some .int) [(0, 9, 12, 13), (0, 9, 15, 15)]) ∈ lw_tbl := tb_2 _ (List.mem_of_getElem? (i := 98) rfl)
set_option maxRecDepth 100000 in
theorem iw_7_19 : (Cond.methodLink RL 7 yX11_letter) ∈ lw_tbl := tb_2 _ (List.mem_of_getElem? (i := 101) rfl)
theorem iC_7 : ∀ w ∈ wqc_7, w ∈ lw_tbl := List.forall_mem_cons.mpr ⟨iw_7_0, List.forall_mem_cons.mpr ⟨iw_7_1, List.forall_mem_cons.mpr ⟨iw_7_2, List.forall_mem_cons.mpr ⟨iw_7_3, List.forall_mem_cons.mpr ⟨iw_7_4, List.forall_mem_cons.mpr ⟨iw_7_5, List.forall_mem_cons.mpr ⟨iw_7_6, List.forall_mem_cons.mpr ⟨iw_7_7, List.forall_mem_cons.mpr ⟨iw_7_8, List.forall_mem_cons.mpr ⟨iw_7_9, List.forall_mem_cons.mpr ⟨iw_7_10, List.forall_mem_cons.mpr ⟨iw_7_11, List.forall_mem_cons.mpr ⟨iw_7_12, List.forall_mem_cons.mpr ⟨iw_7_13, List.forall_mem_cons.mpr ⟨iw_7_14, List.forall_mem_cons.mpr ⟨iw_7_15, List.forall_mem_cons.mpr ⟨iw_7_16, List.forall_mem_cons.mpr ⟨iw_7_17, List.forall_mem_cons.mpr ⟨iw_7_18, List.forall_mem_cons.mpr ⟨iw_7_19, fun _ h => absurd h List.not_mem_nil⟩⟩⟩⟩⟩⟩⟩⟩⟩⟩⟩⟩⟩⟩⟩⟩⟩⟩⟩⟩
def wqc_8 : List Cond := [.instanceMethod yX11_letter, .selects RX11 yX11_letter yX11_letter, .code yX11_letter cX11_letter 2 (some .int), .classLink RX11 49 "java/lang/IllegalArgumentException", .initialized "java/lang/IllegalArgumentException", .fieldLink RX11 56 "PhraseDesk$Parser" "lexer" "LPhraseDesk$Lexer;", .fieldLink RX11 60 "PhraseDesk$Lexer" "length" "I", .methodLink RX11 71 yX4_append, .instanceMethod yX4_append, .selects RX4 yX4_append yX4_append, .code yX4_append cX4_append 2 none, .fieldLink RX4 38 "PhraseDesk$Lexer" "length" "I", .classLink RL 13 "java/lang/IllegalArgumentException", .methodLink RL 58 yX12_letter, .instanceMethod yX12_letter, .selects RX12 yX12_letter yX12_letter, .code yX12_letter cX12_letter 2 (some .int), .fieldLink RX12 127 "PhraseDeskModel" "threw" "I", .fieldLink RX12 131 "PhraseDeskModel" "size" "I", .methodLink RL 59 yX12_thrown]
set_option maxRecDepth 100000 in
theorem iw_8_0 : (Cond.instanceMethod yX11_letter) ∈ lw_tbl := tb_2 _ (List.mem_of_getElem? (i := 102) rfl)
set_option maxRecDepth 100000 in
theorem iw_8_1 : (Cond.selects RX11 yX11_letter yX11_letter) ∈ lw_tbl := tb_2 _ (List.mem_of_getElem? (i := 103) rfl)
set_option maxRecDepth 100000 in
theorem iw_8_2 : (Cond.code yX11_letter cX11_letter 2 (some .int)) ∈ lw_tbl := tb_2 _ (List.mem_of_getElem? (i := 104) rfl)
set_option maxRecDepth 100000 in
theorem iw_8_3 : (Cond.classLink RX11 49 "java/lang/IllegalArgumentException") ∈ lw_tbl := tb_2 _ (List.mem_of_getElem? (i := 105) rfl)
set_option maxRecDepth 100000 in
theorem iw_8_4 : (Cond.initialized "java/lang/IllegalArgumentException") ∈ lw_tbl := tb_1 _ (List.mem_of_getElem? (i := 16) rfl)
set_option maxRecDepth 100000 in
theorem iw_8_5 : (Cond.fieldLink RX11 56 "PhraseDesk$Parser" "lexer" "LPhraseDesk$Lexer;") ∈ lw_tbl := tb_1 _ (List.mem_of_getElem? (i := 115) rfl)
set_option maxRecDepth 100000 in
theorem iw_8_6 : (Cond.fieldLink RX11 60 "PhraseDesk$Lexer" "length" "I") ∈ lw_tbl := tb_1 _ (List.mem_of_getElem? (i := 89) rfl)
set_option maxRecDepth 100000 in
theorem iw_8_7 : (Cond.methodLink RX11 71 yX4_append) ∈ lw_tbl := tb_2 _ (List.mem_of_getElem? (i := 187) rfl)
set_option maxRecDepth 100000 in
theorem iw_8_8 : (Cond.instanceMethod yX4_append) ∈ lw_tbl := tb_2 _ (List.mem_of_getElem? (i := 188) rfl)
set_option maxRecDepth 100000 in
theorem iw_8_9 : (Cond.selects RX4 yX4_append yX4_append) ∈ lw_tbl := tb_2 _ (List.mem_of_getElem? (i := 189) rfl)
set_option maxRecDepth 100000 in
theorem iw_8_10 : (Cond.code yX4_append cX4_append 2 none) ∈ lw_tbl := tb_2 _ (List.mem_of_getElem? (i := 190) rfl)
set_option maxRecDepth 100000 in
theorem iw_8_11 : (Cond.fieldLink RX4 38 "PhraseDesk$Lexer" "length" "I") ∈ lw_tbl := tb_1 _ (List.mem_of_getElem? (i := 88) rfl)
set_option maxRecDepth 100000 in
theorem iw_8_12 : (Cond.classLink RL 13 "java/lang/IllegalArgumentException") ∈ lw_tbl := tb_2 _ (List.mem_of_getElem? (i := 99) rfl)
set_option maxRecDepth 100000 in
theorem iw_8_13 : (Cond.methodLink RL 58 yX12_letter) ∈ lw_tbl := tb_7 _ (List.mem_of_getElem? (i := 84) rfl)
set_option maxRecDepth 100000 in
theorem iw_8_14 : (Cond.instanceMethod yX12_letter) ∈ lw_tbl := tb_7 _ (List.mem_of_getElem? (i := 85) rfl)
set_option maxRecDepth 100000 in
theorem iw_8_15 : (Cond.selects RX12 yX12_letter yX12_letter) ∈ lw_tbl := tb_7 _ (List.mem_of_getElem? (i := 86) rfl)
set_option maxRecDepth 100000 in
theorem iw_8_16 : (Cond.code yX12_letter cX12_letter 2 (some .int)) ∈ lw_tbl := tb_7 _ (List.mem_of_getElem? (i := 87) rfl)
set_option maxRecDepth 100000 in
theorem iw_8_17 : (Cond.fieldLink RX12 127 "PhraseDeskModel" "threw" "I") ∈ lw_tbl := tb_6 _ (List.mem_of_getElem? (i := 137) rfl)
set_option maxRecDepth 100000 in
theorem iw_8_18 : (Cond.fieldLink RX12 131 "PhraseDeskModel" "size" "I") ∈ lw_tbl := tb_6 _ (List.mem_of_getElem? (i := 138) rfl)
set_option maxRecDepth 100000 in
theorem iw_8_19 : (Cond.methodLink RL 59 yX12_thrown) ∈ lw_tbl := tb_7 _ (List.mem_of_getElem? (i := 80) rfl)
theorem iC_8 : ∀ w ∈ wqc_8, w ∈ lw_tbl := List.forall_mem_cons.mpr ⟨iw_8_0, List.forall_mem_cons.mpr ⟨iw_8_1, List.forall_mem_cons.mpr ⟨iw_8_2, List.forall_mem_cons.mpr ⟨iw_8_3, List.forall_mem_cons.mpr ⟨iw_8_4, List.forall_mem_cons.mpr ⟨iw_8_5, List.forall_mem_cons.mpr ⟨iw_8_6, List.forall_mem_cons.mpr ⟨iw_8_7, List.forall_mem_cons.mpr ⟨iw_8_8, List.forall_mem_cons.mpr ⟨iw_8_9, List.forall_mem_cons.mpr ⟨iw_8_10, List.forall_mem_cons.mpr ⟨iw_8_11, List.forall_mem_cons.mpr ⟨iw_8_12, List.forall_mem_cons.mpr ⟨iw_8_13, List.forall_mem_cons.mpr ⟨iw_8_14, List.forall_mem_cons.mpr ⟨iw_8_15, List.forall_mem_cons.mpr ⟨iw_8_16, List.forall_mem_cons.mpr ⟨iw_8_17, List.forall_mem_cons.mpr ⟨iw_8_18, List.forall_mem_cons.mpr ⟨iw_8_19, fun _ h => absurd h List.not_mem_nil⟩⟩⟩⟩⟩⟩⟩⟩⟩⟩⟩⟩⟩⟩⟩⟩⟩⟩⟩⟩
def wqc_9 : List Cond := [.instanceMethod yX12_thrown, .selects RX12 yX12_thrown yX12_thrown, .code yX12_thrown cX12_thrown 1 (some .int), .methodLink RL 62 yL_parse, .static yL_parse, .codeWith yL_parse cL_parse 3 (some .int) [(0, 8, 11, 15)], .methodLink RL 17 yX11_parse, .instanceMethod yX11_parse, .selects RX11 yX11_parse yX11_parse, .code yX11_parse cX11_parse 2 (some .int), .fieldLink RX11 75 "PhraseDesk" "programCount" "I", .methodLink RX11 80 yX6_read, .instanceMethod yX6_read, .selects RX6 yX6_read yX6_read, .code yX6_read cX6_read 2 (some (.object "PhraseDesk$Node")), .fieldLink RX6 18 "PhraseDesk$Parser" "at" "I", .fieldLink RX6 22 "PhraseDesk$Parser" "error" "I", .methodLink RX6 25 yX4_cut, .instanceMethod yX4_cut, .selects RX4 yX4_cut yX4_cut]
set_option maxRecDepth 100000 in
theorem iw_9_0 : (Cond.instanceMethod yX12_thrown) ∈ lw_tbl := tb_7 _ (List.mem_of_getElem? (i := 81) rfl)
set_option maxRecDepth 100000 in
theorem iw_9_1 : (Cond.selects RX12 yX12_thrown yX12_thrown) ∈ lw_tbl := tb_7 _ (List.mem_of_getElem? (i := 82) rfl)
set_option maxRecDepth 100000 in
theorem iw_9_2 : (Cond.code yX12_thrown cX12_thrown 1 (some .int)) ∈ lw_tbl := tb_7 _ (List.mem_of_getElem? (i := 83) rfl)
set_option maxRecDepth 100000 in
theorem iw_9_3 : (Cond.methodLink RL 62 yL_parse) ∈ lw_tbl := tb_2 _ (List.mem_of_getElem? (i := 191) rfl)
set_option maxRecDepth 100000 in
theorem iw_9_4 : (Cond.static yL_parse) ∈ lw_tbl := tb_2 _ (List.mem_of_getElem? (i := 192) rfl)
set_option maxRecDepth 100000 in
theorem iw_9_5 : (Cond.codeWith yL_parse cL_parse 3 (some .int) [(0, 8, 11, 15)]) ∈ lw_tbl := tb_2 _ (List.mem_of_getElem? (i := 193) rfl)
set_option maxRecDepth 100000 in
theorem iw_9_6 : (Cond.methodLink RL 17 yX11_parse) ∈ lw_tbl := tb_2 _ (List.mem_of_getElem? (i := 194) rfl)
set_option maxRecDepth 100000 in
theorem iw_9_7 : (Cond.instanceMethod yX11_parse) ∈ lw_tbl := tb_2 _ (List.mem_of_getElem? (i := 195) rfl)
set_option maxRecDepth 100000 in
theorem iw_9_8 : (Cond.selects RX11 yX11_parse yX11_parse) ∈ lw_tbl := tb_2 _ (List.mem_of_getElem? (i := 196) rfl)
set_option maxRecDepth 100000 in
theorem iw_9_9 : (Cond.code yX11_parse cX11_parse 2 (some .int)) ∈ lw_tbl := tb_2 _ (List.mem_of_getElem? (i := 197) rfl)
set_option maxRecDepth 100000 in
theorem iw_9_10 : (Cond.fieldLink RX11 75 "PhraseDesk" "programCount" "I") ∈ lw_tbl := tb_2 _ (List.mem_of_getElem? (i := 11) rfl)
set_option maxRecDepth 100000 in
theorem iw_9_11 : (Cond.methodLink RX11 80 yX6_read) ∈ lw_tbl := tb_2 _ (List.mem_of_getElem? (i := 199) rfl)
set_option maxRecDepth 100000 in
theorem iw_9_12 : (Cond.instanceMethod yX6_read) ∈ lw_tbl := tb_2 _ (List.mem_of_getElem? (i := 200) rfl)
set_option maxRecDepth 100000 in
theorem iw_9_13 : (Cond.selects RX6 yX6_read yX6_read) ∈ lw_tbl := tb_2 _ (List.mem_of_getElem? (i := 201) rfl)
set_option maxRecDepth 100000 in
theorem iw_9_14 : (Cond.code yX6_read cX6_read 2 (some (.object "PhraseDesk$Node"))) ∈ lw_tbl := tb_2 _ (List.mem_of_getElem? (i := 202) rfl)
set_option maxRecDepth 100000 in
theorem iw_9_15 : (Cond.fieldLink RX6 18 "PhraseDesk$Parser" "at" "I") ∈ lw_tbl := tb_1 _ (List.mem_of_getElem? (i := 116) rfl)
set_option maxRecDepth 100000 in
theorem iw_9_16 : (Cond.fieldLink RX6 22 "PhraseDesk$Parser" "error" "I") ∈ lw_tbl := tb_1 _ (List.mem_of_getElem? (i := 117) rfl)
set_option maxRecDepth 100000 in
theorem iw_9_17 : (Cond.methodLink RX6 25 yX4_cut) ∈ lw_tbl := tb_2 _ (List.mem_of_getElem? (i := 203) rfl)
set_option maxRecDepth 100000 in
theorem iw_9_18 : (Cond.instanceMethod yX4_cut) ∈ lw_tbl := tb_2 _ (List.mem_of_getElem? (i := 204) rfl)
set_option maxRecDepth 100000 in
theorem iw_9_19 : (Cond.selects RX4 yX4_cut yX4_cut) ∈ lw_tbl := tb_2 _ (List.mem_of_getElem? (i := 205) rfl)
theorem iC_9 : ∀ w ∈ wqc_9, w ∈ lw_tbl := List.forall_mem_cons.mpr ⟨iw_9_0, List.forall_mem_cons.mpr ⟨iw_9_1, List.forall_mem_cons.mpr ⟨iw_9_2, List.forall_mem_cons.mpr ⟨iw_9_3, List.forall_mem_cons.mpr ⟨iw_9_4, List.forall_mem_cons.mpr ⟨iw_9_5, List.forall_mem_cons.mpr ⟨iw_9_6, List.forall_mem_cons.mpr ⟨iw_9_7, List.forall_mem_cons.mpr ⟨iw_9_8, List.forall_mem_cons.mpr ⟨iw_9_9, List.forall_mem_cons.mpr ⟨iw_9_10, List.forall_mem_cons.mpr ⟨iw_9_11, List.forall_mem_cons.mpr ⟨iw_9_12, List.forall_mem_cons.mpr ⟨iw_9_13, List.forall_mem_cons.mpr ⟨iw_9_14, List.forall_mem_cons.mpr ⟨iw_9_15, List.forall_mem_cons.mpr ⟨iw_9_16, List.forall_mem_cons.mpr ⟨iw_9_17, List.forall_mem_cons.mpr ⟨iw_9_18, List.forall_mem_cons.mpr ⟨iw_9_19, fun _ h => absurd h List.not_mem_nil⟩⟩⟩⟩⟩⟩⟩⟩⟩⟩⟩⟩⟩⟩⟩⟩⟩⟩⟩⟩
def wqc_10 : List Cond := [.code yX4_cut cX4_cut 3 (some .int), .fieldLink RX4 42 "PhraseDesk$Lexer" "count" "I", .methodLink RX4 53 yX4_add, .instanceMethod yX4_add, .selects RX4 yX4_add yX4_add, .code yX4_add cX4_add 5 none, .fieldLink RX6 29 "PhraseDesk$Parser" "place" "I", .methodLink RX6 32 yX6_phrase, .instanceMethod yX6_phrase, .selects RX6 yX6_phrase yX6_phrase, .code yX6_phrase cX6_phrase 4 (some (.object "PhraseDesk$Node")), .methodLink RX6 39 yX6_choice, .instanceMethod yX6_choice, .selects RX6 yX6_choice yX6_choice, .code yX6_choice cX6_choice 4 (some (.object "PhraseDesk$Node")), .methodLink RX6 59 yX6_level, .instanceMethod yX6_level, .selects RX6 yX6_level yX6_level, .code yX6_level cX6_level 7 (some (.object "PhraseDesk$Node")), .methodLink RX6 71 yX6_sign]
set_option maxRecDepth 100000 in
theorem iw_10_0 : (Cond.code yX4_cut cX4_cut 3 (some .int)) ∈ lw_tbl := tb_2 _ (List.mem_of_getElem? (i := 206) rfl)
set_option maxRecDepth 100000 in
theorem iw_10_1 : (Cond.fieldLink RX4 42 "PhraseDesk$Lexer" "count" "I") ∈ lw_tbl := tb_1 _ (List.mem_of_getElem? (i := 95) rfl)
set_option maxRecDepth 100000 in
theorem iw_10_2 : (Cond.methodLink RX4 53 yX4_add) ∈ lw_tbl := tb_2 _ (List.mem_of_getElem? (i := 233) rfl)
set_option maxRecDepth 100000 in
theorem iw_10_3 : (Cond.instanceMethod yX4_add) ∈ lw_tbl := tb_2 _ (List.mem_of_getElem? (i := 235) rfl)
set_option maxRecDepth 100000 in
theorem iw_10_4 : (Cond.selects RX4 yX4_add yX4_add) ∈ lw_tbl := List.mem_append_left _ (List.mem_of_getElem? (i := 6) (by decide +kernel))
set_option maxRecDepth 100000 in
theorem iw_10_5 : (Cond.code yX4_add cX4_add 5 none) ∈ lw_tbl := tb_2 _ (List.mem_of_getElem? (i := 236) rfl)
set_option maxRecDepth 100000 in
theorem iw_10_6 : (Cond.fieldLink RX6 29 "PhraseDesk$Parser" "place" "I") ∈ lw_tbl := tb_1 _ (List.mem_of_getElem? (i := 119) rfl)
set_option maxRecDepth 100000 in
theorem iw_10_7 : (Cond.methodLink RX6 32 yX6_phrase) ∈ lw_tbl := tb_4 _ (List.mem_of_getElem? (i := 14) rfl)
set_option maxRecDepth 100000 in
theorem iw_10_8 : (Cond.instanceMethod yX6_phrase) ∈ lw_tbl := tb_4 _ (List.mem_of_getElem? (i := 16) rfl)
set_option maxRecDepth 100000 in
theorem iw_10_9 : (Cond.selects RX6 yX6_phrase yX6_phrase) ∈ lw_tbl := List.mem_append_left _ (List.mem_of_getElem? (i := 10) (by decide +kernel))
set_option maxRecDepth 100000 in
theorem iw_10_10 : (Cond.code yX6_phrase cX6_phrase 4 (some (.object "PhraseDesk$Node"))) ∈ lw_tbl := tb_4 _ (List.mem_of_getElem? (i := 17) rfl)
set_option maxRecDepth 100000 in
theorem iw_10_11 : (Cond.methodLink RX6 39 yX6_choice) ∈ lw_tbl := tb_4 _ (List.mem_of_getElem? (i := 18) rfl)
set_option maxRecDepth 100000 in
theorem iw_10_12 : (Cond.instanceMethod yX6_choice) ∈ lw_tbl := tb_4 _ (List.mem_of_getElem? (i := 20) rfl)
set_option maxRecDepth 100000 in
theorem iw_10_13 : (Cond.selects RX6 yX6_choice yX6_choice) ∈ lw_tbl := List.mem_append_left _ (List.mem_of_getElem? (i := 11) (by decide +kernel))
set_option maxRecDepth 100000 in
theorem iw_10_14 : (Cond.code yX6_choice cX6_choice 4 (some (.object "PhraseDesk$Node"))) ∈ lw_tbl := tb_4 _ (List.mem_of_getElem? (i := 21) rfl)
set_option maxRecDepth 100000 in
theorem iw_10_15 : (Cond.methodLink RX6 59 yX6_level) ∈ lw_tbl := tb_4 _ (List.mem_of_getElem? (i := 30) rfl)
set_option maxRecDepth 100000 in
theorem iw_10_16 : (Cond.instanceMethod yX6_level) ∈ lw_tbl := tb_4 _ (List.mem_of_getElem? (i := 32) rfl)
set_option maxRecDepth 100000 in
theorem iw_10_17 : (Cond.selects RX6 yX6_level yX6_level) ∈ lw_tbl := List.mem_append_left _ (List.mem_of_getElem? (i := 13) (by decide +kernel))
set_option maxRecDepth 100000 in
theorem iw_10_18 : (Cond.code yX6_level cX6_level 7 (some (.object "PhraseDesk$Node"))) ∈ lw_tbl := tb_4 _ (List.mem_of_getElem? (i := 33) rfl)
set_option maxRecDepth 100000 in
theorem iw_10_19 : (Cond.methodLink RX6 71 yX6_sign) ∈ lw_tbl := tb_4 _ (List.mem_of_getElem? (i := 34) rfl)
theorem iC_10 : ∀ w ∈ wqc_10, w ∈ lw_tbl := List.forall_mem_cons.mpr ⟨iw_10_0, List.forall_mem_cons.mpr ⟨iw_10_1, List.forall_mem_cons.mpr ⟨iw_10_2, List.forall_mem_cons.mpr ⟨iw_10_3, List.forall_mem_cons.mpr ⟨iw_10_4, List.forall_mem_cons.mpr ⟨iw_10_5, List.forall_mem_cons.mpr ⟨iw_10_6, List.forall_mem_cons.mpr ⟨iw_10_7, List.forall_mem_cons.mpr ⟨iw_10_8, List.forall_mem_cons.mpr ⟨iw_10_9, List.forall_mem_cons.mpr ⟨iw_10_10, List.forall_mem_cons.mpr ⟨iw_10_11, List.forall_mem_cons.mpr ⟨iw_10_12, List.forall_mem_cons.mpr ⟨iw_10_13, List.forall_mem_cons.mpr ⟨iw_10_14, List.forall_mem_cons.mpr ⟨iw_10_15, List.forall_mem_cons.mpr ⟨iw_10_16, List.forall_mem_cons.mpr ⟨iw_10_17, List.forall_mem_cons.mpr ⟨iw_10_18, List.forall_mem_cons.mpr ⟨iw_10_19, fun _ h => absurd h List.not_mem_nil⟩⟩⟩⟩⟩⟩⟩⟩⟩⟩⟩⟩⟩⟩⟩⟩⟩⟩⟩⟩
def wqc_11 : List Cond := [.instanceMethod yX6_sign, .selects RX6 yX6_sign yX6_sign, .code yX6_sign cX6_sign 4 (some (.object "PhraseDesk$Node")), .methodLink RX6 63 yX6_takes, .instanceMethod yX6_takes, .selects RX6 yX6_takes yX6_takes, .code yX6_takes cX6_takes 2 (some .boolean), .methodLink RX6 43 yX6_kind, .instanceMethod yX6_kind, .selects RX6 yX6_kind yX6_kind, .code yX6_kind cX6_kind 1 (some .int), .methodLink RX6 136 yX4_kindAt, .instanceMethod yX4_kindAt, .selects RX4 yX4_kindAt yX4_kindAt, .code yX4_kindAt cX4_kindAt 2 (some .int), .methodLink RX6 78 yX6_chain, .instanceMethod yX6_chain, .selects RX6 yX6_chain yX6_chain, .code yX6_chain cX6_chain 5 (some (.object "PhraseDesk$Node")), .methodLink RX6 81 yX6_first]
set_option maxRecDepth 100000 in
theorem iw_11_0 : (Cond.instanceMethod yX6_sign) ∈ lw_tbl := tb_4 _ (List.mem_of_getElem? (i := 36) rfl)
set_option maxRecDepth 100000 in
theorem iw_11_1 : (Cond.selects RX6 yX6_sign yX6_sign) ∈ lw_tbl := List.mem_append_left _ (List.mem_of_getElem? (i := 14) (by decide +kernel))
set_option maxRecDepth 100000 in
theorem iw_11_2 : (Cond.code yX6_sign cX6_sign 4 (some (.object "PhraseDesk$Node"))) ∈ lw_tbl := tb_4 _ (List.mem_of_getElem? (i := 37) rfl)
set_option maxRecDepth 100000 in
theorem iw_11_3 : (Cond.methodLink RX6 63 yX6_takes) ∈ lw_tbl := tb_4 _ (List.mem_of_getElem? (i := 38) rfl)
set_option maxRecDepth 100000 in
theorem iw_11_4 : (Cond.instanceMethod yX6_takes) ∈ lw_tbl := tb_4 _ (List.mem_of_getElem? (i := 40) rfl)
set_option maxRecDepth 100000 in
theorem iw_11_5 : (Cond.selects RX6 yX6_takes yX6_takes) ∈ lw_tbl := List.mem_append_left _ (List.mem_of_getElem? (i := 15) (by decide +kernel))
set_option maxRecDepth 100000 in
theorem iw_11_6 : (Cond.code yX6_takes cX6_takes 2 (some .boolean)) ∈ lw_tbl := tb_4 _ (List.mem_of_getElem? (i := 41) rfl)
set_option maxRecDepth 100000 in
theorem iw_11_7 : (Cond.methodLink RX6 43 yX6_kind) ∈ lw_tbl := tb_4 _ (List.mem_of_getElem? (i := 42) rfl)
set_option maxRecDepth 100000 in
theorem iw_11_8 : (Cond.instanceMethod yX6_kind) ∈ lw_tbl := tb_4 _ (List.mem_of_getElem? (i := 44) rfl)
set_option maxRecDepth 100000 in
theorem iw_11_9 : (Cond.selects RX6 yX6_kind yX6_kind) ∈ lw_tbl := List.mem_append_left _ (List.mem_of_getElem? (i := 16) (by decide +kernel))
set_option maxRecDepth 100000 in
theorem iw_11_10 : (Cond.code yX6_kind cX6_kind 1 (some .int)) ∈ lw_tbl := tb_4 _ (List.mem_of_getElem? (i := 45) rfl)
set_option maxRecDepth 100000 in
theorem iw_11_11 : (Cond.methodLink RX6 136 yX4_kindAt) ∈ lw_tbl := tb_4 _ (List.mem_of_getElem? (i := 46) rfl)
set_option maxRecDepth 100000 in
theorem iw_11_12 : (Cond.instanceMethod yX4_kindAt) ∈ lw_tbl := tb_4 _ (List.mem_of_getElem? (i := 47) rfl)
set_option maxRecDepth 100000 in
theorem iw_11_13 : (Cond.selects RX4 yX4_kindAt yX4_kindAt) ∈ lw_tbl := tb_4 _ (List.mem_of_getElem? (i := 48) rfl)
set_option maxRecDepth 100000 in
theorem iw_11_14 : (Cond.code yX4_kindAt cX4_kindAt 2 (some .int)) ∈ lw_tbl := tb_4 _ (List.mem_of_getElem? (i := 49) rfl)
set_option maxRecDepth 100000 in
theorem iw_11_15 : (Cond.methodLink RX6 78 yX6_chain) ∈ lw_tbl := tb_4 _ (List.mem_of_getElem? (i := 50) rfl)
set_option maxRecDepth 100000 in
theorem iw_11_16 : (Cond.instanceMethod yX6_chain) ∈ lw_tbl := tb_4 _ (List.mem_of_getElem? (i := 52) rfl)
set_option maxRecDepth 100000 in
theorem iw_11_17 : (Cond.selects RX6 yX6_chain yX6_chain) ∈ lw_tbl := List.mem_append_left _ (List.mem_of_getElem? (i := 17) (by decide +kernel))
set_option maxRecDepth 100000 in
theorem iw_11_18 : (Cond.code yX6_chain cX6_chain 5 (some (.object "PhraseDesk$Node"))) ∈ lw_tbl := tb_4 _ (List.mem_of_getElem? (i := 53) rfl)
set_option maxRecDepth 100000 in
theorem iw_11_19 : (Cond.methodLink RX6 81 yX6_first) ∈ lw_tbl := tb_4 _ (List.mem_of_getElem? (i := 54) rfl)
theorem iC_11 : ∀ w ∈ wqc_11, w ∈ lw_tbl := List.forall_mem_cons.mpr ⟨iw_11_0, List.forall_mem_cons.mpr ⟨iw_11_1, List.forall_mem_cons.mpr ⟨iw_11_2, List.forall_mem_cons.mpr ⟨iw_11_3, List.forall_mem_cons.mpr ⟨iw_11_4, List.forall_mem_cons.mpr ⟨iw_11_5, List.forall_mem_cons.mpr ⟨iw_11_6, List.forall_mem_cons.mpr ⟨iw_11_7, List.forall_mem_cons.mpr ⟨iw_11_8, List.forall_mem_cons.mpr ⟨iw_11_9, List.forall_mem_cons.mpr ⟨iw_11_10, List.forall_mem_cons.mpr ⟨iw_11_11, List.forall_mem_cons.mpr ⟨iw_11_12, List.forall_mem_cons.mpr ⟨iw_11_13, List.forall_mem_cons.mpr ⟨iw_11_14, List.forall_mem_cons.mpr ⟨iw_11_15, List.forall_mem_cons.mpr ⟨iw_11_16, List.forall_mem_cons.mpr ⟨iw_11_17, List.forall_mem_cons.mpr ⟨iw_11_18, List.forall_mem_cons.mpr ⟨iw_11_19, fun _ h => absurd h List.not_mem_nil⟩⟩⟩⟩⟩⟩⟩⟩⟩⟩⟩⟩⟩⟩⟩⟩⟩⟩⟩⟩
def wqc_12 : List Cond := [.instanceMethod yX6_first, .selects RX6 yX6_first yX6_first, .code yX6_first cX6_first 2 (some (.object "PhraseDesk$Node")), .methodLink RX6 56 yX6_refuse, .instanceMethod yX6_refuse, .selects RX6 yX6_refuse yX6_refuse, .code yX6_refuse cX6_refuse 2 (some (.object "PhraseDesk$Node")), .methodLink RX6 139 yX4_placeAt, .instanceMethod yX4_placeAt, .selects RX4 yX4_placeAt yX4_placeAt, .code yX4_placeAt cX4_placeAt 2 (some .int), .fieldLink RX6 36 "PhraseDesk$Lexer" "length" "I", .fieldLink RX11 84 "PhraseDesk$Parser" "error" "I", .fieldLink RX11 87 "PhraseDesk$Parser" "place" "I", .methodLink RL 65 yX12_parse, .instanceMethod yX12_parse, .selects RX12 yX12_parse yX12_parse, .code yX12_parse cX12_parse 2 (some .int), .fieldLink RX12 283 "PhraseDeskModel" "programs" "I", .fieldLink RX12 138 "PhraseDeskModel" "error" "I"]
set_option maxRecDepth 100000 in
theorem iw_12_0 : (Cond.instanceMethod yX6_first) ∈ lw_tbl := tb_4 _ (List.mem_of_getElem? (i := 56) rfl)
set_option maxRecDepth 100000 in
theorem iw_12_1 : (Cond.selects RX6 yX6_first yX6_first) ∈ lw_tbl := List.mem_append_left _ (List.mem_of_getElem? (i := 18) (by decide +kernel))
set_option maxRecDepth 100000 in
theorem iw_12_2 : (Cond.code yX6_first cX6_first 2 (some (.object "PhraseDesk$Node"))) ∈ lw_tbl := tb_4 _ (List.mem_of_getElem? (i := 57) rfl)
set_option maxRecDepth 100000 in
theorem iw_12_3 : (Cond.methodLink RX6 56 yX6_refuse) ∈ lw_tbl := tb_4 _ (List.mem_of_getElem? (i := 22) rfl)
set_option maxRecDepth 100000 in
theorem iw_12_4 : (Cond.instanceMethod yX6_refuse) ∈ lw_tbl := tb_4 _ (List.mem_of_getElem? (i := 24) rfl)
set_option maxRecDepth 100000 in
theorem iw_12_5 : (Cond.selects RX6 yX6_refuse yX6_refuse) ∈ lw_tbl := List.mem_append_left _ (List.mem_of_getElem? (i := 12) (by decide +kernel))
set_option maxRecDepth 100000 in
theorem iw_12_6 : (Cond.code yX6_refuse cX6_refuse 2 (some (.object "PhraseDesk$Node"))) ∈ lw_tbl := tb_4 _ (List.mem_of_getElem? (i := 25) rfl)
set_option maxRecDepth 100000 in
theorem iw_12_7 : (Cond.methodLink RX6 139 yX4_placeAt) ∈ lw_tbl := tb_4 _ (List.mem_of_getElem? (i := 26) rfl)
set_option maxRecDepth 100000 in
theorem iw_12_8 : (Cond.instanceMethod yX4_placeAt) ∈ lw_tbl := tb_4 _ (List.mem_of_getElem? (i := 27) rfl)
set_option maxRecDepth 100000 in
theorem iw_12_9 : (Cond.selects RX4 yX4_placeAt yX4_placeAt) ∈ lw_tbl := tb_4 _ (List.mem_of_getElem? (i := 28) rfl)
set_option maxRecDepth 100000 in
theorem iw_12_10 : (Cond.code yX4_placeAt cX4_placeAt 2 (some .int)) ∈ lw_tbl := tb_4 _ (List.mem_of_getElem? (i := 29) rfl)
set_option maxRecDepth 100000 in
theorem iw_12_11 : (Cond.fieldLink RX6 36 "PhraseDesk$Lexer" "length" "I") ∈ lw_tbl := tb_1 _ (List.mem_of_getElem? (i := 90) rfl)
set_option maxRecDepth 100000 in
theorem iw_12_12 : (Cond.fieldLink RX11 84 "PhraseDesk$Parser" "error" "I") ∈ lw_tbl := tb_1 _ (List.mem_of_getElem? (i := 118) rfl)
set_option maxRecDepth 100000 in
theorem iw_12_13 : (Cond.fieldLink RX11 87 "PhraseDesk$Parser" "place" "I") ∈ lw_tbl := tb_1 _ (List.mem_of_getElem? (i := 120) rfl)
set_option maxRecDepth 100000 in
theorem iw_12_14 : (Cond.methodLink RL 65 yX12_parse) ∈ lw_tbl := tb_7 _ (List.mem_of_getElem? (i := 88) rfl)
set_option maxRecDepth 100000 in
theorem iw_12_15 : (Cond.instanceMethod yX12_parse) ∈ lw_tbl := tb_7 _ (List.mem_of_getElem? (i := 89) rfl)
set_option maxRecDepth 100000 in
theorem iw_12_16 : (Cond.selects RX12 yX12_parse yX12_parse) ∈ lw_tbl := tb_7 _ (List.mem_of_getElem? (i := 90) rfl)
set_option maxRecDepth 100000 in
theorem iw_12_17 : (Cond.code yX12_parse cX12_parse 2 (some .int)) ∈ lw_tbl := tb_7 _ (List.mem_of_getElem? (i := 91) rfl)
set_option maxRecDepth 100000 in
theorem iw_12_18 : (Cond.fieldLink RX12 283 "PhraseDeskModel" "programs" "I") ∈ lw_tbl := tb_6 _ (List.mem_of_getElem? (i := 147) rfl)
set_option maxRecDepth 100000 in
theorem iw_12_19 : (Cond.fieldLink RX12 138 "PhraseDeskModel" "error" "I") ∈ lw_tbl := tb_6 _ (List.mem_of_getElem? (i := 145) rfl)
theorem iC_12 : ∀ w ∈ wqc_12, w ∈ lw_tbl := List.forall_mem_cons.mpr ⟨iw_12_0, List.forall_mem_cons.mpr ⟨iw_12_1, List.forall_mem_cons.mpr ⟨iw_12_2, List.forall_mem_cons.mpr ⟨iw_12_3, List.forall_mem_cons.mpr ⟨iw_12_4, List.forall_mem_cons.mpr ⟨iw_12_5, List.forall_mem_cons.mpr ⟨iw_12_6, List.forall_mem_cons.mpr ⟨iw_12_7, List.forall_mem_cons.mpr ⟨iw_12_8, List.forall_mem_cons.mpr ⟨iw_12_9, List.forall_mem_cons.mpr ⟨iw_12_10, List.forall_mem_cons.mpr ⟨iw_12_11, List.forall_mem_cons.mpr ⟨iw_12_12, List.forall_mem_cons.mpr ⟨iw_12_13, List.forall_mem_cons.mpr ⟨iw_12_14, List.forall_mem_cons.mpr ⟨iw_12_15, List.forall_mem_cons.mpr ⟨iw_12_16, List.forall_mem_cons.mpr ⟨iw_12_17, List.forall_mem_cons.mpr ⟨iw_12_18, List.forall_mem_cons.mpr ⟨iw_12_19, fun _ h => absurd h List.not_mem_nil⟩⟩⟩⟩⟩⟩⟩⟩⟩⟩⟩⟩⟩⟩⟩⟩⟩⟩⟩⟩
def wqc_13 : List Cond := [.methodLink RX12 286 yX12_cut, .instanceMethod yX12_cut, .selects RX12 yX12_cut yX12_cut, .code yX12_cut cX12_cut 2 none, .fieldLink RX12 144 "PhraseDeskModel" "tokens" "I", .methodLink RX12 159 yX12_add, .instanceMethod yX12_add, .selects RX12 yX12_add yX12_add, .code yX12_add cX12_add 5 none, .fieldLink RX12 190 "PhraseDeskModel" "next" "I", .fieldLink RX12 193 "PhraseDeskModel" "start" "I", .fieldLink RX12 196 "PhraseDeskModel" "written" "I", .fieldLink RX12 199 "PhraseDeskModel" "frames" "I", .fieldLink RX12 205 "PhraseDeskModel" "waiting" "I", .fieldLink RX12 280 "PhraseDeskModel" "done" "Z", .methodLink RX12 225 yX12_open, .instanceMethod yX12_open, .selects RX12 yX12_open yX12_open, .code yX12_open cX12_open 2 none, .methodLink RX12 202 yX12_fresh]
set_option maxRecDepth 100000 in
theorem iw_13_0 : (Cond.methodLink RX12 286 yX12_cut) ∈ lw_tbl := tb_7 _ (List.mem_of_getElem? (i := 92) rfl)
set_option maxRecDepth 100000 in
theorem iw_13_1 : (Cond.instanceMethod yX12_cut) ∈ lw_tbl := tb_7 _ (List.mem_of_getElem? (i := 94) rfl)
set_option maxRecDepth 100000 in
theorem iw_13_2 : (Cond.selects RX12 yX12_cut yX12_cut) ∈ lw_tbl := List.mem_append_left _ (List.mem_of_getElem? (i := 57) (by decide +kernel))
set_option maxRecDepth 100000 in
theorem iw_13_3 : (Cond.code yX12_cut cX12_cut 2 none) ∈ lw_tbl := tb_7 _ (List.mem_of_getElem? (i := 95) rfl)
set_option maxRecDepth 100000 in
theorem iw_13_4 : (Cond.fieldLink RX12 144 "PhraseDeskModel" "tokens" "I") ∈ lw_tbl := tb_6 _ (List.mem_of_getElem? (i := 140) rfl)
set_option maxRecDepth 100000 in
theorem iw_13_5 : (Cond.methodLink RX12 159 yX12_add) ∈ lw_tbl := tb_7 _ (List.mem_of_getElem? (i := 114) rfl)
set_option maxRecDepth 100000 in
theorem iw_13_6 : (Cond.instanceMethod yX12_add) ∈ lw_tbl := tb_7 _ (List.mem_of_getElem? (i := 116) rfl)
set_option maxRecDepth 100000 in
theorem iw_13_7 : (Cond.selects RX12 yX12_add yX12_add) ∈ lw_tbl := List.mem_append_left _ (List.mem_of_getElem? (i := 62) (by decide +kernel))
set_option maxRecDepth 100000 in
theorem iw_13_8 : (Cond.code yX12_add cX12_add 5 none) ∈ lw_tbl := tb_7 _ (List.mem_of_getElem? (i := 117) rfl)
set_option maxRecDepth 100000 in
theorem iw_13_9 : (Cond.fieldLink RX12 190 "PhraseDeskModel" "next" "I") ∈ lw_tbl := tb_6 _ (List.mem_of_getElem? (i := 151) rfl)
set_option maxRecDepth 100000 in
theorem iw_13_10 : (Cond.fieldLink RX12 193 "PhraseDeskModel" "start" "I") ∈ lw_tbl := tb_6 _ (List.mem_of_getElem? (i := 152) rfl)
set_option maxRecDepth 100000 in
theorem iw_13_11 : (Cond.fieldLink RX12 196 "PhraseDeskModel" "written" "I") ∈ lw_tbl := tb_6 _ (List.mem_of_getElem? (i := 153) rfl)
set_option maxRecDepth 100000 in
theorem iw_13_12 : (Cond.fieldLink RX12 199 "PhraseDeskModel" "frames" "I") ∈ lw_tbl := tb_6 _ (List.mem_of_getElem? (i := 156) rfl)
set_option maxRecDepth 100000 in
theorem iw_13_13 : (Cond.fieldLink RX12 205 "PhraseDeskModel" "waiting" "I") ∈ lw_tbl := tb_6 _ (List.mem_of_getElem? (i := 166) rfl)
set_option maxRecDepth 100000 in
theorem iw_13_14 : (Cond.fieldLink RX12 280 "PhraseDeskModel" "done" "Z") ∈ lw_tbl := tb_6 _ (List.mem_of_getElem? (i := 155) rfl)
set_option maxRecDepth 100000 in
theorem iw_13_15 : (Cond.methodLink RX12 225 yX12_open) ∈ lw_tbl := tb_7 _ (List.mem_of_getElem? (i := 143) rfl)
set_option maxRecDepth 100000 in
theorem iw_13_16 : (Cond.instanceMethod yX12_open) ∈ lw_tbl := tb_7 _ (List.mem_of_getElem? (i := 145) rfl)
set_option maxRecDepth 100000 in
theorem iw_13_17 : (Cond.selects RX12 yX12_open yX12_open) ∈ lw_tbl := List.mem_append_left _ (List.mem_of_getElem? (i := 67) (by decide +kernel))
set_option maxRecDepth 100000 in
theorem iw_13_18 : (Cond.code yX12_open cX12_open 2 none) ∈ lw_tbl := tb_7 _ (List.mem_of_getElem? (i := 146) rfl)
set_option maxRecDepth 100000 in
theorem iw_13_19 : (Cond.methodLink RX12 202 yX12_fresh) ∈ lw_tbl := tb_7 _ (List.mem_of_getElem? (i := 147) rfl)
theorem iC_13 : ∀ w ∈ wqc_13, w ∈ lw_tbl := List.forall_mem_cons.mpr ⟨iw_13_0, List.forall_mem_cons.mpr ⟨iw_13_1, List.forall_mem_cons.mpr ⟨iw_13_2, List.forall_mem_cons.mpr ⟨iw_13_3, List.forall_mem_cons.mpr ⟨iw_13_4, List.forall_mem_cons.mpr ⟨iw_13_5, List.forall_mem_cons.mpr ⟨iw_13_6, List.forall_mem_cons.mpr ⟨iw_13_7, List.forall_mem_cons.mpr ⟨iw_13_8, List.forall_mem_cons.mpr ⟨iw_13_9, List.forall_mem_cons.mpr ⟨iw_13_10, List.forall_mem_cons.mpr ⟨iw_13_11, List.forall_mem_cons.mpr ⟨iw_13_12, List.forall_mem_cons.mpr ⟨iw_13_13, List.forall_mem_cons.mpr ⟨iw_13_14, List.forall_mem_cons.mpr ⟨iw_13_15, List.forall_mem_cons.mpr ⟨iw_13_16, List.forall_mem_cons.mpr ⟨iw_13_17, List.forall_mem_cons.mpr ⟨iw_13_18, List.forall_mem_cons.mpr ⟨iw_13_19, fun _ h => absurd h List.not_mem_nil⟩⟩⟩⟩⟩⟩⟩⟩⟩⟩⟩⟩⟩⟩⟩⟩⟩⟩⟩⟩
def wqc_14 : List Cond := [.instanceMethod yX12_fresh, .selects RX12 yX12_fresh yX12_fresh, .code yX12_fresh cX12_fresh 2 none, .fieldLink RX12 208 "PhraseDeskModel" "operand" "Z", .methodLink RX12 289 yX12_first, .instanceMethod yX12_first, .selects RX12 yX12_first yX12_first, .code yX12_first cX12_first 3 none, .methodLink RX12 216 yX12_isSign, .instanceMethod yX12_isSign, .selects RX12 yX12_isSign yX12_isSign, .code yX12_isSign cX12_isSign 2 (some .boolean), .methodLink RX12 242 yX12_misfit, .instanceMethod yX12_misfit, .selects RX12 yX12_misfit yX12_misfit, .code yX12_misfit cX12_misfit 1 none, .methodLink RX12 155 yX12_wrong, .instanceMethod yX12_wrong, .selects RX12 yX12_wrong yX12_wrong, .code yX12_wrong cX12_wrong 3 none]
set_option maxRecDepth 100000 in
theorem iw_14_0 : (Cond.instanceMethod yX12_fresh) ∈ lw_tbl := tb_7 _ (List.mem_of_getElem? (i := 149) rfl)
set_option maxRecDepth 100000 in
theorem iw_14_1 : (Cond.selects RX12 yX12_fresh yX12_fresh) ∈ lw_tbl := List.mem_append_left _ (List.mem_of_getElem? (i := 68) (by decide +kernel))
set_option maxRecDepth 100000 in
theorem iw_14_2 : (Cond.code yX12_fresh cX12_fresh 2 none) ∈ lw_tbl := tb_7 _ (List.mem_of_getElem? (i := 150) rfl)
set_option maxRecDepth 100000 in
theorem iw_14_3 : (Cond.fieldLink RX12 208 "PhraseDeskModel" "operand" "Z") ∈ lw_tbl := tb_6 _ (List.mem_of_getElem? (i := 154) rfl)
set_option maxRecDepth 100000 in
theorem iw_14_4 : (Cond.methodLink RX12 289 yX12_first) ∈ lw_tbl := tb_7 _ (List.mem_of_getElem? (i := 151) rfl)
set_option maxRecDepth 100000 in
theorem iw_14_5 : (Cond.instanceMethod yX12_first) ∈ lw_tbl := tb_7 _ (List.mem_of_getElem? (i := 153) rfl)
set_option maxRecDepth 100000 in
theorem iw_14_6 : (Cond.selects RX12 yX12_first yX12_first) ∈ lw_tbl := List.mem_append_left _ (List.mem_of_getElem? (i := 69) (by decide +kernel))
set_option maxRecDepth 100000 in
theorem iw_14_7 : (Cond.code yX12_first cX12_first 3 none) ∈ lw_tbl := tb_7 _ (List.mem_of_getElem? (i := 154) rfl)
set_option maxRecDepth 100000 in
theorem iw_14_8 : (Cond.methodLink RX12 216 yX12_isSign) ∈ lw_tbl := tb_7 _ (List.mem_of_getElem? (i := 174) rfl)
set_option maxRecDepth 100000 in
theorem iw_14_9 : (Cond.instanceMethod yX12_isSign) ∈ lw_tbl := tb_7 _ (List.mem_of_getElem? (i := 176) rfl)
set_option maxRecDepth 100000 in
theorem iw_14_10 : (Cond.selects RX12 yX12_isSign yX12_isSign) ∈ lw_tbl := List.mem_append_left _ (List.mem_of_getElem? (i := 74) (by decide +kernel))
set_option maxRecDepth 100000 in
theorem iw_14_11 : (Cond.code yX12_isSign cX12_isSign 2 (some .boolean)) ∈ lw_tbl := tb_7 _ (List.mem_of_getElem? (i := 177) rfl)
set_option maxRecDepth 100000 in
theorem iw_14_12 : (Cond.methodLink RX12 242 yX12_misfit) ∈ lw_tbl := tb_7 _ (List.mem_of_getElem? (i := 183) rfl)
set_option maxRecDepth 100000 in
theorem iw_14_13 : (Cond.instanceMethod yX12_misfit) ∈ lw_tbl := tb_7 _ (List.mem_of_getElem? (i := 185) rfl)
set_option maxRecDepth 100000 in
theorem iw_14_14 : (Cond.selects RX12 yX12_misfit yX12_misfit) ∈ lw_tbl := List.mem_append_left _ (List.mem_of_getElem? (i := 76) (by decide +kernel))
set_option maxRecDepth 100000 in
theorem iw_14_15 : (Cond.code yX12_misfit cX12_misfit 1 none) ∈ lw_tbl := tb_7 _ (List.mem_of_getElem? (i := 186) rfl)
set_option maxRecDepth 100000 in
theorem iw_14_16 : (Cond.methodLink RX12 155 yX12_wrong) ∈ lw_tbl := tb_7 _ (List.mem_of_getElem? (i := 110) rfl)
set_option maxRecDepth 100000 in
theorem iw_14_17 : (Cond.instanceMethod yX12_wrong) ∈ lw_tbl := tb_7 _ (List.mem_of_getElem? (i := 112) rfl)
set_option maxRecDepth 100000 in
theorem iw_14_18 : (Cond.selects RX12 yX12_wrong yX12_wrong) ∈ lw_tbl := List.mem_append_left _ (List.mem_of_getElem? (i := 61) (by decide +kernel))
set_option maxRecDepth 100000 in
theorem iw_14_19 : (Cond.code yX12_wrong cX12_wrong 3 none) ∈ lw_tbl := tb_7 _ (List.mem_of_getElem? (i := 113) rfl)
theorem iC_14 : ∀ w ∈ wqc_14, w ∈ lw_tbl := List.forall_mem_cons.mpr ⟨iw_14_0, List.forall_mem_cons.mpr ⟨iw_14_1, List.forall_mem_cons.mpr ⟨iw_14_2, List.forall_mem_cons.mpr ⟨iw_14_3, List.forall_mem_cons.mpr ⟨iw_14_4, List.forall_mem_cons.mpr ⟨iw_14_5, List.forall_mem_cons.mpr ⟨iw_14_6, List.forall_mem_cons.mpr ⟨iw_14_7, List.forall_mem_cons.mpr ⟨iw_14_8, List.forall_mem_cons.mpr ⟨iw_14_9, List.forall_mem_cons.mpr ⟨iw_14_10, List.forall_mem_cons.mpr ⟨iw_14_11, List.forall_mem_cons.mpr ⟨iw_14_12, List.forall_mem_cons.mpr ⟨iw_14_13, List.forall_mem_cons.mpr ⟨iw_14_14, List.forall_mem_cons.mpr ⟨iw_14_15, List.forall_mem_cons.mpr ⟨iw_14_16, List.forall_mem_cons.mpr ⟨iw_14_17, List.forall_mem_cons.mpr ⟨iw_14_18, List.forall_mem_cons.mpr ⟨iw_14_19, fun _ h => absurd h List.not_mem_nil⟩⟩⟩⟩⟩⟩⟩⟩⟩⟩⟩⟩⟩⟩⟩⟩⟩⟩⟩⟩
def wqc_15 : List Cond := [.fieldLink RX12 141 "PhraseDeskModel" "where" "I", .methodLink RL 66 yL_type, .static yL_type, .codeWith yL_type cL_type 4 (some .int) [(0, 9, 12, 13), (0, 9, 15, 15)], .methodLink RL 21 yX11_type, .instanceMethod yX11_type, .selects RX11 yX11_type yX11_type, .code yX11_type cX11_type 3 (some .int), .methodLink RX11 90 yX11_familyAt, .instanceMethod yX11_familyAt, .selects RX11 yX11_familyAt yX11_familyAt, .code yX11_familyAt cX11_familyAt 2 (some (.object "PhraseDesk$Family")), .fieldLink RX11 96 "PhraseDesk" "familyCount" "I", .instantiable RX1 7, .initialized RX1, .code yX1_init cX1_init 3 none, .methodLink RX1 3 objectInit, .fieldLink RX1 9 "PhraseDesk$Family" "number" "I", .fieldLink RX1 15 "PhraseDesk$Family" "kind" "I", .fieldLink RX1 18 "PhraseDesk$Family" "parent" "LPhraseDesk$Family;"]
set_option maxRecDepth 100000 in
theorem iw_15_0 : (Cond.fieldLink RX12 141 "PhraseDeskModel" "where" "I") ∈ lw_tbl := tb_6 _ (List.mem_of_getElem? (i := 146) rfl)
set_option maxRecDepth 100000 in
theorem iw_15_1 : (Cond.methodLink RL 66 yL_type) ∈ lw_tbl := tb_4 _ (List.mem_of_getElem? (i := 155) rfl)
set_option maxRecDepth 100000 in
theorem iw_15_2 : (Cond.static yL_type) ∈ lw_tbl := tb_4 _ (List.mem_of_getElem? (i := 156) rfl)
set_option maxRecDepth 100000 in
theorem iw_15_3 : (Cond.codeWith yL_type cL_type 4 (some .int) [(0, 9, 12, 13), (0, 9, 15, 15)]) ∈ lw_tbl := tb_4 _ (List.mem_of_getElem? (i := 157) rfl)
set_option maxRecDepth 100000 in
theorem iw_15_4 : (Cond.methodLink RL 21 yX11_type) ∈ lw_tbl := tb_4 _ (List.mem_of_getElem? (i := 158) rfl)
set_option maxRecDepth 100000 in
theorem iw_15_5 : (Cond.instanceMethod yX11_type) ∈ lw_tbl := tb_4 _ (List.mem_of_getElem? (i := 159) rfl)
set_option maxRecDepth 100000 in
theorem iw_15_6 : (Cond.selects RX11 yX11_type yX11_type) ∈ lw_tbl := tb_4 _ (List.mem_of_getElem? (i := 160) rfl)
set_option maxRecDepth 100000 in
theorem iw_15_7 : (Cond.code yX11_type cX11_type 3 (some .int)) ∈ lw_tbl := tb_4 _ (List.mem_of_getElem? (i := 161) rfl)
set_option maxRecDepth 100000 in
theorem iw_15_8 : (Cond.methodLink RX11 90 yX11_familyAt) ∈ lw_tbl := tb_4 _ (List.mem_of_getElem? (i := 162) rfl)
set_option maxRecDepth 100000 in
theorem iw_15_9 : (Cond.instanceMethod yX11_familyAt) ∈ lw_tbl := tb_4 _ (List.mem_of_getElem? (i := 164) rfl)
set_option maxRecDepth 100000 in
theorem iw_15_10 : (Cond.selects RX11 yX11_familyAt yX11_familyAt) ∈ lw_tbl := List.mem_append_left _ (List.mem_of_getElem? (i := 24) (by decide +kernel))
set_option maxRecDepth 100000 in
theorem iw_15_11 : (Cond.code yX11_familyAt cX11_familyAt 2 (some (.object "PhraseDesk$Family"))) ∈ lw_tbl := tb_4 _ (List.mem_of_getElem? (i := 165) rfl)
set_option maxRecDepth 100000 in
theorem iw_15_12 : (Cond.fieldLink RX11 96 "PhraseDesk" "familyCount" "I") ∈ lw_tbl := tb_2 _ (List.mem_of_getElem? (i := 13) rfl)
set_option maxRecDepth 100000 in
theorem iw_15_13 : (Cond.instantiable RX1 7) ∈ lw_tbl := tb_4 _ (List.mem_of_getElem? (i := 168) rfl)
set_option maxRecDepth 100000 in
theorem iw_15_14 : (Cond.initialized RX1) ∈ lw_tbl := tb_1 _ (List.mem_of_getElem? (i := 26) rfl)
set_option maxRecDepth 100000 in
theorem iw_15_15 : (Cond.code yX1_init cX1_init 3 none) ∈ lw_tbl := tb_4 _ (List.mem_of_getElem? (i := 171) rfl)
set_option maxRecDepth 100000 in
theorem iw_15_16 : (Cond.methodLink RX1 3 objectInit) ∈ lw_tbl := tb_4 _ (List.mem_of_getElem? (i := 172) rfl)
set_option maxRecDepth 100000 in
theorem iw_15_17 : (Cond.fieldLink RX1 9 "PhraseDesk$Family" "number" "I") ∈ lw_tbl := tb_4 _ (List.mem_of_getElem? (i := 176) rfl)
set_option maxRecDepth 100000 in
theorem iw_15_18 : (Cond.fieldLink RX1 15 "PhraseDesk$Family" "kind" "I") ∈ lw_tbl := tb_4 _ (List.mem_of_getElem? (i := 177) rfl)
set_option maxRecDepth 100000 in
theorem iw_15_19 : (Cond.fieldLink RX1 18 "PhraseDesk$Family" "parent" "LPhraseDesk$Family;") ∈ lw_tbl := tb_4 _ (List.mem_of_getElem? (i := 180) rfl)
theorem iC_15 : ∀ w ∈ wqc_15, w ∈ lw_tbl := List.forall_mem_cons.mpr ⟨iw_15_0, List.forall_mem_cons.mpr ⟨iw_15_1, List.forall_mem_cons.mpr ⟨iw_15_2, List.forall_mem_cons.mpr ⟨iw_15_3, List.forall_mem_cons.mpr ⟨iw_15_4, List.forall_mem_cons.mpr ⟨iw_15_5, List.forall_mem_cons.mpr ⟨iw_15_6, List.forall_mem_cons.mpr ⟨iw_15_7, List.forall_mem_cons.mpr ⟨iw_15_8, List.forall_mem_cons.mpr ⟨iw_15_9, List.forall_mem_cons.mpr ⟨iw_15_10, List.forall_mem_cons.mpr ⟨iw_15_11, List.forall_mem_cons.mpr ⟨iw_15_12, List.forall_mem_cons.mpr ⟨iw_15_13, List.forall_mem_cons.mpr ⟨iw_15_14, List.forall_mem_cons.mpr ⟨iw_15_15, List.forall_mem_cons.mpr ⟨iw_15_16, List.forall_mem_cons.mpr ⟨iw_15_17, List.forall_mem_cons.mpr ⟨iw_15_18, List.forall_mem_cons.mpr ⟨iw_15_19, fun _ h => absurd h List.not_mem_nil⟩⟩⟩⟩⟩⟩⟩⟩⟩⟩⟩⟩⟩⟩⟩⟩⟩⟩⟩⟩
def wqc_16 : List Cond := [.classLink RX1 22 RX2, .fieldLink RX1 24 "PhraseDesk$Family" "fields" "[LPhraseDesk$Field;", .classLink RX1 28 RX7, .fieldLink RX1 30 "PhraseDesk$Family" "routines" "[LPhraseDesk$Routine;", .methodLink RX11 101 yX1_init, .instanceMethod yX1_init, .methodLink RL 68 yX12_type, .instanceMethod yX12_type, .selects RX12 yX12_type yX12_type, .code yX12_type cX12_type 2 (some .int), .fieldLink RX12 295 "PhraseDeskModel" "classes" "I", .methodLink RX12 298 yX12_isClass, .instanceMethod yX12_isClass, .selects RX12 yX12_isClass yX12_isClass, .code yX12_isClass cX12_isClass 2 (some .boolean), .methodLink RL 69 yL_field, .static yL_field, .codeWith yL_field cL_field 6 (some .int) [(0, 12, 15, 13), (0, 12, 19, 15)], .methodLink RL 24 yX11_field, .instanceMethod yX11_field]
set_option maxRecDepth 100000 in
theorem iw_16_0 : (Cond.classLink RX1 22 RX2) ∈ lw_tbl := tb_4 _ (List.mem_of_getElem? (i := 173) rfl)
set_option maxRecDepth 100000 in
theorem iw_16_1 : (Cond.fieldLink RX1 24 "PhraseDesk$Family" "fields" "[LPhraseDesk$Field;") ∈ lw_tbl := tb_4 _ (List.mem_of_getElem? (i := 184) rfl)
set_option maxRecDepth 100000 in
theorem iw_16_2 : (Cond.classLink RX1 28 RX7) ∈ lw_tbl := tb_4 _ (List.mem_of_getElem? (i := 175) rfl)
set_option maxRecDepth 100000 in
theorem iw_16_3 : (Cond.fieldLink RX1 30 "PhraseDesk$Family" "routines" "[LPhraseDesk$Routine;") ∈ lw_tbl := tb_4 _ (List.mem_of_getElem? (i := 187) rfl)
set_option maxRecDepth 100000 in
theorem iw_16_4 : (Cond.methodLink RX11 101 yX1_init) ∈ lw_tbl := tb_4 _ (List.mem_of_getElem? (i := 169) rfl)
set_option maxRecDepth 100000 in
theorem iw_16_5 : (Cond.instanceMethod yX1_init) ∈ lw_tbl := tb_4 _ (List.mem_of_getElem? (i := 170) rfl)
set_option maxRecDepth 100000 in
theorem iw_16_6 : (Cond.methodLink RL 68 yX12_type) ∈ lw_tbl := tb_7 _ (List.mem_of_getElem? (i := 226) rfl)
set_option maxRecDepth 100000 in
theorem iw_16_7 : (Cond.instanceMethod yX12_type) ∈ lw_tbl := tb_7 _ (List.mem_of_getElem? (i := 227) rfl)
set_option maxRecDepth 100000 in
theorem iw_16_8 : (Cond.selects RX12 yX12_type yX12_type) ∈ lw_tbl := tb_7 _ (List.mem_of_getElem? (i := 228) rfl)
set_option maxRecDepth 100000 in
theorem iw_16_9 : (Cond.code yX12_type cX12_type 2 (some .int)) ∈ lw_tbl := tb_7 _ (List.mem_of_getElem? (i := 229) rfl)
set_option maxRecDepth 100000 in
theorem iw_16_10 : (Cond.fieldLink RX12 295 "PhraseDeskModel" "classes" "I") ∈ lw_tbl := tb_6 _ (List.mem_of_getElem? (i := 172) rfl)
set_option maxRecDepth 100000 in
theorem iw_16_11 : (Cond.methodLink RX12 298 yX12_isClass) ∈ lw_tbl := tb_7 _ (List.mem_of_getElem? (i := 230) rfl)
set_option maxRecDepth 100000 in
theorem iw_16_12 : (Cond.instanceMethod yX12_isClass) ∈ lw_tbl := tb_7 _ (List.mem_of_getElem? (i := 232) rfl)
set_option maxRecDepth 100000 in
theorem iw_16_13 : (Cond.selects RX12 yX12_isClass yX12_isClass) ∈ lw_tbl := List.mem_append_left _ (List.mem_of_getElem? (i := 86) (by decide +kernel))
set_option maxRecDepth 100000 in
theorem iw_16_14 : (Cond.code yX12_isClass cX12_isClass 2 (some .boolean)) ∈ lw_tbl := tb_7 _ (List.mem_of_getElem? (i := 233) rfl)
set_option maxRecDepth 100000 in
theorem iw_16_15 : (Cond.methodLink RL 69 yL_field) ∈ lw_tbl := tb_4 _ (List.mem_of_getElem? (i := 206) rfl)
set_option maxRecDepth 100000 in
theorem iw_16_16 : (Cond.static yL_field) ∈ lw_tbl := tb_4 _ (List.mem_of_getElem? (i := 207) rfl)
set_option maxRecDepth 100000 in
theorem iw_16_17 : (Cond.codeWith yL_field cL_field 6 (some .int) [(0, 12, 15, 13), (0, 12, 19, 15)]) ∈ lw_tbl := tb_4 _ (List.mem_of_getElem? (i := 208) rfl)
set_option maxRecDepth 100000 in
theorem iw_16_18 : (Cond.methodLink RL 24 yX11_field) ∈ lw_tbl := tb_4 _ (List.mem_of_getElem? (i := 209) rfl)
set_option maxRecDepth 100000 in
theorem iw_16_19 : (Cond.instanceMethod yX11_field) ∈ lw_tbl := tb_4 _ (List.mem_of_getElem? (i := 210) rfl)
theorem iC_16 : ∀ w ∈ wqc_16, w ∈ lw_tbl := List.forall_mem_cons.mpr ⟨iw_16_0, List.forall_mem_cons.mpr ⟨iw_16_1, List.forall_mem_cons.mpr ⟨iw_16_2, List.forall_mem_cons.mpr ⟨iw_16_3, List.forall_mem_cons.mpr ⟨iw_16_4, List.forall_mem_cons.mpr ⟨iw_16_5, List.forall_mem_cons.mpr ⟨iw_16_6, List.forall_mem_cons.mpr ⟨iw_16_7, List.forall_mem_cons.mpr ⟨iw_16_8, List.forall_mem_cons.mpr ⟨iw_16_9, List.forall_mem_cons.mpr ⟨iw_16_10, List.forall_mem_cons.mpr ⟨iw_16_11, List.forall_mem_cons.mpr ⟨iw_16_12, List.forall_mem_cons.mpr ⟨iw_16_13, List.forall_mem_cons.mpr ⟨iw_16_14, List.forall_mem_cons.mpr ⟨iw_16_15, List.forall_mem_cons.mpr ⟨iw_16_16, List.forall_mem_cons.mpr ⟨iw_16_17, List.forall_mem_cons.mpr ⟨iw_16_18, List.forall_mem_cons.mpr ⟨iw_16_19, fun _ h => absurd h List.not_mem_nil⟩⟩⟩⟩⟩⟩⟩⟩⟩⟩⟩⟩⟩⟩⟩⟩⟩⟩⟩⟩
def wqc_17 : List Cond := [.selects RX11 yX11_field yX11_field, .code yX11_field cX11_field 5 (some .int), .methodLink RL 72 yX12_field, .instanceMethod yX12_field, .selects RX12 yX12_field yX12_field, .code yX12_field cX12_field 6 (some .int), .methodLink RL 73 yL_method, .static yL_method, .codeWith yL_method cL_method 9 (some .int) [(0, 18, 21, 13), (0, 18, 25, 15)], .methodLink RL 28 yX11_method, .instanceMethod yX11_method, .selects RX11 yX11_method yX11_method, .code yX11_method cX11_method 8 (some .int), .methodLink RL 76 yX12_method, .instanceMethod yX12_method, .selects RX12 yX12_method yX12_method, .code yX12_method cX12_method 9 (some .int), .methodLink RX12 305 yX12_isType, .instanceMethod yX12_isType, .selects RX12 yX12_isType yX12_isType]
set_option maxRecDepth 100000 in
theorem iw_17_0 : (Cond.selects RX11 yX11_field yX11_field) ∈ lw_tbl := tb_4 _ (List.mem_of_getElem? (i := 211) rfl)
set_option maxRecDepth 100000 in
theorem iw_17_1 : (Cond.code yX11_field cX11_field 5 (some .int)) ∈ lw_tbl := tb_4 _ (List.mem_of_getElem? (i := 212) rfl)
set_option maxRecDepth 100000 in
theorem iw_17_2 : (Cond.methodLink RL 72 yX12_field) ∈ lw_tbl := tb_7 _ (List.mem_of_getElem? (i := 234) rfl)
set_option maxRecDepth 100000 in
theorem iw_17_3 : (Cond.instanceMethod yX12_field) ∈ lw_tbl := tb_7 _ (List.mem_of_getElem? (i := 235) rfl)
set_option maxRecDepth 100000 in
theorem iw_17_4 : (Cond.selects RX12 yX12_field yX12_field) ∈ lw_tbl := tb_7 _ (List.mem_of_getElem? (i := 236) rfl)
set_option maxRecDepth 100000 in
theorem iw_17_5 : (Cond.code yX12_field cX12_field 6 (some .int)) ∈ lw_tbl := tb_7 _ (List.mem_of_getElem? (i := 237) rfl)
set_option maxRecDepth 100000 in
theorem iw_17_6 : (Cond.methodLink RL 73 yL_method) ∈ lw_tbl := tb_5 _ (List.mem_of_getElem? (i := 9) rfl)
set_option maxRecDepth 100000 in
theorem iw_17_7 : (Cond.static yL_method) ∈ lw_tbl := tb_5 _ (List.mem_of_getElem? (i := 10) rfl)
set_option maxRecDepth 100000 in
theorem iw_17_8 : (Cond.codeWith yL_method cL_method 9 (some .int) [(0, 18, 21, 13), (0, 18, 25, 15)]) ∈ lw_tbl := tb_5 _ (List.mem_of_getElem? (i := 11) rfl)
set_option maxRecDepth 100000 in
theorem iw_17_9 : (Cond.methodLink RL 28 yX11_method) ∈ lw_tbl := tb_5 _ (List.mem_of_getElem? (i := 12) rfl)
set_option maxRecDepth 100000 in
theorem iw_17_10 : (Cond.instanceMethod yX11_method) ∈ lw_tbl := tb_5 _ (List.mem_of_getElem? (i := 13) rfl)
set_option maxRecDepth 100000 in
theorem iw_17_11 : (Cond.selects RX11 yX11_method yX11_method) ∈ lw_tbl := tb_5 _ (List.mem_of_getElem? (i := 14) rfl)
set_option maxRecDepth 100000 in
theorem iw_17_12 : (Cond.code yX11_method cX11_method 8 (some .int)) ∈ lw_tbl := tb_5 _ (List.mem_of_getElem? (i := 15) rfl)
set_option maxRecDepth 100000 in
theorem iw_17_13 : (Cond.methodLink RL 76 yX12_method) ∈ lw_tbl := tb_8 _ (List.mem_of_getElem? (i := 6) rfl)
set_option maxRecDepth 100000 in
theorem iw_17_14 : (Cond.instanceMethod yX12_method) ∈ lw_tbl := tb_8 _ (List.mem_of_getElem? (i := 7) rfl)
set_option maxRecDepth 100000 in
theorem iw_17_15 : (Cond.selects RX12 yX12_method yX12_method) ∈ lw_tbl := tb_8 _ (List.mem_of_getElem? (i := 8) rfl)
set_option maxRecDepth 100000 in
theorem iw_17_16 : (Cond.code yX12_method cX12_method 9 (some .int)) ∈ lw_tbl := tb_8 _ (List.mem_of_getElem? (i := 9) rfl)
set_option maxRecDepth 100000 in
theorem iw_17_17 : (Cond.methodLink RX12 305 yX12_isType) ∈ lw_tbl := tb_8 _ (List.mem_of_getElem? (i := 2) rfl)
set_option maxRecDepth 100000 in
theorem iw_17_18 : (Cond.instanceMethod yX12_isType) ∈ lw_tbl := tb_8 _ (List.mem_of_getElem? (i := 4) rfl)
set_option maxRecDepth 100000 in
theorem iw_17_19 : (Cond.selects RX12 yX12_isType yX12_isType) ∈ lw_tbl := List.mem_append_left _ (List.mem_of_getElem? (i := 87) (by decide +kernel))
theorem iC_17 : ∀ w ∈ wqc_17, w ∈ lw_tbl := List.forall_mem_cons.mpr ⟨iw_17_0, List.forall_mem_cons.mpr ⟨iw_17_1, List.forall_mem_cons.mpr ⟨iw_17_2, List.forall_mem_cons.mpr ⟨iw_17_3, List.forall_mem_cons.mpr ⟨iw_17_4, List.forall_mem_cons.mpr ⟨iw_17_5, List.forall_mem_cons.mpr ⟨iw_17_6, List.forall_mem_cons.mpr ⟨iw_17_7, List.forall_mem_cons.mpr ⟨iw_17_8, List.forall_mem_cons.mpr ⟨iw_17_9, List.forall_mem_cons.mpr ⟨iw_17_10, List.forall_mem_cons.mpr ⟨iw_17_11, List.forall_mem_cons.mpr ⟨iw_17_12, List.forall_mem_cons.mpr ⟨iw_17_13, List.forall_mem_cons.mpr ⟨iw_17_14, List.forall_mem_cons.mpr ⟨iw_17_15, List.forall_mem_cons.mpr ⟨iw_17_16, List.forall_mem_cons.mpr ⟨iw_17_17, List.forall_mem_cons.mpr ⟨iw_17_18, List.forall_mem_cons.mpr ⟨iw_17_19, fun _ h => absurd h List.not_mem_nil⟩⟩⟩⟩⟩⟩⟩⟩⟩⟩⟩⟩⟩⟩⟩⟩⟩⟩⟩⟩
def wqc_18 : List Cond := [.code yX12_isType cX12_isType 2 (some .boolean), .methodLink RL 77 yL_make, .static yL_make, .codeWith yL_make cL_make 4 (some .int) [(0, 9, 12, 13), (0, 9, 15, 15)], .methodLink RL 32 yX11_make, .instanceMethod yX11_make, .selects RX11 yX11_make yX11_make, .code yX11_make cX11_make 3 (some .int), .methodLink RL 79 yX12_make, .instanceMethod yX12_make, .selects RX12 yX12_make yX12_make, .code yX12_make cX12_make 2 (some .int), .methodLink RL 80 yL_converter, .static yL_converter, .codeWith yL_converter cL_converter 6 (some .int) [(0, 19, 22, 13)], .methodLink RL 35 yX11_converter, .instanceMethod yX11_converter, .selects RX11 yX11_converter yX11_converter, .code yX11_converter cX11_converter 5 (some .boolean), .fieldLink RX11 167 "PhraseDesk$Runner" "converters" "LPhraseDesk$Converters;"]
set_option maxRecDepth 100000 in
theorem iw_18_0 : (Cond.code yX12_isType cX12_isType 2 (some .boolean)) ∈ lw_tbl := tb_8 _ (List.mem_of_getElem? (i := 5) rfl)
set_option maxRecDepth 100000 in
theorem iw_18_1 : (Cond.methodLink RL 77 yL_make) ∈ lw_tbl := tb_5 _ (List.mem_of_getElem? (i := 60) rfl)
set_option maxRecDepth 100000 in
theorem iw_18_2 : (Cond.static yL_make) ∈ lw_tbl := tb_5 _ (List.mem_of_getElem? (i := 61) rfl)
set_option maxRecDepth 100000 in
theorem iw_18_3 : (Cond.codeWith yL_make cL_make 4 (some .int) [(0, 9, 12, 13), (0, 9, 15, 15)]) ∈ lw_tbl := tb_5 _ (List.mem_of_getElem? (i := 62) rfl)
set_option maxRecDepth 100000 in
theorem iw_18_4 : (Cond.methodLink RL 32 yX11_make) ∈ lw_tbl := tb_5 _ (List.mem_of_getElem? (i := 63) rfl)
set_option maxRecDepth 100000 in
theorem iw_18_5 : (Cond.instanceMethod yX11_make) ∈ lw_tbl := tb_5 _ (List.mem_of_getElem? (i := 64) rfl)
set_option maxRecDepth 100000 in
theorem iw_18_6 : (Cond.selects RX11 yX11_make yX11_make) ∈ lw_tbl := tb_5 _ (List.mem_of_getElem? (i := 65) rfl)
set_option maxRecDepth 100000 in
theorem iw_18_7 : (Cond.code yX11_make cX11_make 3 (some .int)) ∈ lw_tbl := tb_5 _ (List.mem_of_getElem? (i := 66) rfl)
set_option maxRecDepth 100000 in
theorem iw_18_8 : (Cond.methodLink RL 79 yX12_make) ∈ lw_tbl := tb_8 _ (List.mem_of_getElem? (i := 10) rfl)
set_option maxRecDepth 100000 in
theorem iw_18_9 : (Cond.instanceMethod yX12_make) ∈ lw_tbl := tb_8 _ (List.mem_of_getElem? (i := 11) rfl)
set_option maxRecDepth 100000 in
theorem iw_18_10 : (Cond.selects RX12 yX12_make yX12_make) ∈ lw_tbl := tb_8 _ (List.mem_of_getElem? (i := 12) rfl)
set_option maxRecDepth 100000 in
theorem iw_18_11 : (Cond.code yX12_make cX12_make 2 (some .int)) ∈ lw_tbl := tb_8 _ (List.mem_of_getElem? (i := 13) rfl)
set_option maxRecDepth 100000 in
theorem iw_18_12 : (Cond.methodLink RL 80 yL_converter) ∈ lw_tbl := tb_5 _ (List.mem_of_getElem? (i := 93) rfl)
set_option maxRecDepth 100000 in
theorem iw_18_13 : (Cond.static yL_converter) ∈ lw_tbl := tb_5 _ (List.mem_of_getElem? (i := 94) rfl)
set_option maxRecDepth 100000 in
theorem iw_18_14 : (Cond.codeWith yL_converter cL_converter 6 (some .int) [(0, 19, 22, 13)]) ∈ lw_tbl := tb_5 _ (List.mem_of_getElem? (i := 95) rfl)
set_option maxRecDepth 100000 in
theorem iw_18_15 : (Cond.methodLink RL 35 yX11_converter) ∈ lw_tbl := tb_5 _ (List.mem_of_getElem? (i := 96) rfl)
set_option maxRecDepth 100000 in
theorem iw_18_16 : (Cond.instanceMethod yX11_converter) ∈ lw_tbl := tb_5 _ (List.mem_of_getElem? (i := 97) rfl)
set_option maxRecDepth 100000 in
theorem iw_18_17 : (Cond.selects RX11 yX11_converter yX11_converter) ∈ lw_tbl := tb_5 _ (List.mem_of_getElem? (i := 98) rfl)
set_option maxRecDepth 100000 in
theorem iw_18_18 : (Cond.code yX11_converter cX11_converter 5 (some .boolean)) ∈ lw_tbl := tb_5 _ (List.mem_of_getElem? (i := 99) rfl)
set_option maxRecDepth 100000 in
theorem iw_18_19 : (Cond.fieldLink RX11 167 "PhraseDesk$Runner" "converters" "LPhraseDesk$Converters;") ∈ lw_tbl := tb_1 _ (List.mem_of_getElem? (i := 216) rfl)
theorem iC_18 : ∀ w ∈ wqc_18, w ∈ lw_tbl := List.forall_mem_cons.mpr ⟨iw_18_0, List.forall_mem_cons.mpr ⟨iw_18_1, List.forall_mem_cons.mpr ⟨iw_18_2, List.forall_mem_cons.mpr ⟨iw_18_3, List.forall_mem_cons.mpr ⟨iw_18_4, List.forall_mem_cons.mpr ⟨iw_18_5, List.forall_mem_cons.mpr ⟨iw_18_6, List.forall_mem_cons.mpr ⟨iw_18_7, List.forall_mem_cons.mpr ⟨iw_18_8, List.forall_mem_cons.mpr ⟨iw_18_9, List.forall_mem_cons.mpr ⟨iw_18_10, List.forall_mem_cons.mpr ⟨iw_18_11, List.forall_mem_cons.mpr ⟨iw_18_12, List.forall_mem_cons.mpr ⟨iw_18_13, List.forall_mem_cons.mpr ⟨iw_18_14, List.forall_mem_cons.mpr ⟨iw_18_15, List.forall_mem_cons.mpr ⟨iw_18_16, List.forall_mem_cons.mpr ⟨iw_18_17, List.forall_mem_cons.mpr ⟨iw_18_18, List.forall_mem_cons.mpr ⟨iw_18_19, fun _ h => absurd h List.not_mem_nil⟩⟩⟩⟩⟩⟩⟩⟩⟩⟩⟩⟩⟩⟩⟩⟩⟩⟩⟩⟩
def wqc_19 : List Cond := [.methodLink RX11 171 yX0_change, .instanceMethod yX0_change, .selects RX0 yX0_change yX0_change, .code yX0_change cX0_change 6 (some .boolean), .methodLink RX0 22 yX0_isThere, .instanceMethod yX0_isThere, .selects RX0 yX0_isThere yX0_isThere, .code yX0_isThere cX0_isThere 4 (some .boolean), .methodLink RL 83 yX12_converter, .instanceMethod yX12_converter, .selects RX12 yX12_converter yX12_converter, .code yX12_converter cX12_converter 6 (some .boolean), .methodLink RL 84 yL_run, .static yL_run, .codeWith yL_run cL_run 5 (some .int) [(0, 10, 13, 13)], .methodLink RL 39 yX11_run, .instanceMethod yX11_run, .selects RX11 yX11_run yX11_run, .code yX11_run cX11_run 6 (some .int), .methodLink RX11 177 yX11_objectAt]
set_option maxRecDepth 100000 in
theorem iw_19_0 : (Cond.methodLink RX11 171 yX0_change) ∈ lw_tbl := tb_5 _ (List.mem_of_getElem? (i := 101) rfl)
set_option maxRecDepth 100000 in
theorem iw_19_1 : (Cond.instanceMethod yX0_change) ∈ lw_tbl := tb_5 _ (List.mem_of_getElem? (i := 102) rfl)
set_option maxRecDepth 100000 in
theorem iw_19_2 : (Cond.selects RX0 yX0_change yX0_change) ∈ lw_tbl := tb_5 _ (List.mem_of_getElem? (i := 103) rfl)
set_option maxRecDepth 100000 in
theorem iw_19_3 : (Cond.code yX0_change cX0_change 6 (some .boolean)) ∈ lw_tbl := tb_5 _ (List.mem_of_getElem? (i := 104) rfl)
set_option maxRecDepth 100000 in
theorem iw_19_4 : (Cond.methodLink RX0 22 yX0_isThere) ∈ lw_tbl := tb_5 _ (List.mem_of_getElem? (i := 105) rfl)
set_option maxRecDepth 100000 in
theorem iw_19_5 : (Cond.instanceMethod yX0_isThere) ∈ lw_tbl := tb_5 _ (List.mem_of_getElem? (i := 107) rfl)
set_option maxRecDepth 100000 in
theorem iw_19_6 : (Cond.selects RX0 yX0_isThere yX0_isThere) ∈ lw_tbl := List.mem_append_left _ (List.mem_of_getElem? (i := 27) (by decide +kernel))
set_option maxRecDepth 100000 in
theorem iw_19_7 : (Cond.code yX0_isThere cX0_isThere 4 (some .boolean)) ∈ lw_tbl := tb_5 _ (List.mem_of_getElem? (i := 108) rfl)
set_option maxRecDepth 100000 in
theorem iw_19_8 : (Cond.methodLink RL 83 yX12_converter) ∈ lw_tbl := tb_8 _ (List.mem_of_getElem? (i := 14) rfl)
set_option maxRecDepth 100000 in
theorem iw_19_9 : (Cond.instanceMethod yX12_converter) ∈ lw_tbl := tb_8 _ (List.mem_of_getElem? (i := 15) rfl)
set_option maxRecDepth 100000 in
theorem iw_19_10 : (Cond.selects RX12 yX12_converter yX12_converter) ∈ lw_tbl := tb_8 _ (List.mem_of_getElem? (i := 16) rfl)
set_option maxRecDepth 100000 in
theorem iw_19_11 : (Cond.code yX12_converter cX12_converter 6 (some .boolean)) ∈ lw_tbl := tb_8 _ (List.mem_of_getElem? (i := 17) rfl)
set_option maxRecDepth 100000 in
theorem iw_19_12 : (Cond.methodLink RL 84 yL_run) ∈ lw_tbl := tb_5 _ (List.mem_of_getElem? (i := 109) rfl)
set_option maxRecDepth 100000 in
theorem iw_19_13 : (Cond.static yL_run) ∈ lw_tbl := tb_5 _ (List.mem_of_getElem? (i := 110) rfl)
set_option maxRecDepth 100000 in
theorem iw_19_14 : (Cond.codeWith yL_run cL_run 5 (some .int) [(0, 10, 13, 13)]) ∈ lw_tbl := tb_5 _ (List.mem_of_getElem? (i := 111) rfl)
set_option maxRecDepth 100000 in
theorem iw_19_15 : (Cond.methodLink RL 39 yX11_run) ∈ lw_tbl := tb_5 _ (List.mem_of_getElem? (i := 112) rfl)
set_option maxRecDepth 100000 in
theorem iw_19_16 : (Cond.instanceMethod yX11_run) ∈ lw_tbl := tb_5 _ (List.mem_of_getElem? (i := 113) rfl)
set_option maxRecDepth 100000 in
theorem iw_19_17 : (Cond.selects RX11 yX11_run yX11_run) ∈ lw_tbl := tb_5 _ (List.mem_of_getElem? (i := 114) rfl)
set_option maxRecDepth 100000 in
theorem iw_19_18 : (Cond.code yX11_run cX11_run 6 (some .int)) ∈ lw_tbl := tb_5 _ (List.mem_of_getElem? (i := 115) rfl)
set_option maxRecDepth 100000 in
theorem iw_19_19 : (Cond.methodLink RX11 177 yX11_objectAt) ∈ lw_tbl := tb_5 _ (List.mem_of_getElem? (i := 116) rfl)
theorem iC_19 : ∀ w ∈ wqc_19, w ∈ lw_tbl := List.forall_mem_cons.mpr ⟨iw_19_0, List.forall_mem_cons.mpr ⟨iw_19_1, List.forall_mem_cons.mpr ⟨iw_19_2, List.forall_mem_cons.mpr ⟨iw_19_3, List.forall_mem_cons.mpr ⟨iw_19_4, List.forall_mem_cons.mpr ⟨iw_19_5, List.forall_mem_cons.mpr ⟨iw_19_6, List.forall_mem_cons.mpr ⟨iw_19_7, List.forall_mem_cons.mpr ⟨iw_19_8, List.forall_mem_cons.mpr ⟨iw_19_9, List.forall_mem_cons.mpr ⟨iw_19_10, List.forall_mem_cons.mpr ⟨iw_19_11, List.forall_mem_cons.mpr ⟨iw_19_12, List.forall_mem_cons.mpr ⟨iw_19_13, List.forall_mem_cons.mpr ⟨iw_19_14, List.forall_mem_cons.mpr ⟨iw_19_15, List.forall_mem_cons.mpr ⟨iw_19_16, List.forall_mem_cons.mpr ⟨iw_19_17, List.forall_mem_cons.mpr ⟨iw_19_18, List.forall_mem_cons.mpr ⟨iw_19_19, fun _ h => absurd h List.not_mem_nil⟩⟩⟩⟩⟩⟩⟩⟩⟩⟩⟩⟩⟩⟩⟩⟩⟩⟩⟩⟩
def wqc_20 : List Cond := [.instanceMethod yX11_objectAt, .selects RX11 yX11_objectAt yX11_objectAt, .code yX11_objectAt cX11_objectAt 2 (some (.object "PhraseDesk$Value")), .fieldLink RX11 120 "PhraseDesk" "objectCount" "I", .fieldLink RX11 155 "PhraseDesk$Runner" "nothing" "LPhraseDesk$Value;", .methodLink RL 87 yX12_run, .instanceMethod yX12_run, .selects RX12 yX12_run yX12_run, .code yX12_run cX12_run 7 (some .int), .methodLink RL 88 yL_keep, .static yL_keep, .codeWith yL_keep cL_keep 4 (some .int) [(0, 9, 12, 13), (0, 9, 15, 15)], .methodLink RL 43 yX11_keep, .instanceMethod yX11_keep, .selects RX11 yX11_keep yX11_keep, .code yX11_keep cX11_keep 2 (some .int), .methodLink RX11 104 yX11_isName, .static yX11_isName, .code yX11_isName cX11_isName 1 (some .boolean), .constant RX11 236 (14348906)]
set_option maxRecDepth 100000 in
theorem iw_20_0 : (Cond.instanceMethod yX11_objectAt) ∈ lw_tbl := tb_5 _ (List.mem_of_getElem? (i := 118) rfl)
set_option maxRecDepth 100000 in
theorem iw_20_1 : (Cond.selects RX11 yX11_objectAt yX11_objectAt) ∈ lw_tbl := List.mem_append_left _ (List.mem_of_getElem? (i := 28) (by decide +kernel))
set_option maxRecDepth 100000 in
theorem iw_20_2 : (Cond.code yX11_objectAt cX11_objectAt 2 (some (.object "PhraseDesk$Value"))) ∈ lw_tbl := tb_5 _ (List.mem_of_getElem? (i := 119) rfl)
set_option maxRecDepth 100000 in
theorem iw_20_3 : (Cond.fieldLink RX11 120 "PhraseDesk" "objectCount" "I") ∈ lw_tbl := tb_2 _ (List.mem_of_getElem? (i := 15) rfl)
set_option maxRecDepth 100000 in
theorem iw_20_4 : (Cond.fieldLink RX11 155 "PhraseDesk$Runner" "nothing" "LPhraseDesk$Value;") ∈ lw_tbl := tb_1 _ (List.mem_of_getElem? (i := 214) rfl)
set_option maxRecDepth 100000 in
theorem iw_20_5 : (Cond.methodLink RL 87 yX12_run) ∈ lw_tbl := tb_8 _ (List.mem_of_getElem? (i := 18) rfl)
set_option maxRecDepth 100000 in
theorem iw_20_6 : (Cond.instanceMethod yX12_run) ∈ lw_tbl := tb_8 _ (List.mem_of_getElem? (i := 19) rfl)
set_option maxRecDepth 100000 in
theorem iw_20_7 : (Cond.selects RX12 yX12_run yX12_run) ∈ lw_tbl := tb_8 _ (List.mem_of_getElem? (i := 20) rfl)
set_option maxRecDepth 100000 in
theorem iw_20_8 : (Cond.code yX12_run cX12_run 7 (some .int)) ∈ lw_tbl := tb_8 _ (List.mem_of_getElem? (i := 21) rfl)
set_option maxRecDepth 100000 in
theorem iw_20_9 : (Cond.methodLink RL 88 yL_keep) ∈ lw_tbl := tb_6 _ (List.mem_of_getElem? (i := 112) rfl)
set_option maxRecDepth 100000 in
theorem iw_20_10 : (Cond.static yL_keep) ∈ lw_tbl := tb_6 _ (List.mem_of_getElem? (i := 113) rfl)
set_option maxRecDepth 100000 in
theorem iw_20_11 : (Cond.codeWith yL_keep cL_keep 4 (some .int) [(0, 9, 12, 13), (0, 9, 15, 15)]) ∈ lw_tbl := tb_6 _ (List.mem_of_getElem? (i := 114) rfl)
set_option maxRecDepth 100000 in
theorem iw_20_12 : (Cond.methodLink RL 43 yX11_keep) ∈ lw_tbl := tb_6 _ (List.mem_of_getElem? (i := 115) rfl)
set_option maxRecDepth 100000 in
theorem iw_20_13 : (Cond.instanceMethod yX11_keep) ∈ lw_tbl := tb_6 _ (List.mem_of_getElem? (i := 116) rfl)
set_option maxRecDepth 100000 in
theorem iw_20_14 : (Cond.selects RX11 yX11_keep yX11_keep) ∈ lw_tbl := tb_6 _ (List.mem_of_getElem? (i := 117) rfl)
set_option maxRecDepth 100000 in
theorem iw_20_15 : (Cond.code yX11_keep cX11_keep 2 (some .int)) ∈ lw_tbl := tb_6 _ (List.mem_of_getElem? (i := 118) rfl)
set_option maxRecDepth 100000 in
theorem iw_20_16 : (Cond.methodLink RX11 104 yX11_isName) ∈ lw_tbl := tb_4 _ (List.mem_of_getElem? (i := 213) rfl)
set_option maxRecDepth 100000 in
theorem iw_20_17 : (Cond.static yX11_isName) ∈ lw_tbl := tb_4 _ (List.mem_of_getElem? (i := 214) rfl)
set_option maxRecDepth 100000 in
theorem iw_20_18 : (Cond.code yX11_isName cX11_isName 1 (some .boolean)) ∈ lw_tbl := tb_4 _ (List.mem_of_getElem? (i := 215) rfl)
set_option maxRecDepth 100000 in
theorem iw_20_19 : (Cond.constant RX11 236 (14348906)) ∈ lw_tbl := tb_4 _ (List.mem_of_getElem? (i := 216) rfl)
theorem iC_20 : ∀ w ∈ wqc_20, w ∈ lw_tbl := List.forall_mem_cons.mpr ⟨iw_20_0, List.forall_mem_cons.mpr ⟨iw_20_1, List.forall_mem_cons.mpr ⟨iw_20_2, List.forall_mem_cons.mpr ⟨iw_20_3, List.forall_mem_cons.mpr ⟨iw_20_4, List.forall_mem_cons.mpr ⟨iw_20_5, List.forall_mem_cons.mpr ⟨iw_20_6, List.forall_mem_cons.mpr ⟨iw_20_7, List.forall_mem_cons.mpr ⟨iw_20_8, List.forall_mem_cons.mpr ⟨iw_20_9, List.forall_mem_cons.mpr ⟨iw_20_10, List.forall_mem_cons.mpr ⟨iw_20_11, List.forall_mem_cons.mpr ⟨iw_20_12, List.forall_mem_cons.mpr ⟨iw_20_13, List.forall_mem_cons.mpr ⟨iw_20_14, List.forall_mem_cons.mpr ⟨iw_20_15, List.forall_mem_cons.mpr ⟨iw_20_16, List.forall_mem_cons.mpr ⟨iw_20_17, List.forall_mem_cons.mpr ⟨iw_20_18, List.forall_mem_cons.mpr ⟨iw_20_19, fun _ h => absurd h List.not_mem_nil⟩⟩⟩⟩⟩⟩⟩⟩⟩⟩⟩⟩⟩⟩⟩⟩⟩⟩⟩⟩
def wqc_21 : List Cond := [.methodLink RX11 196 yX8_setVariable, .instanceMethod yX8_setVariable, .selects RX8 yX8_setVariable yX8_setVariable, .code yX8_setVariable cX8_setVariable 4 (some .boolean), .fieldLink RX8 273 "PhraseDesk$Runner" "variableCount" "I", .fieldLink RX11 202 "PhraseDesk$Value" "kind" "I", .methodLink RL 90 yX12_keep, .instanceMethod yX12_keep, .selects RX12 yX12_keep yX12_keep, .code yX12_keep cX12_keep 3 (some .int), .methodLink RX12 302 yX12_isName, .static yX12_isName, .code yX12_isName cX12_isName 1 (some .boolean), .constant RX12 301 (14348906), .methodLink RX12 437 yX12_placeFor, .instanceMethod yX12_placeFor, .selects RX12 yX12_placeFor yX12_placeFor, .code yX12_placeFor cX12_placeFor 3 (some .int), .methodLink RX12 434 yX12_placeOf, .instanceMethod yX12_placeOf]
set_option maxRecDepth 100000 in
theorem iw_21_0 : (Cond.methodLink RX11 196 yX8_setVariable) ∈ lw_tbl := tb_6 _ (List.mem_of_getElem? (i := 120) rfl)
set_option maxRecDepth 100000 in
theorem iw_21_1 : (Cond.instanceMethod yX8_setVariable) ∈ lw_tbl := tb_6 _ (List.mem_of_getElem? (i := 97) rfl)
set_option maxRecDepth 100000 in
theorem iw_21_2 : (Cond.selects RX8 yX8_setVariable yX8_setVariable) ∈ lw_tbl := tb_6 _ (List.mem_of_getElem? (i := 98) rfl)
set_option maxRecDepth 100000 in
theorem iw_21_3 : (Cond.code yX8_setVariable cX8_setVariable 4 (some .boolean)) ∈ lw_tbl := tb_6 _ (List.mem_of_getElem? (i := 99) rfl)
set_option maxRecDepth 100000 in
theorem iw_21_4 : (Cond.fieldLink RX8 273 "PhraseDesk$Runner" "variableCount" "I") ∈ lw_tbl := tb_1 _ (List.mem_of_getElem? (i := 221) rfl)
set_option maxRecDepth 100000 in
theorem iw_21_5 : (Cond.fieldLink RX11 202 "PhraseDesk$Value" "kind" "I") ∈ lw_tbl := tb_1 _ (List.mem_of_getElem? (i := 150) rfl)
set_option maxRecDepth 100000 in
theorem iw_21_6 : (Cond.methodLink RL 90 yX12_keep) ∈ lw_tbl := tb_8 _ (List.mem_of_getElem? (i := 211) rfl)
set_option maxRecDepth 100000 in
theorem iw_21_7 : (Cond.instanceMethod yX12_keep) ∈ lw_tbl := tb_8 _ (List.mem_of_getElem? (i := 212) rfl)
set_option maxRecDepth 100000 in
theorem iw_21_8 : (Cond.selects RX12 yX12_keep yX12_keep) ∈ lw_tbl := tb_8 _ (List.mem_of_getElem? (i := 213) rfl)
set_option maxRecDepth 100000 in
theorem iw_21_9 : (Cond.code yX12_keep cX12_keep 3 (some .int)) ∈ lw_tbl := tb_8 _ (List.mem_of_getElem? (i := 214) rfl)
set_option maxRecDepth 100000 in
theorem iw_21_10 : (Cond.methodLink RX12 302 yX12_isName) ∈ lw_tbl := tb_7 _ (List.mem_of_getElem? (i := 238) rfl)
set_option maxRecDepth 100000 in
theorem iw_21_11 : (Cond.static yX12_isName) ∈ lw_tbl := tb_7 _ (List.mem_of_getElem? (i := 239) rfl)
set_option maxRecDepth 100000 in
theorem iw_21_12 : (Cond.code yX12_isName cX12_isName 1 (some .boolean)) ∈ lw_tbl := tb_8 _ (List.mem_of_getElem? (i := 0) rfl)
set_option maxRecDepth 100000 in
theorem iw_21_13 : (Cond.constant RX12 301 (14348906)) ∈ lw_tbl := tb_8 _ (List.mem_of_getElem? (i := 1) rfl)
set_option maxRecDepth 100000 in
theorem iw_21_14 : (Cond.methodLink RX12 437 yX12_placeFor) ∈ lw_tbl := tb_8 _ (List.mem_of_getElem? (i := 203) rfl)
set_option maxRecDepth 100000 in
theorem iw_21_15 : (Cond.instanceMethod yX12_placeFor) ∈ lw_tbl := tb_8 _ (List.mem_of_getElem? (i := 205) rfl)
set_option maxRecDepth 100000 in
theorem iw_21_16 : (Cond.selects RX12 yX12_placeFor yX12_placeFor) ∈ lw_tbl := List.mem_append_left _ (List.mem_of_getElem? (i := 131) (by decide +kernel))
set_option maxRecDepth 100000 in
theorem iw_21_17 : (Cond.code yX12_placeFor cX12_placeFor 3 (some .int)) ∈ lw_tbl := tb_8 _ (List.mem_of_getElem? (i := 206) rfl)
set_option maxRecDepth 100000 in
theorem iw_21_18 : (Cond.methodLink RX12 434 yX12_placeOf) ∈ lw_tbl := tb_8 _ (List.mem_of_getElem? (i := 53) rfl)
set_option maxRecDepth 100000 in
theorem iw_21_19 : (Cond.instanceMethod yX12_placeOf) ∈ lw_tbl := tb_8 _ (List.mem_of_getElem? (i := 55) rfl)
theorem iC_21 : ∀ w ∈ wqc_21, w ∈ lw_tbl := List.forall_mem_cons.mpr ⟨iw_21_0, List.forall_mem_cons.mpr ⟨iw_21_1, List.forall_mem_cons.mpr ⟨iw_21_2, List.forall_mem_cons.mpr ⟨iw_21_3, List.forall_mem_cons.mpr ⟨iw_21_4, List.forall_mem_cons.mpr ⟨iw_21_5, List.forall_mem_cons.mpr ⟨iw_21_6, List.forall_mem_cons.mpr ⟨iw_21_7, List.forall_mem_cons.mpr ⟨iw_21_8, List.forall_mem_cons.mpr ⟨iw_21_9, List.forall_mem_cons.mpr ⟨iw_21_10, List.forall_mem_cons.mpr ⟨iw_21_11, List.forall_mem_cons.mpr ⟨iw_21_12, List.forall_mem_cons.mpr ⟨iw_21_13, List.forall_mem_cons.mpr ⟨iw_21_14, List.forall_mem_cons.mpr ⟨iw_21_15, List.forall_mem_cons.mpr ⟨iw_21_16, List.forall_mem_cons.mpr ⟨iw_21_17, List.forall_mem_cons.mpr ⟨iw_21_18, List.forall_mem_cons.mpr ⟨iw_21_19, fun _ h => absurd h List.not_mem_nil⟩⟩⟩⟩⟩⟩⟩⟩⟩⟩⟩⟩⟩⟩⟩⟩⟩⟩⟩⟩
def wqc_22 : List Cond := [.selects RX12 yX12_placeOf yX12_placeOf, .code yX12_placeOf cX12_placeOf 4 (some .int), .fieldLink RX12 431 "PhraseDeskModel" "variables" "I", .methodLink RX12 401 yX12_copy, .instanceMethod yX12_copy, .selects RX12 yX12_copy yX12_copy, .code yX12_copy cX12_copy 3 none, .methodLink RL 91 yX11_result, .instanceMethod yX11_result, .selects RX11 yX11_result yX11_result, .code yX11_result cX11_result 2 (some .int), .fieldLink RX11 205 "PhraseDesk$Value" "number" "I", .methodLink RL 94 yX12_result, .instanceMethod yX12_result, .selects RX12 yX12_result yX12_result, .code yX12_result cX12_result 3 (some .int), .methodLink RL 95 yX11_text, .instanceMethod yX11_text, .selects RX11 yX11_text yX11_text, .code yX11_text cX11_text 2 (some .int)]
set_option maxRecDepth 100000 in
theorem iw_22_0 : (Cond.selects RX12 yX12_placeOf yX12_placeOf) ∈ lw_tbl := List.mem_append_left _ (List.mem_of_getElem? (i := 95) (by decide +kernel))
set_option maxRecDepth 100000 in
theorem iw_22_1 : (Cond.code yX12_placeOf cX12_placeOf 4 (some .int)) ∈ lw_tbl := tb_8 _ (List.mem_of_getElem? (i := 56) rfl)
set_option maxRecDepth 100000 in
theorem iw_22_2 : (Cond.fieldLink RX12 431 "PhraseDeskModel" "variables" "I") ∈ lw_tbl := tb_6 _ (List.mem_of_getElem? (i := 186) rfl)
set_option maxRecDepth 100000 in
theorem iw_22_3 : (Cond.methodLink RX12 401 yX12_copy) ∈ lw_tbl := tb_8 _ (List.mem_of_getElem? (i := 57) rfl)
set_option maxRecDepth 100000 in
theorem iw_22_4 : (Cond.instanceMethod yX12_copy) ∈ lw_tbl := tb_8 _ (List.mem_of_getElem? (i := 59) rfl)
set_option maxRecDepth 100000 in
theorem iw_22_5 : (Cond.selects RX12 yX12_copy yX12_copy) ∈ lw_tbl := List.mem_append_left _ (List.mem_of_getElem? (i := 96) (by decide +kernel))
set_option maxRecDepth 100000 in
theorem iw_22_6 : (Cond.code yX12_copy cX12_copy 3 none) ∈ lw_tbl := tb_8 _ (List.mem_of_getElem? (i := 60) rfl)
set_option maxRecDepth 100000 in
theorem iw_22_7 : (Cond.methodLink RL 91 yX11_result) ∈ lw_tbl := tb_2 _ (List.mem_of_getElem? (i := 36) rfl)
set_option maxRecDepth 100000 in
theorem iw_22_8 : (Cond.instanceMethod yX11_result) ∈ lw_tbl := tb_2 _ (List.mem_of_getElem? (i := 37) rfl)
set_option maxRecDepth 100000 in
theorem iw_22_9 : (Cond.selects RX11 yX11_result yX11_result) ∈ lw_tbl := tb_2 _ (List.mem_of_getElem? (i := 38) rfl)
set_option maxRecDepth 100000 in
theorem iw_22_10 : (Cond.code yX11_result cX11_result 2 (some .int)) ∈ lw_tbl := tb_2 _ (List.mem_of_getElem? (i := 39) rfl)
set_option maxRecDepth 100000 in
theorem iw_22_11 : (Cond.fieldLink RX11 205 "PhraseDesk$Value" "number" "I") ∈ lw_tbl := tb_1 _ (List.mem_of_getElem? (i := 154) rfl)
set_option maxRecDepth 100000 in
theorem iw_22_12 : (Cond.methodLink RL 94 yX12_result) ∈ lw_tbl := tb_8 _ (List.mem_of_getElem? (i := 219) rfl)
set_option maxRecDepth 100000 in
theorem iw_22_13 : (Cond.instanceMethod yX12_result) ∈ lw_tbl := tb_8 _ (List.mem_of_getElem? (i := 220) rfl)
set_option maxRecDepth 100000 in
theorem iw_22_14 : (Cond.selects RX12 yX12_result yX12_result) ∈ lw_tbl := tb_8 _ (List.mem_of_getElem? (i := 221) rfl)
set_option maxRecDepth 100000 in
theorem iw_22_15 : (Cond.code yX12_result cX12_result 3 (some .int)) ∈ lw_tbl := tb_8 _ (List.mem_of_getElem? (i := 222) rfl)
set_option maxRecDepth 100000 in
theorem iw_22_16 : (Cond.methodLink RL 95 yX11_text) ∈ lw_tbl := tb_2 _ (List.mem_of_getElem? (i := 41) rfl)
set_option maxRecDepth 100000 in
theorem iw_22_17 : (Cond.instanceMethod yX11_text) ∈ lw_tbl := tb_2 _ (List.mem_of_getElem? (i := 42) rfl)
set_option maxRecDepth 100000 in
theorem iw_22_18 : (Cond.selects RX11 yX11_text yX11_text) ∈ lw_tbl := tb_2 _ (List.mem_of_getElem? (i := 43) rfl)
set_option maxRecDepth 100000 in
theorem iw_22_19 : (Cond.code yX11_text cX11_text 2 (some .int)) ∈ lw_tbl := tb_2 _ (List.mem_of_getElem? (i := 44) rfl)
theorem iC_22 : ∀ w ∈ wqc_22, w ∈ lw_tbl := List.forall_mem_cons.mpr ⟨iw_22_0, List.forall_mem_cons.mpr ⟨iw_22_1, List.forall_mem_cons.mpr ⟨iw_22_2, List.forall_mem_cons.mpr ⟨iw_22_3, List.forall_mem_cons.mpr ⟨iw_22_4, List.forall_mem_cons.mpr ⟨iw_22_5, List.forall_mem_cons.mpr ⟨iw_22_6, List.forall_mem_cons.mpr ⟨iw_22_7, List.forall_mem_cons.mpr ⟨iw_22_8, List.forall_mem_cons.mpr ⟨iw_22_9, List.forall_mem_cons.mpr ⟨iw_22_10, List.forall_mem_cons.mpr ⟨iw_22_11, List.forall_mem_cons.mpr ⟨iw_22_12, List.forall_mem_cons.mpr ⟨iw_22_13, List.forall_mem_cons.mpr ⟨iw_22_14, List.forall_mem_cons.mpr ⟨iw_22_15, List.forall_mem_cons.mpr ⟨iw_22_16, List.forall_mem_cons.mpr ⟨iw_22_17, List.forall_mem_cons.mpr ⟨iw_22_18, List.forall_mem_cons.mpr ⟨iw_22_19, fun _ h => absurd h List.not_mem_nil⟩⟩⟩⟩⟩⟩⟩⟩⟩⟩⟩⟩⟩⟩⟩⟩⟩⟩⟩⟩
def wqc_23 : List Cond := [.fieldLink RX11 214 "PhraseDesk$Value" "chars" "Ljava/lang/String;", .methodLink RX11 218 yJ0_length_8abf5, .instanceMethod yJ0_length_8abf5, .selects RJ0 yJ0_length_8abf5 yJ0_length_8abf5, .initialized RJ0, .code yJ0_length_8abf5 cJ0_length_8abf5 1 (some .int), .fieldLink RJ0 9 "java/lang/String" "value" "[B", .methodLink RJ0 335 yJ0_coder_7d493, .instanceMethod yJ0_coder_7d493, .selects RJ0 yJ0_coder_7d493 yJ0_coder_7d493, .code yJ0_coder_7d493 cJ0_coder_7d493 1 (some .byte), .fieldLink RJ0 38 "java/lang/String" "COMPACT_STRINGS" "Z", .fieldLink RJ0 15 "java/lang/String" "coder" "B", .methodLink RL 98 yX12_text, .instanceMethod yX12_text, .selects RX12 yX12_text yX12_text, .code yX12_text cX12_text 2 (some .int), .methodLink RL 99 yL_put, .static yL_put, .codeWith yL_put cL_put 5 (some .int) [(0, 10, 13, 13)]]
set_option maxRecDepth 100000 in
theorem iw_23_0 : (Cond.fieldLink RX11 214 "PhraseDesk$Value" "chars" "Ljava/lang/String;") ∈ lw_tbl := tb_1 _ (List.mem_of_getElem? (i := 162) rfl)
set_option maxRecDepth 100000 in
theorem iw_23_1 : (Cond.methodLink RX11 218 yJ0_length_8abf5) ∈ lw_tbl := tb_2 _ (List.mem_of_getElem? (i := 45) rfl)
set_option maxRecDepth 100000 in
theorem iw_23_2 : (Cond.instanceMethod yJ0_length_8abf5) ∈ lw_tbl := tb_2 _ (List.mem_of_getElem? (i := 46) rfl)
set_option maxRecDepth 100000 in
theorem iw_23_3 : (Cond.selects RJ0 yJ0_length_8abf5 yJ0_length_8abf5) ∈ lw_tbl := tb_2 _ (List.mem_of_getElem? (i := 47) rfl)
set_option maxRecDepth 100000 in
theorem iw_23_4 : (Cond.initialized RJ0) ∈ lw_tbl := tb_1 _ (List.mem_of_getElem? (i := 6) rfl)
set_option maxRecDepth 100000 in
theorem iw_23_5 : (Cond.code yJ0_length_8abf5 cJ0_length_8abf5 1 (some .int)) ∈ lw_tbl := tb_2 _ (List.mem_of_getElem? (i := 48) rfl)
set_option maxRecDepth 100000 in
theorem iw_23_6 : (Cond.fieldLink RJ0 9 "java/lang/String" "value" "[B") ∈ lw_tbl := tb_3 _ (List.mem_of_getElem? (i := 210) rfl)
set_option maxRecDepth 100000 in
theorem iw_23_7 : (Cond.methodLink RJ0 335 yJ0_coder_7d493) ∈ lw_tbl := tb_2 _ (List.mem_of_getElem? (i := 49) rfl)
set_option maxRecDepth 100000 in
theorem iw_23_8 : (Cond.instanceMethod yJ0_coder_7d493) ∈ lw_tbl := tb_2 _ (List.mem_of_getElem? (i := 50) rfl)
set_option maxRecDepth 100000 in
theorem iw_23_9 : (Cond.selects RJ0 yJ0_coder_7d493 yJ0_coder_7d493) ∈ lw_tbl := tb_2 _ (List.mem_of_getElem? (i := 51) rfl)
set_option maxRecDepth 100000 in
theorem iw_23_10 : (Cond.code yJ0_coder_7d493 cJ0_coder_7d493 1 (some .byte)) ∈ lw_tbl := tb_2 _ (List.mem_of_getElem? (i := 52) rfl)
set_option maxRecDepth 100000 in
theorem iw_23_11 : (Cond.fieldLink RJ0 38 "java/lang/String" "COMPACT_STRINGS" "Z") ∈ lw_tbl := tb_2 _ (List.mem_of_getElem? (i := 53) rfl)
set_option maxRecDepth 100000 in
theorem iw_23_12 : (Cond.fieldLink RJ0 15 "java/lang/String" "coder" "B") ∈ lw_tbl := tb_3 _ (List.mem_of_getElem? (i := 211) rfl)
set_option maxRecDepth 100000 in
theorem iw_23_13 : (Cond.methodLink RL 98 yX12_text) ∈ lw_tbl := tb_8 _ (List.mem_of_getElem? (i := 223) rfl)
set_option maxRecDepth 100000 in
theorem iw_23_14 : (Cond.instanceMethod yX12_text) ∈ lw_tbl := tb_8 _ (List.mem_of_getElem? (i := 224) rfl)
set_option maxRecDepth 100000 in
theorem iw_23_15 : (Cond.selects RX12 yX12_text yX12_text) ∈ lw_tbl := tb_8 _ (List.mem_of_getElem? (i := 225) rfl)
set_option maxRecDepth 100000 in
theorem iw_23_16 : (Cond.code yX12_text cX12_text 2 (some .int)) ∈ lw_tbl := tb_8 _ (List.mem_of_getElem? (i := 226) rfl)
set_option maxRecDepth 100000 in
theorem iw_23_17 : (Cond.methodLink RL 99 yL_put) ∈ lw_tbl := tb_6 _ (List.mem_of_getElem? (i := 122) rfl)
set_option maxRecDepth 100000 in
theorem iw_23_18 : (Cond.static yL_put) ∈ lw_tbl := tb_6 _ (List.mem_of_getElem? (i := 123) rfl)
set_option maxRecDepth 100000 in
theorem iw_23_19 : (Cond.codeWith yL_put cL_put 5 (some .int) [(0, 10, 13, 13)]) ∈ lw_tbl := tb_6 _ (List.mem_of_getElem? (i := 124) rfl)
theorem iC_23 : ∀ w ∈ wqc_23, w ∈ lw_tbl := List.forall_mem_cons.mpr ⟨iw_23_0, List.forall_mem_cons.mpr ⟨iw_23_1, List.forall_mem_cons.mpr ⟨iw_23_2, List.forall_mem_cons.mpr ⟨iw_23_3, List.forall_mem_cons.mpr ⟨iw_23_4, List.forall_mem_cons.mpr ⟨iw_23_5, List.forall_mem_cons.mpr ⟨iw_23_6, List.forall_mem_cons.mpr ⟨iw_23_7, List.forall_mem_cons.mpr ⟨iw_23_8, List.forall_mem_cons.mpr ⟨iw_23_9, List.forall_mem_cons.mpr ⟨iw_23_10, List.forall_mem_cons.mpr ⟨iw_23_11, List.forall_mem_cons.mpr ⟨iw_23_12, List.forall_mem_cons.mpr ⟨iw_23_13, List.forall_mem_cons.mpr ⟨iw_23_14, List.forall_mem_cons.mpr ⟨iw_23_15, List.forall_mem_cons.mpr ⟨iw_23_16, List.forall_mem_cons.mpr ⟨iw_23_17, List.forall_mem_cons.mpr ⟨iw_23_18, List.forall_mem_cons.mpr ⟨iw_23_19, fun _ h => absurd h List.not_mem_nil⟩⟩⟩⟩⟩⟩⟩⟩⟩⟩⟩⟩⟩⟩⟩⟩⟩⟩⟩⟩
def wqc_24 : List Cond := [.methodLink RL 46 yX11_put, .instanceMethod yX11_put, .selects RX11 yX11_put yX11_put, .code yX11_put cX11_put 4 (some .int), .methodLink RL 101 yX12_put, .instanceMethod yX12_put, .selects RX12 yX12_put yX12_put, .code yX12_put cX12_put 4 (some .int), .fieldLink RX12 308 "PhraseDeskModel" "objects" "I", .methodLink RL 102 yX11_about, .instanceMethod yX11_about, .selects RX11 yX11_about yX11_about, .code yX11_about cX11_about 2 (some .int), .fieldLink RX11 233 "PhraseDesk$Runner" "variableCount" "I", .methodLink RL 105 yX12_about, .instanceMethod yX12_about, .selects RX12 yX12_about yX12_about, .code yX12_about cX12_about 2 (some .int)]
set_option maxRecDepth 100000 in
theorem iw_24_0 : (Cond.methodLink RL 46 yX11_put) ∈ lw_tbl := tb_6 _ (List.mem_of_getElem? (i := 125) rfl)
set_option maxRecDepth 100000 in
theorem iw_24_1 : (Cond.instanceMethod yX11_put) ∈ lw_tbl := tb_6 _ (List.mem_of_getElem? (i := 126) rfl)
set_option maxRecDepth 100000 in
theorem iw_24_2 : (Cond.selects RX11 yX11_put yX11_put) ∈ lw_tbl := tb_6 _ (List.mem_of_getElem? (i := 127) rfl)
set_option maxRecDepth 100000 in
theorem iw_24_3 : (Cond.code yX11_put cX11_put 4 (some .int)) ∈ lw_tbl := tb_6 _ (List.mem_of_getElem? (i := 128) rfl)
set_option maxRecDepth 100000 in
theorem iw_24_4 : (Cond.methodLink RL 101 yX12_put) ∈ lw_tbl := tb_8 _ (List.mem_of_getElem? (i := 215) rfl)
set_option maxRecDepth 100000 in
theorem iw_24_5 : (Cond.instanceMethod yX12_put) ∈ lw_tbl := tb_8 _ (List.mem_of_getElem? (i := 216) rfl)
set_option maxRecDepth 100000 in
theorem iw_24_6 : (Cond.selects RX12 yX12_put yX12_put) ∈ lw_tbl := tb_8 _ (List.mem_of_getElem? (i := 217) rfl)
set_option maxRecDepth 100000 in
theorem iw_24_7 : (Cond.code yX12_put cX12_put 4 (some .int)) ∈ lw_tbl := tb_8 _ (List.mem_of_getElem? (i := 218) rfl)
set_option maxRecDepth 100000 in
theorem iw_24_8 : (Cond.fieldLink RX12 308 "PhraseDeskModel" "objects" "I") ∈ lw_tbl := tb_6 _ (List.mem_of_getElem? (i := 184) rfl)
set_option maxRecDepth 100000 in
theorem iw_24_9 : (Cond.methodLink RL 102 yX11_about) ∈ lw_tbl := tb_2 _ (List.mem_of_getElem? (i := 92) rfl)
set_option maxRecDepth 100000 in
theorem iw_24_10 : (Cond.instanceMethod yX11_about) ∈ lw_tbl := tb_2 _ (List.mem_of_getElem? (i := 93) rfl)
set_option maxRecDepth 100000 in
theorem iw_24_11 : (Cond.selects RX11 yX11_about yX11_about) ∈ lw_tbl := tb_2 _ (List.mem_of_getElem? (i := 94) rfl)
set_option maxRecDepth 100000 in
theorem iw_24_12 : (Cond.code yX11_about cX11_about 2 (some .int)) ∈ lw_tbl := tb_2 _ (List.mem_of_getElem? (i := 95) rfl)
set_option maxRecDepth 100000 in
theorem iw_24_13 : (Cond.fieldLink RX11 233 "PhraseDesk$Runner" "variableCount" "I") ∈ lw_tbl := tb_1 _ (List.mem_of_getElem? (i := 220) rfl)
set_option maxRecDepth 100000 in
theorem iw_24_14 : (Cond.methodLink RL 105 yX12_about) ∈ lw_tbl := tb_8 _ (List.mem_of_getElem? (i := 227) rfl)
set_option maxRecDepth 100000 in
theorem iw_24_15 : (Cond.instanceMethod yX12_about) ∈ lw_tbl := tb_8 _ (List.mem_of_getElem? (i := 228) rfl)
set_option maxRecDepth 100000 in
theorem iw_24_16 : (Cond.selects RX12 yX12_about yX12_about) ∈ lw_tbl := tb_8 _ (List.mem_of_getElem? (i := 229) rfl)
set_option maxRecDepth 100000 in
theorem iw_24_17 : (Cond.code yX12_about cX12_about 2 (some .int)) ∈ lw_tbl := tb_8 _ (List.mem_of_getElem? (i := 230) rfl)
theorem iC_24 : ∀ w ∈ wqc_24, w ∈ lw_tbl := List.forall_mem_cons.mpr ⟨iw_24_0, List.forall_mem_cons.mpr ⟨iw_24_1, List.forall_mem_cons.mpr ⟨iw_24_2, List.forall_mem_cons.mpr ⟨iw_24_3, List.forall_mem_cons.mpr ⟨iw_24_4, List.forall_mem_cons.mpr ⟨iw_24_5, List.forall_mem_cons.mpr ⟨iw_24_6, List.forall_mem_cons.mpr ⟨iw_24_7, List.forall_mem_cons.mpr ⟨iw_24_8, List.forall_mem_cons.mpr ⟨iw_24_9, List.forall_mem_cons.mpr ⟨iw_24_10, List.forall_mem_cons.mpr ⟨iw_24_11, List.forall_mem_cons.mpr ⟨iw_24_12, List.forall_mem_cons.mpr ⟨iw_24_13, List.forall_mem_cons.mpr ⟨iw_24_14, List.forall_mem_cons.mpr ⟨iw_24_15, List.forall_mem_cons.mpr ⟨iw_24_16, List.forall_mem_cons.mpr ⟨iw_24_17, fun _ h => absurd h List.not_mem_nil⟩⟩⟩⟩⟩⟩⟩⟩⟩⟩⟩⟩⟩⟩⟩⟩⟩⟩
def wq_law0 : List Cond := wqc_0 ++ (wqc_1 ++ (wqc_2 ++ (wqc_3 ++ (wqc_4 ++ (wqc_5 ++ (wqc_6 ++ (wqc_7 ++ (wqc_8 ++ (wqc_9 ++ (wqc_10 ++ (wqc_11 ++ (wqc_12 ++ (wqc_13 ++ (wqc_14 ++ (wqc_15 ++ (wqc_16 ++ (wqc_17 ++ (wqc_18 ++ (wqc_19 ++ (wqc_20 ++ (wqc_21 ++ (wqc_22 ++ (wqc_23 ++ (wqc_24))))))))))))))))))))))))
def wq_law : List Cond := wq_law0 ++ wsX110 ++ wsX60 ++ wsX40 ++ wsJ40 ++ wsX80 ++ wsX100 ++ wsX00 ++ wsX30 ++ wsX120 ++ wsX10 ++ (vx_atS RX11 53 tIAE tSup).filter goodWord
theorem iT_0 : ∀ w ∈ wq_law0, w ∈ lw_tbl := List.forall_mem_append.mpr ⟨iC_0, List.forall_mem_append.mpr ⟨iC_1, List.forall_mem_append.mpr ⟨iC_2, List.forall_mem_append.mpr ⟨iC_3, List.forall_mem_append.mpr ⟨iC_4, List.forall_mem_append.mpr ⟨iC_5, List.forall_mem_append.mpr ⟨iC_6, List.forall_mem_append.mpr ⟨iC_7, List.forall_mem_append.mpr ⟨iC_8, List.forall_mem_append.mpr ⟨iC_9, List.forall_mem_append.mpr ⟨iC_10, List.forall_mem_append.mpr ⟨iC_11, List.forall_mem_append.mpr ⟨iC_12, List.forall_mem_append.mpr ⟨iC_13, List.forall_mem_append.mpr ⟨iC_14, List.forall_mem_append.mpr ⟨iC_15, List.forall_mem_append.mpr ⟨iC_16, List.forall_mem_append.mpr ⟨iC_17, List.forall_mem_append.mpr ⟨iC_18, List.forall_mem_append.mpr ⟨iC_19, List.forall_mem_append.mpr ⟨iC_20, List.forall_mem_append.mpr ⟨iC_21, List.forall_mem_append.mpr ⟨iC_22, List.forall_mem_append.mpr ⟨iC_23, iC_24⟩⟩⟩⟩⟩⟩⟩⟩⟩⟩⟩⟩⟩⟩⟩⟩⟩⟩⟩⟩⟩⟩⟩⟩
theorem iT_J0 : ∀ w ∈ wsJ00, w ∈ lw_tbl := by decide +kernel
theorem iT_J4 : ∀ w ∈ wsJ40, w ∈ lw_tbl := by decide +kernel
theorem iT_X0 : ∀ w ∈ wsX00, w ∈ lw_tbl := by decide +kernel
theorem iT_X1 : ∀ w ∈ wsX10, w ∈ lw_tbl := by decide +kernel
theorem iT_X2 : ∀ w ∈ wsX20, w ∈ lw_tbl := by decide +kernel
theorem iT_X3 : ∀ w ∈ wsX30, w ∈ lw_tbl := by decide +kernel
theorem iT_X4 : ∀ w ∈ wsX40, w ∈ lw_tbl := by decide +kernel
theorem iT_X5 : ∀ w ∈ wsX50, w ∈ lw_tbl := by decide +kernel
theorem iT_X6 : ∀ w ∈ wsX60, w ∈ lw_tbl := by decide +kernel
theorem iT_X7 : ∀ w ∈ wsX70, w ∈ lw_tbl := by decide +kernel
theorem iT_X8 : ∀ w ∈ wsX80, w ∈ lw_tbl := by decide +kernel
theorem iT_X9 : ∀ w ∈ wsX90, w ∈ lw_tbl := by decide +kernel
theorem iT_X10 : ∀ w ∈ wsX100, w ∈ lw_tbl := by decide +kernel
theorem iT_X11 : ∀ w ∈ wsX110, w ∈ lw_tbl := by decide +kernel
theorem iT_X12 : ∀ w ∈ wsX120, w ∈ lw_tbl := by decide +kernel
theorem iT_VX : ∀ w ∈ (vx_atS RX11 53 tIAE tSup).filter goodWord, w ∈ lw_tbl := by decide +kernel
theorem wq_law_in : ∀ w ∈ wq_law, w ∈ lw_tbl := by
  intro w h
  rcases List.mem_append.mp h with h | h
  rotate_left
  · exact iT_VX w h
  rcases List.mem_append.mp h with h | h
  rotate_left
  · exact iT_X1 w h
  rcases List.mem_append.mp h with h | h
  rotate_left
  · exact iT_X12 w h
  rcases List.mem_append.mp h with h | h
  rotate_left
  · exact iT_X3 w h
  rcases List.mem_append.mp h with h | h
  rotate_left
  · exact iT_X0 w h
  rcases List.mem_append.mp h with h | h
  rotate_left
  · exact iT_X10 w h
  rcases List.mem_append.mp h with h | h
  rotate_left
  · exact iT_X8 w h
  rcases List.mem_append.mp h with h | h
  rotate_left
  · exact iT_J4 w h
  rcases List.mem_append.mp h with h | h
  rotate_left
  · exact iT_X4 w h
  rcases List.mem_append.mp h with h | h
  rotate_left
  · exact iT_X6 w h
  rcases List.mem_append.mp h with h | h
  rotate_left
  · exact iT_X11 w h
  exact iT_0 w h

theorem iT_VS : ∀ w ∈ (vx_atS RX11 70 tISE tSup).filter goodWord, w ∈ lw_tbl := by decide +kernel
def lw_x : List Cond := [.selects RJ4 ⟨"java/lang/AbstractStringBuilder", "ensureCapacityInternal", "(I)V"⟩ yJ5_ensureCapacityInternal_d00df, .selects RJ4 ⟨"java/lang/AbstractStringBuilder", "newCapacity", "(I)I"⟩ yJ5_newCapacity_0f7a4, .selects RJ4 ⟨"java/lang/AbstractStringBuilder", "inflate", "()V"⟩ yJ5_inflate_da8c8, .selects RJ4 ⟨"java/lang/AbstractStringBuilder", "appendNull", "()Ljava/lang/AbstractStringBuilder;"⟩ yJ5_appendNull_278bc, .selects RJ4 ⟨"java/lang/AbstractStringBuilder", "putStringAt", "(ILjava/lang/String;)V"⟩ yJ5_putStringAt_47b60, .selects RJ4 ⟨"java/lang/AbstractStringBuilder", "inflateIfNeededFor", "(Ljava/lang/String;)V"⟩ yJ5_inflateIfNeededFor_a7421]
def lw_big : List Cond := lw_x ++ lw_tbl
theorem sel_priv {args : Array Value} {s : State} {C : String} {y y2 : MethodName} (hy : y.cls ≠ "java/lang/invoke/MethodHandle" ∧ y.cls ≠ "java/lang/invoke/VarHandle") (hsel : (Cond.selects C y2 y2).before args s = true) (he : y2.cls = y.cls) (hpriv : (Cond.privateMethod y).before args s = true) (hinst : (Cond.instanceMethod y).before args s = true) : (Cond.selects C y y).before args s = true := by
  obtain ⟨c2, r2, m2, q1, q2, q3, q4, kP, hkP, hkPi⟩ := Cond.selects_spec hsel
  obtain ⟨mk, methM, hnamed, hmethM, -, -⟩ := Cond.instanceMethod_spec hinst
  have hfound : s.methodFound? y.cls y.name y.desc = some mk := State.methodFound?_of_named hnamed hy
  have hcls : mk.cls = m2.cls := Option.some.inj ((findClass_of_methodNamed hnamed).symm.trans ((congrArg s.vm.findClass he).symm.trans (findClass_of_methodNamed q3)))
  have hsl : selectMethod {} s.vm c2 mk = .method mk := selectMethod_private hmethM (Cond.privateMethod_at hpriv mk methM hnamed hmethM)
  simp only [Cond.before, Cond.holds, Cond.value, q1, hfound, hnamed, hsl, hcls, hkP]
  simp; exact hkPi
theorem lw_big_ok {args : Array Value} {s : State} (hts : ∀ w ∈ lw_tbl, w.before args s = true) : ∀ w ∈ lw_big, w.before args s = true := by
  intro w hw
  rcases List.mem_append.mp hw with hw | hw
  rotate_left
  · exact hts w hw
  have hsel : (Cond.selects RJ4 ⟨"java/lang/AbstractStringBuilder", "isLatin1", "()Z"⟩ ⟨"java/lang/AbstractStringBuilder", "isLatin1", "()Z"⟩).before args s = true := hts _ (tb_3 _ (List.mem_of_getElem? (i := 59) rfl))
  simp only [lw_x, List.mem_cons, List.not_mem_nil, or_false] at hw
  rcases hw with rfl | rfl | rfl | rfl | rfl | rfl
  · exact sel_priv (y := yJ5_ensureCapacityInternal_d00df) (y2 := ⟨"java/lang/AbstractStringBuilder", "isLatin1", "()Z"⟩) ⟨by decide, by decide⟩ hsel rfl (hts _ (tb_3 _ (List.mem_of_getElem? (i := 22) rfl))) (hts _ (tb_3 _ (List.mem_of_getElem? (i := 23) rfl)))
  · exact sel_priv (y := yJ5_newCapacity_0f7a4) (y2 := ⟨"java/lang/AbstractStringBuilder", "isLatin1", "()Z"⟩) ⟨by decide, by decide⟩ hsel rfl (hts _ (tb_3 _ (List.mem_of_getElem? (i := 26) rfl))) (hts _ (tb_3 _ (List.mem_of_getElem? (i := 27) rfl)))
  · exact sel_priv (y := yJ5_inflate_da8c8) (y2 := ⟨"java/lang/AbstractStringBuilder", "isLatin1", "()Z"⟩) ⟨by decide, by decide⟩ hsel rfl (hts _ (tb_3 _ (List.mem_of_getElem? (i := 111) rfl))) (hts _ (tb_3 _ (List.mem_of_getElem? (i := 112) rfl)))
  · exact sel_priv (y := yJ5_appendNull_278bc) (y2 := ⟨"java/lang/AbstractStringBuilder", "isLatin1", "()Z"⟩) ⟨by decide, by decide⟩ hsel rfl (hts _ (tb_3 _ (List.mem_of_getElem? (i := 82) rfl))) (hts _ (tb_3 _ (List.mem_of_getElem? (i := 83) rfl)))
  · exact sel_priv (y := yJ5_putStringAt_47b60) (y2 := ⟨"java/lang/AbstractStringBuilder", "isLatin1", "()Z"⟩) ⟨by decide, by decide⟩ hsel rfl (hts _ (tb_3 _ (List.mem_of_getElem? (i := 102) rfl))) (hts _ (tb_3 _ (List.mem_of_getElem? (i := 103) rfl)))
  · exact sel_priv (y := yJ5_inflateIfNeededFor_a7421) (y2 := ⟨"java/lang/AbstractStringBuilder", "isLatin1", "()Z"⟩) ⟨by decide, by decide⟩ hsel rfl (hts _ (tb_3 _ (List.mem_of_getElem? (i := 106) rfl))) (hts _ (tb_3 _ (List.mem_of_getElem? (i := 107) rfl)))
set_option maxRecDepth 100000 in
theorem GWc0_m_0 : (Cond.code yX0_init cX0_init 1 none) ∈ lw_big := List.mem_append_right _ (tb_1 _ (List.mem_of_getElem? (i := 181) rfl))
set_option maxRecDepth 100000 in
theorem GWc0_m_1 : (Cond.methodLink RX0 3 objectInit) ∈ lw_big := List.mem_append_right _ (tb_1 _ (List.mem_of_getElem? (i := 182) rfl))
set_option maxRecDepth 100000 in
theorem GWc0_m_2 : (Cond.instanceMethod objectInit) ∈ lw_big := List.mem_append_right _ (tb_1 _ (List.mem_of_getElem? (i := 36) rfl))
set_option maxRecDepth 100000 in
theorem GWc0_m_3 : (Cond.code objectInit ⟨#[0xb1]⟩ 1 none) ∈ lw_big := List.mem_append_right _ (tb_1 _ (List.mem_of_getElem? (i := 37) rfl))
set_option maxRecDepth 100000 in
theorem GWc0_m_4 : (Cond.arrayClass .boolean) ∈ lw_big := List.mem_append_right _ (tb_1 _ (List.mem_of_getElem? (i := 192) rfl))
set_option maxRecDepth 100000 in
theorem GWc0_m_5 : (Cond.fieldLink RX0 11 "PhraseDesk$Converters" "there" "[Z") ∈ lw_big := List.mem_append_right _ (tb_1 _ (List.mem_of_getElem? (i := 185) rfl))
set_option maxRecDepth 100000 in
theorem GWc0_m_6 : (Cond.classLink RX0 15 RJ4) ∈ lw_big := List.mem_append_right _ (tb_1 _ (List.mem_of_getElem? (i := 183) rfl))
set_option maxRecDepth 100000 in
theorem GWc0_m_7 : (Cond.instantiable RJ4 4) ∈ lw_big := List.mem_append_right _ (tb_1 _ (List.mem_of_getElem? (i := 53) rfl))
set_option maxRecDepth 100000 in
theorem GWc0_m_8 : (Cond.initialized RJ4) ∈ lw_big := List.mem_append_right _ (tb_1 _ (List.mem_of_getElem? (i := 5) rfl))
set_option maxRecDepth 100000 in
theorem GWc0_m_9 : (Cond.fieldLink RX0 18 "PhraseDesk$Converters" "scratch" "Ljava/lang/StringBuilder;") ∈ lw_big := List.mem_append_right _ (tb_1 _ (List.mem_of_getElem? (i := 186) rfl))
set_option maxRecDepth 100000 in
theorem GWc0_m_10 : (Cond.methodLink RX0 17 yJ4_init_da8c8) ∈ lw_big := List.mem_append_right _ (tb_1 _ (List.mem_of_getElem? (i := 184) rfl))
set_option maxRecDepth 100000 in
theorem GWc0_m_11 : (Cond.instanceMethod yJ4_init_da8c8) ∈ lw_big := List.mem_append_right _ (tb_1 _ (List.mem_of_getElem? (i := 55) rfl))
set_option maxRecDepth 100000 in
theorem GWc0_m_12 : (Cond.code yJ4_init_da8c8 cJ4_init_da8c8 1 none) ∈ lw_big := List.mem_append_right _ (tb_1 _ (List.mem_of_getElem? (i := 56) rfl))
set_option maxRecDepth 100000 in
theorem GWc0_m_13 : (Cond.methodLink RJ4 1 yJ5_init_d00df) ∈ lw_big := List.mem_append_right _ (tb_1 _ (List.mem_of_getElem? (i := 57) rfl))
set_option maxRecDepth 100000 in
theorem GWc0_m_14 : (Cond.instanceMethod yJ5_init_d00df) ∈ lw_big := List.mem_append_right _ (tb_1 _ (List.mem_of_getElem? (i := 58) rfl))
set_option maxRecDepth 100000 in
theorem GWc0_m_15 : (Cond.initialized RJ5) ∈ lw_big := List.mem_append_right _ (tb_1 _ (List.mem_of_getElem? (i := 4) rfl))
set_option maxRecDepth 100000 in
theorem GWc0_m_16 : (Cond.code yJ5_init_d00df cJ5_init_d00df 2 none) ∈ lw_big := List.mem_append_right _ (tb_1 _ (List.mem_of_getElem? (i := 59) rfl))
set_option maxRecDepth 100000 in
theorem GWc0_m_17 : (Cond.methodLink RJ5 3 objectInit) ∈ lw_big := List.mem_append_right _ (tb_1 _ (List.mem_of_getElem? (i := 60) rfl))
set_option maxRecDepth 100000 in
theorem GWc0_m_18 : (Cond.fieldLink RJ5 18 "java/lang/String" "COMPACT_STRINGS" "Z") ∈ lw_big := List.mem_append_right _ (tb_1 _ (List.mem_of_getElem? (i := 61) rfl))
set_option maxRecDepth 100000 in
theorem GWc0_m_19 : (Cond.arrayClass .byte) ∈ lw_big := List.mem_append_right _ (tb_1 _ (List.mem_of_getElem? (i := 86) rfl))
set_option maxRecDepth 100000 in
theorem GWc0_m_20 : (Cond.fieldLink RJ5 15 "java/lang/AbstractStringBuilder" "value" "[B") ∈ lw_big := List.mem_append_right _ (tb_1 _ (List.mem_of_getElem? (i := 70) rfl))
set_option maxRecDepth 100000 in
theorem GWc0_m_21 : (Cond.fieldLink RJ5 22 "java/lang/AbstractStringBuilder" "coder" "B") ∈ lw_big := List.mem_append_right _ (tb_1 _ (List.mem_of_getElem? (i := 71) rfl))
set_option maxRecDepth 100000 in
theorem GWc0_m_22 : (Cond.methodLink RJ5 26 yJ2_newBytesFor_77867) ∈ lw_big := List.mem_append_right _ (tb_1 _ (List.mem_of_getElem? (i := 63) rfl))
set_option maxRecDepth 100000 in
theorem GWc0_m_23 : (Cond.static yJ2_newBytesFor_77867) ∈ lw_big := List.mem_append_right _ (tb_1 _ (List.mem_of_getElem? (i := 64) rfl))
set_option maxRecDepth 100000 in
theorem GWc0_m_24 : (Cond.initialized RJ2) ∈ lw_big := List.mem_append_right _ (tb_1 _ (List.mem_of_getElem? (i := 7) rfl))
set_option maxRecDepth 100000 in
theorem GWc0_m_25 : (Cond.code yJ2_newBytesFor_77867 cJ2_newBytesFor_77867 1 (some (.array .byte))) ∈ lw_big := List.mem_append_right _ (tb_1 _ (List.mem_of_getElem? (i := 65) rfl))
set_option maxRecDepth 100000 in
theorem GWc0_m_26 : (Cond.methodLink RJ2 11 yJ2_newBytesLength_0f7a4) ∈ lw_big := List.mem_append_right _ (tb_1 _ (List.mem_of_getElem? (i := 66) rfl))
set_option maxRecDepth 100000 in
theorem GWc0_m_27 : (Cond.static yJ2_newBytesLength_0f7a4) ∈ lw_big := List.mem_append_right _ (tb_1 _ (List.mem_of_getElem? (i := 67) rfl))
set_option maxRecDepth 100000 in
theorem GWc0_m_28 : (Cond.code yJ2_newBytesLength_0f7a4 cJ2_newBytesLength_0f7a4 1 (some .int)) ∈ lw_big := List.mem_append_right _ (tb_1 _ (List.mem_of_getElem? (i := 68) rfl))
set_option maxRecDepth 100000 in
theorem GWc0_m_29 : (Cond.constant RJ2 20 (1073741823)) ∈ lw_big := List.mem_append_right _ (tb_1 _ (List.mem_of_getElem? (i := 69) rfl))
set_option maxRecDepth 100000 in
theorem GWc0_m_30 : (Cond.code yX0_change cX0_change 6 (some .boolean)) ∈ lw_big := List.mem_append_right _ (tb_5 _ (List.mem_of_getElem? (i := 104) rfl))
set_option maxRecDepth 100000 in
theorem GWc0_m_31 : (Cond.methodLink RX0 22 yX0_isThere) ∈ lw_big := List.mem_append_right _ (tb_5 _ (List.mem_of_getElem? (i := 105) rfl))
set_option maxRecDepth 100000 in
theorem GWc0_m_32 : (Cond.instanceMethod yX0_isThere) ∈ lw_big := List.mem_append_right _ (tb_5 _ (List.mem_of_getElem? (i := 107) rfl))
set_option maxRecDepth 100000 in
theorem GWc0_m_33 : (Cond.selects RX0 yX0_isThere yX0_isThere) ∈ lw_big := List.mem_append_right _ (List.mem_append_left _ (List.mem_of_getElem? (i := 27) (by decide +kernel)))
set_option maxRecDepth 100000 in
theorem GWc0_m_34 : (Cond.initialized RX0) ∈ lw_big := List.mem_append_right _ (tb_1 _ (List.mem_of_getElem? (i := 10) rfl))
set_option maxRecDepth 100000 in
theorem GWc0_m_35 : (Cond.code yX0_isThere cX0_isThere 4 (some .boolean)) ∈ lw_big := List.mem_append_right _ (tb_5 _ (List.mem_of_getElem? (i := 108) rfl))
set_option maxRecDepth 100000 in
theorem GWc0_m_36 : (Cond.code yX0_suit cX0_suit 3 (some .boolean)) ∈ lw_big := List.mem_append_right _ (tb_5 _ (List.mem_of_getElem? (i := 204) rfl))
set_option maxRecDepth 100000 in
theorem GWc0_m_37 : (Cond.methodLink RX0 26 yX10_fits) ∈ lw_big := List.mem_append_right _ (tb_5 _ (List.mem_of_getElem? (i := 205) rfl))
set_option maxRecDepth 100000 in
theorem GWc0_m_38 : (Cond.instanceMethod yX10_fits) ∈ lw_big := List.mem_append_right _ (tb_5 _ (List.mem_of_getElem? (i := 186) rfl))
set_option maxRecDepth 100000 in
theorem GWc0_m_39 : (Cond.selects RX10 yX10_fits yX10_fits) ∈ lw_big := List.mem_append_right _ (tb_5 _ (List.mem_of_getElem? (i := 187) rfl))
theorem GWc0_b : ∀ w ∈ GWc0, w ∈ lw_big := List.forall_mem_cons.mpr ⟨GWc0_m_0, List.forall_mem_cons.mpr ⟨GWc0_m_1, List.forall_mem_cons.mpr ⟨GWc0_m_2, List.forall_mem_cons.mpr ⟨GWc0_m_3, List.forall_mem_cons.mpr ⟨GWc0_m_4, List.forall_mem_cons.mpr ⟨GWc0_m_5, List.forall_mem_cons.mpr ⟨GWc0_m_6, List.forall_mem_cons.mpr ⟨GWc0_m_7, List.forall_mem_cons.mpr ⟨GWc0_m_8, List.forall_mem_cons.mpr ⟨GWc0_m_9, List.forall_mem_cons.mpr ⟨GWc0_m_10, List.forall_mem_cons.mpr ⟨GWc0_m_11, List.forall_mem_cons.mpr ⟨GWc0_m_12, List.forall_mem_cons.mpr ⟨GWc0_m_13, List.forall_mem_cons.mpr ⟨GWc0_m_14, List.forall_mem_cons.mpr ⟨GWc0_m_15, List.forall_mem_cons.mpr ⟨GWc0_m_16, List.forall_mem_cons.mpr ⟨GWc0_m_17, List.forall_mem_cons.mpr ⟨GWc0_m_18, List.forall_mem_cons.mpr ⟨GWc0_m_19, List.forall_mem_cons.mpr ⟨GWc0_m_20, List.forall_mem_cons.mpr ⟨GWc0_m_21, List.forall_mem_cons.mpr ⟨GWc0_m_22, List.forall_mem_cons.mpr ⟨GWc0_m_23, List.forall_mem_cons.mpr ⟨GWc0_m_24, List.forall_mem_cons.mpr ⟨GWc0_m_25, List.forall_mem_cons.mpr ⟨GWc0_m_26, List.forall_mem_cons.mpr ⟨GWc0_m_27, List.forall_mem_cons.mpr ⟨GWc0_m_28, List.forall_mem_cons.mpr ⟨GWc0_m_29, List.forall_mem_cons.mpr ⟨GWc0_m_30, List.forall_mem_cons.mpr ⟨GWc0_m_31, List.forall_mem_cons.mpr ⟨GWc0_m_32, List.forall_mem_cons.mpr ⟨GWc0_m_33, List.forall_mem_cons.mpr ⟨GWc0_m_34, List.forall_mem_cons.mpr ⟨GWc0_m_35, List.forall_mem_cons.mpr ⟨GWc0_m_36, List.forall_mem_cons.mpr ⟨GWc0_m_37, List.forall_mem_cons.mpr ⟨GWc0_m_38, List.forall_mem_cons.mpr ⟨GWc0_m_39, fun _ h => absurd h List.not_mem_nil⟩⟩⟩⟩⟩⟩⟩⟩⟩⟩⟩⟩⟩⟩⟩⟩⟩⟩⟩⟩⟩⟩⟩⟩⟩⟩⟩⟩⟩⟩⟩⟩⟩⟩⟩⟩⟩⟩⟩⟩
set_option maxRecDepth 100000 in
theorem GWc1_m_0 : (Cond.initialized RX10) ∈ lw_big := List.mem_append_right _ (tb_1 _ (List.mem_of_getElem? (i := 9) rfl))
set_option maxRecDepth 100000 in
theorem GWc1_m_1 : (Cond.code yX10_fits cX10_fits 2 (some .boolean)) ∈ lw_big := List.mem_append_right _ (tb_5 _ (List.mem_of_getElem? (i := 188) rfl))
set_option maxRecDepth 100000 in
theorem GWc1_m_2 : (Cond.fieldLink RX10 9 "PhraseDesk$Value" "kind" "I") ∈ lw_big := List.mem_append_right _ (tb_1 _ (List.mem_of_getElem? (i := 146) rfl))
set_option maxRecDepth 100000 in
theorem GWc1_m_3 : (Cond.methodLink RX10 51 yX10_stepsUpTo) ∈ lw_big := List.mem_append_right _ (tb_5 _ (List.mem_of_getElem? (i := 189) rfl))
set_option maxRecDepth 100000 in
theorem GWc1_m_4 : (Cond.instanceMethod yX10_stepsUpTo) ∈ lw_big := List.mem_append_right _ (tb_5 _ (List.mem_of_getElem? (i := 191) rfl))
set_option maxRecDepth 100000 in
theorem GWc1_m_5 : (Cond.selects RX10 yX10_stepsUpTo yX10_stepsUpTo) ∈ lw_big := List.mem_append_right _ (List.mem_append_left _ (List.mem_of_getElem? (i := 38) (by decide +kernel)))
set_option maxRecDepth 100000 in
theorem GWc1_m_6 : (Cond.code yX10_stepsUpTo cX10_stepsUpTo 4 (some .int)) ∈ lw_big := List.mem_append_right _ (tb_5 _ (List.mem_of_getElem? (i := 192) rfl))
set_option maxRecDepth 100000 in
theorem GWc1_m_7 : (Cond.fieldLink RX10 26 "PhraseDesk$Value" "thing" "LPhraseDesk$Thing;") ∈ lw_big := List.mem_append_right _ (tb_1 _ (List.mem_of_getElem? (i := 163) rfl))
set_option maxRecDepth 100000 in
theorem GWc1_m_8 : (Cond.fieldLink RX10 41 "PhraseDesk$Thing" "family" "LPhraseDesk$Family;") ∈ lw_big := List.mem_append_right _ (tb_5 _ (List.mem_of_getElem? (i := 81) rfl))
set_option maxRecDepth 100000 in
theorem GWc1_m_9 : (Cond.fieldLink RX10 47 "PhraseDesk$Family" "kind" "I") ∈ lw_big := List.mem_append_right _ (tb_4 _ (List.mem_of_getElem? (i := 179) rfl))
set_option maxRecDepth 100000 in
theorem GWc1_m_10 : (Cond.fieldLink RX10 55 "PhraseDesk$Family" "parent" "LPhraseDesk$Family;") ∈ lw_big := List.mem_append_right _ (tb_4 _ (List.mem_of_getElem? (i := 183) rfl))
set_option maxRecDepth 100000 in
theorem GWc1_m_11 : (Cond.methodLink RX0 32 yX0_reach) ∈ lw_big := List.mem_append_right _ (tb_5 _ (List.mem_of_getElem? (i := 206) rfl))
set_option maxRecDepth 100000 in
theorem GWc1_m_12 : (Cond.instanceMethod yX0_reach) ∈ lw_big := List.mem_append_right _ (tb_5 _ (List.mem_of_getElem? (i := 207) rfl))
set_option maxRecDepth 100000 in
theorem GWc1_m_13 : (Cond.selects RX0 yX0_reach yX0_reach) ∈ lw_big := List.mem_append_right _ (tb_5 _ (List.mem_of_getElem? (i := 208) rfl))
set_option maxRecDepth 100000 in
theorem GWc1_m_14 : (Cond.code yX0_reach cX0_reach 4 (some .boolean)) ∈ lw_big := List.mem_append_right _ (tb_5 _ (List.mem_of_getElem? (i := 209) rfl))
set_option maxRecDepth 100000 in
theorem GWc1_m_15 : (Cond.fieldLink RX0 36 "PhraseDesk$Value" "kind" "I") ∈ lw_big := List.mem_append_right _ (tb_1 _ (List.mem_of_getElem? (i := 148) rfl))
set_option maxRecDepth 100000 in
theorem GWc1_m_16 : (Cond.fieldLink RX0 40 "PhraseDesk$Value" "thing" "LPhraseDesk$Thing;") ∈ lw_big := List.mem_append_right _ (tb_1 _ (List.mem_of_getElem? (i := 164) rfl))
set_option maxRecDepth 100000 in
theorem GWc1_m_17 : (Cond.fieldLink RX0 44 "PhraseDesk$Thing" "family" "LPhraseDesk$Family;") ∈ lw_big := List.mem_append_right _ (tb_5 _ (List.mem_of_getElem? (i := 79) rfl))
set_option maxRecDepth 100000 in
theorem GWc1_m_18 : (Cond.fieldLink RX0 50 "PhraseDesk$Family" "parent" "LPhraseDesk$Family;") ∈ lw_big := List.mem_append_right _ (tb_4 _ (List.mem_of_getElem? (i := 182) rfl))
set_option maxRecDepth 100000 in
theorem GWc1_m_19 : (Cond.fieldLink RX0 55 "PhraseDesk$Family" "kind" "I") ∈ lw_big := List.mem_append_right _ (tb_4 _ (List.mem_of_getElem? (i := 178) rfl))
set_option maxRecDepth 100000 in
theorem GWc1_m_20 : (Cond.code yX0_convert cX0_convert 4 (some (.object "PhraseDesk$Value"))) ∈ lw_big := List.mem_append_right _ (tb_5 _ (List.mem_of_getElem? (i := 219) rfl))
set_option maxRecDepth 100000 in
theorem GWc1_m_21 : (Cond.fieldLink RX0 63 "PhraseDesk$Value" "number" "I") ∈ lw_big := List.mem_append_right _ (tb_1 _ (List.mem_of_getElem? (i := 152) rfl))
set_option maxRecDepth 100000 in
theorem GWc1_m_22 : (Cond.methodLink RX0 56 yX0_toBool) ∈ lw_big := List.mem_append_right _ (tb_5 _ (List.mem_of_getElem? (i := 220) rfl))
set_option maxRecDepth 100000 in
theorem GWc1_m_23 : (Cond.static yX0_toBool) ∈ lw_big := List.mem_append_right _ (tb_5 _ (List.mem_of_getElem? (i := 221) rfl))
set_option maxRecDepth 100000 in
theorem GWc1_m_24 : (Cond.code yX0_toBool cX0_toBool 2 (some (.object "PhraseDesk$Value"))) ∈ lw_big := List.mem_append_right _ (tb_5 _ (List.mem_of_getElem? (i := 222) rfl))
set_option maxRecDepth 100000 in
theorem GWc1_m_25 : (Cond.fieldLink RX0 78 "PhraseDesk$Value" "chars" "Ljava/lang/String;") ∈ lw_big := List.mem_append_right _ (tb_1 _ (List.mem_of_getElem? (i := 161) rfl))
set_option maxRecDepth 100000 in
theorem GWc1_m_26 : (Cond.fieldLink RX0 96 "PhraseDesk$Value" "real" "D") ∈ lw_big := List.mem_append_right _ (tb_1 _ (List.mem_of_getElem? (i := 156) rfl))
set_option maxRecDepth 100000 in
theorem GWc1_m_27 : (Cond.methodLink RX0 84 yJ0_equals_9ea2d) ∈ lw_big := List.mem_append_right _ (tb_5 _ (List.mem_of_getElem? (i := 224) rfl))
set_option maxRecDepth 100000 in
theorem GWc1_m_28 : (Cond.instanceMethod yJ0_equals_9ea2d) ∈ lw_big := List.mem_append_right _ (tb_5 _ (List.mem_of_getElem? (i := 225) rfl))
set_option maxRecDepth 100000 in
theorem GWc1_m_29 : (Cond.selects RJ0 yJ0_equals_9ea2d yJ0_equals_9ea2d) ∈ lw_big := List.mem_append_right _ (tb_5 _ (List.mem_of_getElem? (i := 226) rfl))
set_option maxRecDepth 100000 in
theorem GWc1_m_30 : (Cond.initialized RJ0) ∈ lw_big := List.mem_append_right _ (tb_1 _ (List.mem_of_getElem? (i := 6) rfl))
set_option maxRecDepth 100000 in
theorem GWc1_m_31 : (Cond.code yJ0_equals_9ea2d cJ0_equals_9ea2d 3 (some .boolean)) ∈ lw_big := List.mem_append_right _ (tb_5 _ (List.mem_of_getElem? (i := 227) rfl))
set_option maxRecDepth 100000 in
theorem GWc1_m_32 : (Cond.classLink RJ0 10 "java/lang/String") ∈ lw_big := List.mem_append_right _ (tb_5 _ (List.mem_of_getElem? (i := 228) rfl))
set_option maxRecDepth 100000 in
theorem GWc1_m_33 : (Cond.fieldLink RJ0 38 "java/lang/String" "COMPACT_STRINGS" "Z") ∈ lw_big := List.mem_append_right _ (tb_2 _ (List.mem_of_getElem? (i := 53) rfl))
set_option maxRecDepth 100000 in
theorem GWc1_m_34 : (Cond.fieldLink RJ0 15 "java/lang/String" "coder" "B") ∈ lw_big := List.mem_append_right _ (tb_3 _ (List.mem_of_getElem? (i := 211) rfl))
set_option maxRecDepth 100000 in
theorem GWc1_m_35 : (Cond.fieldLink RJ0 9 "java/lang/String" "value" "[B") ∈ lw_big := List.mem_append_right _ (tb_3 _ (List.mem_of_getElem? (i := 210) rfl))
set_option maxRecDepth 100000 in
theorem GWc1_m_36 : (Cond.methodLink RJ0 541 yJ1_equals_b5fdf) ∈ lw_big := List.mem_append_right _ (tb_5 _ (List.mem_of_getElem? (i := 229) rfl))
set_option maxRecDepth 100000 in
theorem GWc1_m_37 : (Cond.static yJ1_equals_b5fdf) ∈ lw_big := List.mem_append_right _ (tb_5 _ (List.mem_of_getElem? (i := 230) rfl))
set_option maxRecDepth 100000 in
theorem GWc1_m_38 : (Cond.initialized RJ1) ∈ lw_big := List.mem_append_right _ (tb_1 _ (List.mem_of_getElem? (i := 22) rfl))
set_option maxRecDepth 100000 in
theorem GWc1_m_39 : (Cond.code yJ1_equals_b5fdf cJ1_equals_b5fdf 3 (some .boolean)) ∈ lw_big := List.mem_append_right _ (tb_5 _ (List.mem_of_getElem? (i := 231) rfl))
theorem GWc1_b : ∀ w ∈ GWc1, w ∈ lw_big := List.forall_mem_cons.mpr ⟨GWc1_m_0, List.forall_mem_cons.mpr ⟨GWc1_m_1, List.forall_mem_cons.mpr ⟨GWc1_m_2, List.forall_mem_cons.mpr ⟨GWc1_m_3, List.forall_mem_cons.mpr ⟨GWc1_m_4, List.forall_mem_cons.mpr ⟨GWc1_m_5, List.forall_mem_cons.mpr ⟨GWc1_m_6, List.forall_mem_cons.mpr ⟨GWc1_m_7, List.forall_mem_cons.mpr ⟨GWc1_m_8, List.forall_mem_cons.mpr ⟨GWc1_m_9, List.forall_mem_cons.mpr ⟨GWc1_m_10, List.forall_mem_cons.mpr ⟨GWc1_m_11, List.forall_mem_cons.mpr ⟨GWc1_m_12, List.forall_mem_cons.mpr ⟨GWc1_m_13, List.forall_mem_cons.mpr ⟨GWc1_m_14, List.forall_mem_cons.mpr ⟨GWc1_m_15, List.forall_mem_cons.mpr ⟨GWc1_m_16, List.forall_mem_cons.mpr ⟨GWc1_m_17, List.forall_mem_cons.mpr ⟨GWc1_m_18, List.forall_mem_cons.mpr ⟨GWc1_m_19, List.forall_mem_cons.mpr ⟨GWc1_m_20, List.forall_mem_cons.mpr ⟨GWc1_m_21, List.forall_mem_cons.mpr ⟨GWc1_m_22, List.forall_mem_cons.mpr ⟨GWc1_m_23, List.forall_mem_cons.mpr ⟨GWc1_m_24, List.forall_mem_cons.mpr ⟨GWc1_m_25, List.forall_mem_cons.mpr ⟨GWc1_m_26, List.forall_mem_cons.mpr ⟨GWc1_m_27, List.forall_mem_cons.mpr ⟨GWc1_m_28, List.forall_mem_cons.mpr ⟨GWc1_m_29, List.forall_mem_cons.mpr ⟨GWc1_m_30, List.forall_mem_cons.mpr ⟨GWc1_m_31, List.forall_mem_cons.mpr ⟨GWc1_m_32, List.forall_mem_cons.mpr ⟨GWc1_m_33, List.forall_mem_cons.mpr ⟨GWc1_m_34, List.forall_mem_cons.mpr ⟨GWc1_m_35, List.forall_mem_cons.mpr ⟨GWc1_m_36, List.forall_mem_cons.mpr ⟨GWc1_m_37, List.forall_mem_cons.mpr ⟨GWc1_m_38, List.forall_mem_cons.mpr ⟨GWc1_m_39, fun _ h => absurd h List.not_mem_nil⟩⟩⟩⟩⟩⟩⟩⟩⟩⟩⟩⟩⟩⟩⟩⟩⟩⟩⟩⟩⟩⟩⟩⟩⟩⟩⟩⟩⟩⟩⟩⟩⟩⟩⟩⟩⟩⟩⟩⟩
set_option maxRecDepth 100000 in
theorem GWc2_m_0 : (Cond.methodLink RX0 92 yX10_ofBool) ∈ lw_big := List.mem_append_right _ (tb_5 _ (List.mem_of_getElem? (i := 233) rfl))
set_option maxRecDepth 100000 in
theorem GWc2_m_1 : (Cond.static yX10_ofBool) ∈ lw_big := List.mem_append_right _ (tb_4 _ (List.mem_of_getElem? (i := 125) rfl))
set_option maxRecDepth 100000 in
theorem GWc2_m_2 : (Cond.code yX10_ofBool cX10_ofBool 1 (some (.object "PhraseDesk$Value"))) ∈ lw_big := List.mem_append_right _ (tb_4 _ (List.mem_of_getElem? (i := 126) rfl))
set_option maxRecDepth 100000 in
theorem GWc2_m_3 : (Cond.classLink RX10 10 RX10) ∈ lw_big := List.mem_append_right _ (tb_1 _ (List.mem_of_getElem? (i := 139) rfl))
set_option maxRecDepth 100000 in
theorem GWc2_m_4 : (Cond.instantiable RX10 5) ∈ lw_big := List.mem_append_right _ (tb_1 _ (List.mem_of_getElem? (i := 140) rfl))
set_option maxRecDepth 100000 in
theorem GWc2_m_5 : (Cond.methodLink RX10 32 yX10_init) ∈ lw_big := List.mem_append_right _ (tb_1 _ (List.mem_of_getElem? (i := 142) rfl))
set_option maxRecDepth 100000 in
theorem GWc2_m_6 : (Cond.instanceMethod yX10_init) ∈ lw_big := List.mem_append_right _ (tb_1 _ (List.mem_of_getElem? (i := 143) rfl))
set_option maxRecDepth 100000 in
theorem GWc2_m_7 : (Cond.code yX10_init cX10_init 7 none) ∈ lw_big := List.mem_append_right _ (tb_1 _ (List.mem_of_getElem? (i := 144) rfl))
set_option maxRecDepth 100000 in
theorem GWc2_m_8 : (Cond.methodLink RX10 3 objectInit) ∈ lw_big := List.mem_append_right _ (tb_1 _ (List.mem_of_getElem? (i := 145) rfl))
set_option maxRecDepth 100000 in
theorem GWc2_m_9 : (Cond.fieldLink RX10 15 "PhraseDesk$Value" "number" "I") ∈ lw_big := List.mem_append_right _ (tb_1 _ (List.mem_of_getElem? (i := 151) rfl))
set_option maxRecDepth 100000 in
theorem GWc2_m_10 : (Cond.fieldLink RX10 18 "PhraseDesk$Value" "real" "D") ∈ lw_big := List.mem_append_right _ (tb_1 _ (List.mem_of_getElem? (i := 155) rfl))
set_option maxRecDepth 100000 in
theorem GWc2_m_11 : (Cond.fieldLink RX10 22 "PhraseDesk$Value" "chars" "Ljava/lang/String;") ∈ lw_big := List.mem_append_right _ (tb_1 _ (List.mem_of_getElem? (i := 159) rfl))
set_option maxRecDepth 100000 in
theorem GWc2_m_12 : (Cond.methodLink RX0 60 yX0_toInt) ∈ lw_big := List.mem_append_right _ (tb_5 _ (List.mem_of_getElem? (i := 234) rfl))
set_option maxRecDepth 100000 in
theorem GWc2_m_13 : (Cond.static yX0_toInt) ∈ lw_big := List.mem_append_right _ (tb_5 _ (List.mem_of_getElem? (i := 235) rfl))
set_option maxRecDepth 100000 in
theorem GWc2_m_14 : (Cond.code yX0_toInt cX0_toInt 8 (some (.object "PhraseDesk$Value"))) ∈ lw_big := List.mem_append_right _ (tb_5 _ (List.mem_of_getElem? (i := 236) rfl))
set_option maxRecDepth 100000 in
theorem GWc2_m_15 : (Cond.methodLink RX0 100 yX10_ofInt) ∈ lw_big := List.mem_append_right _ (tb_5 _ (List.mem_of_getElem? (i := 237) rfl))
set_option maxRecDepth 100000 in
theorem GWc2_m_16 : (Cond.static yX10_ofInt) ∈ lw_big := List.mem_append_right _ (tb_2 _ (List.mem_of_getElem? (i := 231) rfl))
set_option maxRecDepth 100000 in
theorem GWc2_m_17 : (Cond.code yX10_ofInt cX10_ofInt 1 (some (.object "PhraseDesk$Value"))) ∈ lw_big := List.mem_append_right _ (tb_2 _ (List.mem_of_getElem? (i := 232) rfl))
set_option maxRecDepth 100000 in
theorem GWc2_m_18 : (Cond.methodLink RX0 104 yJ0_length_8abf5) ∈ lw_big := List.mem_append_right _ (tb_5 _ (List.mem_of_getElem? (i := 238) rfl))
set_option maxRecDepth 100000 in
theorem GWc2_m_19 : (Cond.instanceMethod yJ0_length_8abf5) ∈ lw_big := List.mem_append_right _ (tb_2 _ (List.mem_of_getElem? (i := 46) rfl))
set_option maxRecDepth 100000 in
theorem GWc2_m_20 : (Cond.selects RJ0 yJ0_length_8abf5 yJ0_length_8abf5) ∈ lw_big := List.mem_append_right _ (tb_2 _ (List.mem_of_getElem? (i := 47) rfl))
set_option maxRecDepth 100000 in
theorem GWc2_m_21 : (Cond.code yJ0_length_8abf5 cJ0_length_8abf5 1 (some .int)) ∈ lw_big := List.mem_append_right _ (tb_2 _ (List.mem_of_getElem? (i := 48) rfl))
set_option maxRecDepth 100000 in
theorem GWc2_m_22 : (Cond.methodLink RJ0 335 yJ0_coder_7d493) ∈ lw_big := List.mem_append_right _ (tb_2 _ (List.mem_of_getElem? (i := 49) rfl))
set_option maxRecDepth 100000 in
theorem GWc2_m_23 : (Cond.instanceMethod yJ0_coder_7d493) ∈ lw_big := List.mem_append_right _ (tb_2 _ (List.mem_of_getElem? (i := 50) rfl))
set_option maxRecDepth 100000 in
theorem GWc2_m_24 : (Cond.selects RJ0 yJ0_coder_7d493 yJ0_coder_7d493) ∈ lw_big := List.mem_append_right _ (tb_2 _ (List.mem_of_getElem? (i := 51) rfl))
set_option maxRecDepth 100000 in
theorem GWc2_m_25 : (Cond.code yJ0_coder_7d493 cJ0_coder_7d493 1 (some .byte)) ∈ lw_big := List.mem_append_right _ (tb_2 _ (List.mem_of_getElem? (i := 52) rfl))
set_option maxRecDepth 100000 in
theorem GWc2_m_26 : (Cond.methodLink RX0 108 yJ0_charAt_5068e) ∈ lw_big := List.mem_append_right _ (tb_5 _ (List.mem_of_getElem? (i := 239) rfl))
set_option maxRecDepth 100000 in
theorem GWc2_m_27 : (Cond.instanceMethod yJ0_charAt_5068e) ∈ lw_big := List.mem_append_right _ (tb_2 _ (List.mem_of_getElem? (i := 55) rfl))
set_option maxRecDepth 100000 in
theorem GWc2_m_28 : (Cond.selects RJ0 yJ0_charAt_5068e yJ0_charAt_5068e) ∈ lw_big := List.mem_append_right _ (tb_2 _ (List.mem_of_getElem? (i := 56) rfl))
set_option maxRecDepth 100000 in
theorem GWc2_m_29 : (Cond.code yJ0_charAt_5068e cJ0_charAt_5068e 2 (some .char)) ∈ lw_big := List.mem_append_right _ (tb_2 _ (List.mem_of_getElem? (i := 57) rfl))
set_option maxRecDepth 100000 in
theorem GWc2_m_30 : (Cond.methodLink RJ0 492 yJ0_isLatin1_aae02) ∈ lw_big := List.mem_append_right _ (tb_2 _ (List.mem_of_getElem? (i := 58) rfl))
set_option maxRecDepth 100000 in
theorem GWc2_m_31 : (Cond.instanceMethod yJ0_isLatin1_aae02) ∈ lw_big := List.mem_append_right _ (tb_2 _ (List.mem_of_getElem? (i := 59) rfl))
set_option maxRecDepth 100000 in
theorem GWc2_m_32 : (Cond.selects RJ0 yJ0_isLatin1_aae02 yJ0_isLatin1_aae02) ∈ lw_big := List.mem_append_right _ (tb_2 _ (List.mem_of_getElem? (i := 60) rfl))
set_option maxRecDepth 100000 in
theorem GWc2_m_33 : (Cond.code yJ0_isLatin1_aae02 cJ0_isLatin1_aae02 1 (some .boolean)) ∈ lw_big := List.mem_append_right _ (tb_2 _ (List.mem_of_getElem? (i := 61) rfl))
set_option maxRecDepth 100000 in
theorem GWc2_m_34 : (Cond.methodLink RJ0 495 yJ1_charAt_3b067) ∈ lw_big := List.mem_append_right _ (tb_2 _ (List.mem_of_getElem? (i := 62) rfl))
set_option maxRecDepth 100000 in
theorem GWc2_m_35 : (Cond.static yJ1_charAt_3b067) ∈ lw_big := List.mem_append_right _ (tb_2 _ (List.mem_of_getElem? (i := 63) rfl))
set_option maxRecDepth 100000 in
theorem GWc2_m_36 : (Cond.code yJ1_charAt_3b067 cJ1_charAt_3b067 2 (some .char)) ∈ lw_big := List.mem_append_right _ (tb_2 _ (List.mem_of_getElem? (i := 64) rfl))
set_option maxRecDepth 100000 in
theorem GWc2_m_37 : (Cond.methodLink RJ1 9 yJ0_checkIndex_df160) ∈ lw_big := List.mem_append_right _ (tb_2 _ (List.mem_of_getElem? (i := 65) rfl))
set_option maxRecDepth 100000 in
theorem GWc2_m_38 : (Cond.static yJ0_checkIndex_df160) ∈ lw_big := List.mem_append_right _ (tb_2 _ (List.mem_of_getElem? (i := 66) rfl))
set_option maxRecDepth 100000 in
theorem GWc2_m_39 : (Cond.code yJ0_checkIndex_df160 cJ0_checkIndex_df160 2 none) ∈ lw_big := List.mem_append_right _ (tb_2 _ (List.mem_of_getElem? (i := 67) rfl))
theorem GWc2_b : ∀ w ∈ GWc2, w ∈ lw_big := List.forall_mem_cons.mpr ⟨GWc2_m_0, List.forall_mem_cons.mpr ⟨GWc2_m_1, List.forall_mem_cons.mpr ⟨GWc2_m_2, List.forall_mem_cons.mpr ⟨GWc2_m_3, List.forall_mem_cons.mpr ⟨GWc2_m_4, List.forall_mem_cons.mpr ⟨GWc2_m_5, List.forall_mem_cons.mpr ⟨GWc2_m_6, List.forall_mem_cons.mpr ⟨GWc2_m_7, List.forall_mem_cons.mpr ⟨GWc2_m_8, List.forall_mem_cons.mpr ⟨GWc2_m_9, List.forall_mem_cons.mpr ⟨GWc2_m_10, List.forall_mem_cons.mpr ⟨GWc2_m_11, List.forall_mem_cons.mpr ⟨GWc2_m_12, List.forall_mem_cons.mpr ⟨GWc2_m_13, List.forall_mem_cons.mpr ⟨GWc2_m_14, List.forall_mem_cons.mpr ⟨GWc2_m_15, List.forall_mem_cons.mpr ⟨GWc2_m_16, List.forall_mem_cons.mpr ⟨GWc2_m_17, List.forall_mem_cons.mpr ⟨GWc2_m_18, List.forall_mem_cons.mpr ⟨GWc2_m_19, List.forall_mem_cons.mpr ⟨GWc2_m_20, List.forall_mem_cons.mpr ⟨GWc2_m_21, List.forall_mem_cons.mpr ⟨GWc2_m_22, List.forall_mem_cons.mpr ⟨GWc2_m_23, List.forall_mem_cons.mpr ⟨GWc2_m_24, List.forall_mem_cons.mpr ⟨GWc2_m_25, List.forall_mem_cons.mpr ⟨GWc2_m_26, List.forall_mem_cons.mpr ⟨GWc2_m_27, List.forall_mem_cons.mpr ⟨GWc2_m_28, List.forall_mem_cons.mpr ⟨GWc2_m_29, List.forall_mem_cons.mpr ⟨GWc2_m_30, List.forall_mem_cons.mpr ⟨GWc2_m_31, List.forall_mem_cons.mpr ⟨GWc2_m_32, List.forall_mem_cons.mpr ⟨GWc2_m_33, List.forall_mem_cons.mpr ⟨GWc2_m_34, List.forall_mem_cons.mpr ⟨GWc2_m_35, List.forall_mem_cons.mpr ⟨GWc2_m_36, List.forall_mem_cons.mpr ⟨GWc2_m_37, List.forall_mem_cons.mpr ⟨GWc2_m_38, List.forall_mem_cons.mpr ⟨GWc2_m_39, fun _ h => absurd h List.not_mem_nil⟩⟩⟩⟩⟩⟩⟩⟩⟩⟩⟩⟩⟩⟩⟩⟩⟩⟩⟩⟩⟩⟩⟩⟩⟩⟩⟩⟩⟩⟩⟩⟩⟩⟩⟩⟩⟩⟩⟩⟩
set_option maxRecDepth 100000 in
theorem GWc3_m_0 : (Cond.fieldLink RJ0 1053 "jdk/internal/util/Preconditions" "SIOOBE_FORMATTER" "Ljava/util/function/BiFunction;") ∈ lw_big := List.mem_append_right _ (tb_2 _ (List.mem_of_getElem? (i := 68) rfl))
set_option maxRecDepth 100000 in
theorem GWc3_m_1 : (Cond.methodLink RJ0 1059 yJ3_checkIndex_8e157) ∈ lw_big := List.mem_append_right _ (tb_2 _ (List.mem_of_getElem? (i := 70) rfl))
set_option maxRecDepth 100000 in
theorem GWc3_m_2 : (Cond.static yJ3_checkIndex_8e157) ∈ lw_big := List.mem_append_right _ (tb_2 _ (List.mem_of_getElem? (i := 71) rfl))
set_option maxRecDepth 100000 in
theorem GWc3_m_3 : (Cond.initialized RJ3) ∈ lw_big := List.mem_append_right _ (tb_1 _ (List.mem_of_getElem? (i := 23) rfl))
set_option maxRecDepth 100000 in
theorem GWc3_m_4 : (Cond.code yJ3_checkIndex_8e157 cJ3_checkIndex_8e157 3 (some .int)) ∈ lw_big := List.mem_append_right _ (tb_2 _ (List.mem_of_getElem? (i := 72) rfl))
set_option maxRecDepth 100000 in
theorem GWc3_m_5 : (Cond.methodLink RJ0 498 yJ2_charAt_3b067) ∈ lw_big := List.mem_append_right _ (tb_2 _ (List.mem_of_getElem? (i := 73) rfl))
set_option maxRecDepth 100000 in
theorem GWc3_m_6 : (Cond.static yJ2_charAt_3b067) ∈ lw_big := List.mem_append_right _ (tb_2 _ (List.mem_of_getElem? (i := 74) rfl))
set_option maxRecDepth 100000 in
theorem GWc3_m_7 : (Cond.code yJ2_charAt_3b067 cJ2_charAt_3b067 2 (some .char)) ∈ lw_big := List.mem_append_right _ (tb_2 _ (List.mem_of_getElem? (i := 75) rfl))
set_option maxRecDepth 100000 in
theorem GWc3_m_8 : (Cond.methodLink RJ2 67 yJ2_checkIndex_2214a) ∈ lw_big := List.mem_append_right _ (tb_2 _ (List.mem_of_getElem? (i := 76) rfl))
set_option maxRecDepth 100000 in
theorem GWc3_m_9 : (Cond.static yJ2_checkIndex_2214a) ∈ lw_big := List.mem_append_right _ (tb_2 _ (List.mem_of_getElem? (i := 77) rfl))
set_option maxRecDepth 100000 in
theorem GWc3_m_10 : (Cond.code yJ2_checkIndex_2214a cJ2_checkIndex_2214a 2 none) ∈ lw_big := List.mem_append_right _ (tb_2 _ (List.mem_of_getElem? (i := 78) rfl))
set_option maxRecDepth 100000 in
theorem GWc3_m_11 : (Cond.methodLink RJ2 48 yJ2_length_9d52b) ∈ lw_big := List.mem_append_right _ (tb_2 _ (List.mem_of_getElem? (i := 79) rfl))
set_option maxRecDepth 100000 in
theorem GWc3_m_12 : (Cond.static yJ2_length_9d52b) ∈ lw_big := List.mem_append_right _ (tb_2 _ (List.mem_of_getElem? (i := 80) rfl))
set_option maxRecDepth 100000 in
theorem GWc3_m_13 : (Cond.code yJ2_length_9d52b cJ2_length_9d52b 1 (some .int)) ∈ lw_big := List.mem_append_right _ (tb_2 _ (List.mem_of_getElem? (i := 81) rfl))
set_option maxRecDepth 100000 in
theorem GWc3_m_14 : (Cond.methodLink RJ2 414 yJ0_checkIndex_df160) ∈ lw_big := List.mem_append_right _ (tb_2 _ (List.mem_of_getElem? (i := 82) rfl))
set_option maxRecDepth 100000 in
theorem GWc3_m_15 : (Cond.methodLink RJ2 71 yJ2_getChar_3b067) ∈ lw_big := List.mem_append_right _ (tb_2 _ (List.mem_of_getElem? (i := 83) rfl))
set_option maxRecDepth 100000 in
theorem GWc3_m_16 : (Cond.static yJ2_getChar_3b067) ∈ lw_big := List.mem_append_right _ (tb_2 _ (List.mem_of_getElem? (i := 84) rfl))
set_option maxRecDepth 100000 in
theorem GWc3_m_17 : (Cond.code yJ2_getChar_3b067 cJ2_getChar_3b067 2 (some .char)) ∈ lw_big := List.mem_append_right _ (tb_2 _ (List.mem_of_getElem? (i := 85) rfl))
set_option maxRecDepth 100000 in
theorem GWc3_m_18 : (Cond.fieldLink RJ2 44 "java/lang/StringUTF16" "$assertionsDisabled" "Z") ∈ lw_big := List.mem_append_right _ (tb_2 _ (List.mem_of_getElem? (i := 86) rfl))
set_option maxRecDepth 100000 in
theorem GWc3_m_19 : (Cond.fieldLink RJ2 59 "java/lang/StringUTF16" "HI_BYTE_SHIFT" "I") ∈ lw_big := List.mem_append_right _ (tb_2 _ (List.mem_of_getElem? (i := 88) rfl))
set_option maxRecDepth 100000 in
theorem GWc3_m_20 : (Cond.fieldLink RJ2 63 "java/lang/StringUTF16" "LO_BYTE_SHIFT" "I") ∈ lw_big := List.mem_append_right _ (tb_2 _ (List.mem_of_getElem? (i := 90) rfl))
set_option maxRecDepth 100000 in
theorem GWc3_m_21 : (Cond.methodLink RX0 66 yX10_ofReal) ∈ lw_big := List.mem_append_right _ (tb_6 _ (List.mem_of_getElem? (i := 0) rfl))
set_option maxRecDepth 100000 in
theorem GWc3_m_22 : (Cond.static yX10_ofReal) ∈ lw_big := List.mem_append_right _ (tb_3 _ (List.mem_of_getElem? (i := 1) rfl))
set_option maxRecDepth 100000 in
theorem GWc3_m_23 : (Cond.code yX10_ofReal cX10_ofReal 2 (some (.object "PhraseDesk$Value"))) ∈ lw_big := List.mem_append_right _ (tb_3 _ (List.mem_of_getElem? (i := 2) rfl))
set_option maxRecDepth 100000 in
theorem GWc3_m_24 : (Cond.methodLink RX0 70 yX0_asText) ∈ lw_big := List.mem_append_right _ (tb_6 _ (List.mem_of_getElem? (i := 1) rfl))
set_option maxRecDepth 100000 in
theorem GWc3_m_25 : (Cond.instanceMethod yX0_asText) ∈ lw_big := List.mem_append_right _ (tb_6 _ (List.mem_of_getElem? (i := 2) rfl))
set_option maxRecDepth 100000 in
theorem GWc3_m_26 : (Cond.selects RX0 yX0_asText yX0_asText) ∈ lw_big := List.mem_append_right _ (tb_6 _ (List.mem_of_getElem? (i := 3) rfl))
set_option maxRecDepth 100000 in
theorem GWc3_m_27 : (Cond.code yX0_asText cX0_asText 2 (some (.object "java/lang/String"))) ∈ lw_big := List.mem_append_right _ (tb_6 _ (List.mem_of_getElem? (i := 4) rfl))
set_option maxRecDepth 100000 in
theorem GWc3_m_28 : (Cond.methodLink RX0 114 yJ4_setLength_d00df) ∈ lw_big := List.mem_append_right _ (tb_6 _ (List.mem_of_getElem? (i := 6) rfl))
set_option maxRecDepth 100000 in
theorem GWc3_m_29 : (Cond.instanceMethod yJ4_setLength_d00df) ∈ lw_big := List.mem_append_right _ (tb_3 _ (List.mem_of_getElem? (i := 15) rfl))
set_option maxRecDepth 100000 in
theorem GWc3_m_30 : (Cond.selects RJ4 yJ4_setLength_d00df yJ4_setLength_d00df) ∈ lw_big := List.mem_append_right _ (tb_3 _ (List.mem_of_getElem? (i := 16) rfl))
set_option maxRecDepth 100000 in
theorem GWc3_m_31 : (Cond.code yJ4_setLength_d00df cJ4_setLength_d00df 2 none) ∈ lw_big := List.mem_append_right _ (tb_3 _ (List.mem_of_getElem? (i := 17) rfl))
set_option maxRecDepth 100000 in
theorem GWc3_m_32 : (Cond.methodLink RJ4 333 yJ5_setLength_d00df) ∈ lw_big := List.mem_append_right _ (tb_3 _ (List.mem_of_getElem? (i := 18) rfl))
set_option maxRecDepth 100000 in
theorem GWc3_m_33 : (Cond.sameMethod "java/lang/AbstractStringBuilder" "java/lang/AbstractStringBuilder" "setLength" "(I)V") ∈ lw_big := List.mem_append_right _ (tb_8 _ (List.mem_of_getElem? (i := 232) rfl))
set_option maxRecDepth 100000 in
theorem GWc3_m_34 : (Cond.superclass RJ4 RJ5) ∈ lw_big := List.mem_append_right _ (tb_1 _ (List.mem_of_getElem? (i := 83) rfl))
set_option maxRecDepth 100000 in
theorem GWc3_m_35 : (Cond.instanceMethod yJ5_setLength_d00df) ∈ lw_big := List.mem_append_right _ (tb_3 _ (List.mem_of_getElem? (i := 19) rfl))
set_option maxRecDepth 100000 in
theorem GWc3_m_36 : (Cond.code yJ5_setLength_d00df cJ5_setLength_d00df 2 none) ∈ lw_big := List.mem_append_right _ (tb_3 _ (List.mem_of_getElem? (i := 20) rfl))
set_option maxRecDepth 100000 in
theorem GWc3_m_37 : (Cond.fieldLink RJ5 79 "java/lang/AbstractStringBuilder" "count" "I") ∈ lw_big := List.mem_append_right _ (tb_1 _ (List.mem_of_getElem? (i := 74) rfl))
set_option maxRecDepth 100000 in
theorem GWc3_m_38 : (Cond.fieldLink RJ5 73 "java/lang/AbstractStringBuilder" "maybeLatin1" "Z") ∈ lw_big := List.mem_append_right _ (tb_1 _ (List.mem_of_getElem? (i := 72) rfl))
set_option maxRecDepth 100000 in
theorem GWc3_m_39 : (Cond.methodLink RJ5 100 ⟨"java/lang/AbstractStringBuilder", "ensureCapacityInternal", "(I)V"⟩) ∈ lw_big := List.mem_append_right _ (tb_3 _ (List.mem_of_getElem? (i := 21) rfl))
theorem GWc3_b : ∀ w ∈ GWc3, w ∈ lw_big := List.forall_mem_cons.mpr ⟨GWc3_m_0, List.forall_mem_cons.mpr ⟨GWc3_m_1, List.forall_mem_cons.mpr ⟨GWc3_m_2, List.forall_mem_cons.mpr ⟨GWc3_m_3, List.forall_mem_cons.mpr ⟨GWc3_m_4, List.forall_mem_cons.mpr ⟨GWc3_m_5, List.forall_mem_cons.mpr ⟨GWc3_m_6, List.forall_mem_cons.mpr ⟨GWc3_m_7, List.forall_mem_cons.mpr ⟨GWc3_m_8, List.forall_mem_cons.mpr ⟨GWc3_m_9, List.forall_mem_cons.mpr ⟨GWc3_m_10, List.forall_mem_cons.mpr ⟨GWc3_m_11, List.forall_mem_cons.mpr ⟨GWc3_m_12, List.forall_mem_cons.mpr ⟨GWc3_m_13, List.forall_mem_cons.mpr ⟨GWc3_m_14, List.forall_mem_cons.mpr ⟨GWc3_m_15, List.forall_mem_cons.mpr ⟨GWc3_m_16, List.forall_mem_cons.mpr ⟨GWc3_m_17, List.forall_mem_cons.mpr ⟨GWc3_m_18, List.forall_mem_cons.mpr ⟨GWc3_m_19, List.forall_mem_cons.mpr ⟨GWc3_m_20, List.forall_mem_cons.mpr ⟨GWc3_m_21, List.forall_mem_cons.mpr ⟨GWc3_m_22, List.forall_mem_cons.mpr ⟨GWc3_m_23, List.forall_mem_cons.mpr ⟨GWc3_m_24, List.forall_mem_cons.mpr ⟨GWc3_m_25, List.forall_mem_cons.mpr ⟨GWc3_m_26, List.forall_mem_cons.mpr ⟨GWc3_m_27, List.forall_mem_cons.mpr ⟨GWc3_m_28, List.forall_mem_cons.mpr ⟨GWc3_m_29, List.forall_mem_cons.mpr ⟨GWc3_m_30, List.forall_mem_cons.mpr ⟨GWc3_m_31, List.forall_mem_cons.mpr ⟨GWc3_m_32, List.forall_mem_cons.mpr ⟨GWc3_m_33, List.forall_mem_cons.mpr ⟨GWc3_m_34, List.forall_mem_cons.mpr ⟨GWc3_m_35, List.forall_mem_cons.mpr ⟨GWc3_m_36, List.forall_mem_cons.mpr ⟨GWc3_m_37, List.forall_mem_cons.mpr ⟨GWc3_m_38, List.forall_mem_cons.mpr ⟨GWc3_m_39, fun _ h => absurd h List.not_mem_nil⟩⟩⟩⟩⟩⟩⟩⟩⟩⟩⟩⟩⟩⟩⟩⟩⟩⟩⟩⟩⟩⟩⟩⟩⟩⟩⟩⟩⟩⟩⟩⟩⟩⟩⟩⟩⟩⟩⟩⟩
set_option maxRecDepth 100000 in
theorem GWc4_m_0 : (Cond.sameMethod "java/lang/AbstractStringBuilder" "java/lang/AbstractStringBuilder" "ensureCapacityInternal" "(I)V") ∈ lw_big := List.mem_append_right _ (tb_8 _ (List.mem_of_getElem? (i := 233) rfl))
set_option maxRecDepth 100000 in
theorem GWc4_m_1 : (Cond.selects RJ4 ⟨"java/lang/AbstractStringBuilder", "ensureCapacityInternal", "(I)V"⟩ yJ5_ensureCapacityInternal_d00df) ∈ lw_big := List.mem_append_left _ (List.mem_of_getElem? (i := 0) rfl)
set_option maxRecDepth 100000 in
theorem GWc4_m_2 : (Cond.instanceMethod yJ5_ensureCapacityInternal_d00df) ∈ lw_big := List.mem_append_right _ (tb_3 _ (List.mem_of_getElem? (i := 23) rfl))
set_option maxRecDepth 100000 in
theorem GWc4_m_3 : (Cond.code yJ5_ensureCapacityInternal_d00df cJ5_ensureCapacityInternal_d00df 3 none) ∈ lw_big := List.mem_append_right _ (tb_3 _ (List.mem_of_getElem? (i := 24) rfl))
set_option maxRecDepth 100000 in
theorem GWc4_m_4 : (Cond.methodLink RJ5 104 ⟨"java/lang/AbstractStringBuilder", "newCapacity", "(I)I"⟩) ∈ lw_big := List.mem_append_right _ (tb_3 _ (List.mem_of_getElem? (i := 25) rfl))
set_option maxRecDepth 100000 in
theorem GWc4_m_5 : (Cond.sameMethod "java/lang/AbstractStringBuilder" "java/lang/AbstractStringBuilder" "newCapacity" "(I)I") ∈ lw_big := List.mem_append_right _ (tb_8 _ (List.mem_of_getElem? (i := 234) rfl))
set_option maxRecDepth 100000 in
theorem GWc4_m_6 : (Cond.selects RJ4 ⟨"java/lang/AbstractStringBuilder", "newCapacity", "(I)I"⟩ yJ5_newCapacity_0f7a4) ∈ lw_big := List.mem_append_left _ (List.mem_of_getElem? (i := 1) rfl)
set_option maxRecDepth 100000 in
theorem GWc4_m_7 : (Cond.instanceMethod yJ5_newCapacity_0f7a4) ∈ lw_big := List.mem_append_right _ (tb_3 _ (List.mem_of_getElem? (i := 27) rfl))
set_option maxRecDepth 100000 in
theorem GWc4_m_8 : (Cond.code yJ5_newCapacity_0f7a4 cJ5_newCapacity_0f7a4 6 (some .int)) ∈ lw_big := List.mem_append_right _ (tb_3 _ (List.mem_of_getElem? (i := 28) rfl))
set_option maxRecDepth 100000 in
theorem GWc4_m_9 : (Cond.constant RJ5 39 (2147483647)) ∈ lw_big := List.mem_append_right _ (tb_3 _ (List.mem_of_getElem? (i := 39) rfl))
set_option maxRecDepth 100000 in
theorem GWc4_m_10 : (Cond.methodLink RJ5 114 yJ8_newLength_cabcc) ∈ lw_big := List.mem_append_right _ (tb_3 _ (List.mem_of_getElem? (i := 29) rfl))
set_option maxRecDepth 100000 in
theorem GWc4_m_11 : (Cond.static yJ8_newLength_cabcc) ∈ lw_big := List.mem_append_right _ (tb_3 _ (List.mem_of_getElem? (i := 30) rfl))
set_option maxRecDepth 100000 in
theorem GWc4_m_12 : (Cond.initialized RJ8) ∈ lw_big := List.mem_append_right _ (tb_1 _ (List.mem_of_getElem? (i := 18) rfl))
set_option maxRecDepth 100000 in
theorem GWc4_m_13 : (Cond.code yJ8_newLength_cabcc cJ8_newLength_cabcc 4 (some .int)) ∈ lw_big := List.mem_append_right _ (tb_3 _ (List.mem_of_getElem? (i := 31) rfl))
set_option maxRecDepth 100000 in
theorem GWc4_m_14 : (Cond.methodLink RJ8 194 Lib.Math.max.name) ∈ lw_big := List.mem_append_right _ (tb_3 _ (List.mem_of_getElem? (i := 32) rfl))
set_option maxRecDepth 100000 in
theorem GWc4_m_15 : (Cond.static Lib.Math.max.name) ∈ lw_big := List.mem_append_right _ (tb_3 _ (List.mem_of_getElem? (i := 33) rfl))
set_option maxRecDepth 100000 in
theorem GWc4_m_16 : (Cond.initialized "java/lang/Math") ∈ lw_big := List.mem_append_right _ (tb_1 _ (List.mem_of_getElem? (i := 19) rfl))
set_option maxRecDepth 100000 in
theorem GWc4_m_17 : (Cond.code Lib.Math.max.name Lib.Math.max.code 2 (some .int)) ∈ lw_big := List.mem_append_right _ (tb_3 _ (List.mem_of_getElem? (i := 34) rfl))
set_option maxRecDepth 100000 in
theorem GWc4_m_18 : (Cond.constant RJ8 200 (2147483639)) ∈ lw_big := List.mem_append_right _ (tb_3 _ (List.mem_of_getElem? (i := 35) rfl))
set_option maxRecDepth 100000 in
theorem GWc4_m_19 : (Cond.methodLink RJ8 201 yJ8_hugeLength_7cf53) ∈ lw_big := List.mem_append_right _ (tb_3 _ (List.mem_of_getElem? (i := 36) rfl))
set_option maxRecDepth 100000 in
theorem GWc4_m_20 : (Cond.static yJ8_hugeLength_7cf53) ∈ lw_big := List.mem_append_right _ (tb_3 _ (List.mem_of_getElem? (i := 37) rfl))
set_option maxRecDepth 100000 in
theorem GWc4_m_21 : (Cond.code yJ8_hugeLength_7cf53 cJ8_hugeLength_7cf53 3 (some .int)) ∈ lw_big := List.mem_append_right _ (tb_3 _ (List.mem_of_getElem? (i := 38) rfl))
set_option maxRecDepth 100000 in
theorem GWc4_m_22 : (Cond.methodLink RJ5 108 yJ7_copyOf_9075b) ∈ lw_big := List.mem_append_right _ (tb_3 _ (List.mem_of_getElem? (i := 40) rfl))
set_option maxRecDepth 100000 in
theorem GWc4_m_23 : (Cond.static yJ7_copyOf_9075b) ∈ lw_big := List.mem_append_right _ (tb_3 _ (List.mem_of_getElem? (i := 41) rfl))
set_option maxRecDepth 100000 in
theorem GWc4_m_24 : (Cond.initialized RJ7) ∈ lw_big := List.mem_append_right _ (tb_1 _ (List.mem_of_getElem? (i := 20) rfl))
set_option maxRecDepth 100000 in
theorem GWc4_m_25 : (Cond.code yJ7_copyOf_9075b cJ7_copyOf_9075b 3 (some (.array .byte))) ∈ lw_big := List.mem_append_right _ (tb_3 _ (List.mem_of_getElem? (i := 42) rfl))
set_option maxRecDepth 100000 in
theorem GWc4_m_26 : (Cond.methodLink RJ7 310 ⟨"[B", "clone", "()Ljava/lang/Object;"⟩) ∈ lw_big := List.mem_append_right _ (tb_3 _ (List.mem_of_getElem? (i := 43) rfl))
set_option maxRecDepth 100000 in
theorem GWc4_m_27 : (Cond.sameMethod "[B" "java/lang/Object" "clone" "()Ljava/lang/Object;") ∈ lw_big := List.mem_append_right _ (tb_3 _ (List.mem_of_getElem? (i := 44) rfl))
set_option maxRecDepth 100000 in
theorem GWc4_m_28 : (Cond.native ⟨"java/lang/Object", "clone", "()Ljava/lang/Object;"⟩) ∈ lw_big := List.mem_append_right _ (tb_3 _ (List.mem_of_getElem? (i := 45) rfl))
set_option maxRecDepth 100000 in
theorem GWc4_m_29 : (Cond.instanceMethod ⟨"java/lang/Object", "clone", "()Ljava/lang/Object;"⟩) ∈ lw_big := List.mem_append_right _ (tb_3 _ (List.mem_of_getElem? (i := 46) rfl))
set_option maxRecDepth 100000 in
theorem GWc4_m_30 : (Cond.selects "[B" ⟨"[B", "clone", "()Ljava/lang/Object;"⟩ ⟨"java/lang/Object", "clone", "()Ljava/lang/Object;"⟩) ∈ lw_big := List.mem_append_right _ (tb_3 _ (List.mem_of_getElem? (i := 47) rfl))
set_option maxRecDepth 100000 in
theorem GWc4_m_31 : (Cond.classLink RJ7 311 "[B") ∈ lw_big := List.mem_append_right _ (tb_3 _ (List.mem_of_getElem? (i := 49) rfl))
set_option maxRecDepth 100000 in
theorem GWc4_m_32 : (Cond.methodLink RJ7 304 Lib.Math.min.name) ∈ lw_big := List.mem_append_right _ (tb_3 _ (List.mem_of_getElem? (i := 50) rfl))
set_option maxRecDepth 100000 in
theorem GWc4_m_33 : (Cond.static Lib.Math.min.name) ∈ lw_big := List.mem_append_right _ (tb_3 _ (List.mem_of_getElem? (i := 51) rfl))
set_option maxRecDepth 100000 in
theorem GWc4_m_34 : (Cond.code Lib.Math.min.name Lib.Math.min.code 2 (some .int)) ∈ lw_big := List.mem_append_right _ (tb_3 _ (List.mem_of_getElem? (i := 52) rfl))
set_option maxRecDepth 100000 in
theorem GWc4_m_35 : (Cond.methodLink RJ7 150 arraycopyName) ∈ lw_big := List.mem_append_right _ (tb_3 _ (List.mem_of_getElem? (i := 53) rfl))
set_option maxRecDepth 100000 in
theorem GWc4_m_36 : (Cond.native arraycopyName) ∈ lw_big := List.mem_append_right _ (tb_3 _ (List.mem_of_getElem? (i := 55) rfl))
set_option maxRecDepth 100000 in
theorem GWc4_m_37 : (Cond.static arraycopyName) ∈ lw_big := List.mem_append_right _ (tb_3 _ (List.mem_of_getElem? (i := 54) rfl))
set_option maxRecDepth 100000 in
theorem GWc4_m_38 : (Cond.initialized "java/lang/System") ∈ lw_big := List.mem_append_right _ (tb_1 _ (List.mem_of_getElem? (i := 21) rfl))
set_option maxRecDepth 100000 in
theorem GWc4_m_39 : (Cond.methodLink RJ5 83 ⟨"java/lang/AbstractStringBuilder", "isLatin1", "()Z"⟩) ∈ lw_big := List.mem_append_right _ (tb_3 _ (List.mem_of_getElem? (i := 56) rfl))
theorem GWc4_b : ∀ w ∈ GWc4, w ∈ lw_big := List.forall_mem_cons.mpr ⟨GWc4_m_0, List.forall_mem_cons.mpr ⟨GWc4_m_1, List.forall_mem_cons.mpr ⟨GWc4_m_2, List.forall_mem_cons.mpr ⟨GWc4_m_3, List.forall_mem_cons.mpr ⟨GWc4_m_4, List.forall_mem_cons.mpr ⟨GWc4_m_5, List.forall_mem_cons.mpr ⟨GWc4_m_6, List.forall_mem_cons.mpr ⟨GWc4_m_7, List.forall_mem_cons.mpr ⟨GWc4_m_8, List.forall_mem_cons.mpr ⟨GWc4_m_9, List.forall_mem_cons.mpr ⟨GWc4_m_10, List.forall_mem_cons.mpr ⟨GWc4_m_11, List.forall_mem_cons.mpr ⟨GWc4_m_12, List.forall_mem_cons.mpr ⟨GWc4_m_13, List.forall_mem_cons.mpr ⟨GWc4_m_14, List.forall_mem_cons.mpr ⟨GWc4_m_15, List.forall_mem_cons.mpr ⟨GWc4_m_16, List.forall_mem_cons.mpr ⟨GWc4_m_17, List.forall_mem_cons.mpr ⟨GWc4_m_18, List.forall_mem_cons.mpr ⟨GWc4_m_19, List.forall_mem_cons.mpr ⟨GWc4_m_20, List.forall_mem_cons.mpr ⟨GWc4_m_21, List.forall_mem_cons.mpr ⟨GWc4_m_22, List.forall_mem_cons.mpr ⟨GWc4_m_23, List.forall_mem_cons.mpr ⟨GWc4_m_24, List.forall_mem_cons.mpr ⟨GWc4_m_25, List.forall_mem_cons.mpr ⟨GWc4_m_26, List.forall_mem_cons.mpr ⟨GWc4_m_27, List.forall_mem_cons.mpr ⟨GWc4_m_28, List.forall_mem_cons.mpr ⟨GWc4_m_29, List.forall_mem_cons.mpr ⟨GWc4_m_30, List.forall_mem_cons.mpr ⟨GWc4_m_31, List.forall_mem_cons.mpr ⟨GWc4_m_32, List.forall_mem_cons.mpr ⟨GWc4_m_33, List.forall_mem_cons.mpr ⟨GWc4_m_34, List.forall_mem_cons.mpr ⟨GWc4_m_35, List.forall_mem_cons.mpr ⟨GWc4_m_36, List.forall_mem_cons.mpr ⟨GWc4_m_37, List.forall_mem_cons.mpr ⟨GWc4_m_38, List.forall_mem_cons.mpr ⟨GWc4_m_39, fun _ h => absurd h List.not_mem_nil⟩⟩⟩⟩⟩⟩⟩⟩⟩⟩⟩⟩⟩⟩⟩⟩⟩⟩⟩⟩⟩⟩⟩⟩⟩⟩⟩⟩⟩⟩⟩⟩⟩⟩⟩⟩⟩⟩⟩⟩
set_option maxRecDepth 100000 in
theorem GWc5_m_0 : (Cond.sameMethod "java/lang/AbstractStringBuilder" "java/lang/AbstractStringBuilder" "isLatin1" "()Z") ∈ lw_big := List.mem_append_right _ (tb_3 _ (List.mem_of_getElem? (i := 58) rfl))
set_option maxRecDepth 100000 in
theorem GWc5_m_1 : (Cond.selects RJ4 ⟨"java/lang/AbstractStringBuilder", "isLatin1", "()Z"⟩ yJ5_isLatin1_aae02) ∈ lw_big := List.mem_append_right _ (tb_3 _ (List.mem_of_getElem? (i := 59) rfl))
set_option maxRecDepth 100000 in
theorem GWc5_m_2 : (Cond.instanceMethod yJ5_isLatin1_aae02) ∈ lw_big := List.mem_append_right _ (tb_3 _ (List.mem_of_getElem? (i := 57) rfl))
set_option maxRecDepth 100000 in
theorem GWc5_m_3 : (Cond.code yJ5_isLatin1_aae02 cJ5_isLatin1_aae02 1 (some .boolean)) ∈ lw_big := List.mem_append_right _ (tb_3 _ (List.mem_of_getElem? (i := 60) rfl))
set_option maxRecDepth 100000 in
theorem GWc5_m_4 : (Cond.methodLink RJ5 133 yJ1_fillNull_b72d1) ∈ lw_big := List.mem_append_right _ (tb_3 _ (List.mem_of_getElem? (i := 61) rfl))
set_option maxRecDepth 100000 in
theorem GWc5_m_5 : (Cond.static yJ1_fillNull_b72d1) ∈ lw_big := List.mem_append_right _ (tb_3 _ (List.mem_of_getElem? (i := 62) rfl))
set_option maxRecDepth 100000 in
theorem GWc5_m_6 : (Cond.code yJ1_fillNull_b72d1 cJ1_fillNull_b72d1 3 none) ∈ lw_big := List.mem_append_right _ (tb_3 _ (List.mem_of_getElem? (i := 63) rfl))
set_option maxRecDepth 100000 in
theorem GWc5_m_7 : (Cond.methodLink RJ1 236 yJ7_fill_eb02e) ∈ lw_big := List.mem_append_right _ (tb_3 _ (List.mem_of_getElem? (i := 64) rfl))
set_option maxRecDepth 100000 in
theorem GWc5_m_8 : (Cond.static yJ7_fill_eb02e) ∈ lw_big := List.mem_append_right _ (tb_3 _ (List.mem_of_getElem? (i := 65) rfl))
set_option maxRecDepth 100000 in
theorem GWc5_m_9 : (Cond.code yJ7_fill_eb02e cJ7_fill_eb02e 5 none) ∈ lw_big := List.mem_append_right _ (tb_3 _ (List.mem_of_getElem? (i := 66) rfl))
set_option maxRecDepth 100000 in
theorem GWc5_m_10 : (Cond.methodLink RJ7 13 yJ7_rangeCheck_23922) ∈ lw_big := List.mem_append_right _ (tb_3 _ (List.mem_of_getElem? (i := 67) rfl))
set_option maxRecDepth 100000 in
theorem GWc5_m_11 : (Cond.static yJ7_rangeCheck_23922) ∈ lw_big := List.mem_append_right _ (tb_3 _ (List.mem_of_getElem? (i := 68) rfl))
set_option maxRecDepth 100000 in
theorem GWc5_m_12 : (Cond.code yJ7_rangeCheck_23922 cJ7_rangeCheck_23922 3 none) ∈ lw_big := List.mem_append_right _ (tb_3 _ (List.mem_of_getElem? (i := 69) rfl))
set_option maxRecDepth 100000 in
theorem GWc5_m_13 : (Cond.classLink RJ7 45 RJ4) ∈ lw_big := List.mem_append_right _ (tb_3 _ (List.mem_of_getElem? (i := 71) rfl))
set_option maxRecDepth 100000 in
theorem GWc5_m_14 : (Cond.methodLink RJ5 137 yJ2_fillNull_b72d1) ∈ lw_big := List.mem_append_right _ (tb_3 _ (List.mem_of_getElem? (i := 221) rfl))
set_option maxRecDepth 100000 in
theorem GWc5_m_15 : (Cond.static yJ2_fillNull_b72d1) ∈ lw_big := List.mem_append_right _ (tb_3 _ (List.mem_of_getElem? (i := 222) rfl))
set_option maxRecDepth 100000 in
theorem GWc5_m_16 : (Cond.code yJ2_fillNull_b72d1 cJ2_fillNull_b72d1 3 none) ∈ lw_big := List.mem_append_right _ (tb_3 _ (List.mem_of_getElem? (i := 223) rfl))
set_option maxRecDepth 100000 in
theorem GWc5_m_17 : (Cond.methodLink RJ2 380 yJ7_fill_eb02e) ∈ lw_big := List.mem_append_right _ (tb_3 _ (List.mem_of_getElem? (i := 224) rfl))
set_option maxRecDepth 100000 in
theorem GWc5_m_18 : (Cond.methodLink RX0 118 yJ4_append_cf468) ∈ lw_big := List.mem_append_right _ (tb_6 _ (List.mem_of_getElem? (i := 7) rfl))
set_option maxRecDepth 100000 in
theorem GWc5_m_19 : (Cond.instanceMethod yJ4_append_cf468) ∈ lw_big := List.mem_append_right _ (tb_3 _ (List.mem_of_getElem? (i := 226) rfl))
set_option maxRecDepth 100000 in
theorem GWc5_m_20 : (Cond.selects RJ4 yJ4_append_cf468 yJ4_append_cf468) ∈ lw_big := List.mem_append_right _ (tb_3 _ (List.mem_of_getElem? (i := 227) rfl))
set_option maxRecDepth 100000 in
theorem GWc5_m_21 : (Cond.code yJ4_append_cf468 cJ4_append_cf468 2 (some (.object "java/lang/StringBuilder"))) ∈ lw_big := List.mem_append_right _ (tb_3 _ (List.mem_of_getElem? (i := 228) rfl))
set_option maxRecDepth 100000 in
theorem GWc5_m_22 : (Cond.methodLink RJ4 50 yJ5_append_3fe6f) ∈ lw_big := List.mem_append_right _ (tb_3 _ (List.mem_of_getElem? (i := 229) rfl))
set_option maxRecDepth 100000 in
theorem GWc5_m_23 : (Cond.sameMethod "java/lang/AbstractStringBuilder" "java/lang/AbstractStringBuilder" "append" "(C)Ljava/lang/AbstractStringBuilder;") ∈ lw_big := List.mem_append_right _ (tb_9 _ (List.mem_of_getElem? (i := 1) rfl))
set_option maxRecDepth 100000 in
theorem GWc5_m_24 : (Cond.instanceMethod yJ5_append_3fe6f) ∈ lw_big := List.mem_append_right _ (tb_3 _ (List.mem_of_getElem? (i := 230) rfl))
set_option maxRecDepth 100000 in
theorem GWc5_m_25 : (Cond.code yJ5_append_3fe6f cJ5_append_3fe6f 2 (some (.object "java/lang/AbstractStringBuilder"))) ∈ lw_big := List.mem_append_right _ (tb_3 _ (List.mem_of_getElem? (i := 231) rfl))
set_option maxRecDepth 100000 in
theorem GWc5_m_26 : (Cond.methodLink RJ5 191 yJ1_canEncode_fc78d) ∈ lw_big := List.mem_append_right _ (tb_3 _ (List.mem_of_getElem? (i := 232) rfl))
set_option maxRecDepth 100000 in
theorem GWc5_m_27 : (Cond.static yJ1_canEncode_fc78d) ∈ lw_big := List.mem_append_right _ (tb_3 _ (List.mem_of_getElem? (i := 233) rfl))
set_option maxRecDepth 100000 in
theorem GWc5_m_28 : (Cond.code yJ1_canEncode_fc78d cJ1_canEncode_fc78d 1 (some .boolean)) ∈ lw_big := List.mem_append_right _ (tb_3 _ (List.mem_of_getElem? (i := 234) rfl))
set_option maxRecDepth 100000 in
theorem GWc5_m_29 : (Cond.methodLink RJ5 195 ⟨"java/lang/AbstractStringBuilder", "inflate", "()V"⟩) ∈ lw_big := List.mem_append_right _ (tb_3 _ (List.mem_of_getElem? (i := 110) rfl))
set_option maxRecDepth 100000 in
theorem GWc5_m_30 : (Cond.sameMethod "java/lang/AbstractStringBuilder" "java/lang/AbstractStringBuilder" "inflate" "()V") ∈ lw_big := List.mem_append_right _ (tb_8 _ (List.mem_of_getElem? (i := 239) rfl))
set_option maxRecDepth 100000 in
theorem GWc5_m_31 : (Cond.selects RJ4 ⟨"java/lang/AbstractStringBuilder", "inflate", "()V"⟩ yJ5_inflate_da8c8) ∈ lw_big := List.mem_append_left _ (List.mem_of_getElem? (i := 2) rfl)
set_option maxRecDepth 100000 in
theorem GWc5_m_32 : (Cond.instanceMethod yJ5_inflate_da8c8) ∈ lw_big := List.mem_append_right _ (tb_3 _ (List.mem_of_getElem? (i := 112) rfl))
set_option maxRecDepth 100000 in
theorem GWc5_m_33 : (Cond.code yJ5_inflate_da8c8 cJ5_inflate_da8c8 2 none) ∈ lw_big := List.mem_append_right _ (tb_3 _ (List.mem_of_getElem? (i := 113) rfl))
set_option maxRecDepth 100000 in
theorem GWc5_m_34 : (Cond.methodLink RJ5 125 yJ1_inflate_0e8fd) ∈ lw_big := List.mem_append_right _ (tb_3 _ (List.mem_of_getElem? (i := 114) rfl))
set_option maxRecDepth 100000 in
theorem GWc5_m_35 : (Cond.static yJ1_inflate_0e8fd) ∈ lw_big := List.mem_append_right _ (tb_3 _ (List.mem_of_getElem? (i := 115) rfl))
set_option maxRecDepth 100000 in
theorem GWc5_m_36 : (Cond.code yJ1_inflate_0e8fd cJ1_inflate_0e8fd 5 none) ∈ lw_big := List.mem_append_right _ (tb_3 _ (List.mem_of_getElem? (i := 116) rfl))
set_option maxRecDepth 100000 in
theorem GWc5_m_37 : (Cond.methodLink RJ1 240 yJ2_inflate_0e8fd) ∈ lw_big := List.mem_append_right _ (tb_3 _ (List.mem_of_getElem? (i := 117) rfl))
set_option maxRecDepth 100000 in
theorem GWc5_m_38 : (Cond.static yJ2_inflate_0e8fd) ∈ lw_big := List.mem_append_right _ (tb_3 _ (List.mem_of_getElem? (i := 118) rfl))
set_option maxRecDepth 100000 in
theorem GWc5_m_39 : (Cond.code yJ2_inflate_0e8fd cJ2_inflate_0e8fd 6 none) ∈ lw_big := List.mem_append_right _ (tb_3 _ (List.mem_of_getElem? (i := 119) rfl))
theorem GWc5_b : ∀ w ∈ GWc5, w ∈ lw_big := List.forall_mem_cons.mpr ⟨GWc5_m_0, List.forall_mem_cons.mpr ⟨GWc5_m_1, List.forall_mem_cons.mpr ⟨GWc5_m_2, List.forall_mem_cons.mpr ⟨GWc5_m_3, List.forall_mem_cons.mpr ⟨GWc5_m_4, List.forall_mem_cons.mpr ⟨GWc5_m_5, List.forall_mem_cons.mpr ⟨GWc5_m_6, List.forall_mem_cons.mpr ⟨GWc5_m_7, List.forall_mem_cons.mpr ⟨GWc5_m_8, List.forall_mem_cons.mpr ⟨GWc5_m_9, List.forall_mem_cons.mpr ⟨GWc5_m_10, List.forall_mem_cons.mpr ⟨GWc5_m_11, List.forall_mem_cons.mpr ⟨GWc5_m_12, List.forall_mem_cons.mpr ⟨GWc5_m_13, List.forall_mem_cons.mpr ⟨GWc5_m_14, List.forall_mem_cons.mpr ⟨GWc5_m_15, List.forall_mem_cons.mpr ⟨GWc5_m_16, List.forall_mem_cons.mpr ⟨GWc5_m_17, List.forall_mem_cons.mpr ⟨GWc5_m_18, List.forall_mem_cons.mpr ⟨GWc5_m_19, List.forall_mem_cons.mpr ⟨GWc5_m_20, List.forall_mem_cons.mpr ⟨GWc5_m_21, List.forall_mem_cons.mpr ⟨GWc5_m_22, List.forall_mem_cons.mpr ⟨GWc5_m_23, List.forall_mem_cons.mpr ⟨GWc5_m_24, List.forall_mem_cons.mpr ⟨GWc5_m_25, List.forall_mem_cons.mpr ⟨GWc5_m_26, List.forall_mem_cons.mpr ⟨GWc5_m_27, List.forall_mem_cons.mpr ⟨GWc5_m_28, List.forall_mem_cons.mpr ⟨GWc5_m_29, List.forall_mem_cons.mpr ⟨GWc5_m_30, List.forall_mem_cons.mpr ⟨GWc5_m_31, List.forall_mem_cons.mpr ⟨GWc5_m_32, List.forall_mem_cons.mpr ⟨GWc5_m_33, List.forall_mem_cons.mpr ⟨GWc5_m_34, List.forall_mem_cons.mpr ⟨GWc5_m_35, List.forall_mem_cons.mpr ⟨GWc5_m_36, List.forall_mem_cons.mpr ⟨GWc5_m_37, List.forall_mem_cons.mpr ⟨GWc5_m_38, List.forall_mem_cons.mpr ⟨GWc5_m_39, fun _ h => absurd h List.not_mem_nil⟩⟩⟩⟩⟩⟩⟩⟩⟩⟩⟩⟩⟩⟩⟩⟩⟩⟩⟩⟩⟩⟩⟩⟩⟩⟩⟩⟩⟩⟩⟩⟩⟩⟩⟩⟩⟩⟩⟩⟩
set_option maxRecDepth 100000 in
theorem GWc6_m_0 : (Cond.methodLink RJ2 173 yJ2_checkBoundsOffCount_d044e) ∈ lw_big := List.mem_append_right _ (tb_3 _ (List.mem_of_getElem? (i := 120) rfl))
set_option maxRecDepth 100000 in
theorem GWc6_m_1 : (Cond.static yJ2_checkBoundsOffCount_d044e) ∈ lw_big := List.mem_append_right _ (tb_3 _ (List.mem_of_getElem? (i := 121) rfl))
set_option maxRecDepth 100000 in
theorem GWc6_m_2 : (Cond.code yJ2_checkBoundsOffCount_d044e cJ2_checkBoundsOffCount_d044e 3 none) ∈ lw_big := List.mem_append_right _ (tb_3 _ (List.mem_of_getElem? (i := 122) rfl))
set_option maxRecDepth 100000 in
theorem GWc6_m_3 : (Cond.methodLink RJ2 419 yJ0_checkBoundsOffCount_cabcc) ∈ lw_big := List.mem_append_right _ (tb_3 _ (List.mem_of_getElem? (i := 123) rfl))
set_option maxRecDepth 100000 in
theorem GWc6_m_4 : (Cond.static yJ0_checkBoundsOffCount_cabcc) ∈ lw_big := List.mem_append_right _ (tb_3 _ (List.mem_of_getElem? (i := 124) rfl))
set_option maxRecDepth 100000 in
theorem GWc6_m_5 : (Cond.code yJ0_checkBoundsOffCount_cabcc cJ0_checkBoundsOffCount_cabcc 3 (some .int)) ∈ lw_big := List.mem_append_right _ (tb_3 _ (List.mem_of_getElem? (i := 125) rfl))
set_option maxRecDepth 100000 in
theorem GWc6_m_6 : (Cond.methodLink RJ0 1065 yJ3_checkFromIndexSize_8c36e) ∈ lw_big := List.mem_append_right _ (tb_3 _ (List.mem_of_getElem? (i := 126) rfl))
set_option maxRecDepth 100000 in
theorem GWc6_m_7 : (Cond.static yJ3_checkFromIndexSize_8c36e) ∈ lw_big := List.mem_append_right _ (tb_3 _ (List.mem_of_getElem? (i := 127) rfl))
set_option maxRecDepth 100000 in
theorem GWc6_m_8 : (Cond.code yJ3_checkFromIndexSize_8c36e cJ3_checkFromIndexSize_8c36e 4 (some .int)) ∈ lw_big := List.mem_append_right _ (tb_3 _ (List.mem_of_getElem? (i := 128) rfl))
set_option maxRecDepth 100000 in
theorem GWc6_m_9 : (Cond.methodLink RJ2 111 yJ2_putChar_b72d1) ∈ lw_big := List.mem_append_right _ (tb_3 _ (List.mem_of_getElem? (i := 97) rfl))
set_option maxRecDepth 100000 in
theorem GWc6_m_10 : (Cond.static yJ2_putChar_b72d1) ∈ lw_big := List.mem_append_right _ (tb_3 _ (List.mem_of_getElem? (i := 98) rfl))
set_option maxRecDepth 100000 in
theorem GWc6_m_11 : (Cond.code yJ2_putChar_b72d1 cJ2_putChar_b72d1 3 none) ∈ lw_big := List.mem_append_right _ (tb_3 _ (List.mem_of_getElem? (i := 99) rfl))
set_option maxRecDepth 100000 in
theorem GWc6_m_12 : (Cond.methodLink RJ5 197 yJ2_putCharSB_b72d1) ∈ lw_big := List.mem_append_right _ (tb_3 _ (List.mem_of_getElem? (i := 235) rfl))
set_option maxRecDepth 100000 in
theorem GWc6_m_13 : (Cond.static yJ2_putCharSB_b72d1) ∈ lw_big := List.mem_append_right _ (tb_3 _ (List.mem_of_getElem? (i := 236) rfl))
set_option maxRecDepth 100000 in
theorem GWc6_m_14 : (Cond.code yJ2_putCharSB_b72d1 cJ2_putCharSB_b72d1 3 none) ∈ lw_big := List.mem_append_right _ (tb_3 _ (List.mem_of_getElem? (i := 237) rfl))
set_option maxRecDepth 100000 in
theorem GWc6_m_15 : (Cond.methodLink RX0 122 yJ4_append_bf812) ∈ lw_big := List.mem_append_right _ (tb_6 _ (List.mem_of_getElem? (i := 8) rfl))
set_option maxRecDepth 100000 in
theorem GWc6_m_16 : (Cond.instanceMethod yJ4_append_bf812) ∈ lw_big := List.mem_append_right _ (tb_3 _ (List.mem_of_getElem? (i := 136) rfl))
set_option maxRecDepth 100000 in
theorem GWc6_m_17 : (Cond.selects RJ4 yJ4_append_bf812 yJ4_append_bf812) ∈ lw_big := List.mem_append_right _ (tb_3 _ (List.mem_of_getElem? (i := 137) rfl))
set_option maxRecDepth 100000 in
theorem GWc6_m_18 : (Cond.code yJ4_append_bf812 cJ4_append_bf812 2 (some (.object "java/lang/StringBuilder"))) ∈ lw_big := List.mem_append_right _ (tb_3 _ (List.mem_of_getElem? (i := 138) rfl))
set_option maxRecDepth 100000 in
theorem GWc6_m_19 : (Cond.methodLink RJ4 53 yJ5_append_c97b9) ∈ lw_big := List.mem_append_right _ (tb_3 _ (List.mem_of_getElem? (i := 139) rfl))
set_option maxRecDepth 100000 in
theorem GWc6_m_20 : (Cond.sameMethod "java/lang/AbstractStringBuilder" "java/lang/AbstractStringBuilder" "append" "(I)Ljava/lang/AbstractStringBuilder;") ∈ lw_big := List.mem_append_right _ (tb_9 _ (List.mem_of_getElem? (i := 0) rfl))
set_option maxRecDepth 100000 in
theorem GWc6_m_21 : (Cond.instanceMethod yJ5_append_c97b9) ∈ lw_big := List.mem_append_right _ (tb_3 _ (List.mem_of_getElem? (i := 140) rfl))
set_option maxRecDepth 100000 in
theorem GWc6_m_22 : (Cond.code yJ5_append_c97b9 cJ5_append_c97b9 4 (some (.object "java/lang/AbstractStringBuilder"))) ∈ lw_big := List.mem_append_right _ (tb_3 _ (List.mem_of_getElem? (i := 141) rfl))
set_option maxRecDepth 100000 in
theorem GWc6_m_23 : (Cond.methodLink RJ5 245 yJ6_stringSize_0f7a4) ∈ lw_big := List.mem_append_right _ (tb_3 _ (List.mem_of_getElem? (i := 142) rfl))
set_option maxRecDepth 100000 in
theorem GWc6_m_24 : (Cond.static yJ6_stringSize_0f7a4) ∈ lw_big := List.mem_append_right _ (tb_3 _ (List.mem_of_getElem? (i := 143) rfl))
set_option maxRecDepth 100000 in
theorem GWc6_m_25 : (Cond.initialized RJ6) ∈ lw_big := List.mem_append_right _ (tb_1 _ (List.mem_of_getElem? (i := 24) rfl))
set_option maxRecDepth 100000 in
theorem GWc6_m_26 : (Cond.code yJ6_stringSize_0f7a4 cJ6_stringSize_0f7a4 4 (some .int)) ∈ lw_big := List.mem_append_right _ (tb_3 _ (List.mem_of_getElem? (i := 144) rfl))
set_option maxRecDepth 100000 in
theorem GWc6_m_27 : (Cond.methodLink RJ5 248 yJ6_getChars_ba4f3) ∈ lw_big := List.mem_append_right _ (tb_3 _ (List.mem_of_getElem? (i := 145) rfl))
set_option maxRecDepth 100000 in
theorem GWc6_m_28 : (Cond.static yJ6_getChars_ba4f3) ∈ lw_big := List.mem_append_right _ (tb_3 _ (List.mem_of_getElem? (i := 146) rfl))
set_option maxRecDepth 100000 in
theorem GWc6_m_29 : (Cond.code yJ6_getChars_ba4f3 cJ6_getChars_ba4f3 7 (some .int)) ∈ lw_big := List.mem_append_right _ (tb_3 _ (List.mem_of_getElem? (i := 147) rfl))
set_option maxRecDepth 100000 in
theorem GWc6_m_30 : (Cond.fieldLink RJ6 83 "java/lang/Integer" "DigitOnes" "[B") ∈ lw_big := List.mem_append_right _ (tb_3 _ (List.mem_of_getElem? (i := 148) rfl))
set_option maxRecDepth 100000 in
theorem GWc6_m_31 : (Cond.fieldLink RJ6 87 "java/lang/Integer" "DigitTens" "[B") ∈ lw_big := List.mem_append_right _ (tb_3 _ (List.mem_of_getElem? (i := 150) rfl))
set_option maxRecDepth 100000 in
theorem GWc6_m_32 : (Cond.methodLink RJ5 251 yJ2_getChars_46870) ∈ lw_big := List.mem_append_right _ (tb_3 _ (List.mem_of_getElem? (i := 152) rfl))
set_option maxRecDepth 100000 in
theorem GWc6_m_33 : (Cond.static yJ2_getChars_46870) ∈ lw_big := List.mem_append_right _ (tb_3 _ (List.mem_of_getElem? (i := 153) rfl))
set_option maxRecDepth 100000 in
theorem GWc6_m_34 : (Cond.code yJ2_getChars_46870 cJ2_getChars_46870 5 (some .int)) ∈ lw_big := List.mem_append_right _ (tb_3 _ (List.mem_of_getElem? (i := 154) rfl))
set_option maxRecDepth 100000 in
theorem GWc6_m_35 : (Cond.methodLink RJ2 96 yJ2_checkBoundsBeginEnd_d044e) ∈ lw_big := List.mem_append_right _ (tb_3 _ (List.mem_of_getElem? (i := 88) rfl))
set_option maxRecDepth 100000 in
theorem GWc6_m_36 : (Cond.static yJ2_checkBoundsBeginEnd_d044e) ∈ lw_big := List.mem_append_right _ (tb_3 _ (List.mem_of_getElem? (i := 89) rfl))
set_option maxRecDepth 100000 in
theorem GWc6_m_37 : (Cond.code yJ2_checkBoundsBeginEnd_d044e cJ2_checkBoundsBeginEnd_d044e 3 none) ∈ lw_big := List.mem_append_right _ (tb_3 _ (List.mem_of_getElem? (i := 90) rfl))
set_option maxRecDepth 100000 in
theorem GWc6_m_38 : (Cond.methodLink RJ2 241 yJ0_checkBoundsBeginEnd_23922) ∈ lw_big := List.mem_append_right _ (tb_3 _ (List.mem_of_getElem? (i := 91) rfl))
set_option maxRecDepth 100000 in
theorem GWc6_m_39 : (Cond.static yJ0_checkBoundsBeginEnd_23922) ∈ lw_big := List.mem_append_right _ (tb_3 _ (List.mem_of_getElem? (i := 92) rfl))
theorem GWc6_b : ∀ w ∈ GWc6, w ∈ lw_big := List.forall_mem_cons.mpr ⟨GWc6_m_0, List.forall_mem_cons.mpr ⟨GWc6_m_1, List.forall_mem_cons.mpr ⟨GWc6_m_2, List.forall_mem_cons.mpr ⟨GWc6_m_3, List.forall_mem_cons.mpr ⟨GWc6_m_4, List.forall_mem_cons.mpr ⟨GWc6_m_5, List.forall_mem_cons.mpr ⟨GWc6_m_6, List.forall_mem_cons.mpr ⟨GWc6_m_7, List.forall_mem_cons.mpr ⟨GWc6_m_8, List.forall_mem_cons.mpr ⟨GWc6_m_9, List.forall_mem_cons.mpr ⟨GWc6_m_10, List.forall_mem_cons.mpr ⟨GWc6_m_11, List.forall_mem_cons.mpr ⟨GWc6_m_12, List.forall_mem_cons.mpr ⟨GWc6_m_13, List.forall_mem_cons.mpr ⟨GWc6_m_14, List.forall_mem_cons.mpr ⟨GWc6_m_15, List.forall_mem_cons.mpr ⟨GWc6_m_16, List.forall_mem_cons.mpr ⟨GWc6_m_17, List.forall_mem_cons.mpr ⟨GWc6_m_18, List.forall_mem_cons.mpr ⟨GWc6_m_19, List.forall_mem_cons.mpr ⟨GWc6_m_20, List.forall_mem_cons.mpr ⟨GWc6_m_21, List.forall_mem_cons.mpr ⟨GWc6_m_22, List.forall_mem_cons.mpr ⟨GWc6_m_23, List.forall_mem_cons.mpr ⟨GWc6_m_24, List.forall_mem_cons.mpr ⟨GWc6_m_25, List.forall_mem_cons.mpr ⟨GWc6_m_26, List.forall_mem_cons.mpr ⟨GWc6_m_27, List.forall_mem_cons.mpr ⟨GWc6_m_28, List.forall_mem_cons.mpr ⟨GWc6_m_29, List.forall_mem_cons.mpr ⟨GWc6_m_30, List.forall_mem_cons.mpr ⟨GWc6_m_31, List.forall_mem_cons.mpr ⟨GWc6_m_32, List.forall_mem_cons.mpr ⟨GWc6_m_33, List.forall_mem_cons.mpr ⟨GWc6_m_34, List.forall_mem_cons.mpr ⟨GWc6_m_35, List.forall_mem_cons.mpr ⟨GWc6_m_36, List.forall_mem_cons.mpr ⟨GWc6_m_37, List.forall_mem_cons.mpr ⟨GWc6_m_38, List.forall_mem_cons.mpr ⟨GWc6_m_39, fun _ h => absurd h List.not_mem_nil⟩⟩⟩⟩⟩⟩⟩⟩⟩⟩⟩⟩⟩⟩⟩⟩⟩⟩⟩⟩⟩⟩⟩⟩⟩⟩⟩⟩⟩⟩⟩⟩⟩⟩⟩⟩⟩⟩⟩⟩
set_option maxRecDepth 100000 in
theorem GWc7_m_0 : (Cond.code yJ0_checkBoundsBeginEnd_23922 cJ0_checkBoundsBeginEnd_23922 3 none) ∈ lw_big := List.mem_append_right _ (tb_3 _ (List.mem_of_getElem? (i := 93) rfl))
set_option maxRecDepth 100000 in
theorem GWc7_m_1 : (Cond.methodLink RJ0 1062 yJ3_checkFromToIndex_8c36e) ∈ lw_big := List.mem_append_right _ (tb_3 _ (List.mem_of_getElem? (i := 94) rfl))
set_option maxRecDepth 100000 in
theorem GWc7_m_2 : (Cond.static yJ3_checkFromToIndex_8c36e) ∈ lw_big := List.mem_append_right _ (tb_3 _ (List.mem_of_getElem? (i := 95) rfl))
set_option maxRecDepth 100000 in
theorem GWc7_m_3 : (Cond.code yJ3_checkFromToIndex_8c36e cJ3_checkFromToIndex_8c36e 4 (some .int)) ∈ lw_big := List.mem_append_right _ (tb_3 _ (List.mem_of_getElem? (i := 96) rfl))
set_option maxRecDepth 100000 in
theorem GWc7_m_4 : (Cond.methodLink RJ2 393 yJ2_getChars_ba4f3) ∈ lw_big := List.mem_append_right _ (tb_3 _ (List.mem_of_getElem? (i := 155) rfl))
set_option maxRecDepth 100000 in
theorem GWc7_m_5 : (Cond.static yJ2_getChars_ba4f3) ∈ lw_big := List.mem_append_right _ (tb_3 _ (List.mem_of_getElem? (i := 156) rfl))
set_option maxRecDepth 100000 in
theorem GWc7_m_6 : (Cond.code yJ2_getChars_ba4f3 cJ2_getChars_ba4f3 7 (some .int)) ∈ lw_big := List.mem_append_right _ (tb_3 _ (List.mem_of_getElem? (i := 157) rfl))
set_option maxRecDepth 100000 in
theorem GWc7_m_7 : (Cond.fieldLink RJ2 403 "java/lang/Integer" "DigitOnes" "[B") ∈ lw_big := List.mem_append_right _ (tb_3 _ (List.mem_of_getElem? (i := 158) rfl))
set_option maxRecDepth 100000 in
theorem GWc7_m_8 : (Cond.fieldLink RJ2 407 "java/lang/Integer" "DigitTens" "[B") ∈ lw_big := List.mem_append_right _ (tb_3 _ (List.mem_of_getElem? (i := 159) rfl))
set_option maxRecDepth 100000 in
theorem GWc7_m_9 : (Cond.methodLink RX0 125 yJ4_toString_0e30d) ∈ lw_big := List.mem_append_right _ (tb_6 _ (List.mem_of_getElem? (i := 9) rfl))
set_option maxRecDepth 100000 in
theorem GWc7_m_10 : (Cond.instanceMethod yJ4_toString_0e30d) ∈ lw_big := List.mem_append_right _ (tb_3 _ (List.mem_of_getElem? (i := 163) rfl))
set_option maxRecDepth 100000 in
theorem GWc7_m_11 : (Cond.selects RJ4 yJ4_toString_0e30d yJ4_toString_0e30d) ∈ lw_big := List.mem_append_right _ (tb_3 _ (List.mem_of_getElem? (i := 164) rfl))
set_option maxRecDepth 100000 in
theorem GWc7_m_12 : (Cond.code yJ4_toString_0e30d cJ4_toString_0e30d 1 (some (.object "java/lang/String"))) ∈ lw_big := List.mem_append_right _ (tb_3 _ (List.mem_of_getElem? (i := 165) rfl))
set_option maxRecDepth 100000 in
theorem GWc7_m_13 : (Cond.classLink RJ4 18 RJ0) ∈ lw_big := List.mem_append_right _ (tb_3 _ (List.mem_of_getElem? (i := 166) rfl))
set_option maxRecDepth 100000 in
theorem GWc7_m_14 : (Cond.instantiable RJ0 4) ∈ lw_big := List.mem_append_right _ (tb_3 _ (List.mem_of_getElem? (i := 167) rfl))
set_option maxRecDepth 100000 in
theorem GWc7_m_15 : (Cond.methodLink RJ4 137 yJ0_init_81219) ∈ lw_big := List.mem_append_right _ (tb_3 _ (List.mem_of_getElem? (i := 168) rfl))
set_option maxRecDepth 100000 in
theorem GWc7_m_16 : (Cond.instanceMethod yJ0_init_81219) ∈ lw_big := List.mem_append_right _ (tb_3 _ (List.mem_of_getElem? (i := 169) rfl))
set_option maxRecDepth 100000 in
theorem GWc7_m_17 : (Cond.code yJ0_init_81219 cJ0_init_81219 2 none) ∈ lw_big := List.mem_append_right _ (tb_3 _ (List.mem_of_getElem? (i := 170) rfl))
set_option maxRecDepth 100000 in
theorem GWc7_m_18 : (Cond.methodLink RJ0 489 yJ0_init_db425) ∈ lw_big := List.mem_append_right _ (tb_3 _ (List.mem_of_getElem? (i := 171) rfl))
set_option maxRecDepth 100000 in
theorem GWc7_m_19 : (Cond.instanceMethod yJ0_init_db425) ∈ lw_big := List.mem_append_right _ (tb_3 _ (List.mem_of_getElem? (i := 172) rfl))
set_option maxRecDepth 100000 in
theorem GWc7_m_20 : (Cond.code yJ0_init_db425 cJ0_init_db425 5 none) ∈ lw_big := List.mem_append_right _ (tb_3 _ (List.mem_of_getElem? (i := 173) rfl))
set_option maxRecDepth 100000 in
theorem GWc7_m_21 : (Cond.methodLink RJ0 1 objectInit) ∈ lw_big := List.mem_append_right _ (tb_3 _ (List.mem_of_getElem? (i := 174) rfl))
set_option maxRecDepth 100000 in
theorem GWc7_m_22 : (Cond.fieldLink RJ0 1048 "java/lang/AbstractStringBuilder" "maybeLatin1" "Z") ∈ lw_big := List.mem_append_right _ (tb_1 _ (List.mem_of_getElem? (i := 73) rfl))
set_option maxRecDepth 100000 in
theorem GWc7_m_23 : (Cond.methodLink RJ0 552 ⟨"java/lang/AbstractStringBuilder", "getValue", "()[B"⟩) ∈ lw_big := List.mem_append_right _ (tb_3 _ (List.mem_of_getElem? (i := 175) rfl))
set_option maxRecDepth 100000 in
theorem GWc7_m_24 : (Cond.sameMethod "java/lang/AbstractStringBuilder" "java/lang/AbstractStringBuilder" "getValue" "()[B") ∈ lw_big := List.mem_append_right _ (tb_3 _ (List.mem_of_getElem? (i := 177) rfl))
set_option maxRecDepth 100000 in
theorem GWc7_m_25 : (Cond.selects RJ4 ⟨"java/lang/AbstractStringBuilder", "getValue", "()[B"⟩ yJ5_getValue_6d5f1) ∈ lw_big := List.mem_append_right _ (tb_3 _ (List.mem_of_getElem? (i := 178) rfl))
set_option maxRecDepth 100000 in
theorem GWc7_m_26 : (Cond.instanceMethod yJ5_getValue_6d5f1) ∈ lw_big := List.mem_append_right _ (tb_3 _ (List.mem_of_getElem? (i := 176) rfl))
set_option maxRecDepth 100000 in
theorem GWc7_m_27 : (Cond.code yJ5_getValue_6d5f1 cJ5_getValue_6d5f1 1 (some (.array .byte))) ∈ lw_big := List.mem_append_right _ (tb_3 _ (List.mem_of_getElem? (i := 179) rfl))
set_option maxRecDepth 100000 in
theorem GWc7_m_28 : (Cond.methodLink RJ0 549 ⟨"java/lang/AbstractStringBuilder", "length", "()I"⟩) ∈ lw_big := List.mem_append_right _ (tb_3 _ (List.mem_of_getElem? (i := 180) rfl))
set_option maxRecDepth 100000 in
theorem GWc7_m_29 : (Cond.sameMethod "java/lang/AbstractStringBuilder" "java/lang/AbstractStringBuilder" "length" "()I") ∈ lw_big := List.mem_append_right _ (tb_3 _ (List.mem_of_getElem? (i := 182) rfl))
set_option maxRecDepth 100000 in
theorem GWc7_m_30 : (Cond.instanceMethod ⟨"java/lang/AbstractStringBuilder", "length", "()I"⟩) ∈ lw_big := List.mem_append_right _ (tb_3 _ (List.mem_of_getElem? (i := 181) rfl))
set_option maxRecDepth 100000 in
theorem GWc7_m_31 : (Cond.selects RJ4 ⟨"java/lang/AbstractStringBuilder", "length", "()I"⟩ yJ4_length_8abf5) ∈ lw_big := List.mem_append_right _ (tb_3 _ (List.mem_of_getElem? (i := 183) rfl))
set_option maxRecDepth 100000 in
theorem GWc7_m_32 : (Cond.instanceMethod yJ4_length_8abf5) ∈ lw_big := List.mem_append_right _ (tb_3 _ (List.mem_of_getElem? (i := 184) rfl))
set_option maxRecDepth 100000 in
theorem GWc7_m_33 : (Cond.code yJ4_length_8abf5 cJ4_length_8abf5 1 (some .int)) ∈ lw_big := List.mem_append_right _ (tb_3 _ (List.mem_of_getElem? (i := 185) rfl))
set_option maxRecDepth 100000 in
theorem GWc7_m_34 : (Cond.methodLink RJ4 343 yJ5_length_8abf5) ∈ lw_big := List.mem_append_right _ (tb_3 _ (List.mem_of_getElem? (i := 186) rfl))
set_option maxRecDepth 100000 in
theorem GWc7_m_35 : (Cond.instanceMethod yJ5_length_8abf5) ∈ lw_big := List.mem_append_right _ (tb_3 _ (List.mem_of_getElem? (i := 181) rfl))
set_option maxRecDepth 100000 in
theorem GWc7_m_36 : (Cond.code yJ5_length_8abf5 cJ5_length_8abf5 1 (some .int)) ∈ lw_big := List.mem_append_right _ (tb_3 _ (List.mem_of_getElem? (i := 187) rfl))
set_option maxRecDepth 100000 in
theorem GWc7_m_37 : (Cond.methodLink RJ0 1047 ⟨"java/lang/AbstractStringBuilder", "isLatin1", "()Z"⟩) ∈ lw_big := List.mem_append_right _ (tb_3 _ (List.mem_of_getElem? (i := 188) rfl))
set_option maxRecDepth 100000 in
theorem GWc7_m_38 : (Cond.methodLink RJ0 54 yJ7_copyOfRange_39247) ∈ lw_big := List.mem_append_right _ (tb_3 _ (List.mem_of_getElem? (i := 189) rfl))
set_option maxRecDepth 100000 in
theorem GWc7_m_39 : (Cond.static yJ7_copyOfRange_39247) ∈ lw_big := List.mem_append_right _ (tb_3 _ (List.mem_of_getElem? (i := 190) rfl))
theorem GWc7_b : ∀ w ∈ GWc7, w ∈ lw_big := List.forall_mem_cons.mpr ⟨GWc7_m_0, List.forall_mem_cons.mpr ⟨GWc7_m_1, List.forall_mem_cons.mpr ⟨GWc7_m_2, List.forall_mem_cons.mpr ⟨GWc7_m_3, List.forall_mem_cons.mpr ⟨GWc7_m_4, List.forall_mem_cons.mpr ⟨GWc7_m_5, List.forall_mem_cons.mpr ⟨GWc7_m_6, List.forall_mem_cons.mpr ⟨GWc7_m_7, List.forall_mem_cons.mpr ⟨GWc7_m_8, List.forall_mem_cons.mpr ⟨GWc7_m_9, List.forall_mem_cons.mpr ⟨GWc7_m_10, List.forall_mem_cons.mpr ⟨GWc7_m_11, List.forall_mem_cons.mpr ⟨GWc7_m_12, List.forall_mem_cons.mpr ⟨GWc7_m_13, List.forall_mem_cons.mpr ⟨GWc7_m_14, List.forall_mem_cons.mpr ⟨GWc7_m_15, List.forall_mem_cons.mpr ⟨GWc7_m_16, List.forall_mem_cons.mpr ⟨GWc7_m_17, List.forall_mem_cons.mpr ⟨GWc7_m_18, List.forall_mem_cons.mpr ⟨GWc7_m_19, List.forall_mem_cons.mpr ⟨GWc7_m_20, List.forall_mem_cons.mpr ⟨GWc7_m_21, List.forall_mem_cons.mpr ⟨GWc7_m_22, List.forall_mem_cons.mpr ⟨GWc7_m_23, List.forall_mem_cons.mpr ⟨GWc7_m_24, List.forall_mem_cons.mpr ⟨GWc7_m_25, List.forall_mem_cons.mpr ⟨GWc7_m_26, List.forall_mem_cons.mpr ⟨GWc7_m_27, List.forall_mem_cons.mpr ⟨GWc7_m_28, List.forall_mem_cons.mpr ⟨GWc7_m_29, List.forall_mem_cons.mpr ⟨GWc7_m_30, List.forall_mem_cons.mpr ⟨GWc7_m_31, List.forall_mem_cons.mpr ⟨GWc7_m_32, List.forall_mem_cons.mpr ⟨GWc7_m_33, List.forall_mem_cons.mpr ⟨GWc7_m_34, List.forall_mem_cons.mpr ⟨GWc7_m_35, List.forall_mem_cons.mpr ⟨GWc7_m_36, List.forall_mem_cons.mpr ⟨GWc7_m_37, List.forall_mem_cons.mpr ⟨GWc7_m_38, List.forall_mem_cons.mpr ⟨GWc7_m_39, fun _ h => absurd h List.not_mem_nil⟩⟩⟩⟩⟩⟩⟩⟩⟩⟩⟩⟩⟩⟩⟩⟩⟩⟩⟩⟩⟩⟩⟩⟩⟩⟩⟩⟩⟩⟩⟩⟩⟩⟩⟩⟩⟩⟩⟩⟩
set_option maxRecDepth 100000 in
theorem GWc8_m_0 : (Cond.code yJ7_copyOfRange_39247 cJ7_copyOfRange_39247 3 (some (.array .byte))) ∈ lw_big := List.mem_append_right _ (tb_3 _ (List.mem_of_getElem? (i := 191) rfl))
set_option maxRecDepth 100000 in
theorem GWc8_m_1 : (Cond.methodLink RJ7 339 yJ7_copyOfRangeByte_39247) ∈ lw_big := List.mem_append_right _ (tb_3 _ (List.mem_of_getElem? (i := 192) rfl))
set_option maxRecDepth 100000 in
theorem GWc8_m_2 : (Cond.static yJ7_copyOfRangeByte_39247) ∈ lw_big := List.mem_append_right _ (tb_3 _ (List.mem_of_getElem? (i := 193) rfl))
set_option maxRecDepth 100000 in
theorem GWc8_m_3 : (Cond.code yJ7_copyOfRangeByte_39247 cJ7_copyOfRangeByte_39247 5 (some (.array .byte))) ∈ lw_big := List.mem_append_right _ (tb_3 _ (List.mem_of_getElem? (i := 194) rfl))
set_option maxRecDepth 100000 in
theorem GWc8_m_4 : (Cond.methodLink RJ7 343 yJ7_checkLength_df160) ∈ lw_big := List.mem_append_right _ (tb_3 _ (List.mem_of_getElem? (i := 195) rfl))
set_option maxRecDepth 100000 in
theorem GWc8_m_5 : (Cond.static yJ7_checkLength_df160) ∈ lw_big := List.mem_append_right _ (tb_3 _ (List.mem_of_getElem? (i := 196) rfl))
set_option maxRecDepth 100000 in
theorem GWc8_m_6 : (Cond.code yJ7_checkLength_df160 cJ7_checkLength_df160 2 none) ∈ lw_big := List.mem_append_right _ (tb_3 _ (List.mem_of_getElem? (i := 197) rfl))
set_option maxRecDepth 100000 in
theorem GWc8_m_7 : (Cond.methodLink RJ0 1051 yJ2_compress_39247) ∈ lw_big := List.mem_append_right _ (tb_3 _ (List.mem_of_getElem? (i := 200) rfl))
set_option maxRecDepth 100000 in
theorem GWc8_m_8 : (Cond.static yJ2_compress_39247) ∈ lw_big := List.mem_append_right _ (tb_3 _ (List.mem_of_getElem? (i := 201) rfl))
set_option maxRecDepth 100000 in
theorem GWc8_m_9 : (Cond.code yJ2_compress_39247 cJ2_compress_39247 6 (some (.array .byte))) ∈ lw_big := List.mem_append_right _ (tb_3 _ (List.mem_of_getElem? (i := 202) rfl))
set_option maxRecDepth 100000 in
theorem GWc8_m_10 : (Cond.methodLink RJ2 123 yJ2_compress_5af95) ∈ lw_big := List.mem_append_right _ (tb_3 _ (List.mem_of_getElem? (i := 203) rfl))
set_option maxRecDepth 100000 in
theorem GWc8_m_11 : (Cond.static yJ2_compress_5af95) ∈ lw_big := List.mem_append_right _ (tb_3 _ (List.mem_of_getElem? (i := 204) rfl))
set_option maxRecDepth 100000 in
theorem GWc8_m_12 : (Cond.code yJ2_compress_5af95 cJ2_compress_5af95 7 (some .int)) ∈ lw_big := List.mem_append_right _ (tb_3 _ (List.mem_of_getElem? (i := 205) rfl))
set_option maxRecDepth 100000 in
theorem GWc8_m_13 : (Cond.methodLink RJ2 126 yJ7_copyOfRange_39247) ∈ lw_big := List.mem_append_right _ (tb_3 _ (List.mem_of_getElem? (i := 206) rfl))
set_option maxRecDepth 100000 in
theorem GWc8_m_14 : (Cond.methodLink RJ0 47 yJ2_coderFromArrayLen_85cad) ∈ lw_big := List.mem_append_right _ (tb_3 _ (List.mem_of_getElem? (i := 207) rfl))
set_option maxRecDepth 100000 in
theorem GWc8_m_15 : (Cond.static yJ2_coderFromArrayLen_85cad) ∈ lw_big := List.mem_append_right _ (tb_3 _ (List.mem_of_getElem? (i := 208) rfl))
set_option maxRecDepth 100000 in
theorem GWc8_m_16 : (Cond.code yJ2_coderFromArrayLen_85cad cJ2_coderFromArrayLen_85cad 2 (some .byte)) ∈ lw_big := List.mem_append_right _ (tb_3 _ (List.mem_of_getElem? (i := 209) rfl))
set_option maxRecDepth 100000 in
theorem GWc8_m_17 : (Cond.methodLink RX0 74 yX10_ofText) ∈ lw_big := List.mem_append_right _ (tb_6 _ (List.mem_of_getElem? (i := 10) rfl))
set_option maxRecDepth 100000 in
theorem GWc8_m_18 : (Cond.static yX10_ofText) ∈ lw_big := List.mem_append_right _ (tb_4 _ (List.mem_of_getElem? (i := 1) rfl))
set_option maxRecDepth 100000 in
theorem GWc8_m_19 : (Cond.code yX10_ofText cX10_ofText 1 (some (.object "PhraseDesk$Value"))) ∈ lw_big := List.mem_append_right _ (tb_4 _ (List.mem_of_getElem? (i := 2) rfl))
set_option maxRecDepth 100000 in
theorem GWc8_m_20 : (Cond.methodLink RX10 35 yJ0_length_8abf5) ∈ lw_big := List.mem_append_right _ (tb_4 _ (List.mem_of_getElem? (i := 3) rfl))
set_option maxRecDepth 100000 in
theorem GWc8_m_21 : (Cond.code yX0_join cX0_join 5 (some (.object "PhraseDesk$Value"))) ∈ lw_big := List.mem_append_right _ (tb_6 _ (List.mem_of_getElem? (i := 44) rfl))
set_option maxRecDepth 100000 in
theorem GWc8_m_22 : (Cond.methodLink RX0 129 yJ4_append_15ec4) ∈ lw_big := List.mem_append_right _ (tb_6 _ (List.mem_of_getElem? (i := 45) rfl))
set_option maxRecDepth 100000 in
theorem GWc8_m_23 : (Cond.instanceMethod yJ4_append_15ec4) ∈ lw_big := List.mem_append_right _ (tb_3 _ (List.mem_of_getElem? (i := 75) rfl))
set_option maxRecDepth 100000 in
theorem GWc8_m_24 : (Cond.selects RJ4 yJ4_append_15ec4 yJ4_append_15ec4) ∈ lw_big := List.mem_append_right _ (tb_3 _ (List.mem_of_getElem? (i := 76) rfl))
set_option maxRecDepth 100000 in
theorem GWc8_m_25 : (Cond.code yJ4_append_15ec4 cJ4_append_15ec4 2 (some (.object "java/lang/StringBuilder"))) ∈ lw_big := List.mem_append_right _ (tb_3 _ (List.mem_of_getElem? (i := 77) rfl))
set_option maxRecDepth 100000 in
theorem GWc8_m_26 : (Cond.methodLink RJ4 29 yJ5_append_cf1ce) ∈ lw_big := List.mem_append_right _ (tb_3 _ (List.mem_of_getElem? (i := 78) rfl))
set_option maxRecDepth 100000 in
theorem GWc8_m_27 : (Cond.sameMethod "java/lang/AbstractStringBuilder" "java/lang/AbstractStringBuilder" "append" "(Ljava/lang/String;)Ljava/lang/AbstractStringBuilder;") ∈ lw_big := List.mem_append_right _ (tb_8 _ (List.mem_of_getElem? (i := 235) rfl))
set_option maxRecDepth 100000 in
theorem GWc8_m_28 : (Cond.instanceMethod yJ5_append_cf1ce) ∈ lw_big := List.mem_append_right _ (tb_3 _ (List.mem_of_getElem? (i := 79) rfl))
set_option maxRecDepth 100000 in
theorem GWc8_m_29 : (Cond.code yJ5_append_cf1ce cJ5_append_cf1ce 3 (some (.object "java/lang/AbstractStringBuilder"))) ∈ lw_big := List.mem_append_right _ (tb_3 _ (List.mem_of_getElem? (i := 80) rfl))
set_option maxRecDepth 100000 in
theorem GWc8_m_30 : (Cond.methodLink RJ5 204 ⟨"java/lang/AbstractStringBuilder", "appendNull", "()Ljava/lang/AbstractStringBuilder;"⟩) ∈ lw_big := List.mem_append_right _ (tb_3 _ (List.mem_of_getElem? (i := 81) rfl))
set_option maxRecDepth 100000 in
theorem GWc8_m_31 : (Cond.sameMethod "java/lang/AbstractStringBuilder" "java/lang/AbstractStringBuilder" "appendNull" "()Ljava/lang/AbstractStringBuilder;") ∈ lw_big := List.mem_append_right _ (tb_8 _ (List.mem_of_getElem? (i := 236) rfl))
set_option maxRecDepth 100000 in
theorem GWc8_m_32 : (Cond.selects RJ4 ⟨"java/lang/AbstractStringBuilder", "appendNull", "()Ljava/lang/AbstractStringBuilder;"⟩ yJ5_appendNull_278bc) ∈ lw_big := List.mem_append_left _ (List.mem_of_getElem? (i := 3) rfl)
set_option maxRecDepth 100000 in
theorem GWc8_m_33 : (Cond.instanceMethod yJ5_appendNull_278bc) ∈ lw_big := List.mem_append_right _ (tb_3 _ (List.mem_of_getElem? (i := 83) rfl))
set_option maxRecDepth 100000 in
theorem GWc8_m_34 : (Cond.code yJ5_appendNull_278bc cJ5_appendNull_278bc 3 (some (.object "java/lang/AbstractStringBuilder"))) ∈ lw_big := List.mem_append_right _ (tb_3 _ (List.mem_of_getElem? (i := 84) rfl))
set_option maxRecDepth 100000 in
theorem GWc8_m_35 : (Cond.methodLink RJ5 226 yJ2_putCharsAt_cd4e5) ∈ lw_big := List.mem_append_right _ (tb_3 _ (List.mem_of_getElem? (i := 85) rfl))
set_option maxRecDepth 100000 in
theorem GWc8_m_36 : (Cond.static yJ2_putCharsAt_cd4e5) ∈ lw_big := List.mem_append_right _ (tb_3 _ (List.mem_of_getElem? (i := 86) rfl))
set_option maxRecDepth 100000 in
theorem GWc8_m_37 : (Cond.code yJ2_putCharsAt_cd4e5 cJ2_putCharsAt_cd4e5 7 (some .int)) ∈ lw_big := List.mem_append_right _ (tb_3 _ (List.mem_of_getElem? (i := 87) rfl))
set_option maxRecDepth 100000 in
theorem GWc8_m_38 : (Cond.methodLink RJ5 32 yJ0_length_8abf5) ∈ lw_big := List.mem_append_right _ (tb_3 _ (List.mem_of_getElem? (i := 100) rfl))
set_option maxRecDepth 100000 in
theorem GWc8_m_39 : (Cond.methodLink RJ5 208 ⟨"java/lang/AbstractStringBuilder", "putStringAt", "(ILjava/lang/String;)V"⟩) ∈ lw_big := List.mem_append_right _ (tb_3 _ (List.mem_of_getElem? (i := 101) rfl))
theorem GWc8_b : ∀ w ∈ GWc8, w ∈ lw_big := List.forall_mem_cons.mpr ⟨GWc8_m_0, List.forall_mem_cons.mpr ⟨GWc8_m_1, List.forall_mem_cons.mpr ⟨GWc8_m_2, List.forall_mem_cons.mpr ⟨GWc8_m_3, List.forall_mem_cons.mpr ⟨GWc8_m_4, List.forall_mem_cons.mpr ⟨GWc8_m_5, List.forall_mem_cons.mpr ⟨GWc8_m_6, List.forall_mem_cons.mpr ⟨GWc8_m_7, List.forall_mem_cons.mpr ⟨GWc8_m_8, List.forall_mem_cons.mpr ⟨GWc8_m_9, List.forall_mem_cons.mpr ⟨GWc8_m_10, List.forall_mem_cons.mpr ⟨GWc8_m_11, List.forall_mem_cons.mpr ⟨GWc8_m_12, List.forall_mem_cons.mpr ⟨GWc8_m_13, List.forall_mem_cons.mpr ⟨GWc8_m_14, List.forall_mem_cons.mpr ⟨GWc8_m_15, List.forall_mem_cons.mpr ⟨GWc8_m_16, List.forall_mem_cons.mpr ⟨GWc8_m_17, List.forall_mem_cons.mpr ⟨GWc8_m_18, List.forall_mem_cons.mpr ⟨GWc8_m_19, List.forall_mem_cons.mpr ⟨GWc8_m_20, List.forall_mem_cons.mpr ⟨GWc8_m_21, List.forall_mem_cons.mpr ⟨GWc8_m_22, List.forall_mem_cons.mpr ⟨GWc8_m_23, List.forall_mem_cons.mpr ⟨GWc8_m_24, List.forall_mem_cons.mpr ⟨GWc8_m_25, List.forall_mem_cons.mpr ⟨GWc8_m_26, List.forall_mem_cons.mpr ⟨GWc8_m_27, List.forall_mem_cons.mpr ⟨GWc8_m_28, List.forall_mem_cons.mpr ⟨GWc8_m_29, List.forall_mem_cons.mpr ⟨GWc8_m_30, List.forall_mem_cons.mpr ⟨GWc8_m_31, List.forall_mem_cons.mpr ⟨GWc8_m_32, List.forall_mem_cons.mpr ⟨GWc8_m_33, List.forall_mem_cons.mpr ⟨GWc8_m_34, List.forall_mem_cons.mpr ⟨GWc8_m_35, List.forall_mem_cons.mpr ⟨GWc8_m_36, List.forall_mem_cons.mpr ⟨GWc8_m_37, List.forall_mem_cons.mpr ⟨GWc8_m_38, List.forall_mem_cons.mpr ⟨GWc8_m_39, fun _ h => absurd h List.not_mem_nil⟩⟩⟩⟩⟩⟩⟩⟩⟩⟩⟩⟩⟩⟩⟩⟩⟩⟩⟩⟩⟩⟩⟩⟩⟩⟩⟩⟩⟩⟩⟩⟩⟩⟩⟩⟩⟩⟩⟩⟩
set_option maxRecDepth 100000 in
theorem GWc9_m_0 : (Cond.sameMethod "java/lang/AbstractStringBuilder" "java/lang/AbstractStringBuilder" "putStringAt" "(ILjava/lang/String;)V") ∈ lw_big := List.mem_append_right _ (tb_8 _ (List.mem_of_getElem? (i := 237) rfl))
set_option maxRecDepth 100000 in
theorem GWc9_m_1 : (Cond.selects RJ4 ⟨"java/lang/AbstractStringBuilder", "putStringAt", "(ILjava/lang/String;)V"⟩ yJ5_putStringAt_47b60) ∈ lw_big := List.mem_append_left _ (List.mem_of_getElem? (i := 4) rfl)
set_option maxRecDepth 100000 in
theorem GWc9_m_2 : (Cond.instanceMethod yJ5_putStringAt_47b60) ∈ lw_big := List.mem_append_right _ (tb_3 _ (List.mem_of_getElem? (i := 103) rfl))
set_option maxRecDepth 100000 in
theorem GWc9_m_3 : (Cond.code yJ5_putStringAt_47b60 cJ5_putStringAt_47b60 3 none) ∈ lw_big := List.mem_append_right _ (tb_3 _ (List.mem_of_getElem? (i := 104) rfl))
set_option maxRecDepth 100000 in
theorem GWc9_m_4 : (Cond.methodLink RJ5 397 ⟨"java/lang/AbstractStringBuilder", "inflateIfNeededFor", "(Ljava/lang/String;)V"⟩) ∈ lw_big := List.mem_append_right _ (tb_3 _ (List.mem_of_getElem? (i := 105) rfl))
set_option maxRecDepth 100000 in
theorem GWc9_m_5 : (Cond.sameMethod "java/lang/AbstractStringBuilder" "java/lang/AbstractStringBuilder" "inflateIfNeededFor" "(Ljava/lang/String;)V") ∈ lw_big := List.mem_append_right _ (tb_8 _ (List.mem_of_getElem? (i := 238) rfl))
set_option maxRecDepth 100000 in
theorem GWc9_m_6 : (Cond.selects RJ4 ⟨"java/lang/AbstractStringBuilder", "inflateIfNeededFor", "(Ljava/lang/String;)V"⟩ yJ5_inflateIfNeededFor_a7421) ∈ lw_big := List.mem_append_left _ (List.mem_of_getElem? (i := 5) rfl)
set_option maxRecDepth 100000 in
theorem GWc9_m_7 : (Cond.instanceMethod yJ5_inflateIfNeededFor_a7421) ∈ lw_big := List.mem_append_right _ (tb_3 _ (List.mem_of_getElem? (i := 107) rfl))
set_option maxRecDepth 100000 in
theorem GWc9_m_8 : (Cond.code yJ5_inflateIfNeededFor_a7421 cJ5_inflateIfNeededFor_a7421 2 none) ∈ lw_big := List.mem_append_right _ (tb_3 _ (List.mem_of_getElem? (i := 108) rfl))
set_option maxRecDepth 100000 in
theorem GWc9_m_9 : (Cond.methodLink RJ5 40 yJ0_coder_7d493) ∈ lw_big := List.mem_append_right _ (tb_3 _ (List.mem_of_getElem? (i := 109) rfl))
set_option maxRecDepth 100000 in
theorem GWc9_m_10 : (Cond.methodLink RJ5 399 yJ0_getBytes_840e7) ∈ lw_big := List.mem_append_right _ (tb_3 _ (List.mem_of_getElem? (i := 129) rfl))
set_option maxRecDepth 100000 in
theorem GWc9_m_11 : (Cond.instanceMethod yJ0_getBytes_840e7) ∈ lw_big := List.mem_append_right _ (tb_3 _ (List.mem_of_getElem? (i := 130) rfl))
set_option maxRecDepth 100000 in
theorem GWc9_m_12 : (Cond.selects RJ0 yJ0_getBytes_840e7 yJ0_getBytes_840e7) ∈ lw_big := List.mem_append_right _ (tb_3 _ (List.mem_of_getElem? (i := 131) rfl))
set_option maxRecDepth 100000 in
theorem GWc9_m_13 : (Cond.code yJ0_getBytes_840e7 cJ0_getBytes_840e7 4 none) ∈ lw_big := List.mem_append_right _ (tb_3 _ (List.mem_of_getElem? (i := 132) rfl))
set_option maxRecDepth 100000 in
theorem GWc9_m_14 : (Cond.methodLink RJ0 212 arraycopyName) ∈ lw_big := List.mem_append_right _ (tb_3 _ (List.mem_of_getElem? (i := 133) rfl))
set_option maxRecDepth 100000 in
theorem GWc9_m_15 : (Cond.methodLink RJ0 106 yJ1_inflate_0e8fd) ∈ lw_big := List.mem_append_right _ (tb_3 _ (List.mem_of_getElem? (i := 134) rfl))
set_option maxRecDepth 100000 in
theorem GWc9_m_16 : (Cond.code yX1_init cX1_init 3 none) ∈ lw_big := List.mem_append_right _ (tb_4 _ (List.mem_of_getElem? (i := 171) rfl))
set_option maxRecDepth 100000 in
theorem GWc9_m_17 : (Cond.methodLink RX1 3 objectInit) ∈ lw_big := List.mem_append_right _ (tb_4 _ (List.mem_of_getElem? (i := 172) rfl))
set_option maxRecDepth 100000 in
theorem GWc9_m_18 : (Cond.fieldLink RX1 9 "PhraseDesk$Family" "number" "I") ∈ lw_big := List.mem_append_right _ (tb_4 _ (List.mem_of_getElem? (i := 176) rfl))
set_option maxRecDepth 100000 in
theorem GWc9_m_19 : (Cond.fieldLink RX1 15 "PhraseDesk$Family" "kind" "I") ∈ lw_big := List.mem_append_right _ (tb_4 _ (List.mem_of_getElem? (i := 177) rfl))
set_option maxRecDepth 100000 in
theorem GWc9_m_20 : (Cond.fieldLink RX1 18 "PhraseDesk$Family" "parent" "LPhraseDesk$Family;") ∈ lw_big := List.mem_append_right _ (tb_4 _ (List.mem_of_getElem? (i := 180) rfl))
set_option maxRecDepth 100000 in
theorem GWc9_m_21 : (Cond.classLink RX1 22 RX2) ∈ lw_big := List.mem_append_right _ (tb_4 _ (List.mem_of_getElem? (i := 173) rfl))
set_option maxRecDepth 100000 in
theorem GWc9_m_22 : (Cond.fieldLink RX1 24 "PhraseDesk$Family" "fields" "[LPhraseDesk$Field;") ∈ lw_big := List.mem_append_right _ (tb_4 _ (List.mem_of_getElem? (i := 184) rfl))
set_option maxRecDepth 100000 in
theorem GWc9_m_23 : (Cond.classLink RX1 28 RX7) ∈ lw_big := List.mem_append_right _ (tb_4 _ (List.mem_of_getElem? (i := 175) rfl))
set_option maxRecDepth 100000 in
theorem GWc9_m_24 : (Cond.fieldLink RX1 30 "PhraseDesk$Family" "routines" "[LPhraseDesk$Routine;") ∈ lw_big := List.mem_append_right _ (tb_4 _ (List.mem_of_getElem? (i := 187) rfl))
set_option maxRecDepth 100000 in
theorem GWc9_m_25 : (Cond.code yX1_addField cX1_addField 3 none) ∈ lw_big := List.mem_append_right _ (tb_4 _ (List.mem_of_getElem? (i := 230) rfl))
set_option maxRecDepth 100000 in
theorem GWc9_m_26 : (Cond.fieldLink RX1 34 "PhraseDesk$Family" "fieldCount" "I") ∈ lw_big := List.mem_append_right _ (tb_4 _ (List.mem_of_getElem? (i := 185) rfl))
set_option maxRecDepth 100000 in
theorem GWc9_m_27 : (Cond.instantiable RX2 3) ∈ lw_big := List.mem_append_right _ (tb_4 _ (List.mem_of_getElem? (i := 231) rfl))
set_option maxRecDepth 100000 in
theorem GWc9_m_28 : (Cond.initialized RX2) ∈ lw_big := List.mem_append_right _ (tb_1 _ (List.mem_of_getElem? (i := 27) rfl))
set_option maxRecDepth 100000 in
theorem GWc9_m_29 : (Cond.methodLink RX1 37 yX2_init) ∈ lw_big := List.mem_append_right _ (tb_4 _ (List.mem_of_getElem? (i := 232) rfl))
set_option maxRecDepth 100000 in
theorem GWc9_m_30 : (Cond.instanceMethod yX2_init) ∈ lw_big := List.mem_append_right _ (tb_4 _ (List.mem_of_getElem? (i := 233) rfl))
set_option maxRecDepth 100000 in
theorem GWc9_m_31 : (Cond.code yX2_init cX2_init 4 none) ∈ lw_big := List.mem_append_right _ (tb_4 _ (List.mem_of_getElem? (i := 234) rfl))
set_option maxRecDepth 100000 in
theorem GWc9_m_32 : (Cond.methodLink RX2 1 objectInit) ∈ lw_big := List.mem_append_right _ (tb_4 _ (List.mem_of_getElem? (i := 235) rfl))
set_option maxRecDepth 100000 in
theorem GWc9_m_33 : (Cond.fieldLink RX2 7 "PhraseDesk$Field" "name" "I") ∈ lw_big := List.mem_append_right _ (tb_4 _ (List.mem_of_getElem? (i := 236) rfl))
set_option maxRecDepth 100000 in
theorem GWc9_m_34 : (Cond.fieldLink RX2 13 "PhraseDesk$Field" "type" "I") ∈ lw_big := List.mem_append_right _ (tb_4 _ (List.mem_of_getElem? (i := 238) rfl))
set_option maxRecDepth 100000 in
theorem GWc9_m_35 : (Cond.fieldLink RX2 16 "PhraseDesk$Field" "slot" "I") ∈ lw_big := List.mem_append_right _ (tb_5 _ (List.mem_of_getElem? (i := 0) rfl))
set_option maxRecDepth 100000 in
theorem GWc9_m_36 : (Cond.code yX1_addRoutine cX1_addRoutine 2 none) ∈ lw_big := List.mem_append_right _ (tb_5 _ (List.mem_of_getElem? (i := 59) rfl))
set_option maxRecDepth 100000 in
theorem GWc9_m_37 : (Cond.fieldLink RX1 40 "PhraseDesk$Family" "routineCount" "I") ∈ lw_big := List.mem_append_right _ (tb_4 _ (List.mem_of_getElem? (i := 188) rfl))
set_option maxRecDepth 100000 in
theorem GWc9_m_38 : (Cond.code yX1_routineAt cX1_routineAt 2 (some (.object "PhraseDesk$Routine"))) ∈ lw_big := List.mem_append_right _ (tb_5 _ (List.mem_of_getElem? (i := 172) rfl))
set_option maxRecDepth 100000 in
theorem GWc9_m_39 : (Cond.code yX1_ownField cX1_ownField 4 (some (.object "PhraseDesk$Field"))) ∈ lw_big := List.mem_append_right _ (tb_4 _ (List.mem_of_getElem? (i := 225) rfl))
theorem GWc9_b : ∀ w ∈ GWc9, w ∈ lw_big := List.forall_mem_cons.mpr ⟨GWc9_m_0, List.forall_mem_cons.mpr ⟨GWc9_m_1, List.forall_mem_cons.mpr ⟨GWc9_m_2, List.forall_mem_cons.mpr ⟨GWc9_m_3, List.forall_mem_cons.mpr ⟨GWc9_m_4, List.forall_mem_cons.mpr ⟨GWc9_m_5, List.forall_mem_cons.mpr ⟨GWc9_m_6, List.forall_mem_cons.mpr ⟨GWc9_m_7, List.forall_mem_cons.mpr ⟨GWc9_m_8, List.forall_mem_cons.mpr ⟨GWc9_m_9, List.forall_mem_cons.mpr ⟨GWc9_m_10, List.forall_mem_cons.mpr ⟨GWc9_m_11, List.forall_mem_cons.mpr ⟨GWc9_m_12, List.forall_mem_cons.mpr ⟨GWc9_m_13, List.forall_mem_cons.mpr ⟨GWc9_m_14, List.forall_mem_cons.mpr ⟨GWc9_m_15, List.forall_mem_cons.mpr ⟨GWc9_m_16, List.forall_mem_cons.mpr ⟨GWc9_m_17, List.forall_mem_cons.mpr ⟨GWc9_m_18, List.forall_mem_cons.mpr ⟨GWc9_m_19, List.forall_mem_cons.mpr ⟨GWc9_m_20, List.forall_mem_cons.mpr ⟨GWc9_m_21, List.forall_mem_cons.mpr ⟨GWc9_m_22, List.forall_mem_cons.mpr ⟨GWc9_m_23, List.forall_mem_cons.mpr ⟨GWc9_m_24, List.forall_mem_cons.mpr ⟨GWc9_m_25, List.forall_mem_cons.mpr ⟨GWc9_m_26, List.forall_mem_cons.mpr ⟨GWc9_m_27, List.forall_mem_cons.mpr ⟨GWc9_m_28, List.forall_mem_cons.mpr ⟨GWc9_m_29, List.forall_mem_cons.mpr ⟨GWc9_m_30, List.forall_mem_cons.mpr ⟨GWc9_m_31, List.forall_mem_cons.mpr ⟨GWc9_m_32, List.forall_mem_cons.mpr ⟨GWc9_m_33, List.forall_mem_cons.mpr ⟨GWc9_m_34, List.forall_mem_cons.mpr ⟨GWc9_m_35, List.forall_mem_cons.mpr ⟨GWc9_m_36, List.forall_mem_cons.mpr ⟨GWc9_m_37, List.forall_mem_cons.mpr ⟨GWc9_m_38, List.forall_mem_cons.mpr ⟨GWc9_m_39, fun _ h => absurd h List.not_mem_nil⟩⟩⟩⟩⟩⟩⟩⟩⟩⟩⟩⟩⟩⟩⟩⟩⟩⟩⟩⟩⟩⟩⟩⟩⟩⟩⟩⟩⟩⟩⟩⟩⟩⟩⟩⟩⟩⟩⟩⟩
set_option maxRecDepth 100000 in
theorem GWc10_m_0 : (Cond.fieldLink RX1 43 "PhraseDesk$Field" "name" "I") ∈ lw_big := List.mem_append_right _ (tb_4 _ (List.mem_of_getElem? (i := 237) rfl))
set_option maxRecDepth 100000 in
theorem GWc10_m_1 : (Cond.code yX1_nearestField cX1_nearestField 4 (some (.object "PhraseDesk$Field"))) ∈ lw_big := List.mem_append_right _ (tb_5 _ (List.mem_of_getElem? (i := 151) rfl))
set_option maxRecDepth 100000 in
theorem GWc10_m_2 : (Cond.methodLink RX1 46 yX1_ownField) ∈ lw_big := List.mem_append_right _ (tb_5 _ (List.mem_of_getElem? (i := 152) rfl))
set_option maxRecDepth 100000 in
theorem GWc10_m_3 : (Cond.instanceMethod yX1_ownField) ∈ lw_big := List.mem_append_right _ (tb_4 _ (List.mem_of_getElem? (i := 223) rfl))
set_option maxRecDepth 100000 in
theorem GWc10_m_4 : (Cond.selects RX1 yX1_ownField yX1_ownField) ∈ lw_big := List.mem_append_right _ (tb_4 _ (List.mem_of_getElem? (i := 224) rfl))
set_option maxRecDepth 100000 in
theorem GWc10_m_5 : (Cond.initialized RX1) ∈ lw_big := List.mem_append_right _ (tb_1 _ (List.mem_of_getElem? (i := 26) rfl))
set_option maxRecDepth 100000 in
theorem GWc10_m_6 : (Cond.code yX3_init cX3_init 1 none) ∈ lw_big := List.mem_append_right _ (tb_1 _ (List.mem_of_getElem? (i := 197) rfl))
set_option maxRecDepth 100000 in
theorem GWc10_m_7 : (Cond.methodLink RX3 3 objectInit) ∈ lw_big := List.mem_append_right _ (tb_1 _ (List.mem_of_getElem? (i := 198) rfl))
set_option maxRecDepth 100000 in
theorem GWc10_m_8 : (Cond.classLink RX3 9 RX7) ∈ lw_big := List.mem_append_right _ (tb_1 _ (List.mem_of_getElem? (i := 199) rfl))
set_option maxRecDepth 100000 in
theorem GWc10_m_9 : (Cond.fieldLink RX3 11 "PhraseDesk$Finder" "candidates" "[LPhraseDesk$Routine;") ∈ lw_big := List.mem_append_right _ (tb_1 _ (List.mem_of_getElem? (i := 201) rfl))
set_option maxRecDepth 100000 in
theorem GWc10_m_10 : (Cond.code yX3_find cX3_find 7 (some (.object "PhraseDesk$Routine"))) ∈ lw_big := List.mem_append_right _ (tb_5 _ (List.mem_of_getElem? (i := 160) rfl))
set_option maxRecDepth 100000 in
theorem GWc10_m_11 : (Cond.fieldLink RX3 17 "PhraseDesk$Node" "name" "I") ∈ lw_big := List.mem_append_right _ (tb_4 _ (List.mem_of_getElem? (i := 74) rfl))
set_option maxRecDepth 100000 in
theorem GWc10_m_12 : (Cond.methodLink RX3 23 yX5_arguments) ∈ lw_big := List.mem_append_right _ (tb_5 _ (List.mem_of_getElem? (i := 161) rfl))
set_option maxRecDepth 100000 in
theorem GWc10_m_13 : (Cond.instanceMethod yX5_arguments) ∈ lw_big := List.mem_append_right _ (tb_5 _ (List.mem_of_getElem? (i := 162) rfl))
set_option maxRecDepth 100000 in
theorem GWc10_m_14 : (Cond.selects RX5 yX5_arguments yX5_arguments) ∈ lw_big := List.mem_append_right _ (tb_5 _ (List.mem_of_getElem? (i := 163) rfl))
set_option maxRecDepth 100000 in
theorem GWc10_m_15 : (Cond.initialized RX5) ∈ lw_big := List.mem_append_right _ (tb_1 _ (List.mem_of_getElem? (i := 25) rfl))
set_option maxRecDepth 100000 in
theorem GWc10_m_16 : (Cond.code yX5_arguments cX5_arguments 1 (some .int)) ∈ lw_big := List.mem_append_right _ (tb_5 _ (List.mem_of_getElem? (i := 164) rfl))
set_option maxRecDepth 100000 in
theorem GWc10_m_17 : (Cond.fieldLink RX5 24 "PhraseDesk$Node" "two" "LPhraseDesk$Node;") ∈ lw_big := List.mem_append_right _ (tb_4 _ (List.mem_of_getElem? (i := 80) rfl))
set_option maxRecDepth 100000 in
theorem GWc10_m_18 : (Cond.fieldLink RX5 27 "PhraseDesk$Node" "three" "LPhraseDesk$Node;") ∈ lw_big := List.mem_append_right _ (tb_4 _ (List.mem_of_getElem? (i := 82) rfl))
set_option maxRecDepth 100000 in
theorem GWc10_m_19 : (Cond.methodLink RX3 27 yX3_collect) ∈ lw_big := List.mem_append_right _ (tb_5 _ (List.mem_of_getElem? (i := 165) rfl))
set_option maxRecDepth 100000 in
theorem GWc10_m_20 : (Cond.instanceMethod yX3_collect) ∈ lw_big := List.mem_append_right _ (tb_5 _ (List.mem_of_getElem? (i := 167) rfl))
set_option maxRecDepth 100000 in
theorem GWc10_m_21 : (Cond.selects RX3 yX3_collect yX3_collect) ∈ lw_big := List.mem_append_right _ (List.mem_append_left _ (List.mem_of_getElem? (i := 34) (by decide +kernel)))
set_option maxRecDepth 100000 in
theorem GWc10_m_22 : (Cond.initialized RX3) ∈ lw_big := List.mem_append_right _ (tb_1 _ (List.mem_of_getElem? (i := 11) rfl))
set_option maxRecDepth 100000 in
theorem GWc10_m_23 : (Cond.code yX3_collect cX3_collect 7 none) ∈ lw_big := List.mem_append_right _ (tb_5 _ (List.mem_of_getElem? (i := 168) rfl))
set_option maxRecDepth 100000 in
theorem GWc10_m_24 : (Cond.fieldLink RX3 42 "PhraseDesk$Finder" "count" "I") ∈ lw_big := List.mem_append_right _ (tb_1 _ (List.mem_of_getElem? (i := 202) rfl))
set_option maxRecDepth 100000 in
theorem GWc10_m_25 : (Cond.fieldLink RX3 45 "PhraseDesk$Family" "routineCount" "I") ∈ lw_big := List.mem_append_right _ (tb_4 _ (List.mem_of_getElem? (i := 189) rfl))
set_option maxRecDepth 100000 in
theorem GWc10_m_26 : (Cond.fieldLink RX3 54 "PhraseDesk$Routine" "name" "I") ∈ lw_big := List.mem_append_right _ (tb_5 _ (List.mem_of_getElem? (i := 29) rfl))
set_option maxRecDepth 100000 in
theorem GWc10_m_27 : (Cond.fieldLink RX3 55 "PhraseDesk$Routine" "parameters" "I") ∈ lw_big := List.mem_append_right _ (tb_5 _ (List.mem_of_getElem? (i := 37) rfl))
set_option maxRecDepth 100000 in
theorem GWc10_m_28 : (Cond.fieldLink RX3 62 "PhraseDesk$Family" "parent" "LPhraseDesk$Family;") ∈ lw_big := List.mem_append_right _ (tb_4 _ (List.mem_of_getElem? (i := 181) rfl))
set_option maxRecDepth 100000 in
theorem GWc10_m_29 : (Cond.methodLink RX3 50 yX1_routineAt) ∈ lw_big := List.mem_append_right _ (tb_5 _ (List.mem_of_getElem? (i := 169) rfl))
set_option maxRecDepth 100000 in
theorem GWc10_m_30 : (Cond.instanceMethod yX1_routineAt) ∈ lw_big := List.mem_append_right _ (tb_5 _ (List.mem_of_getElem? (i := 170) rfl))
set_option maxRecDepth 100000 in
theorem GWc10_m_31 : (Cond.selects RX1 yX1_routineAt yX1_routineAt) ∈ lw_big := List.mem_append_right _ (tb_5 _ (List.mem_of_getElem? (i := 171) rfl))
set_option maxRecDepth 100000 in
theorem GWc10_m_32 : (Cond.methodLink RX3 58 yX3_addUnlessHidden) ∈ lw_big := List.mem_append_right _ (tb_5 _ (List.mem_of_getElem? (i := 173) rfl))
set_option maxRecDepth 100000 in
theorem GWc10_m_33 : (Cond.instanceMethod yX3_addUnlessHidden) ∈ lw_big := List.mem_append_right _ (tb_5 _ (List.mem_of_getElem? (i := 175) rfl))
set_option maxRecDepth 100000 in
theorem GWc10_m_34 : (Cond.selects RX3 yX3_addUnlessHidden yX3_addUnlessHidden) ∈ lw_big := List.mem_append_right _ (List.mem_append_left _ (List.mem_of_getElem? (i := 35) (by decide +kernel)))
set_option maxRecDepth 100000 in
theorem GWc10_m_35 : (Cond.code yX3_addUnlessHidden cX3_addUnlessHidden 4 none) ∈ lw_big := List.mem_append_right _ (tb_5 _ (List.mem_of_getElem? (i := 176) rfl))
set_option maxRecDepth 100000 in
theorem GWc10_m_36 : (Cond.fieldLink RX3 66 "PhraseDesk$Routine" "one" "I") ∈ lw_big := List.mem_append_right _ (tb_5 _ (List.mem_of_getElem? (i := 31) rfl))
set_option maxRecDepth 100000 in
theorem GWc10_m_37 : (Cond.fieldLink RX3 69 "PhraseDesk$Routine" "two" "I") ∈ lw_big := List.mem_append_right _ (tb_5 _ (List.mem_of_getElem? (i := 34) rfl))
set_option maxRecDepth 100000 in
theorem GWc10_m_38 : (Cond.methodLink RX3 31 yX3_exact) ∈ lw_big := List.mem_append_right _ (tb_5 _ (List.mem_of_getElem? (i := 177) rfl))
set_option maxRecDepth 100000 in
theorem GWc10_m_39 : (Cond.instanceMethod yX3_exact) ∈ lw_big := List.mem_append_right _ (tb_5 _ (List.mem_of_getElem? (i := 179) rfl))
theorem GWc10_b : ∀ w ∈ GWc10, w ∈ lw_big := List.forall_mem_cons.mpr ⟨GWc10_m_0, List.forall_mem_cons.mpr ⟨GWc10_m_1, List.forall_mem_cons.mpr ⟨GWc10_m_2, List.forall_mem_cons.mpr ⟨GWc10_m_3, List.forall_mem_cons.mpr ⟨GWc10_m_4, List.forall_mem_cons.mpr ⟨GWc10_m_5, List.forall_mem_cons.mpr ⟨GWc10_m_6, List.forall_mem_cons.mpr ⟨GWc10_m_7, List.forall_mem_cons.mpr ⟨GWc10_m_8, List.forall_mem_cons.mpr ⟨GWc10_m_9, List.forall_mem_cons.mpr ⟨GWc10_m_10, List.forall_mem_cons.mpr ⟨GWc10_m_11, List.forall_mem_cons.mpr ⟨GWc10_m_12, List.forall_mem_cons.mpr ⟨GWc10_m_13, List.forall_mem_cons.mpr ⟨GWc10_m_14, List.forall_mem_cons.mpr ⟨GWc10_m_15, List.forall_mem_cons.mpr ⟨GWc10_m_16, List.forall_mem_cons.mpr ⟨GWc10_m_17, List.forall_mem_cons.mpr ⟨GWc10_m_18, List.forall_mem_cons.mpr ⟨GWc10_m_19, List.forall_mem_cons.mpr ⟨GWc10_m_20, List.forall_mem_cons.mpr ⟨GWc10_m_21, List.forall_mem_cons.mpr ⟨GWc10_m_22, List.forall_mem_cons.mpr ⟨GWc10_m_23, List.forall_mem_cons.mpr ⟨GWc10_m_24, List.forall_mem_cons.mpr ⟨GWc10_m_25, List.forall_mem_cons.mpr ⟨GWc10_m_26, List.forall_mem_cons.mpr ⟨GWc10_m_27, List.forall_mem_cons.mpr ⟨GWc10_m_28, List.forall_mem_cons.mpr ⟨GWc10_m_29, List.forall_mem_cons.mpr ⟨GWc10_m_30, List.forall_mem_cons.mpr ⟨GWc10_m_31, List.forall_mem_cons.mpr ⟨GWc10_m_32, List.forall_mem_cons.mpr ⟨GWc10_m_33, List.forall_mem_cons.mpr ⟨GWc10_m_34, List.forall_mem_cons.mpr ⟨GWc10_m_35, List.forall_mem_cons.mpr ⟨GWc10_m_36, List.forall_mem_cons.mpr ⟨GWc10_m_37, List.forall_mem_cons.mpr ⟨GWc10_m_38, List.forall_mem_cons.mpr ⟨GWc10_m_39, fun _ h => absurd h List.not_mem_nil⟩⟩⟩⟩⟩⟩⟩⟩⟩⟩⟩⟩⟩⟩⟩⟩⟩⟩⟩⟩⟩⟩⟩⟩⟩⟩⟩⟩⟩⟩⟩⟩⟩⟩⟩⟩⟩⟩⟩⟩
set_option maxRecDepth 100000 in
theorem GWc11_m_0 : (Cond.selects RX3 yX3_exact yX3_exact) ∈ lw_big := List.mem_append_right _ (List.mem_append_left _ (List.mem_of_getElem? (i := 36) (by decide +kernel)))
set_option maxRecDepth 100000 in
theorem GWc11_m_1 : (Cond.code yX3_exact cX3_exact 5 (some (.object "PhraseDesk$Routine"))) ∈ lw_big := List.mem_append_right _ (tb_5 _ (List.mem_of_getElem? (i := 180) rfl))
set_option maxRecDepth 100000 in
theorem GWc11_m_2 : (Cond.fieldLink RX3 72 "PhraseDesk$Value" "kind" "I") ∈ lw_big := List.mem_append_right _ (tb_1 _ (List.mem_of_getElem? (i := 149) rfl))
set_option maxRecDepth 100000 in
theorem GWc11_m_3 : (Cond.methodLink RX3 35 yX3_closest) ∈ lw_big := List.mem_append_right _ (tb_5 _ (List.mem_of_getElem? (i := 181) rfl))
set_option maxRecDepth 100000 in
theorem GWc11_m_4 : (Cond.instanceMethod yX3_closest) ∈ lw_big := List.mem_append_right _ (tb_5 _ (List.mem_of_getElem? (i := 183) rfl))
set_option maxRecDepth 100000 in
theorem GWc11_m_5 : (Cond.selects RX3 yX3_closest yX3_closest) ∈ lw_big := List.mem_append_right _ (List.mem_append_left _ (List.mem_of_getElem? (i := 37) (by decide +kernel)))
set_option maxRecDepth 100000 in
theorem GWc11_m_6 : (Cond.code yX3_closest cX3_closest 8 (some (.object "PhraseDesk$Routine"))) ∈ lw_big := List.mem_append_right _ (tb_5 _ (List.mem_of_getElem? (i := 184) rfl))
set_option maxRecDepth 100000 in
theorem GWc11_m_7 : (Cond.methodLink RX3 77 yX10_fits) ∈ lw_big := List.mem_append_right _ (tb_5 _ (List.mem_of_getElem? (i := 185) rfl))
set_option maxRecDepth 100000 in
theorem GWc11_m_8 : (Cond.methodLink RX3 81 yX10_weight) ∈ lw_big := List.mem_append_right _ (tb_5 _ (List.mem_of_getElem? (i := 193) rfl))
set_option maxRecDepth 100000 in
theorem GWc11_m_9 : (Cond.instanceMethod yX10_weight) ∈ lw_big := List.mem_append_right _ (tb_5 _ (List.mem_of_getElem? (i := 194) rfl))
set_option maxRecDepth 100000 in
theorem GWc11_m_10 : (Cond.selects RX10 yX10_weight yX10_weight) ∈ lw_big := List.mem_append_right _ (tb_5 _ (List.mem_of_getElem? (i := 195) rfl))
set_option maxRecDepth 100000 in
theorem GWc11_m_11 : (Cond.code yX10_weight cX10_weight 2 (some .int)) ∈ lw_big := List.mem_append_right _ (tb_5 _ (List.mem_of_getElem? (i := 196) rfl))
set_option maxRecDepth 100000 in
theorem GWc11_m_12 : (Cond.methodLink RX3 38 yX3_convertible) ∈ lw_big := List.mem_append_right _ (tb_5 _ (List.mem_of_getElem? (i := 197) rfl))
set_option maxRecDepth 100000 in
theorem GWc11_m_13 : (Cond.instanceMethod yX3_convertible) ∈ lw_big := List.mem_append_right _ (tb_5 _ (List.mem_of_getElem? (i := 199) rfl))
set_option maxRecDepth 100000 in
theorem GWc11_m_14 : (Cond.selects RX3 yX3_convertible yX3_convertible) ∈ lw_big := List.mem_append_right _ (List.mem_append_left _ (List.mem_of_getElem? (i := 39) (by decide +kernel)))
set_option maxRecDepth 100000 in
theorem GWc11_m_15 : (Cond.code yX3_convertible cX3_convertible 7 (some (.object "PhraseDesk$Routine"))) ∈ lw_big := List.mem_append_right _ (tb_5 _ (List.mem_of_getElem? (i := 200) rfl))
set_option maxRecDepth 100000 in
theorem GWc11_m_16 : (Cond.fieldLink RX3 91 "PhraseDesk$Finder" "failure" "I") ∈ lw_big := List.mem_append_right _ (tb_1 _ (List.mem_of_getElem? (i := 204) rfl))
set_option maxRecDepth 100000 in
theorem GWc11_m_17 : (Cond.methodLink RX3 85 yX0_suit) ∈ lw_big := List.mem_append_right _ (tb_5 _ (List.mem_of_getElem? (i := 201) rfl))
set_option maxRecDepth 100000 in
theorem GWc11_m_18 : (Cond.instanceMethod yX0_suit) ∈ lw_big := List.mem_append_right _ (tb_5 _ (List.mem_of_getElem? (i := 202) rfl))
set_option maxRecDepth 100000 in
theorem GWc11_m_19 : (Cond.selects RX0 yX0_suit yX0_suit) ∈ lw_big := List.mem_append_right _ (tb_5 _ (List.mem_of_getElem? (i := 203) rfl))
set_option maxRecDepth 100000 in
theorem GWc11_m_20 : (Cond.code yX4_init cX4_init 1 none) ∈ lw_big := List.mem_append_right _ (tb_1 _ (List.mem_of_getElem? (i := 48) rfl))
set_option maxRecDepth 100000 in
theorem GWc11_m_21 : (Cond.methodLink RX4 3 objectInit) ∈ lw_big := List.mem_append_right _ (tb_1 _ (List.mem_of_getElem? (i := 49) rfl))
set_option maxRecDepth 100000 in
theorem GWc11_m_22 : (Cond.arrayClass .char) ∈ lw_big := List.mem_append_right _ (tb_1 _ (List.mem_of_getElem? (i := 84) rfl))
set_option maxRecDepth 100000 in
theorem GWc11_m_23 : (Cond.fieldLink RX4 9 "PhraseDesk$Lexer" "letters" "[C") ∈ lw_big := List.mem_append_right _ (tb_1 _ (List.mem_of_getElem? (i := 87) rfl))
set_option maxRecDepth 100000 in
theorem GWc11_m_24 : (Cond.arrayClass .int) ∈ lw_big := List.mem_append_right _ (tb_1 _ (List.mem_of_getElem? (i := 85) rfl))
set_option maxRecDepth 100000 in
theorem GWc11_m_25 : (Cond.fieldLink RX4 15 "PhraseDesk$Lexer" "kinds" "[I") ∈ lw_big := List.mem_append_right _ (tb_1 _ (List.mem_of_getElem? (i := 91) rfl))
set_option maxRecDepth 100000 in
theorem GWc11_m_26 : (Cond.fieldLink RX4 19 "PhraseDesk$Lexer" "places" "[I") ∈ lw_big := List.mem_append_right _ (tb_1 _ (List.mem_of_getElem? (i := 92) rfl))
set_option maxRecDepth 100000 in
theorem GWc11_m_27 : (Cond.fieldLink RX4 22 "PhraseDesk$Lexer" "names" "[I") ∈ lw_big := List.mem_append_right _ (tb_1 _ (List.mem_of_getElem? (i := 93) rfl))
set_option maxRecDepth 100000 in
theorem GWc11_m_28 : (Cond.classLink RX4 25 RX10) ∈ lw_big := List.mem_append_right _ (tb_1 _ (List.mem_of_getElem? (i := 50) rfl))
set_option maxRecDepth 100000 in
theorem GWc11_m_29 : (Cond.fieldLink RX4 27 "PhraseDesk$Lexer" "literals" "[LPhraseDesk$Value;") ∈ lw_big := List.mem_append_right _ (tb_1 _ (List.mem_of_getElem? (i := 94) rfl))
set_option maxRecDepth 100000 in
theorem GWc11_m_30 : (Cond.classLink RX4 31 RJ4) ∈ lw_big := List.mem_append_right _ (tb_1 _ (List.mem_of_getElem? (i := 52) rfl))
set_option maxRecDepth 100000 in
theorem GWc11_m_31 : (Cond.fieldLink RX4 34 "PhraseDesk$Lexer" "scratch" "Ljava/lang/StringBuilder;") ∈ lw_big := List.mem_append_right _ (tb_1 _ (List.mem_of_getElem? (i := 96) rfl))
set_option maxRecDepth 100000 in
theorem GWc11_m_32 : (Cond.methodLink RX4 33 yJ4_init_da8c8) ∈ lw_big := List.mem_append_right _ (tb_1 _ (List.mem_of_getElem? (i := 54) rfl))
set_option maxRecDepth 100000 in
theorem GWc11_m_33 : (Cond.code yX4_append cX4_append 2 none) ∈ lw_big := List.mem_append_right _ (tb_2 _ (List.mem_of_getElem? (i := 190) rfl))
set_option maxRecDepth 100000 in
theorem GWc11_m_34 : (Cond.fieldLink RX4 38 "PhraseDesk$Lexer" "length" "I") ∈ lw_big := List.mem_append_right _ (tb_1 _ (List.mem_of_getElem? (i := 88) rfl))
set_option maxRecDepth 100000 in
theorem GWc11_m_35 : (Cond.code yX4_kindAt cX4_kindAt 2 (some .int)) ∈ lw_big := List.mem_append_right _ (tb_4 _ (List.mem_of_getElem? (i := 49) rfl))
set_option maxRecDepth 100000 in
theorem GWc11_m_36 : (Cond.fieldLink RX4 42 "PhraseDesk$Lexer" "count" "I") ∈ lw_big := List.mem_append_right _ (tb_1 _ (List.mem_of_getElem? (i := 95) rfl))
set_option maxRecDepth 100000 in
theorem GWc11_m_37 : (Cond.code yX4_placeAt cX4_placeAt 2 (some .int)) ∈ lw_big := List.mem_append_right _ (tb_4 _ (List.mem_of_getElem? (i := 29) rfl))
set_option maxRecDepth 100000 in
theorem GWc11_m_38 : (Cond.code yX4_nameAt cX4_nameAt 2 (some .int)) ∈ lw_big := List.mem_append_right _ (tb_4 _ (List.mem_of_getElem? (i := 112) rfl))
set_option maxRecDepth 100000 in
theorem GWc11_m_39 : (Cond.code yX4_literalAt cX4_literalAt 2 (some (.object "PhraseDesk$Value"))) ∈ lw_big := List.mem_append_right _ (tb_4 _ (List.mem_of_getElem? (i := 61) rfl))
theorem GWc11_b : ∀ w ∈ GWc11, w ∈ lw_big := List.forall_mem_cons.mpr ⟨GWc11_m_0, List.forall_mem_cons.mpr ⟨GWc11_m_1, List.forall_mem_cons.mpr ⟨GWc11_m_2, List.forall_mem_cons.mpr ⟨GWc11_m_3, List.forall_mem_cons.mpr ⟨GWc11_m_4, List.forall_mem_cons.mpr ⟨GWc11_m_5, List.forall_mem_cons.mpr ⟨GWc11_m_6, List.forall_mem_cons.mpr ⟨GWc11_m_7, List.forall_mem_cons.mpr ⟨GWc11_m_8, List.forall_mem_cons.mpr ⟨GWc11_m_9, List.forall_mem_cons.mpr ⟨GWc11_m_10, List.forall_mem_cons.mpr ⟨GWc11_m_11, List.forall_mem_cons.mpr ⟨GWc11_m_12, List.forall_mem_cons.mpr ⟨GWc11_m_13, List.forall_mem_cons.mpr ⟨GWc11_m_14, List.forall_mem_cons.mpr ⟨GWc11_m_15, List.forall_mem_cons.mpr ⟨GWc11_m_16, List.forall_mem_cons.mpr ⟨GWc11_m_17, List.forall_mem_cons.mpr ⟨GWc11_m_18, List.forall_mem_cons.mpr ⟨GWc11_m_19, List.forall_mem_cons.mpr ⟨GWc11_m_20, List.forall_mem_cons.mpr ⟨GWc11_m_21, List.forall_mem_cons.mpr ⟨GWc11_m_22, List.forall_mem_cons.mpr ⟨GWc11_m_23, List.forall_mem_cons.mpr ⟨GWc11_m_24, List.forall_mem_cons.mpr ⟨GWc11_m_25, List.forall_mem_cons.mpr ⟨GWc11_m_26, List.forall_mem_cons.mpr ⟨GWc11_m_27, List.forall_mem_cons.mpr ⟨GWc11_m_28, List.forall_mem_cons.mpr ⟨GWc11_m_29, List.forall_mem_cons.mpr ⟨GWc11_m_30, List.forall_mem_cons.mpr ⟨GWc11_m_31, List.forall_mem_cons.mpr ⟨GWc11_m_32, List.forall_mem_cons.mpr ⟨GWc11_m_33, List.forall_mem_cons.mpr ⟨GWc11_m_34, List.forall_mem_cons.mpr ⟨GWc11_m_35, List.forall_mem_cons.mpr ⟨GWc11_m_36, List.forall_mem_cons.mpr ⟨GWc11_m_37, List.forall_mem_cons.mpr ⟨GWc11_m_38, List.forall_mem_cons.mpr ⟨GWc11_m_39, fun _ h => absurd h List.not_mem_nil⟩⟩⟩⟩⟩⟩⟩⟩⟩⟩⟩⟩⟩⟩⟩⟩⟩⟩⟩⟩⟩⟩⟩⟩⟩⟩⟩⟩⟩⟩⟩⟩⟩⟩⟩⟩⟩⟩⟩⟩
set_option maxRecDepth 100000 in
theorem GWc12_m_0 : (Cond.code yX4_cut cX4_cut 3 (some .int)) ∈ lw_big := List.mem_append_right _ (tb_2 _ (List.mem_of_getElem? (i := 206) rfl))
set_option maxRecDepth 100000 in
theorem GWc12_m_1 : (Cond.methodLink RX4 45 yX4_peek) ∈ lw_big := List.mem_append_right _ (tb_2 _ (List.mem_of_getElem? (i := 207) rfl))
set_option maxRecDepth 100000 in
theorem GWc12_m_2 : (Cond.instanceMethod yX4_peek) ∈ lw_big := List.mem_append_right _ (tb_2 _ (List.mem_of_getElem? (i := 209) rfl))
set_option maxRecDepth 100000 in
theorem GWc12_m_3 : (Cond.selects RX4 yX4_peek yX4_peek) ∈ lw_big := List.mem_append_right _ (List.mem_append_left _ (List.mem_of_getElem? (i := 1) (by decide +kernel)))
set_option maxRecDepth 100000 in
theorem GWc12_m_4 : (Cond.initialized RX4) ∈ lw_big := List.mem_append_right _ (tb_1 _ (List.mem_of_getElem? (i := 3) rfl))
set_option maxRecDepth 100000 in
theorem GWc12_m_5 : (Cond.code yX4_peek cX4_peek 2 (some .char)) ∈ lw_big := List.mem_append_right _ (tb_2 _ (List.mem_of_getElem? (i := 210) rfl))
set_option maxRecDepth 100000 in
theorem GWc12_m_6 : (Cond.methodLink RX4 49 yX4_token) ∈ lw_big := List.mem_append_right _ (tb_2 _ (List.mem_of_getElem? (i := 211) rfl))
set_option maxRecDepth 100000 in
theorem GWc12_m_7 : (Cond.instanceMethod yX4_token) ∈ lw_big := List.mem_append_right _ (tb_2 _ (List.mem_of_getElem? (i := 213) rfl))
set_option maxRecDepth 100000 in
theorem GWc12_m_8 : (Cond.selects RX4 yX4_token yX4_token) ∈ lw_big := List.mem_append_right _ (List.mem_append_left _ (List.mem_of_getElem? (i := 2) (by decide +kernel)))
set_option maxRecDepth 100000 in
theorem GWc12_m_9 : (Cond.code yX4_token cX4_token 3 (some .int)) ∈ lw_big := List.mem_append_right _ (tb_2 _ (List.mem_of_getElem? (i := 214) rfl))
set_option maxRecDepth 100000 in
theorem GWc12_m_10 : (Cond.methodLink RX4 57 yX4_isDigit) ∈ lw_big := List.mem_append_right _ (tb_2 _ (List.mem_of_getElem? (i := 215) rfl))
set_option maxRecDepth 100000 in
theorem GWc12_m_11 : (Cond.static yX4_isDigit) ∈ lw_big := List.mem_append_right _ (tb_2 _ (List.mem_of_getElem? (i := 216) rfl))
set_option maxRecDepth 100000 in
theorem GWc12_m_12 : (Cond.code yX4_isDigit cX4_isDigit 1 (some .boolean)) ∈ lw_big := List.mem_append_right _ (tb_2 _ (List.mem_of_getElem? (i := 217) rfl))
set_option maxRecDepth 100000 in
theorem GWc12_m_13 : (Cond.methodLink RX4 61 yX4_number) ∈ lw_big := List.mem_append_right _ (tb_2 _ (List.mem_of_getElem? (i := 218) rfl))
set_option maxRecDepth 100000 in
theorem GWc12_m_14 : (Cond.instanceMethod yX4_number) ∈ lw_big := List.mem_append_right _ (tb_2 _ (List.mem_of_getElem? (i := 220) rfl))
set_option maxRecDepth 100000 in
theorem GWc12_m_15 : (Cond.selects RX4 yX4_number yX4_number) ∈ lw_big := List.mem_append_right _ (List.mem_append_left _ (List.mem_of_getElem? (i := 3) (by decide +kernel)))
set_option maxRecDepth 100000 in
theorem GWc12_m_16 : (Cond.code yX4_number cX4_number 9 (some .int)) ∈ lw_big := List.mem_append_right _ (tb_2 _ (List.mem_of_getElem? (i := 221) rfl))
set_option maxRecDepth 100000 in
theorem GWc12_m_17 : (Cond.constantDouble RX4 87 (4621819117588971520)) ∈ lw_big := List.mem_append_right _ (tb_2 _ (List.mem_of_getElem? (i := 237) rfl))
set_option maxRecDepth 100000 in
theorem GWc12_m_18 : (Cond.constantDouble RX4 89 (4636737291354636288)) ∈ lw_big := List.mem_append_right _ (tb_2 _ (List.mem_of_getElem? (i := 238) rfl))
set_option maxRecDepth 100000 in
theorem GWc12_m_19 : (Cond.constantDouble RX4 91 (4652007308841189376)) ∈ lw_big := List.mem_append_right _ (tb_2 _ (List.mem_of_getElem? (i := 239) rfl))
set_option maxRecDepth 100000 in
theorem GWc12_m_20 : (Cond.methodLink RX4 76 yX4_endOfDigits) ∈ lw_big := List.mem_append_right _ (tb_2 _ (List.mem_of_getElem? (i := 222) rfl))
set_option maxRecDepth 100000 in
theorem GWc12_m_21 : (Cond.instanceMethod yX4_endOfDigits) ∈ lw_big := List.mem_append_right _ (tb_2 _ (List.mem_of_getElem? (i := 224) rfl))
set_option maxRecDepth 100000 in
theorem GWc12_m_22 : (Cond.selects RX4 yX4_endOfDigits yX4_endOfDigits) ∈ lw_big := List.mem_append_right _ (List.mem_append_left _ (List.mem_of_getElem? (i := 4) (by decide +kernel)))
set_option maxRecDepth 100000 in
theorem GWc12_m_23 : (Cond.code yX4_endOfDigits cX4_endOfDigits 3 (some .int)) ∈ lw_big := List.mem_append_right _ (tb_2 _ (List.mem_of_getElem? (i := 225) rfl))
set_option maxRecDepth 100000 in
theorem GWc12_m_24 : (Cond.methodLink RX4 79 yX4_digits) ∈ lw_big := List.mem_append_right _ (tb_2 _ (List.mem_of_getElem? (i := 226) rfl))
set_option maxRecDepth 100000 in
theorem GWc12_m_25 : (Cond.instanceMethod yX4_digits) ∈ lw_big := List.mem_append_right _ (tb_2 _ (List.mem_of_getElem? (i := 228) rfl))
set_option maxRecDepth 100000 in
theorem GWc12_m_26 : (Cond.selects RX4 yX4_digits yX4_digits) ∈ lw_big := List.mem_append_right _ (List.mem_append_left _ (List.mem_of_getElem? (i := 5) (by decide +kernel)))
set_option maxRecDepth 100000 in
theorem GWc12_m_27 : (Cond.code yX4_digits cX4_digits 6 (some .int)) ∈ lw_big := List.mem_append_right _ (tb_2 _ (List.mem_of_getElem? (i := 229) rfl))
set_option maxRecDepth 100000 in
theorem GWc12_m_28 : (Cond.methodLink RX4 83 yX10_ofInt) ∈ lw_big := List.mem_append_right _ (tb_2 _ (List.mem_of_getElem? (i := 230) rfl))
set_option maxRecDepth 100000 in
theorem GWc12_m_29 : (Cond.methodLink RX4 53 yX4_add) ∈ lw_big := List.mem_append_right _ (tb_2 _ (List.mem_of_getElem? (i := 233) rfl))
set_option maxRecDepth 100000 in
theorem GWc12_m_30 : (Cond.instanceMethod yX4_add) ∈ lw_big := List.mem_append_right _ (tb_2 _ (List.mem_of_getElem? (i := 235) rfl))
set_option maxRecDepth 100000 in
theorem GWc12_m_31 : (Cond.selects RX4 yX4_add yX4_add) ∈ lw_big := List.mem_append_right _ (List.mem_append_left _ (List.mem_of_getElem? (i := 6) (by decide +kernel)))
set_option maxRecDepth 100000 in
theorem GWc12_m_32 : (Cond.code yX4_add cX4_add 5 none) ∈ lw_big := List.mem_append_right _ (tb_2 _ (List.mem_of_getElem? (i := 236) rfl))
set_option maxRecDepth 100000 in
theorem GWc12_m_33 : (Cond.methodLink RX4 93 yX10_ofReal) ∈ lw_big := List.mem_append_right _ (tb_3 _ (List.mem_of_getElem? (i := 0) rfl))
set_option maxRecDepth 100000 in
theorem GWc12_m_34 : (Cond.methodLink RX4 64 yX4_isLowerCase) ∈ lw_big := List.mem_append_right _ (tb_3 _ (List.mem_of_getElem? (i := 3) rfl))
set_option maxRecDepth 100000 in
theorem GWc12_m_35 : (Cond.static yX4_isLowerCase) ∈ lw_big := List.mem_append_right _ (tb_3 _ (List.mem_of_getElem? (i := 4) rfl))
set_option maxRecDepth 100000 in
theorem GWc12_m_36 : (Cond.code yX4_isLowerCase cX4_isLowerCase 1 (some .boolean)) ∈ lw_big := List.mem_append_right _ (tb_3 _ (List.mem_of_getElem? (i := 5) rfl))
set_option maxRecDepth 100000 in
theorem GWc12_m_37 : (Cond.methodLink RX4 67 yX4_name) ∈ lw_big := List.mem_append_right _ (tb_3 _ (List.mem_of_getElem? (i := 6) rfl))
set_option maxRecDepth 100000 in
theorem GWc12_m_38 : (Cond.instanceMethod yX4_name) ∈ lw_big := List.mem_append_right _ (tb_3 _ (List.mem_of_getElem? (i := 8) rfl))
set_option maxRecDepth 100000 in
theorem GWc12_m_39 : (Cond.selects RX4 yX4_name yX4_name) ∈ lw_big := List.mem_append_right _ (List.mem_append_left _ (List.mem_of_getElem? (i := 7) (by decide +kernel)))
theorem GWc12_b : ∀ w ∈ GWc12, w ∈ lw_big := List.forall_mem_cons.mpr ⟨GWc12_m_0, List.forall_mem_cons.mpr ⟨GWc12_m_1, List.forall_mem_cons.mpr ⟨GWc12_m_2, List.forall_mem_cons.mpr ⟨GWc12_m_3, List.forall_mem_cons.mpr ⟨GWc12_m_4, List.forall_mem_cons.mpr ⟨GWc12_m_5, List.forall_mem_cons.mpr ⟨GWc12_m_6, List.forall_mem_cons.mpr ⟨GWc12_m_7, List.forall_mem_cons.mpr ⟨GWc12_m_8, List.forall_mem_cons.mpr ⟨GWc12_m_9, List.forall_mem_cons.mpr ⟨GWc12_m_10, List.forall_mem_cons.mpr ⟨GWc12_m_11, List.forall_mem_cons.mpr ⟨GWc12_m_12, List.forall_mem_cons.mpr ⟨GWc12_m_13, List.forall_mem_cons.mpr ⟨GWc12_m_14, List.forall_mem_cons.mpr ⟨GWc12_m_15, List.forall_mem_cons.mpr ⟨GWc12_m_16, List.forall_mem_cons.mpr ⟨GWc12_m_17, List.forall_mem_cons.mpr ⟨GWc12_m_18, List.forall_mem_cons.mpr ⟨GWc12_m_19, List.forall_mem_cons.mpr ⟨GWc12_m_20, List.forall_mem_cons.mpr ⟨GWc12_m_21, List.forall_mem_cons.mpr ⟨GWc12_m_22, List.forall_mem_cons.mpr ⟨GWc12_m_23, List.forall_mem_cons.mpr ⟨GWc12_m_24, List.forall_mem_cons.mpr ⟨GWc12_m_25, List.forall_mem_cons.mpr ⟨GWc12_m_26, List.forall_mem_cons.mpr ⟨GWc12_m_27, List.forall_mem_cons.mpr ⟨GWc12_m_28, List.forall_mem_cons.mpr ⟨GWc12_m_29, List.forall_mem_cons.mpr ⟨GWc12_m_30, List.forall_mem_cons.mpr ⟨GWc12_m_31, List.forall_mem_cons.mpr ⟨GWc12_m_32, List.forall_mem_cons.mpr ⟨GWc12_m_33, List.forall_mem_cons.mpr ⟨GWc12_m_34, List.forall_mem_cons.mpr ⟨GWc12_m_35, List.forall_mem_cons.mpr ⟨GWc12_m_36, List.forall_mem_cons.mpr ⟨GWc12_m_37, List.forall_mem_cons.mpr ⟨GWc12_m_38, List.forall_mem_cons.mpr ⟨GWc12_m_39, fun _ h => absurd h List.not_mem_nil⟩⟩⟩⟩⟩⟩⟩⟩⟩⟩⟩⟩⟩⟩⟩⟩⟩⟩⟩⟩⟩⟩⟩⟩⟩⟩⟩⟩⟩⟩⟩⟩⟩⟩⟩⟩⟩⟩⟩⟩
set_option maxRecDepth 100000 in
theorem GWc13_m_0 : (Cond.code yX4_name cX4_name 4 (some .int)) ∈ lw_big := List.mem_append_right _ (tb_3 _ (List.mem_of_getElem? (i := 9) rfl))
set_option maxRecDepth 100000 in
theorem GWc13_m_1 : (Cond.methodLink RX4 70 yX4_quoted) ∈ lw_big := List.mem_append_right _ (tb_3 _ (List.mem_of_getElem? (i := 10) rfl))
set_option maxRecDepth 100000 in
theorem GWc13_m_2 : (Cond.instanceMethod yX4_quoted) ∈ lw_big := List.mem_append_right _ (tb_3 _ (List.mem_of_getElem? (i := 12) rfl))
set_option maxRecDepth 100000 in
theorem GWc13_m_3 : (Cond.selects RX4 yX4_quoted yX4_quoted) ∈ lw_big := List.mem_append_right _ (List.mem_append_left _ (List.mem_of_getElem? (i := 8) (by decide +kernel)))
set_option maxRecDepth 100000 in
theorem GWc13_m_4 : (Cond.code yX4_quoted cX4_quoted 3 (some .int)) ∈ lw_big := List.mem_append_right _ (tb_3 _ (List.mem_of_getElem? (i := 13) rfl))
set_option maxRecDepth 100000 in
theorem GWc13_m_5 : (Cond.methodLink RX4 97 yJ4_setLength_d00df) ∈ lw_big := List.mem_append_right _ (tb_3 _ (List.mem_of_getElem? (i := 14) rfl))
set_option maxRecDepth 100000 in
theorem GWc13_m_6 : (Cond.methodLink RX4 101 yJ4_append_cf468) ∈ lw_big := List.mem_append_right _ (tb_3 _ (List.mem_of_getElem? (i := 225) rfl))
set_option maxRecDepth 100000 in
theorem GWc13_m_7 : (Cond.methodLink RX4 105 yJ4_length_8abf5) ∈ lw_big := List.mem_append_right _ (tb_3 _ (List.mem_of_getElem? (i := 238) rfl))
set_option maxRecDepth 100000 in
theorem GWc13_m_8 : (Cond.selects RJ4 yJ4_length_8abf5 yJ4_length_8abf5) ∈ lw_big := List.mem_append_right _ (tb_9 _ (List.mem_of_getElem? (i := 2) rfl))
set_option maxRecDepth 100000 in
theorem GWc13_m_9 : (Cond.methodLink RX4 108 yJ4_toString_0e30d) ∈ lw_big := List.mem_append_right _ (tb_3 _ (List.mem_of_getElem? (i := 239) rfl))
set_option maxRecDepth 100000 in
theorem GWc13_m_10 : (Cond.methodLink RX4 112 yX10_ofText) ∈ lw_big := List.mem_append_right _ (tb_4 _ (List.mem_of_getElem? (i := 0) rfl))
set_option maxRecDepth 100000 in
theorem GWc13_m_11 : (Cond.methodLink RX4 73 yX4_sign) ∈ lw_big := List.mem_append_right _ (tb_4 _ (List.mem_of_getElem? (i := 4) rfl))
set_option maxRecDepth 100000 in
theorem GWc13_m_12 : (Cond.instanceMethod yX4_sign) ∈ lw_big := List.mem_append_right _ (tb_4 _ (List.mem_of_getElem? (i := 6) rfl))
set_option maxRecDepth 100000 in
theorem GWc13_m_13 : (Cond.selects RX4 yX4_sign yX4_sign) ∈ lw_big := List.mem_append_right _ (List.mem_append_left _ (List.mem_of_getElem? (i := 9) (by decide +kernel)))
set_option maxRecDepth 100000 in
theorem GWc13_m_14 : (Cond.code yX4_sign cX4_sign 3 (some .int)) ∈ lw_big := List.mem_append_right _ (tb_4 _ (List.mem_of_getElem? (i := 7) rfl))
set_option maxRecDepth 100000 in
theorem GWc13_m_15 : (Cond.methodLink RX4 116 yX4_isPair) ∈ lw_big := List.mem_append_right _ (tb_4 _ (List.mem_of_getElem? (i := 8) rfl))
set_option maxRecDepth 100000 in
theorem GWc13_m_16 : (Cond.static yX4_isPair) ∈ lw_big := List.mem_append_right _ (tb_4 _ (List.mem_of_getElem? (i := 9) rfl))
set_option maxRecDepth 100000 in
theorem GWc13_m_17 : (Cond.code yX4_isPair cX4_isPair 1 (some .boolean)) ∈ lw_big := List.mem_append_right _ (tb_4 _ (List.mem_of_getElem? (i := 10) rfl))
set_option maxRecDepth 100000 in
theorem GWc13_m_18 : (Cond.methodLink RX4 120 yX4_isSingle) ∈ lw_big := List.mem_append_right _ (tb_4 _ (List.mem_of_getElem? (i := 11) rfl))
set_option maxRecDepth 100000 in
theorem GWc13_m_19 : (Cond.static yX4_isSingle) ∈ lw_big := List.mem_append_right _ (tb_4 _ (List.mem_of_getElem? (i := 12) rfl))
set_option maxRecDepth 100000 in
theorem GWc13_m_20 : (Cond.code yX4_isSingle cX4_isSingle 1 (some .boolean)) ∈ lw_big := List.mem_append_right _ (tb_4 _ (List.mem_of_getElem? (i := 13) rfl))
set_option maxRecDepth 100000 in
theorem GWc13_m_21 : (Cond.code yX5_init cX5_init 7 none) ∈ lw_big := List.mem_append_right _ (tb_4 _ (List.mem_of_getElem? (i := 69) rfl))
set_option maxRecDepth 100000 in
theorem GWc13_m_22 : (Cond.methodLink RX5 1 objectInit) ∈ lw_big := List.mem_append_right _ (tb_4 _ (List.mem_of_getElem? (i := 70) rfl))
set_option maxRecDepth 100000 in
theorem GWc13_m_23 : (Cond.fieldLink RX5 7 "PhraseDesk$Node" "op" "I") ∈ lw_big := List.mem_append_right _ (tb_4 _ (List.mem_of_getElem? (i := 71) rfl))
set_option maxRecDepth 100000 in
theorem GWc13_m_24 : (Cond.fieldLink RX5 13 "PhraseDesk$Node" "name" "I") ∈ lw_big := List.mem_append_right _ (tb_4 _ (List.mem_of_getElem? (i := 73) rfl))
set_option maxRecDepth 100000 in
theorem GWc13_m_25 : (Cond.fieldLink RX5 16 "PhraseDesk$Node" "literal" "LPhraseDesk$Value;") ∈ lw_big := List.mem_append_right _ (tb_4 _ (List.mem_of_getElem? (i := 76) rfl))
set_option maxRecDepth 100000 in
theorem GWc13_m_26 : (Cond.fieldLink RX5 20 "PhraseDesk$Node" "one" "LPhraseDesk$Node;") ∈ lw_big := List.mem_append_right _ (tb_4 _ (List.mem_of_getElem? (i := 78) rfl))
set_option maxRecDepth 100000 in
theorem GWc13_m_27 : (Cond.code yX5_ofLiteral cX5_ofLiteral 1 (some (.object "PhraseDesk$Node"))) ∈ lw_big := List.mem_append_right _ (tb_4 _ (List.mem_of_getElem? (i := 64) rfl))
set_option maxRecDepth 100000 in
theorem GWc13_m_28 : (Cond.classLink RX5 8 RX5) ∈ lw_big := List.mem_append_right _ (tb_4 _ (List.mem_of_getElem? (i := 65) rfl))
set_option maxRecDepth 100000 in
theorem GWc13_m_29 : (Cond.instantiable RX5 8) ∈ lw_big := List.mem_append_right _ (tb_4 _ (List.mem_of_getElem? (i := 66) rfl))
set_option maxRecDepth 100000 in
theorem GWc13_m_30 : (Cond.methodLink RX5 30 yX5_init) ∈ lw_big := List.mem_append_right _ (tb_4 _ (List.mem_of_getElem? (i := 67) rfl))
set_option maxRecDepth 100000 in
theorem GWc13_m_31 : (Cond.instanceMethod yX5_init) ∈ lw_big := List.mem_append_right _ (tb_4 _ (List.mem_of_getElem? (i := 68) rfl))
set_option maxRecDepth 100000 in
theorem GWc13_m_32 : (Cond.code yX5_ofRoot cX5_ofRoot 0 (some (.object "PhraseDesk$Node"))) ∈ lw_big := List.mem_append_right _ (tb_4 _ (List.mem_of_getElem? (i := 130) rfl))
set_option maxRecDepth 100000 in
theorem GWc13_m_33 : (Cond.code yX5_ofVariable cX5_ofVariable 1 (some (.object "PhraseDesk$Node"))) ∈ lw_big := List.mem_append_right _ (tb_4 _ (List.mem_of_getElem? (i := 115) rfl))
set_option maxRecDepth 100000 in
theorem GWc13_m_34 : (Cond.code yX5_ofProperty cX5_ofProperty 2 (some (.object "PhraseDesk$Node"))) ∈ lw_big := List.mem_append_right _ (tb_4 _ (List.mem_of_getElem? (i := 137) rfl))
set_option maxRecDepth 100000 in
theorem GWc13_m_35 : (Cond.code yX5_ofCall cX5_ofCall 4 (some (.object "PhraseDesk$Node"))) ∈ lw_big := List.mem_append_right _ (tb_4 _ (List.mem_of_getElem? (i := 140) rfl))
set_option maxRecDepth 100000 in
theorem GWc13_m_36 : (Cond.code yX5_ofOperator cX5_ofOperator 4 (some (.object "PhraseDesk$Node"))) ∈ lw_big := List.mem_append_right _ (tb_4 _ (List.mem_of_getElem? (i := 143) rfl))
set_option maxRecDepth 100000 in
theorem GWc13_m_37 : (Cond.code yX5_canBeSet cX5_canBeSet 1 (some .boolean)) ∈ lw_big := List.mem_append_right _ (tb_4 _ (List.mem_of_getElem? (i := 154) rfl))
set_option maxRecDepth 100000 in
theorem GWc13_m_38 : (Cond.fieldLink RX5 33 "PhraseDesk$Node" "bracketed" "Z") ∈ lw_big := List.mem_append_right _ (tb_4 _ (List.mem_of_getElem? (i := 86) rfl))
set_option maxRecDepth 100000 in
theorem GWc13_m_39 : (Cond.code yX6_init cX6_init 1 none) ∈ lw_big := List.mem_append_right _ (tb_1 _ (List.mem_of_getElem? (i := 42) rfl))
theorem GWc13_b : ∀ w ∈ GWc13, w ∈ lw_big := List.forall_mem_cons.mpr ⟨GWc13_m_0, List.forall_mem_cons.mpr ⟨GWc13_m_1, List.forall_mem_cons.mpr ⟨GWc13_m_2, List.forall_mem_cons.mpr ⟨GWc13_m_3, List.forall_mem_cons.mpr ⟨GWc13_m_4, List.forall_mem_cons.mpr ⟨GWc13_m_5, List.forall_mem_cons.mpr ⟨GWc13_m_6, List.forall_mem_cons.mpr ⟨GWc13_m_7, List.forall_mem_cons.mpr ⟨GWc13_m_8, List.forall_mem_cons.mpr ⟨GWc13_m_9, List.forall_mem_cons.mpr ⟨GWc13_m_10, List.forall_mem_cons.mpr ⟨GWc13_m_11, List.forall_mem_cons.mpr ⟨GWc13_m_12, List.forall_mem_cons.mpr ⟨GWc13_m_13, List.forall_mem_cons.mpr ⟨GWc13_m_14, List.forall_mem_cons.mpr ⟨GWc13_m_15, List.forall_mem_cons.mpr ⟨GWc13_m_16, List.forall_mem_cons.mpr ⟨GWc13_m_17, List.forall_mem_cons.mpr ⟨GWc13_m_18, List.forall_mem_cons.mpr ⟨GWc13_m_19, List.forall_mem_cons.mpr ⟨GWc13_m_20, List.forall_mem_cons.mpr ⟨GWc13_m_21, List.forall_mem_cons.mpr ⟨GWc13_m_22, List.forall_mem_cons.mpr ⟨GWc13_m_23, List.forall_mem_cons.mpr ⟨GWc13_m_24, List.forall_mem_cons.mpr ⟨GWc13_m_25, List.forall_mem_cons.mpr ⟨GWc13_m_26, List.forall_mem_cons.mpr ⟨GWc13_m_27, List.forall_mem_cons.mpr ⟨GWc13_m_28, List.forall_mem_cons.mpr ⟨GWc13_m_29, List.forall_mem_cons.mpr ⟨GWc13_m_30, List.forall_mem_cons.mpr ⟨GWc13_m_31, List.forall_mem_cons.mpr ⟨GWc13_m_32, List.forall_mem_cons.mpr ⟨GWc13_m_33, List.forall_mem_cons.mpr ⟨GWc13_m_34, List.forall_mem_cons.mpr ⟨GWc13_m_35, List.forall_mem_cons.mpr ⟨GWc13_m_36, List.forall_mem_cons.mpr ⟨GWc13_m_37, List.forall_mem_cons.mpr ⟨GWc13_m_38, List.forall_mem_cons.mpr ⟨GWc13_m_39, fun _ h => absurd h List.not_mem_nil⟩⟩⟩⟩⟩⟩⟩⟩⟩⟩⟩⟩⟩⟩⟩⟩⟩⟩⟩⟩⟩⟩⟩⟩⟩⟩⟩⟩⟩⟩⟩⟩⟩⟩⟩⟩⟩⟩⟩⟩
set_option maxRecDepth 100000 in
theorem GWc14_m_0 : (Cond.methodLink RX6 3 objectInit) ∈ lw_big := List.mem_append_right _ (tb_1 _ (List.mem_of_getElem? (i := 43) rfl))
set_option maxRecDepth 100000 in
theorem GWc14_m_1 : (Cond.classLink RX6 9 RX4) ∈ lw_big := List.mem_append_right _ (tb_1 _ (List.mem_of_getElem? (i := 44) rfl))
set_option maxRecDepth 100000 in
theorem GWc14_m_2 : (Cond.instantiable RX4 8) ∈ lw_big := List.mem_append_right _ (tb_1 _ (List.mem_of_getElem? (i := 45) rfl))
set_option maxRecDepth 100000 in
theorem GWc14_m_3 : (Cond.fieldLink RX6 12 "PhraseDesk$Parser" "lexer" "LPhraseDesk$Lexer;") ∈ lw_big := List.mem_append_right _ (tb_1 _ (List.mem_of_getElem? (i := 114) rfl))
set_option maxRecDepth 100000 in
theorem GWc14_m_4 : (Cond.methodLink RX6 11 yX4_init) ∈ lw_big := List.mem_append_right _ (tb_1 _ (List.mem_of_getElem? (i := 46) rfl))
set_option maxRecDepth 100000 in
theorem GWc14_m_5 : (Cond.instanceMethod yX4_init) ∈ lw_big := List.mem_append_right _ (tb_1 _ (List.mem_of_getElem? (i := 47) rfl))
set_option maxRecDepth 100000 in
theorem GWc14_m_6 : (Cond.code yX6_read cX6_read 2 (some (.object "PhraseDesk$Node"))) ∈ lw_big := List.mem_append_right _ (tb_2 _ (List.mem_of_getElem? (i := 202) rfl))
set_option maxRecDepth 100000 in
theorem GWc14_m_7 : (Cond.fieldLink RX6 18 "PhraseDesk$Parser" "at" "I") ∈ lw_big := List.mem_append_right _ (tb_1 _ (List.mem_of_getElem? (i := 116) rfl))
set_option maxRecDepth 100000 in
theorem GWc14_m_8 : (Cond.fieldLink RX6 22 "PhraseDesk$Parser" "error" "I") ∈ lw_big := List.mem_append_right _ (tb_1 _ (List.mem_of_getElem? (i := 117) rfl))
set_option maxRecDepth 100000 in
theorem GWc14_m_9 : (Cond.fieldLink RX6 29 "PhraseDesk$Parser" "place" "I") ∈ lw_big := List.mem_append_right _ (tb_1 _ (List.mem_of_getElem? (i := 119) rfl))
set_option maxRecDepth 100000 in
theorem GWc14_m_10 : (Cond.fieldLink RX6 36 "PhraseDesk$Lexer" "length" "I") ∈ lw_big := List.mem_append_right _ (tb_1 _ (List.mem_of_getElem? (i := 90) rfl))
set_option maxRecDepth 100000 in
theorem GWc14_m_11 : (Cond.methodLink RX6 25 yX4_cut) ∈ lw_big := List.mem_append_right _ (tb_2 _ (List.mem_of_getElem? (i := 203) rfl))
set_option maxRecDepth 100000 in
theorem GWc14_m_12 : (Cond.instanceMethod yX4_cut) ∈ lw_big := List.mem_append_right _ (tb_2 _ (List.mem_of_getElem? (i := 204) rfl))
set_option maxRecDepth 100000 in
theorem GWc14_m_13 : (Cond.selects RX4 yX4_cut yX4_cut) ∈ lw_big := List.mem_append_right _ (tb_2 _ (List.mem_of_getElem? (i := 205) rfl))
set_option maxRecDepth 100000 in
theorem GWc14_m_14 : (Cond.methodLink RX6 32 yX6_phrase) ∈ lw_big := List.mem_append_right _ (tb_4 _ (List.mem_of_getElem? (i := 14) rfl))
set_option maxRecDepth 100000 in
theorem GWc14_m_15 : (Cond.instanceMethod yX6_phrase) ∈ lw_big := List.mem_append_right _ (tb_4 _ (List.mem_of_getElem? (i := 16) rfl))
set_option maxRecDepth 100000 in
theorem GWc14_m_16 : (Cond.selects RX6 yX6_phrase yX6_phrase) ∈ lw_big := List.mem_append_right _ (List.mem_append_left _ (List.mem_of_getElem? (i := 10) (by decide +kernel)))
set_option maxRecDepth 100000 in
theorem GWc14_m_17 : (Cond.initialized RX6) ∈ lw_big := List.mem_append_right _ (tb_1 _ (List.mem_of_getElem? (i := 2) rfl))
set_option maxRecDepth 100000 in
theorem GWc14_m_18 : (Cond.code yX6_phrase cX6_phrase 4 (some (.object "PhraseDesk$Node"))) ∈ lw_big := List.mem_append_right _ (tb_4 _ (List.mem_of_getElem? (i := 17) rfl))
set_option maxRecDepth 100000 in
theorem GWc14_m_19 : (Cond.methodLink RX6 39 yX6_choice) ∈ lw_big := List.mem_append_right _ (tb_4 _ (List.mem_of_getElem? (i := 18) rfl))
set_option maxRecDepth 100000 in
theorem GWc14_m_20 : (Cond.instanceMethod yX6_choice) ∈ lw_big := List.mem_append_right _ (tb_4 _ (List.mem_of_getElem? (i := 20) rfl))
set_option maxRecDepth 100000 in
theorem GWc14_m_21 : (Cond.selects RX6 yX6_choice yX6_choice) ∈ lw_big := List.mem_append_right _ (List.mem_append_left _ (List.mem_of_getElem? (i := 11) (by decide +kernel)))
set_option maxRecDepth 100000 in
theorem GWc14_m_22 : (Cond.code yX6_choice cX6_choice 4 (some (.object "PhraseDesk$Node"))) ∈ lw_big := List.mem_append_right _ (tb_4 _ (List.mem_of_getElem? (i := 21) rfl))
set_option maxRecDepth 100000 in
theorem GWc14_m_23 : (Cond.methodLink RX6 56 yX6_refuse) ∈ lw_big := List.mem_append_right _ (tb_4 _ (List.mem_of_getElem? (i := 22) rfl))
set_option maxRecDepth 100000 in
theorem GWc14_m_24 : (Cond.instanceMethod yX6_refuse) ∈ lw_big := List.mem_append_right _ (tb_4 _ (List.mem_of_getElem? (i := 24) rfl))
set_option maxRecDepth 100000 in
theorem GWc14_m_25 : (Cond.selects RX6 yX6_refuse yX6_refuse) ∈ lw_big := List.mem_append_right _ (List.mem_append_left _ (List.mem_of_getElem? (i := 12) (by decide +kernel)))
set_option maxRecDepth 100000 in
theorem GWc14_m_26 : (Cond.code yX6_refuse cX6_refuse 2 (some (.object "PhraseDesk$Node"))) ∈ lw_big := List.mem_append_right _ (tb_4 _ (List.mem_of_getElem? (i := 25) rfl))
set_option maxRecDepth 100000 in
theorem GWc14_m_27 : (Cond.methodLink RX6 139 yX4_placeAt) ∈ lw_big := List.mem_append_right _ (tb_4 _ (List.mem_of_getElem? (i := 26) rfl))
set_option maxRecDepth 100000 in
theorem GWc14_m_28 : (Cond.instanceMethod yX4_placeAt) ∈ lw_big := List.mem_append_right _ (tb_4 _ (List.mem_of_getElem? (i := 27) rfl))
set_option maxRecDepth 100000 in
theorem GWc14_m_29 : (Cond.selects RX4 yX4_placeAt yX4_placeAt) ∈ lw_big := List.mem_append_right _ (tb_4 _ (List.mem_of_getElem? (i := 28) rfl))
set_option maxRecDepth 100000 in
theorem GWc14_m_30 : (Cond.methodLink RX6 59 yX6_level) ∈ lw_big := List.mem_append_right _ (tb_4 _ (List.mem_of_getElem? (i := 30) rfl))
set_option maxRecDepth 100000 in
theorem GWc14_m_31 : (Cond.instanceMethod yX6_level) ∈ lw_big := List.mem_append_right _ (tb_4 _ (List.mem_of_getElem? (i := 32) rfl))
set_option maxRecDepth 100000 in
theorem GWc14_m_32 : (Cond.selects RX6 yX6_level yX6_level) ∈ lw_big := List.mem_append_right _ (List.mem_append_left _ (List.mem_of_getElem? (i := 13) (by decide +kernel)))
set_option maxRecDepth 100000 in
theorem GWc14_m_33 : (Cond.methodLink RX6 63 yX6_takes) ∈ lw_big := List.mem_append_right _ (tb_4 _ (List.mem_of_getElem? (i := 38) rfl))
set_option maxRecDepth 100000 in
theorem GWc14_m_34 : (Cond.instanceMethod yX6_takes) ∈ lw_big := List.mem_append_right _ (tb_4 _ (List.mem_of_getElem? (i := 40) rfl))
set_option maxRecDepth 100000 in
theorem GWc14_m_35 : (Cond.selects RX6 yX6_takes yX6_takes) ∈ lw_big := List.mem_append_right _ (List.mem_append_left _ (List.mem_of_getElem? (i := 15) (by decide +kernel)))
set_option maxRecDepth 100000 in
theorem GWc14_m_36 : (Cond.code yX6_takes cX6_takes 2 (some .boolean)) ∈ lw_big := List.mem_append_right _ (tb_4 _ (List.mem_of_getElem? (i := 41) rfl))
set_option maxRecDepth 100000 in
theorem GWc14_m_37 : (Cond.methodLink RX6 43 yX6_kind) ∈ lw_big := List.mem_append_right _ (tb_4 _ (List.mem_of_getElem? (i := 42) rfl))
set_option maxRecDepth 100000 in
theorem GWc14_m_38 : (Cond.instanceMethod yX6_kind) ∈ lw_big := List.mem_append_right _ (tb_4 _ (List.mem_of_getElem? (i := 44) rfl))
set_option maxRecDepth 100000 in
theorem GWc14_m_39 : (Cond.selects RX6 yX6_kind yX6_kind) ∈ lw_big := List.mem_append_right _ (List.mem_append_left _ (List.mem_of_getElem? (i := 16) (by decide +kernel)))
theorem GWc14_b : ∀ w ∈ GWc14, w ∈ lw_big := List.forall_mem_cons.mpr ⟨GWc14_m_0, List.forall_mem_cons.mpr ⟨GWc14_m_1, List.forall_mem_cons.mpr ⟨GWc14_m_2, List.forall_mem_cons.mpr ⟨GWc14_m_3, List.forall_mem_cons.mpr ⟨GWc14_m_4, List.forall_mem_cons.mpr ⟨GWc14_m_5, List.forall_mem_cons.mpr ⟨GWc14_m_6, List.forall_mem_cons.mpr ⟨GWc14_m_7, List.forall_mem_cons.mpr ⟨GWc14_m_8, List.forall_mem_cons.mpr ⟨GWc14_m_9, List.forall_mem_cons.mpr ⟨GWc14_m_10, List.forall_mem_cons.mpr ⟨GWc14_m_11, List.forall_mem_cons.mpr ⟨GWc14_m_12, List.forall_mem_cons.mpr ⟨GWc14_m_13, List.forall_mem_cons.mpr ⟨GWc14_m_14, List.forall_mem_cons.mpr ⟨GWc14_m_15, List.forall_mem_cons.mpr ⟨GWc14_m_16, List.forall_mem_cons.mpr ⟨GWc14_m_17, List.forall_mem_cons.mpr ⟨GWc14_m_18, List.forall_mem_cons.mpr ⟨GWc14_m_19, List.forall_mem_cons.mpr ⟨GWc14_m_20, List.forall_mem_cons.mpr ⟨GWc14_m_21, List.forall_mem_cons.mpr ⟨GWc14_m_22, List.forall_mem_cons.mpr ⟨GWc14_m_23, List.forall_mem_cons.mpr ⟨GWc14_m_24, List.forall_mem_cons.mpr ⟨GWc14_m_25, List.forall_mem_cons.mpr ⟨GWc14_m_26, List.forall_mem_cons.mpr ⟨GWc14_m_27, List.forall_mem_cons.mpr ⟨GWc14_m_28, List.forall_mem_cons.mpr ⟨GWc14_m_29, List.forall_mem_cons.mpr ⟨GWc14_m_30, List.forall_mem_cons.mpr ⟨GWc14_m_31, List.forall_mem_cons.mpr ⟨GWc14_m_32, List.forall_mem_cons.mpr ⟨GWc14_m_33, List.forall_mem_cons.mpr ⟨GWc14_m_34, List.forall_mem_cons.mpr ⟨GWc14_m_35, List.forall_mem_cons.mpr ⟨GWc14_m_36, List.forall_mem_cons.mpr ⟨GWc14_m_37, List.forall_mem_cons.mpr ⟨GWc14_m_38, List.forall_mem_cons.mpr ⟨GWc14_m_39, fun _ h => absurd h List.not_mem_nil⟩⟩⟩⟩⟩⟩⟩⟩⟩⟩⟩⟩⟩⟩⟩⟩⟩⟩⟩⟩⟩⟩⟩⟩⟩⟩⟩⟩⟩⟩⟩⟩⟩⟩⟩⟩⟩⟩⟩⟩
set_option maxRecDepth 100000 in
theorem GWc15_m_0 : (Cond.code yX6_kind cX6_kind 1 (some .int)) ∈ lw_big := List.mem_append_right _ (tb_4 _ (List.mem_of_getElem? (i := 45) rfl))
set_option maxRecDepth 100000 in
theorem GWc15_m_1 : (Cond.methodLink RX6 136 yX4_kindAt) ∈ lw_big := List.mem_append_right _ (tb_4 _ (List.mem_of_getElem? (i := 46) rfl))
set_option maxRecDepth 100000 in
theorem GWc15_m_2 : (Cond.instanceMethod yX4_kindAt) ∈ lw_big := List.mem_append_right _ (tb_4 _ (List.mem_of_getElem? (i := 47) rfl))
set_option maxRecDepth 100000 in
theorem GWc15_m_3 : (Cond.selects RX4 yX4_kindAt yX4_kindAt) ∈ lw_big := List.mem_append_right _ (tb_4 _ (List.mem_of_getElem? (i := 48) rfl))
set_option maxRecDepth 100000 in
theorem GWc15_m_4 : (Cond.methodLink RX6 52 yX5_ofOperator) ∈ lw_big := List.mem_append_right _ (tb_4 _ (List.mem_of_getElem? (i := 141) rfl))
set_option maxRecDepth 100000 in
theorem GWc15_m_5 : (Cond.static yX5_ofOperator) ∈ lw_big := List.mem_append_right _ (tb_4 _ (List.mem_of_getElem? (i := 142) rfl))
set_option maxRecDepth 100000 in
theorem GWc15_m_6 : (Cond.methodLink RX6 67 yX6_chosen) ∈ lw_big := List.mem_append_right _ (tb_4 _ (List.mem_of_getElem? (i := 147) rfl))
set_option maxRecDepth 100000 in
theorem GWc15_m_7 : (Cond.instanceMethod yX6_chosen) ∈ lw_big := List.mem_append_right _ (tb_4 _ (List.mem_of_getElem? (i := 149) rfl))
set_option maxRecDepth 100000 in
theorem GWc15_m_8 : (Cond.selects RX6 yX6_chosen yX6_chosen) ∈ lw_big := List.mem_append_right _ (List.mem_append_left _ (List.mem_of_getElem? (i := 23) (by decide +kernel)))
set_option maxRecDepth 100000 in
theorem GWc15_m_9 : (Cond.code yX6_bracketed cX6_bracketed 3 (some (.object "PhraseDesk$Node"))) ∈ lw_big := List.mem_append_right _ (tb_4 _ (List.mem_of_getElem? (i := 119) rfl))
set_option maxRecDepth 100000 in
theorem GWc15_m_10 : (Cond.fieldLink RX6 111 "PhraseDesk$Node" "bracketed" "Z") ∈ lw_big := List.mem_append_right _ (tb_4 _ (List.mem_of_getElem? (i := 87) rfl))
set_option maxRecDepth 100000 in
theorem GWc15_m_11 : (Cond.code yX6_chain cX6_chain 5 (some (.object "PhraseDesk$Node"))) ∈ lw_big := List.mem_append_right _ (tb_4 _ (List.mem_of_getElem? (i := 53) rfl))
set_option maxRecDepth 100000 in
theorem GWc15_m_12 : (Cond.fieldLink RX6 87 "PhraseDesk$Node" "lenient" "Z") ∈ lw_big := List.mem_append_right _ (tb_4 _ (List.mem_of_getElem? (i := 85) rfl))
set_option maxRecDepth 100000 in
theorem GWc15_m_13 : (Cond.methodLink RX6 81 yX6_first) ∈ lw_big := List.mem_append_right _ (tb_4 _ (List.mem_of_getElem? (i := 54) rfl))
set_option maxRecDepth 100000 in
theorem GWc15_m_14 : (Cond.instanceMethod yX6_first) ∈ lw_big := List.mem_append_right _ (tb_4 _ (List.mem_of_getElem? (i := 56) rfl))
set_option maxRecDepth 100000 in
theorem GWc15_m_15 : (Cond.selects RX6 yX6_first yX6_first) ∈ lw_big := List.mem_append_right _ (List.mem_append_left _ (List.mem_of_getElem? (i := 18) (by decide +kernel)))
set_option maxRecDepth 100000 in
theorem GWc15_m_16 : (Cond.methodLink RX6 84 yX6_member) ∈ lw_big := List.mem_append_right _ (tb_4 _ (List.mem_of_getElem? (i := 131) rfl))
set_option maxRecDepth 100000 in
theorem GWc15_m_17 : (Cond.instanceMethod yX6_member) ∈ lw_big := List.mem_append_right _ (tb_4 _ (List.mem_of_getElem? (i := 133) rfl))
set_option maxRecDepth 100000 in
theorem GWc15_m_18 : (Cond.selects RX6 yX6_member yX6_member) ∈ lw_big := List.mem_append_right _ (List.mem_append_left _ (List.mem_of_getElem? (i := 22) (by decide +kernel)))
set_option maxRecDepth 100000 in
theorem GWc15_m_19 : (Cond.code yX6_chosen cX6_chosen 5 (some (.object "PhraseDesk$Node"))) ∈ lw_big := List.mem_append_right _ (tb_4 _ (List.mem_of_getElem? (i := 150) rfl))
set_option maxRecDepth 100000 in
theorem GWc15_m_20 : (Cond.code yX6_first cX6_first 2 (some (.object "PhraseDesk$Node"))) ∈ lw_big := List.mem_append_right _ (tb_4 _ (List.mem_of_getElem? (i := 57) rfl))
set_option maxRecDepth 100000 in
theorem GWc15_m_21 : (Cond.methodLink RX6 91 yX4_literalAt) ∈ lw_big := List.mem_append_right _ (tb_4 _ (List.mem_of_getElem? (i := 58) rfl))
set_option maxRecDepth 100000 in
theorem GWc15_m_22 : (Cond.instanceMethod yX4_literalAt) ∈ lw_big := List.mem_append_right _ (tb_4 _ (List.mem_of_getElem? (i := 59) rfl))
set_option maxRecDepth 100000 in
theorem GWc15_m_23 : (Cond.selects RX4 yX4_literalAt yX4_literalAt) ∈ lw_big := List.mem_append_right _ (tb_4 _ (List.mem_of_getElem? (i := 60) rfl))
set_option maxRecDepth 100000 in
theorem GWc15_m_24 : (Cond.methodLink RX6 95 yX5_ofLiteral) ∈ lw_big := List.mem_append_right _ (tb_4 _ (List.mem_of_getElem? (i := 62) rfl))
set_option maxRecDepth 100000 in
theorem GWc15_m_25 : (Cond.static yX5_ofLiteral) ∈ lw_big := List.mem_append_right _ (tb_4 _ (List.mem_of_getElem? (i := 63) rfl))
set_option maxRecDepth 100000 in
theorem GWc15_m_26 : (Cond.methodLink RX6 99 yX6_takeName) ∈ lw_big := List.mem_append_right _ (tb_4 _ (List.mem_of_getElem? (i := 105) rfl))
set_option maxRecDepth 100000 in
theorem GWc15_m_27 : (Cond.instanceMethod yX6_takeName) ∈ lw_big := List.mem_append_right _ (tb_4 _ (List.mem_of_getElem? (i := 107) rfl))
set_option maxRecDepth 100000 in
theorem GWc15_m_28 : (Cond.selects RX6 yX6_takeName yX6_takeName) ∈ lw_big := List.mem_append_right _ (List.mem_append_left _ (List.mem_of_getElem? (i := 19) (by decide +kernel)))
set_option maxRecDepth 100000 in
theorem GWc15_m_29 : (Cond.code yX6_takeName cX6_takeName 1 (some .int)) ∈ lw_big := List.mem_append_right _ (tb_4 _ (List.mem_of_getElem? (i := 108) rfl))
set_option maxRecDepth 100000 in
theorem GWc15_m_30 : (Cond.methodLink RX6 113 yX4_nameAt) ∈ lw_big := List.mem_append_right _ (tb_4 _ (List.mem_of_getElem? (i := 109) rfl))
set_option maxRecDepth 100000 in
theorem GWc15_m_31 : (Cond.instanceMethod yX4_nameAt) ∈ lw_big := List.mem_append_right _ (tb_4 _ (List.mem_of_getElem? (i := 110) rfl))
set_option maxRecDepth 100000 in
theorem GWc15_m_32 : (Cond.selects RX4 yX4_nameAt yX4_nameAt) ∈ lw_big := List.mem_append_right _ (tb_4 _ (List.mem_of_getElem? (i := 111) rfl))
set_option maxRecDepth 100000 in
theorem GWc15_m_33 : (Cond.methodLink RX6 102 yX5_ofVariable) ∈ lw_big := List.mem_append_right _ (tb_4 _ (List.mem_of_getElem? (i := 113) rfl))
set_option maxRecDepth 100000 in
theorem GWc15_m_34 : (Cond.static yX5_ofVariable) ∈ lw_big := List.mem_append_right _ (tb_4 _ (List.mem_of_getElem? (i := 114) rfl))
set_option maxRecDepth 100000 in
theorem GWc15_m_35 : (Cond.methodLink RX6 105 yX6_bracketed) ∈ lw_big := List.mem_append_right _ (tb_4 _ (List.mem_of_getElem? (i := 116) rfl))
set_option maxRecDepth 100000 in
theorem GWc15_m_36 : (Cond.instanceMethod yX6_bracketed) ∈ lw_big := List.mem_append_right _ (tb_4 _ (List.mem_of_getElem? (i := 118) rfl))
set_option maxRecDepth 100000 in
theorem GWc15_m_37 : (Cond.selects RX6 yX6_bracketed yX6_bracketed) ∈ lw_big := List.mem_append_right _ (List.mem_append_left _ (List.mem_of_getElem? (i := 20) (by decide +kernel)))
set_option maxRecDepth 100000 in
theorem GWc15_m_38 : (Cond.methodLink RX6 108 yX6_named) ∈ lw_big := List.mem_append_right _ (tb_4 _ (List.mem_of_getElem? (i := 120) rfl))
set_option maxRecDepth 100000 in
theorem GWc15_m_39 : (Cond.instanceMethod yX6_named) ∈ lw_big := List.mem_append_right _ (tb_4 _ (List.mem_of_getElem? (i := 122) rfl))
theorem GWc15_b : ∀ w ∈ GWc15, w ∈ lw_big := List.forall_mem_cons.mpr ⟨GWc15_m_0, List.forall_mem_cons.mpr ⟨GWc15_m_1, List.forall_mem_cons.mpr ⟨GWc15_m_2, List.forall_mem_cons.mpr ⟨GWc15_m_3, List.forall_mem_cons.mpr ⟨GWc15_m_4, List.forall_mem_cons.mpr ⟨GWc15_m_5, List.forall_mem_cons.mpr ⟨GWc15_m_6, List.forall_mem_cons.mpr ⟨GWc15_m_7, List.forall_mem_cons.mpr ⟨GWc15_m_8, List.forall_mem_cons.mpr ⟨GWc15_m_9, List.forall_mem_cons.mpr ⟨GWc15_m_10, List.forall_mem_cons.mpr ⟨GWc15_m_11, List.forall_mem_cons.mpr ⟨GWc15_m_12, List.forall_mem_cons.mpr ⟨GWc15_m_13, List.forall_mem_cons.mpr ⟨GWc15_m_14, List.forall_mem_cons.mpr ⟨GWc15_m_15, List.forall_mem_cons.mpr ⟨GWc15_m_16, List.forall_mem_cons.mpr ⟨GWc15_m_17, List.forall_mem_cons.mpr ⟨GWc15_m_18, List.forall_mem_cons.mpr ⟨GWc15_m_19, List.forall_mem_cons.mpr ⟨GWc15_m_20, List.forall_mem_cons.mpr ⟨GWc15_m_21, List.forall_mem_cons.mpr ⟨GWc15_m_22, List.forall_mem_cons.mpr ⟨GWc15_m_23, List.forall_mem_cons.mpr ⟨GWc15_m_24, List.forall_mem_cons.mpr ⟨GWc15_m_25, List.forall_mem_cons.mpr ⟨GWc15_m_26, List.forall_mem_cons.mpr ⟨GWc15_m_27, List.forall_mem_cons.mpr ⟨GWc15_m_28, List.forall_mem_cons.mpr ⟨GWc15_m_29, List.forall_mem_cons.mpr ⟨GWc15_m_30, List.forall_mem_cons.mpr ⟨GWc15_m_31, List.forall_mem_cons.mpr ⟨GWc15_m_32, List.forall_mem_cons.mpr ⟨GWc15_m_33, List.forall_mem_cons.mpr ⟨GWc15_m_34, List.forall_mem_cons.mpr ⟨GWc15_m_35, List.forall_mem_cons.mpr ⟨GWc15_m_36, List.forall_mem_cons.mpr ⟨GWc15_m_37, List.forall_mem_cons.mpr ⟨GWc15_m_38, List.forall_mem_cons.mpr ⟨GWc15_m_39, fun _ h => absurd h List.not_mem_nil⟩⟩⟩⟩⟩⟩⟩⟩⟩⟩⟩⟩⟩⟩⟩⟩⟩⟩⟩⟩⟩⟩⟩⟩⟩⟩⟩⟩⟩⟩⟩⟩⟩⟩⟩⟩⟩⟩⟩⟩
set_option maxRecDepth 100000 in
theorem GWc16_m_0 : (Cond.selects RX6 yX6_named yX6_named) ∈ lw_big := List.mem_append_right _ (List.mem_append_left _ (List.mem_of_getElem? (i := 21) (by decide +kernel)))
set_option maxRecDepth 100000 in
theorem GWc16_m_1 : (Cond.code yX6_level cX6_level 7 (some (.object "PhraseDesk$Node"))) ∈ lw_big := List.mem_append_right _ (tb_4 _ (List.mem_of_getElem? (i := 33) rfl))
set_option maxRecDepth 100000 in
theorem GWc16_m_2 : (Cond.methodLink RX6 71 yX6_sign) ∈ lw_big := List.mem_append_right _ (tb_4 _ (List.mem_of_getElem? (i := 34) rfl))
set_option maxRecDepth 100000 in
theorem GWc16_m_3 : (Cond.instanceMethod yX6_sign) ∈ lw_big := List.mem_append_right _ (tb_4 _ (List.mem_of_getElem? (i := 36) rfl))
set_option maxRecDepth 100000 in
theorem GWc16_m_4 : (Cond.selects RX6 yX6_sign yX6_sign) ∈ lw_big := List.mem_append_right _ (List.mem_append_left _ (List.mem_of_getElem? (i := 14) (by decide +kernel)))
set_option maxRecDepth 100000 in
theorem GWc16_m_5 : (Cond.methodLink RX6 74 yX6_levelOf) ∈ lw_big := List.mem_append_right _ (tb_4 _ (List.mem_of_getElem? (i := 144) rfl))
set_option maxRecDepth 100000 in
theorem GWc16_m_6 : (Cond.static yX6_levelOf) ∈ lw_big := List.mem_append_right _ (tb_4 _ (List.mem_of_getElem? (i := 145) rfl))
set_option maxRecDepth 100000 in
theorem GWc16_m_7 : (Cond.code yX6_levelOf cX6_levelOf 1 (some .int)) ∈ lw_big := List.mem_append_right _ (tb_4 _ (List.mem_of_getElem? (i := 146) rfl))
set_option maxRecDepth 100000 in
theorem GWc16_m_8 : (Cond.code yX6_member cX6_member 6 (some (.object "PhraseDesk$Node"))) ∈ lw_big := List.mem_append_right _ (tb_4 _ (List.mem_of_getElem? (i := 134) rfl))
set_option maxRecDepth 100000 in
theorem GWc16_m_9 : (Cond.methodLink RX6 129 yX5_ofProperty) ∈ lw_big := List.mem_append_right _ (tb_4 _ (List.mem_of_getElem? (i := 135) rfl))
set_option maxRecDepth 100000 in
theorem GWc16_m_10 : (Cond.static yX5_ofProperty) ∈ lw_big := List.mem_append_right _ (tb_4 _ (List.mem_of_getElem? (i := 136) rfl))
set_option maxRecDepth 100000 in
theorem GWc16_m_11 : (Cond.methodLink RX6 132 yX5_ofCall) ∈ lw_big := List.mem_append_right _ (tb_4 _ (List.mem_of_getElem? (i := 138) rfl))
set_option maxRecDepth 100000 in
theorem GWc16_m_12 : (Cond.static yX5_ofCall) ∈ lw_big := List.mem_append_right _ (tb_4 _ (List.mem_of_getElem? (i := 139) rfl))
set_option maxRecDepth 100000 in
theorem GWc16_m_13 : (Cond.code yX6_named cX6_named 2 (some (.object "PhraseDesk$Node"))) ∈ lw_big := List.mem_append_right _ (tb_4 _ (List.mem_of_getElem? (i := 123) rfl))
set_option maxRecDepth 100000 in
theorem GWc16_m_14 : (Cond.methodLink RX6 116 yX10_ofBool) ∈ lw_big := List.mem_append_right _ (tb_4 _ (List.mem_of_getElem? (i := 124) rfl))
set_option maxRecDepth 100000 in
theorem GWc16_m_15 : (Cond.methodLink RX6 122 yX10_ofNull) ∈ lw_big := List.mem_append_right _ (tb_4 _ (List.mem_of_getElem? (i := 127) rfl))
set_option maxRecDepth 100000 in
theorem GWc16_m_16 : (Cond.static yX10_ofNull) ∈ lw_big := List.mem_append_right _ (tb_1 _ (List.mem_of_getElem? (i := 137) rfl))
set_option maxRecDepth 100000 in
theorem GWc16_m_17 : (Cond.code yX10_ofNull cX10_ofNull 0 (some (.object "PhraseDesk$Value"))) ∈ lw_big := List.mem_append_right _ (tb_1 _ (List.mem_of_getElem? (i := 138) rfl))
set_option maxRecDepth 100000 in
theorem GWc16_m_18 : (Cond.methodLink RX6 126 yX5_ofRoot) ∈ lw_big := List.mem_append_right _ (tb_4 _ (List.mem_of_getElem? (i := 128) rfl))
set_option maxRecDepth 100000 in
theorem GWc16_m_19 : (Cond.static yX5_ofRoot) ∈ lw_big := List.mem_append_right _ (tb_4 _ (List.mem_of_getElem? (i := 129) rfl))
set_option maxRecDepth 100000 in
theorem GWc16_m_20 : (Cond.code yX6_sign cX6_sign 4 (some (.object "PhraseDesk$Node"))) ∈ lw_big := List.mem_append_right _ (tb_4 _ (List.mem_of_getElem? (i := 37) rfl))
set_option maxRecDepth 100000 in
theorem GWc16_m_21 : (Cond.methodLink RX6 78 yX6_chain) ∈ lw_big := List.mem_append_right _ (tb_4 _ (List.mem_of_getElem? (i := 50) rfl))
set_option maxRecDepth 100000 in
theorem GWc16_m_22 : (Cond.instanceMethod yX6_chain) ∈ lw_big := List.mem_append_right _ (tb_4 _ (List.mem_of_getElem? (i := 52) rfl))
set_option maxRecDepth 100000 in
theorem GWc16_m_23 : (Cond.selects RX6 yX6_chain yX6_chain) ∈ lw_big := List.mem_append_right _ (List.mem_append_left _ (List.mem_of_getElem? (i := 17) (by decide +kernel)))
set_option maxRecDepth 100000 in
theorem GWc16_m_24 : (Cond.methodLink RX6 46 yX5_canBeSet) ∈ lw_big := List.mem_append_right _ (tb_4 _ (List.mem_of_getElem? (i := 151) rfl))
set_option maxRecDepth 100000 in
theorem GWc16_m_25 : (Cond.instanceMethod yX5_canBeSet) ∈ lw_big := List.mem_append_right _ (tb_4 _ (List.mem_of_getElem? (i := 152) rfl))
set_option maxRecDepth 100000 in
theorem GWc16_m_26 : (Cond.selects RX5 yX5_canBeSet yX5_canBeSet) ∈ lw_big := List.mem_append_right _ (tb_4 _ (List.mem_of_getElem? (i := 153) rfl))
set_option maxRecDepth 100000 in
theorem GWc16_m_27 : (Cond.code yX7_init cX7_init 6 none) ∈ lw_big := List.mem_append_right _ (tb_5 _ (List.mem_of_getElem? (i := 26) rfl))
set_option maxRecDepth 100000 in
theorem GWc16_m_28 : (Cond.methodLink RX7 1 objectInit) ∈ lw_big := List.mem_append_right _ (tb_5 _ (List.mem_of_getElem? (i := 27) rfl))
set_option maxRecDepth 100000 in
theorem GWc16_m_29 : (Cond.fieldLink RX7 7 "PhraseDesk$Routine" "name" "I") ∈ lw_big := List.mem_append_right _ (tb_5 _ (List.mem_of_getElem? (i := 28) rfl))
set_option maxRecDepth 100000 in
theorem GWc16_m_30 : (Cond.fieldLink RX7 13 "PhraseDesk$Routine" "one" "I") ∈ lw_big := List.mem_append_right _ (tb_5 _ (List.mem_of_getElem? (i := 30) rfl))
set_option maxRecDepth 100000 in
theorem GWc16_m_31 : (Cond.fieldLink RX7 16 "PhraseDesk$Routine" "two" "I") ∈ lw_big := List.mem_append_right _ (tb_5 _ (List.mem_of_getElem? (i := 33) rfl))
set_option maxRecDepth 100000 in
theorem GWc16_m_32 : (Cond.fieldLink RX7 19 "PhraseDesk$Routine" "parameters" "I") ∈ lw_big := List.mem_append_right _ (tb_5 _ (List.mem_of_getElem? (i := 36) rfl))
set_option maxRecDepth 100000 in
theorem GWc16_m_33 : (Cond.fieldLink RX7 22 "PhraseDesk$Routine" "action" "I") ∈ lw_big := List.mem_append_right _ (tb_5 _ (List.mem_of_getElem? (i := 39) rfl))
set_option maxRecDepth 100000 in
theorem GWc16_m_34 : (Cond.fieldLink RX7 25 "PhraseDesk$Routine" "number" "I") ∈ lw_big := List.mem_append_right _ (tb_5 _ (List.mem_of_getElem? (i := 41) rfl))
set_option maxRecDepth 100000 in
theorem GWc16_m_35 : (Cond.code yX8_init cX8_init 1 none) ∈ lw_big := List.mem_append_right _ (tb_1 _ (List.mem_of_getElem? (i := 134) rfl))
set_option maxRecDepth 100000 in
theorem GWc16_m_36 : (Cond.methodLink RX8 3 objectInit) ∈ lw_big := List.mem_append_right _ (tb_1 _ (List.mem_of_getElem? (i := 135) rfl))
set_option maxRecDepth 100000 in
theorem GWc16_m_37 : (Cond.fieldLink RX8 15 "PhraseDesk$Runner" "nothing" "LPhraseDesk$Value;") ∈ lw_big := List.mem_append_right _ (tb_1 _ (List.mem_of_getElem? (i := 213) rfl))
set_option maxRecDepth 100000 in
theorem GWc16_m_38 : (Cond.classLink RX8 21 RX0) ∈ lw_big := List.mem_append_right _ (tb_1 _ (List.mem_of_getElem? (i := 177) rfl))
set_option maxRecDepth 100000 in
theorem GWc16_m_39 : (Cond.instantiable RX0 2) ∈ lw_big := List.mem_append_right _ (tb_1 _ (List.mem_of_getElem? (i := 178) rfl))
theorem GWc16_b : ∀ w ∈ GWc16, w ∈ lw_big := List.forall_mem_cons.mpr ⟨GWc16_m_0, List.forall_mem_cons.mpr ⟨GWc16_m_1, List.forall_mem_cons.mpr ⟨GWc16_m_2, List.forall_mem_cons.mpr ⟨GWc16_m_3, List.forall_mem_cons.mpr ⟨GWc16_m_4, List.forall_mem_cons.mpr ⟨GWc16_m_5, List.forall_mem_cons.mpr ⟨GWc16_m_6, List.forall_mem_cons.mpr ⟨GWc16_m_7, List.forall_mem_cons.mpr ⟨GWc16_m_8, List.forall_mem_cons.mpr ⟨GWc16_m_9, List.forall_mem_cons.mpr ⟨GWc16_m_10, List.forall_mem_cons.mpr ⟨GWc16_m_11, List.forall_mem_cons.mpr ⟨GWc16_m_12, List.forall_mem_cons.mpr ⟨GWc16_m_13, List.forall_mem_cons.mpr ⟨GWc16_m_14, List.forall_mem_cons.mpr ⟨GWc16_m_15, List.forall_mem_cons.mpr ⟨GWc16_m_16, List.forall_mem_cons.mpr ⟨GWc16_m_17, List.forall_mem_cons.mpr ⟨GWc16_m_18, List.forall_mem_cons.mpr ⟨GWc16_m_19, List.forall_mem_cons.mpr ⟨GWc16_m_20, List.forall_mem_cons.mpr ⟨GWc16_m_21, List.forall_mem_cons.mpr ⟨GWc16_m_22, List.forall_mem_cons.mpr ⟨GWc16_m_23, List.forall_mem_cons.mpr ⟨GWc16_m_24, List.forall_mem_cons.mpr ⟨GWc16_m_25, List.forall_mem_cons.mpr ⟨GWc16_m_26, List.forall_mem_cons.mpr ⟨GWc16_m_27, List.forall_mem_cons.mpr ⟨GWc16_m_28, List.forall_mem_cons.mpr ⟨GWc16_m_29, List.forall_mem_cons.mpr ⟨GWc16_m_30, List.forall_mem_cons.mpr ⟨GWc16_m_31, List.forall_mem_cons.mpr ⟨GWc16_m_32, List.forall_mem_cons.mpr ⟨GWc16_m_33, List.forall_mem_cons.mpr ⟨GWc16_m_34, List.forall_mem_cons.mpr ⟨GWc16_m_35, List.forall_mem_cons.mpr ⟨GWc16_m_36, List.forall_mem_cons.mpr ⟨GWc16_m_37, List.forall_mem_cons.mpr ⟨GWc16_m_38, List.forall_mem_cons.mpr ⟨GWc16_m_39, fun _ h => absurd h List.not_mem_nil⟩⟩⟩⟩⟩⟩⟩⟩⟩⟩⟩⟩⟩⟩⟩⟩⟩⟩⟩⟩⟩⟩⟩⟩⟩⟩⟩⟩⟩⟩⟩⟩⟩⟩⟩⟩⟩⟩⟩⟩
set_option maxRecDepth 100000 in
theorem GWc17_m_0 : (Cond.fieldLink RX8 24 "PhraseDesk$Runner" "converters" "LPhraseDesk$Converters;") ∈ lw_big := List.mem_append_right _ (tb_1 _ (List.mem_of_getElem? (i := 215) rfl))
set_option maxRecDepth 100000 in
theorem GWc17_m_1 : (Cond.classLink RX8 28 RX3) ∈ lw_big := List.mem_append_right _ (tb_1 _ (List.mem_of_getElem? (i := 193) rfl))
set_option maxRecDepth 100000 in
theorem GWc17_m_2 : (Cond.instantiable RX3 3) ∈ lw_big := List.mem_append_right _ (tb_1 _ (List.mem_of_getElem? (i := 194) rfl))
set_option maxRecDepth 100000 in
theorem GWc17_m_3 : (Cond.fieldLink RX8 31 "PhraseDesk$Runner" "finder" "LPhraseDesk$Finder;") ∈ lw_big := List.mem_append_right _ (tb_1 _ (List.mem_of_getElem? (i := 217) rfl))
set_option maxRecDepth 100000 in
theorem GWc17_m_4 : (Cond.fieldLink RX8 35 "PhraseDesk$Runner" "variableNames" "[I") ∈ lw_big := List.mem_append_right _ (tb_1 _ (List.mem_of_getElem? (i := 218) rfl))
set_option maxRecDepth 100000 in
theorem GWc17_m_5 : (Cond.classLink RX8 10 RX10) ∈ lw_big := List.mem_append_right _ (tb_1 _ (List.mem_of_getElem? (i := 212) rfl))
set_option maxRecDepth 100000 in
theorem GWc17_m_6 : (Cond.fieldLink RX8 39 "PhraseDesk$Runner" "variableValues" "[LPhraseDesk$Value;") ∈ lw_big := List.mem_append_right _ (tb_1 _ (List.mem_of_getElem? (i := 219) rfl))
set_option maxRecDepth 100000 in
theorem GWc17_m_7 : (Cond.fieldLink RX8 43 "PhraseDesk$Runner" "root" "LPhraseDesk$Value;") ∈ lw_big := List.mem_append_right _ (tb_1 _ (List.mem_of_getElem? (i := 222) rfl))
set_option maxRecDepth 100000 in
theorem GWc17_m_8 : (Cond.methodLink RX8 9 yX10_ofNull) ∈ lw_big := List.mem_append_right _ (tb_1 _ (List.mem_of_getElem? (i := 136) rfl))
set_option maxRecDepth 100000 in
theorem GWc17_m_9 : (Cond.methodLink RX8 23 yX0_init) ∈ lw_big := List.mem_append_right _ (tb_1 _ (List.mem_of_getElem? (i := 179) rfl))
set_option maxRecDepth 100000 in
theorem GWc17_m_10 : (Cond.instanceMethod yX0_init) ∈ lw_big := List.mem_append_right _ (tb_1 _ (List.mem_of_getElem? (i := 180) rfl))
set_option maxRecDepth 100000 in
theorem GWc17_m_11 : (Cond.methodLink RX8 30 yX3_init) ∈ lw_big := List.mem_append_right _ (tb_1 _ (List.mem_of_getElem? (i := 195) rfl))
set_option maxRecDepth 100000 in
theorem GWc17_m_12 : (Cond.instanceMethod yX3_init) ∈ lw_big := List.mem_append_right _ (tb_1 _ (List.mem_of_getElem? (i := 196) rfl))
set_option maxRecDepth 100000 in
theorem GWc17_m_13 : (Cond.code yX8_begin cX8_begin 2 none) ∈ lw_big := List.mem_append_right _ (tb_5 _ (List.mem_of_getElem? (i := 124) rfl))
set_option maxRecDepth 100000 in
theorem GWc17_m_14 : (Cond.fieldLink RX8 46 "PhraseDesk$Runner" "failure" "I") ∈ lw_big := List.mem_append_right _ (tb_1 _ (List.mem_of_getElem? (i := 223) rfl))
set_option maxRecDepth 100000 in
theorem GWc17_m_15 : (Cond.code yX8_fail cX8_fail 2 (some (.object "PhraseDesk$Value"))) ∈ lw_big := List.mem_append_right _ (tb_5 _ (List.mem_of_getElem? (i := 132) rfl))
set_option maxRecDepth 100000 in
theorem GWc17_m_16 : (Cond.code yX8_eval cX8_eval 3 (some (.object "PhraseDesk$Value"))) ∈ lw_big := List.mem_append_right _ (tb_5 _ (List.mem_of_getElem? (i := 128) rfl))
set_option maxRecDepth 100000 in
theorem GWc17_m_17 : (Cond.fieldLink RX8 54 "PhraseDesk$Node" "op" "I") ∈ lw_big := List.mem_append_right _ (tb_4 _ (List.mem_of_getElem? (i := 72) rfl))
set_option maxRecDepth 100000 in
theorem GWc17_m_18 : (Cond.fieldLink RX8 59 "PhraseDesk$Node" "literal" "LPhraseDesk$Value;") ∈ lw_big := List.mem_append_right _ (tb_4 _ (List.mem_of_getElem? (i := 77) rfl))
set_option maxRecDepth 100000 in
theorem GWc17_m_19 : (Cond.fieldLink RX8 62 "PhraseDesk$Node" "name" "I") ∈ lw_big := List.mem_append_right _ (tb_4 _ (List.mem_of_getElem? (i := 75) rfl))
set_option maxRecDepth 100000 in
theorem GWc17_m_20 : (Cond.fieldLink RX8 68 "PhraseDesk$Node" "one" "LPhraseDesk$Node;") ∈ lw_big := List.mem_append_right _ (tb_4 _ (List.mem_of_getElem? (i := 79) rfl))
set_option maxRecDepth 100000 in
theorem GWc17_m_21 : (Cond.fieldLink RX8 76 "PhraseDesk$Node" "lenient" "Z") ∈ lw_big := List.mem_append_right _ (tb_4 _ (List.mem_of_getElem? (i := 84) rfl))
set_option maxRecDepth 100000 in
theorem GWc17_m_22 : (Cond.methodLink RX8 50 yX8_fail) ∈ lw_big := List.mem_append_right _ (tb_5 _ (List.mem_of_getElem? (i := 129) rfl))
set_option maxRecDepth 100000 in
theorem GWc17_m_23 : (Cond.instanceMethod yX8_fail) ∈ lw_big := List.mem_append_right _ (tb_5 _ (List.mem_of_getElem? (i := 131) rfl))
set_option maxRecDepth 100000 in
theorem GWc17_m_24 : (Cond.selects RX8 yX8_fail yX8_fail) ∈ lw_big := List.mem_append_right _ (List.mem_append_left _ (List.mem_of_getElem? (i := 30) (by decide +kernel)))
set_option maxRecDepth 100000 in
theorem GWc17_m_25 : (Cond.initialized RX8) ∈ lw_big := List.mem_append_right _ (tb_1 _ (List.mem_of_getElem? (i := 8) rfl))
set_option maxRecDepth 100000 in
theorem GWc17_m_26 : (Cond.methodLink RX8 65 yX8_variable) ∈ lw_big := List.mem_append_right _ (tb_5 _ (List.mem_of_getElem? (i := 133) rfl))
set_option maxRecDepth 100000 in
theorem GWc17_m_27 : (Cond.instanceMethod yX8_variable) ∈ lw_big := List.mem_append_right _ (tb_5 _ (List.mem_of_getElem? (i := 135) rfl))
set_option maxRecDepth 100000 in
theorem GWc17_m_28 : (Cond.selects RX8 yX8_variable yX8_variable) ∈ lw_big := List.mem_append_right _ (List.mem_append_left _ (List.mem_of_getElem? (i := 31) (by decide +kernel)))
set_option maxRecDepth 100000 in
theorem GWc17_m_29 : (Cond.code yX8_variable cX8_variable 3 (some (.object "PhraseDesk$Value"))) ∈ lw_big := List.mem_append_right _ (tb_5 _ (List.mem_of_getElem? (i := 136) rfl))
set_option maxRecDepth 100000 in
theorem GWc17_m_30 : (Cond.fieldLink RX8 273 "PhraseDesk$Runner" "variableCount" "I") ∈ lw_big := List.mem_append_right _ (tb_1 _ (List.mem_of_getElem? (i := 221) rfl))
set_option maxRecDepth 100000 in
theorem GWc17_m_31 : (Cond.methodLink RX8 72 yX8_eval) ∈ lw_big := List.mem_append_right _ (tb_5 _ (List.mem_of_getElem? (i := 137) rfl))
set_option maxRecDepth 100000 in
theorem GWc17_m_32 : (Cond.instanceMethod yX8_eval) ∈ lw_big := List.mem_append_right _ (tb_5 _ (List.mem_of_getElem? (i := 127) rfl))
set_option maxRecDepth 100000 in
theorem GWc17_m_33 : (Cond.selects RX8 yX8_eval yX8_eval) ∈ lw_big := List.mem_append_right _ (List.mem_append_left _ (List.mem_of_getElem? (i := 29) (by decide +kernel)))
set_option maxRecDepth 100000 in
theorem GWc17_m_34 : (Cond.methodLink RX8 80 yX8_property) ∈ lw_big := List.mem_append_right _ (tb_5 _ (List.mem_of_getElem? (i := 138) rfl))
set_option maxRecDepth 100000 in
theorem GWc17_m_35 : (Cond.instanceMethod yX8_property) ∈ lw_big := List.mem_append_right _ (tb_5 _ (List.mem_of_getElem? (i := 140) rfl))
set_option maxRecDepth 100000 in
theorem GWc17_m_36 : (Cond.selects RX8 yX8_property yX8_property) ∈ lw_big := List.mem_append_right _ (List.mem_append_left _ (List.mem_of_getElem? (i := 32) (by decide +kernel)))
set_option maxRecDepth 100000 in
theorem GWc17_m_37 : (Cond.code yX8_property cX8_property 5 (some (.object "PhraseDesk$Value"))) ∈ lw_big := List.mem_append_right _ (tb_5 _ (List.mem_of_getElem? (i := 141) rfl))
set_option maxRecDepth 100000 in
theorem GWc17_m_38 : (Cond.fieldLink RX8 109 "PhraseDesk$Value" "kind" "I") ∈ lw_big := List.mem_append_right _ (tb_1 _ (List.mem_of_getElem? (i := 147) rfl))
set_option maxRecDepth 100000 in
theorem GWc17_m_39 : (Cond.fieldLink RX8 112 "PhraseDesk$Value" "chars" "Ljava/lang/String;") ∈ lw_big := List.mem_append_right _ (tb_1 _ (List.mem_of_getElem? (i := 160) rfl))
theorem GWc17_b : ∀ w ∈ GWc17, w ∈ lw_big := List.forall_mem_cons.mpr ⟨GWc17_m_0, List.forall_mem_cons.mpr ⟨GWc17_m_1, List.forall_mem_cons.mpr ⟨GWc17_m_2, List.forall_mem_cons.mpr ⟨GWc17_m_3, List.forall_mem_cons.mpr ⟨GWc17_m_4, List.forall_mem_cons.mpr ⟨GWc17_m_5, List.forall_mem_cons.mpr ⟨GWc17_m_6, List.forall_mem_cons.mpr ⟨GWc17_m_7, List.forall_mem_cons.mpr ⟨GWc17_m_8, List.forall_mem_cons.mpr ⟨GWc17_m_9, List.forall_mem_cons.mpr ⟨GWc17_m_10, List.forall_mem_cons.mpr ⟨GWc17_m_11, List.forall_mem_cons.mpr ⟨GWc17_m_12, List.forall_mem_cons.mpr ⟨GWc17_m_13, List.forall_mem_cons.mpr ⟨GWc17_m_14, List.forall_mem_cons.mpr ⟨GWc17_m_15, List.forall_mem_cons.mpr ⟨GWc17_m_16, List.forall_mem_cons.mpr ⟨GWc17_m_17, List.forall_mem_cons.mpr ⟨GWc17_m_18, List.forall_mem_cons.mpr ⟨GWc17_m_19, List.forall_mem_cons.mpr ⟨GWc17_m_20, List.forall_mem_cons.mpr ⟨GWc17_m_21, List.forall_mem_cons.mpr ⟨GWc17_m_22, List.forall_mem_cons.mpr ⟨GWc17_m_23, List.forall_mem_cons.mpr ⟨GWc17_m_24, List.forall_mem_cons.mpr ⟨GWc17_m_25, List.forall_mem_cons.mpr ⟨GWc17_m_26, List.forall_mem_cons.mpr ⟨GWc17_m_27, List.forall_mem_cons.mpr ⟨GWc17_m_28, List.forall_mem_cons.mpr ⟨GWc17_m_29, List.forall_mem_cons.mpr ⟨GWc17_m_30, List.forall_mem_cons.mpr ⟨GWc17_m_31, List.forall_mem_cons.mpr ⟨GWc17_m_32, List.forall_mem_cons.mpr ⟨GWc17_m_33, List.forall_mem_cons.mpr ⟨GWc17_m_34, List.forall_mem_cons.mpr ⟨GWc17_m_35, List.forall_mem_cons.mpr ⟨GWc17_m_36, List.forall_mem_cons.mpr ⟨GWc17_m_37, List.forall_mem_cons.mpr ⟨GWc17_m_38, List.forall_mem_cons.mpr ⟨GWc17_m_39, fun _ h => absurd h List.not_mem_nil⟩⟩⟩⟩⟩⟩⟩⟩⟩⟩⟩⟩⟩⟩⟩⟩⟩⟩⟩⟩⟩⟩⟩⟩⟩⟩⟩⟩⟩⟩⟩⟩⟩⟩⟩⟩⟩⟩⟩⟩
set_option maxRecDepth 100000 in
theorem GWc18_m_0 : (Cond.fieldLink RX8 125 "PhraseDesk$Value" "thing" "LPhraseDesk$Thing;") ∈ lw_big := List.mem_append_right _ (tb_1 _ (List.mem_of_getElem? (i := 165) rfl))
set_option maxRecDepth 100000 in
theorem GWc18_m_1 : (Cond.methodLink RX8 116 yJ0_length_8abf5) ∈ lw_big := List.mem_append_right _ (tb_5 _ (List.mem_of_getElem? (i := 142) rfl))
set_option maxRecDepth 100000 in
theorem GWc18_m_2 : (Cond.methodLink RX8 122 yX10_ofInt) ∈ lw_big := List.mem_append_right _ (tb_5 _ (List.mem_of_getElem? (i := 143) rfl))
set_option maxRecDepth 100000 in
theorem GWc18_m_3 : (Cond.methodLink RX8 129 yX9_valueOf) ∈ lw_big := List.mem_append_right _ (tb_5 _ (List.mem_of_getElem? (i := 144) rfl))
set_option maxRecDepth 100000 in
theorem GWc18_m_4 : (Cond.instanceMethod yX9_valueOf) ∈ lw_big := List.mem_append_right _ (tb_5 _ (List.mem_of_getElem? (i := 145) rfl))
set_option maxRecDepth 100000 in
theorem GWc18_m_5 : (Cond.selects RX9 yX9_valueOf yX9_valueOf) ∈ lw_big := List.mem_append_right _ (tb_5 _ (List.mem_of_getElem? (i := 146) rfl))
set_option maxRecDepth 100000 in
theorem GWc18_m_6 : (Cond.initialized RX9) ∈ lw_big := List.mem_append_right _ (tb_1 _ (List.mem_of_getElem? (i := 29) rfl))
set_option maxRecDepth 100000 in
theorem GWc18_m_7 : (Cond.code yX9_valueOf cX9_valueOf 3 (some (.object "PhraseDesk$Value"))) ∈ lw_big := List.mem_append_right _ (tb_5 _ (List.mem_of_getElem? (i := 147) rfl))
set_option maxRecDepth 100000 in
theorem GWc18_m_8 : (Cond.fieldLink RX9 15 "PhraseDesk$Thing" "family" "LPhraseDesk$Family;") ∈ lw_big := List.mem_append_right _ (tb_5 _ (List.mem_of_getElem? (i := 78) rfl))
set_option maxRecDepth 100000 in
theorem GWc18_m_9 : (Cond.fieldLink RX9 31 "PhraseDesk$Field" "slot" "I") ∈ lw_big := List.mem_append_right _ (tb_5 _ (List.mem_of_getElem? (i := 1) rfl))
set_option maxRecDepth 100000 in
theorem GWc18_m_10 : (Cond.fieldLink RX9 21 "PhraseDesk$Thing" "values" "[LPhraseDesk$Value;") ∈ lw_big := List.mem_append_right _ (tb_5 _ (List.mem_of_getElem? (i := 82) rfl))
set_option maxRecDepth 100000 in
theorem GWc18_m_11 : (Cond.methodLink RX9 25 yX1_nearestField) ∈ lw_big := List.mem_append_right _ (tb_5 _ (List.mem_of_getElem? (i := 148) rfl))
set_option maxRecDepth 100000 in
theorem GWc18_m_12 : (Cond.instanceMethod yX1_nearestField) ∈ lw_big := List.mem_append_right _ (tb_5 _ (List.mem_of_getElem? (i := 149) rfl))
set_option maxRecDepth 100000 in
theorem GWc18_m_13 : (Cond.selects RX1 yX1_nearestField yX1_nearestField) ∈ lw_big := List.mem_append_right _ (tb_5 _ (List.mem_of_getElem? (i := 150) rfl))
set_option maxRecDepth 100000 in
theorem GWc18_m_14 : (Cond.methodLink RX8 84 yX8_call) ∈ lw_big := List.mem_append_right _ (tb_5 _ (List.mem_of_getElem? (i := 153) rfl))
set_option maxRecDepth 100000 in
theorem GWc18_m_15 : (Cond.instanceMethod yX8_call) ∈ lw_big := List.mem_append_right _ (tb_5 _ (List.mem_of_getElem? (i := 155) rfl))
set_option maxRecDepth 100000 in
theorem GWc18_m_16 : (Cond.selects RX8 yX8_call yX8_call) ∈ lw_big := List.mem_append_right _ (List.mem_append_left _ (List.mem_of_getElem? (i := 33) (by decide +kernel)))
set_option maxRecDepth 100000 in
theorem GWc18_m_17 : (Cond.methodLink RX8 87 yX8_negative) ∈ lw_big := List.mem_append_right _ (tb_6 _ (List.mem_of_getElem? (i := 46) rfl))
set_option maxRecDepth 100000 in
theorem GWc18_m_18 : (Cond.instanceMethod yX8_negative) ∈ lw_big := List.mem_append_right _ (tb_6 _ (List.mem_of_getElem? (i := 48) rfl))
set_option maxRecDepth 100000 in
theorem GWc18_m_19 : (Cond.selects RX8 yX8_negative yX8_negative) ∈ lw_big := List.mem_append_right _ (List.mem_append_left _ (List.mem_of_getElem? (i := 46) (by decide +kernel)))
set_option maxRecDepth 100000 in
theorem GWc18_m_20 : (Cond.code yX8_negative cX8_negative 2 (some (.object "PhraseDesk$Value"))) ∈ lw_big := List.mem_append_right _ (tb_6 _ (List.mem_of_getElem? (i := 49) rfl))
set_option maxRecDepth 100000 in
theorem GWc18_m_21 : (Cond.fieldLink RX8 176 "PhraseDesk$Value" "number" "I") ∈ lw_big := List.mem_append_right _ (tb_1 _ (List.mem_of_getElem? (i := 153) rfl))
set_option maxRecDepth 100000 in
theorem GWc18_m_22 : (Cond.fieldLink RX8 177 "PhraseDesk$Value" "real" "D") ∈ lw_big := List.mem_append_right _ (tb_1 _ (List.mem_of_getElem? (i := 157) rfl))
set_option maxRecDepth 100000 in
theorem GWc18_m_23 : (Cond.methodLink RX8 181 yX10_ofReal) ∈ lw_big := List.mem_append_right _ (tb_6 _ (List.mem_of_getElem? (i := 40) rfl))
set_option maxRecDepth 100000 in
theorem GWc18_m_24 : (Cond.methodLink RX8 91 yX8_opposite) ∈ lw_big := List.mem_append_right _ (tb_6 _ (List.mem_of_getElem? (i := 50) rfl))
set_option maxRecDepth 100000 in
theorem GWc18_m_25 : (Cond.instanceMethod yX8_opposite) ∈ lw_big := List.mem_append_right _ (tb_6 _ (List.mem_of_getElem? (i := 52) rfl))
set_option maxRecDepth 100000 in
theorem GWc18_m_26 : (Cond.selects RX8 yX8_opposite yX8_opposite) ∈ lw_big := List.mem_append_right _ (List.mem_append_left _ (List.mem_of_getElem? (i := 47) (by decide +kernel)))
set_option maxRecDepth 100000 in
theorem GWc18_m_27 : (Cond.code yX8_opposite cX8_opposite 2 (some (.object "PhraseDesk$Value"))) ∈ lw_big := List.mem_append_right _ (tb_6 _ (List.mem_of_getElem? (i := 53) rfl))
set_option maxRecDepth 100000 in
theorem GWc18_m_28 : (Cond.methodLink RX8 185 yX10_isTrue) ∈ lw_big := List.mem_append_right _ (tb_6 _ (List.mem_of_getElem? (i := 54) rfl))
set_option maxRecDepth 100000 in
theorem GWc18_m_29 : (Cond.instanceMethod yX10_isTrue) ∈ lw_big := List.mem_append_right _ (tb_6 _ (List.mem_of_getElem? (i := 55) rfl))
set_option maxRecDepth 100000 in
theorem GWc18_m_30 : (Cond.selects RX10 yX10_isTrue yX10_isTrue) ∈ lw_big := List.mem_append_right _ (tb_6 _ (List.mem_of_getElem? (i := 56) rfl))
set_option maxRecDepth 100000 in
theorem GWc18_m_31 : (Cond.code yX10_isTrue cX10_isTrue 1 (some .boolean)) ∈ lw_big := List.mem_append_right _ (tb_6 _ (List.mem_of_getElem? (i := 57) rfl))
set_option maxRecDepth 100000 in
theorem GWc18_m_32 : (Cond.methodLink RX8 189 yX10_ofBool) ∈ lw_big := List.mem_append_right _ (tb_6 _ (List.mem_of_getElem? (i := 58) rfl))
set_option maxRecDepth 100000 in
theorem GWc18_m_33 : (Cond.methodLink RX8 94 yX8_logic) ∈ lw_big := List.mem_append_right _ (tb_6 _ (List.mem_of_getElem? (i := 59) rfl))
set_option maxRecDepth 100000 in
theorem GWc18_m_34 : (Cond.instanceMethod yX8_logic) ∈ lw_big := List.mem_append_right _ (tb_6 _ (List.mem_of_getElem? (i := 61) rfl))
set_option maxRecDepth 100000 in
theorem GWc18_m_35 : (Cond.selects RX8 yX8_logic yX8_logic) ∈ lw_big := List.mem_append_right _ (List.mem_append_left _ (List.mem_of_getElem? (i := 48) (by decide +kernel)))
set_option maxRecDepth 100000 in
theorem GWc18_m_36 : (Cond.methodLink RX8 97 yX8_chosen) ∈ lw_big := List.mem_append_right _ (tb_6 _ (List.mem_of_getElem? (i := 67) rfl))
set_option maxRecDepth 100000 in
theorem GWc18_m_37 : (Cond.instanceMethod yX8_chosen) ∈ lw_big := List.mem_append_right _ (tb_6 _ (List.mem_of_getElem? (i := 69) rfl))
set_option maxRecDepth 100000 in
theorem GWc18_m_38 : (Cond.selects RX8 yX8_chosen yX8_chosen) ∈ lw_big := List.mem_append_right _ (List.mem_append_left _ (List.mem_of_getElem? (i := 50) (by decide +kernel)))
set_option maxRecDepth 100000 in
theorem GWc18_m_39 : (Cond.methodLink RX8 100 yX8_orElse) ∈ lw_big := List.mem_append_right _ (tb_6 _ (List.mem_of_getElem? (i := 71) rfl))
theorem GWc18_b : ∀ w ∈ GWc18, w ∈ lw_big := List.forall_mem_cons.mpr ⟨GWc18_m_0, List.forall_mem_cons.mpr ⟨GWc18_m_1, List.forall_mem_cons.mpr ⟨GWc18_m_2, List.forall_mem_cons.mpr ⟨GWc18_m_3, List.forall_mem_cons.mpr ⟨GWc18_m_4, List.forall_mem_cons.mpr ⟨GWc18_m_5, List.forall_mem_cons.mpr ⟨GWc18_m_6, List.forall_mem_cons.mpr ⟨GWc18_m_7, List.forall_mem_cons.mpr ⟨GWc18_m_8, List.forall_mem_cons.mpr ⟨GWc18_m_9, List.forall_mem_cons.mpr ⟨GWc18_m_10, List.forall_mem_cons.mpr ⟨GWc18_m_11, List.forall_mem_cons.mpr ⟨GWc18_m_12, List.forall_mem_cons.mpr ⟨GWc18_m_13, List.forall_mem_cons.mpr ⟨GWc18_m_14, List.forall_mem_cons.mpr ⟨GWc18_m_15, List.forall_mem_cons.mpr ⟨GWc18_m_16, List.forall_mem_cons.mpr ⟨GWc18_m_17, List.forall_mem_cons.mpr ⟨GWc18_m_18, List.forall_mem_cons.mpr ⟨GWc18_m_19, List.forall_mem_cons.mpr ⟨GWc18_m_20, List.forall_mem_cons.mpr ⟨GWc18_m_21, List.forall_mem_cons.mpr ⟨GWc18_m_22, List.forall_mem_cons.mpr ⟨GWc18_m_23, List.forall_mem_cons.mpr ⟨GWc18_m_24, List.forall_mem_cons.mpr ⟨GWc18_m_25, List.forall_mem_cons.mpr ⟨GWc18_m_26, List.forall_mem_cons.mpr ⟨GWc18_m_27, List.forall_mem_cons.mpr ⟨GWc18_m_28, List.forall_mem_cons.mpr ⟨GWc18_m_29, List.forall_mem_cons.mpr ⟨GWc18_m_30, List.forall_mem_cons.mpr ⟨GWc18_m_31, List.forall_mem_cons.mpr ⟨GWc18_m_32, List.forall_mem_cons.mpr ⟨GWc18_m_33, List.forall_mem_cons.mpr ⟨GWc18_m_34, List.forall_mem_cons.mpr ⟨GWc18_m_35, List.forall_mem_cons.mpr ⟨GWc18_m_36, List.forall_mem_cons.mpr ⟨GWc18_m_37, List.forall_mem_cons.mpr ⟨GWc18_m_38, List.forall_mem_cons.mpr ⟨GWc18_m_39, fun _ h => absurd h List.not_mem_nil⟩⟩⟩⟩⟩⟩⟩⟩⟩⟩⟩⟩⟩⟩⟩⟩⟩⟩⟩⟩⟩⟩⟩⟩⟩⟩⟩⟩⟩⟩⟩⟩⟩⟩⟩⟩⟩⟩⟩⟩
set_option maxRecDepth 100000 in
theorem GWc19_m_0 : (Cond.instanceMethod yX8_orElse) ∈ lw_big := List.mem_append_right _ (tb_6 _ (List.mem_of_getElem? (i := 73) rfl))
set_option maxRecDepth 100000 in
theorem GWc19_m_1 : (Cond.selects RX8 yX8_orElse yX8_orElse) ∈ lw_big := List.mem_append_right _ (List.mem_append_left _ (List.mem_of_getElem? (i := 51) (by decide +kernel)))
set_option maxRecDepth 100000 in
theorem GWc19_m_2 : (Cond.methodLink RX8 103 yX8_set) ∈ lw_big := List.mem_append_right _ (tb_6 _ (List.mem_of_getElem? (i := 79) rfl))
set_option maxRecDepth 100000 in
theorem GWc19_m_3 : (Cond.instanceMethod yX8_set) ∈ lw_big := List.mem_append_right _ (tb_6 _ (List.mem_of_getElem? (i := 81) rfl))
set_option maxRecDepth 100000 in
theorem GWc19_m_4 : (Cond.selects RX8 yX8_set yX8_set) ∈ lw_big := List.mem_append_right _ (List.mem_append_left _ (List.mem_of_getElem? (i := 52) (by decide +kernel)))
set_option maxRecDepth 100000 in
theorem GWc19_m_5 : (Cond.methodLink RX8 106 yX8_combined) ∈ lw_big := List.mem_append_right _ (tb_6 _ (List.mem_of_getElem? (i := 100) rfl))
set_option maxRecDepth 100000 in
theorem GWc19_m_6 : (Cond.instanceMethod yX8_combined) ∈ lw_big := List.mem_append_right _ (tb_6 _ (List.mem_of_getElem? (i := 102) rfl))
set_option maxRecDepth 100000 in
theorem GWc19_m_7 : (Cond.selects RX8 yX8_combined yX8_combined) ∈ lw_big := List.mem_append_right _ (List.mem_append_left _ (List.mem_of_getElem? (i := 55) (by decide +kernel)))
set_option maxRecDepth 100000 in
theorem GWc19_m_8 : (Cond.code yX8_call cX8_call 9 (some (.object "PhraseDesk$Value"))) ∈ lw_big := List.mem_append_right _ (tb_5 _ (List.mem_of_getElem? (i := 156) rfl))
set_option maxRecDepth 100000 in
theorem GWc19_m_9 : (Cond.fieldLink RX8 134 "PhraseDesk$Node" "two" "LPhraseDesk$Node;") ∈ lw_big := List.mem_append_right _ (tb_4 _ (List.mem_of_getElem? (i := 81) rfl))
set_option maxRecDepth 100000 in
theorem GWc19_m_10 : (Cond.fieldLink RX8 137 "PhraseDesk$Node" "three" "LPhraseDesk$Node;") ∈ lw_big := List.mem_append_right _ (tb_4 _ (List.mem_of_getElem? (i := 83) rfl))
set_option maxRecDepth 100000 in
theorem GWc19_m_11 : (Cond.fieldLink RX8 140 "PhraseDesk$Thing" "family" "LPhraseDesk$Family;") ∈ lw_big := List.mem_append_right _ (tb_5 _ (List.mem_of_getElem? (i := 80) rfl))
set_option maxRecDepth 100000 in
theorem GWc19_m_12 : (Cond.fieldLink RX8 148 "PhraseDesk$Finder" "failure" "I") ∈ lw_big := List.mem_append_right _ (tb_1 _ (List.mem_of_getElem? (i := 203) rfl))
set_option maxRecDepth 100000 in
theorem GWc19_m_13 : (Cond.fieldLink RX8 149 "PhraseDesk$Routine" "one" "I") ∈ lw_big := List.mem_append_right _ (tb_5 _ (List.mem_of_getElem? (i := 32) rfl))
set_option maxRecDepth 100000 in
theorem GWc19_m_14 : (Cond.fieldLink RX8 157 "PhraseDesk$Routine" "two" "I") ∈ lw_big := List.mem_append_right _ (tb_5 _ (List.mem_of_getElem? (i := 35) rfl))
set_option maxRecDepth 100000 in
theorem GWc19_m_15 : (Cond.methodLink RX8 144 yX3_find) ∈ lw_big := List.mem_append_right _ (tb_5 _ (List.mem_of_getElem? (i := 157) rfl))
set_option maxRecDepth 100000 in
theorem GWc19_m_16 : (Cond.instanceMethod yX3_find) ∈ lw_big := List.mem_append_right _ (tb_5 _ (List.mem_of_getElem? (i := 158) rfl))
set_option maxRecDepth 100000 in
theorem GWc19_m_17 : (Cond.selects RX3 yX3_find yX3_find) ∈ lw_big := List.mem_append_right _ (tb_5 _ (List.mem_of_getElem? (i := 159) rfl))
set_option maxRecDepth 100000 in
theorem GWc19_m_18 : (Cond.methodLink RX8 153 yX8_fit) ∈ lw_big := List.mem_append_right _ (tb_5 _ (List.mem_of_getElem? (i := 210) rfl))
set_option maxRecDepth 100000 in
theorem GWc19_m_19 : (Cond.instanceMethod yX8_fit) ∈ lw_big := List.mem_append_right _ (tb_5 _ (List.mem_of_getElem? (i := 212) rfl))
set_option maxRecDepth 100000 in
theorem GWc19_m_20 : (Cond.selects RX8 yX8_fit yX8_fit) ∈ lw_big := List.mem_append_right _ (List.mem_append_left _ (List.mem_of_getElem? (i := 40) (by decide +kernel)))
set_option maxRecDepth 100000 in
theorem GWc19_m_21 : (Cond.code yX8_fit cX8_fit 4 (some (.object "PhraseDesk$Value"))) ∈ lw_big := List.mem_append_right _ (tb_5 _ (List.mem_of_getElem? (i := 213) rfl))
set_option maxRecDepth 100000 in
theorem GWc19_m_22 : (Cond.methodLink RX8 226 yX10_fits) ∈ lw_big := List.mem_append_right _ (tb_5 _ (List.mem_of_getElem? (i := 214) rfl))
set_option maxRecDepth 100000 in
theorem GWc19_m_23 : (Cond.methodLink RX8 230 yX0_reach) ∈ lw_big := List.mem_append_right _ (tb_5 _ (List.mem_of_getElem? (i := 215) rfl))
set_option maxRecDepth 100000 in
theorem GWc19_m_24 : (Cond.methodLink RX8 234 yX0_convert) ∈ lw_big := List.mem_append_right _ (tb_5 _ (List.mem_of_getElem? (i := 216) rfl))
set_option maxRecDepth 100000 in
theorem GWc19_m_25 : (Cond.instanceMethod yX0_convert) ∈ lw_big := List.mem_append_right _ (tb_5 _ (List.mem_of_getElem? (i := 217) rfl))
set_option maxRecDepth 100000 in
theorem GWc19_m_26 : (Cond.selects RX0 yX0_convert yX0_convert) ∈ lw_big := List.mem_append_right _ (tb_5 _ (List.mem_of_getElem? (i := 218) rfl))
set_option maxRecDepth 100000 in
theorem GWc19_m_27 : (Cond.methodLink RX8 159 yX8_act) ∈ lw_big := List.mem_append_right _ (tb_6 _ (List.mem_of_getElem? (i := 11) rfl))
set_option maxRecDepth 100000 in
theorem GWc19_m_28 : (Cond.instanceMethod yX8_act) ∈ lw_big := List.mem_append_right _ (tb_6 _ (List.mem_of_getElem? (i := 13) rfl))
set_option maxRecDepth 100000 in
theorem GWc19_m_29 : (Cond.selects RX8 yX8_act yX8_act) ∈ lw_big := List.mem_append_right _ (List.mem_append_left _ (List.mem_of_getElem? (i := 41) (by decide +kernel)))
set_option maxRecDepth 100000 in
theorem GWc19_m_30 : (Cond.code yX8_act cX8_act 5 (some (.object "PhraseDesk$Value"))) ∈ lw_big := List.mem_append_right _ (tb_6 _ (List.mem_of_getElem? (i := 14) rfl))
set_option maxRecDepth 100000 in
theorem GWc19_m_31 : (Cond.fieldLink RX8 163 "PhraseDesk$Routine" "action" "I") ∈ lw_big := List.mem_append_right _ (tb_5 _ (List.mem_of_getElem? (i := 40) rfl))
set_option maxRecDepth 100000 in
theorem GWc19_m_32 : (Cond.fieldLink RX8 166 "PhraseDesk$Routine" "number" "I") ∈ lw_big := List.mem_append_right _ (tb_5 _ (List.mem_of_getElem? (i := 42) rfl))
set_option maxRecDepth 100000 in
theorem GWc19_m_33 : (Cond.fieldLink RX8 169 "PhraseDesk$Routine" "parameters" "I") ∈ lw_big := List.mem_append_right _ (tb_5 _ (List.mem_of_getElem? (i := 38) rfl))
set_option maxRecDepth 100000 in
theorem GWc19_m_34 : (Cond.methodLink RX8 172 yX8_add) ∈ lw_big := List.mem_append_right _ (tb_6 _ (List.mem_of_getElem? (i := 15) rfl))
set_option maxRecDepth 100000 in
theorem GWc19_m_35 : (Cond.instanceMethod yX8_add) ∈ lw_big := List.mem_append_right _ (tb_6 _ (List.mem_of_getElem? (i := 17) rfl))
set_option maxRecDepth 100000 in
theorem GWc19_m_36 : (Cond.selects RX8 yX8_add yX8_add) ∈ lw_big := List.mem_append_right _ (List.mem_append_left _ (List.mem_of_getElem? (i := 42) (by decide +kernel)))
set_option maxRecDepth 100000 in
theorem GWc19_m_37 : (Cond.code yX8_add cX8_add 4 (some (.object "PhraseDesk$Value"))) ∈ lw_big := List.mem_append_right _ (tb_6 _ (List.mem_of_getElem? (i := 18) rfl))
set_option maxRecDepth 100000 in
theorem GWc19_m_38 : (Cond.methodLink RX8 255 yX8_joins) ∈ lw_big := List.mem_append_right _ (tb_6 _ (List.mem_of_getElem? (i := 19) rfl))
set_option maxRecDepth 100000 in
theorem GWc19_m_39 : (Cond.static yX8_joins) ∈ lw_big := List.mem_append_right _ (tb_6 _ (List.mem_of_getElem? (i := 20) rfl))
theorem GWc19_b : ∀ w ∈ GWc19, w ∈ lw_big := List.forall_mem_cons.mpr ⟨GWc19_m_0, List.forall_mem_cons.mpr ⟨GWc19_m_1, List.forall_mem_cons.mpr ⟨GWc19_m_2, List.forall_mem_cons.mpr ⟨GWc19_m_3, List.forall_mem_cons.mpr ⟨GWc19_m_4, List.forall_mem_cons.mpr ⟨GWc19_m_5, List.forall_mem_cons.mpr ⟨GWc19_m_6, List.forall_mem_cons.mpr ⟨GWc19_m_7, List.forall_mem_cons.mpr ⟨GWc19_m_8, List.forall_mem_cons.mpr ⟨GWc19_m_9, List.forall_mem_cons.mpr ⟨GWc19_m_10, List.forall_mem_cons.mpr ⟨GWc19_m_11, List.forall_mem_cons.mpr ⟨GWc19_m_12, List.forall_mem_cons.mpr ⟨GWc19_m_13, List.forall_mem_cons.mpr ⟨GWc19_m_14, List.forall_mem_cons.mpr ⟨GWc19_m_15, List.forall_mem_cons.mpr ⟨GWc19_m_16, List.forall_mem_cons.mpr ⟨GWc19_m_17, List.forall_mem_cons.mpr ⟨GWc19_m_18, List.forall_mem_cons.mpr ⟨GWc19_m_19, List.forall_mem_cons.mpr ⟨GWc19_m_20, List.forall_mem_cons.mpr ⟨GWc19_m_21, List.forall_mem_cons.mpr ⟨GWc19_m_22, List.forall_mem_cons.mpr ⟨GWc19_m_23, List.forall_mem_cons.mpr ⟨GWc19_m_24, List.forall_mem_cons.mpr ⟨GWc19_m_25, List.forall_mem_cons.mpr ⟨GWc19_m_26, List.forall_mem_cons.mpr ⟨GWc19_m_27, List.forall_mem_cons.mpr ⟨GWc19_m_28, List.forall_mem_cons.mpr ⟨GWc19_m_29, List.forall_mem_cons.mpr ⟨GWc19_m_30, List.forall_mem_cons.mpr ⟨GWc19_m_31, List.forall_mem_cons.mpr ⟨GWc19_m_32, List.forall_mem_cons.mpr ⟨GWc19_m_33, List.forall_mem_cons.mpr ⟨GWc19_m_34, List.forall_mem_cons.mpr ⟨GWc19_m_35, List.forall_mem_cons.mpr ⟨GWc19_m_36, List.forall_mem_cons.mpr ⟨GWc19_m_37, List.forall_mem_cons.mpr ⟨GWc19_m_38, List.forall_mem_cons.mpr ⟨GWc19_m_39, fun _ h => absurd h List.not_mem_nil⟩⟩⟩⟩⟩⟩⟩⟩⟩⟩⟩⟩⟩⟩⟩⟩⟩⟩⟩⟩⟩⟩⟩⟩⟩⟩⟩⟩⟩⟩⟩⟩⟩⟩⟩⟩⟩⟩⟩⟩
set_option maxRecDepth 100000 in
theorem GWc20_m_0 : (Cond.code yX8_joins cX8_joins 2 (some .boolean)) ∈ lw_big := List.mem_append_right _ (tb_6 _ (List.mem_of_getElem? (i := 21) rfl))
set_option maxRecDepth 100000 in
theorem GWc20_m_1 : (Cond.methodLink RX8 241 yX8_calculate) ∈ lw_big := List.mem_append_right _ (tb_6 _ (List.mem_of_getElem? (i := 22) rfl))
set_option maxRecDepth 100000 in
theorem GWc20_m_2 : (Cond.instanceMethod yX8_calculate) ∈ lw_big := List.mem_append_right _ (tb_6 _ (List.mem_of_getElem? (i := 24) rfl))
set_option maxRecDepth 100000 in
theorem GWc20_m_3 : (Cond.selects RX8 yX8_calculate yX8_calculate) ∈ lw_big := List.mem_append_right _ (List.mem_append_left _ (List.mem_of_getElem? (i := 43) (by decide +kernel)))
set_option maxRecDepth 100000 in
theorem GWc20_m_4 : (Cond.code yX8_calculate cX8_calculate 4 (some (.object "PhraseDesk$Value"))) ∈ lw_big := List.mem_append_right _ (tb_6 _ (List.mem_of_getElem? (i := 25) rfl))
set_option maxRecDepth 100000 in
theorem GWc20_m_5 : (Cond.methodLink RX8 261 yX8_ofInts) ∈ lw_big := List.mem_append_right _ (tb_6 _ (List.mem_of_getElem? (i := 26) rfl))
set_option maxRecDepth 100000 in
theorem GWc20_m_6 : (Cond.instanceMethod yX8_ofInts) ∈ lw_big := List.mem_append_right _ (tb_6 _ (List.mem_of_getElem? (i := 28) rfl))
set_option maxRecDepth 100000 in
theorem GWc20_m_7 : (Cond.selects RX8 yX8_ofInts yX8_ofInts) ∈ lw_big := List.mem_append_right _ (List.mem_append_left _ (List.mem_of_getElem? (i := 44) (by decide +kernel)))
set_option maxRecDepth 100000 in
theorem GWc20_m_8 : (Cond.code yX8_ofInts cX8_ofInts 4 (some (.object "PhraseDesk$Value"))) ∈ lw_big := List.mem_append_right _ (tb_6 _ (List.mem_of_getElem? (i := 29) rfl))
set_option maxRecDepth 100000 in
theorem GWc20_m_9 : (Cond.methodLink RX8 248 yX10_isNumber) ∈ lw_big := List.mem_append_right _ (tb_6 _ (List.mem_of_getElem? (i := 30) rfl))
set_option maxRecDepth 100000 in
theorem GWc20_m_10 : (Cond.instanceMethod yX10_isNumber) ∈ lw_big := List.mem_append_right _ (tb_6 _ (List.mem_of_getElem? (i := 31) rfl))
set_option maxRecDepth 100000 in
theorem GWc20_m_11 : (Cond.selects RX10 yX10_isNumber yX10_isNumber) ∈ lw_big := List.mem_append_right _ (tb_6 _ (List.mem_of_getElem? (i := 32) rfl))
set_option maxRecDepth 100000 in
theorem GWc20_m_12 : (Cond.code yX10_isNumber cX10_isNumber 1 (some .boolean)) ∈ lw_big := List.mem_append_right _ (tb_6 _ (List.mem_of_getElem? (i := 33) rfl))
set_option maxRecDepth 100000 in
theorem GWc20_m_13 : (Cond.methodLink RX8 265 yX8_ofReals) ∈ lw_big := List.mem_append_right _ (tb_6 _ (List.mem_of_getElem? (i := 34) rfl))
set_option maxRecDepth 100000 in
theorem GWc20_m_14 : (Cond.instanceMethod yX8_ofReals) ∈ lw_big := List.mem_append_right _ (tb_6 _ (List.mem_of_getElem? (i := 36) rfl))
set_option maxRecDepth 100000 in
theorem GWc20_m_15 : (Cond.selects RX8 yX8_ofReals yX8_ofReals) ∈ lw_big := List.mem_append_right _ (List.mem_append_left _ (List.mem_of_getElem? (i := 45) (by decide +kernel)))
set_option maxRecDepth 100000 in
theorem GWc20_m_16 : (Cond.code yX8_ofReals cX8_ofReals 8 (some (.object "PhraseDesk$Value"))) ∈ lw_big := List.mem_append_right _ (tb_6 _ (List.mem_of_getElem? (i := 37) rfl))
set_option maxRecDepth 100000 in
theorem GWc20_m_17 : (Cond.constantDouble RX8 269 (4786511204640096256)) ∈ lw_big := List.mem_append_right _ (tb_6 _ (List.mem_of_getElem? (i := 38) rfl))
set_option maxRecDepth 100000 in
theorem GWc20_m_18 : (Cond.constantDouble RX8 271 (14009883241494872064)) ∈ lw_big := List.mem_append_right _ (tb_6 _ (List.mem_of_getElem? (i := 39) rfl))
set_option maxRecDepth 100000 in
theorem GWc20_m_19 : (Cond.methodLink RX8 258 yX0_join) ∈ lw_big := List.mem_append_right _ (tb_6 _ (List.mem_of_getElem? (i := 41) rfl))
set_option maxRecDepth 100000 in
theorem GWc20_m_20 : (Cond.instanceMethod yX0_join) ∈ lw_big := List.mem_append_right _ (tb_6 _ (List.mem_of_getElem? (i := 42) rfl))
set_option maxRecDepth 100000 in
theorem GWc20_m_21 : (Cond.selects RX0 yX0_join yX0_join) ∈ lw_big := List.mem_append_right _ (tb_6 _ (List.mem_of_getElem? (i := 43) rfl))
set_option maxRecDepth 100000 in
theorem GWc20_m_22 : (Cond.code yX8_chosen cX8_chosen 4 (some (.object "PhraseDesk$Value"))) ∈ lw_big := List.mem_append_right _ (tb_6 _ (List.mem_of_getElem? (i := 70) rfl))
set_option maxRecDepth 100000 in
theorem GWc20_m_23 : (Cond.methodLink RX8 193 yX8_bool) ∈ lw_big := List.mem_append_right _ (tb_6 _ (List.mem_of_getElem? (i := 63) rfl))
set_option maxRecDepth 100000 in
theorem GWc20_m_24 : (Cond.instanceMethod yX8_bool) ∈ lw_big := List.mem_append_right _ (tb_6 _ (List.mem_of_getElem? (i := 65) rfl))
set_option maxRecDepth 100000 in
theorem GWc20_m_25 : (Cond.selects RX8 yX8_bool yX8_bool) ∈ lw_big := List.mem_append_right _ (List.mem_append_left _ (List.mem_of_getElem? (i := 49) (by decide +kernel)))
set_option maxRecDepth 100000 in
theorem GWc20_m_26 : (Cond.code yX8_bool cX8_bool 2 (some (.object "PhraseDesk$Value"))) ∈ lw_big := List.mem_append_right _ (tb_6 _ (List.mem_of_getElem? (i := 66) rfl))
set_option maxRecDepth 100000 in
theorem GWc20_m_27 : (Cond.code yX8_combined cX8_combined 5 (some (.object "PhraseDesk$Value"))) ∈ lw_big := List.mem_append_right _ (tb_6 _ (List.mem_of_getElem? (i := 103) rfl))
set_option maxRecDepth 100000 in
theorem GWc20_m_28 : (Cond.methodLink RX8 237 yX8_areSame) ∈ lw_big := List.mem_append_right _ (tb_6 _ (List.mem_of_getElem? (i := 104) rfl))
set_option maxRecDepth 100000 in
theorem GWc20_m_29 : (Cond.static yX8_areSame) ∈ lw_big := List.mem_append_right _ (tb_6 _ (List.mem_of_getElem? (i := 105) rfl))
set_option maxRecDepth 100000 in
theorem GWc20_m_30 : (Cond.code yX8_areSame cX8_areSame 2 (some .boolean)) ∈ lw_big := List.mem_append_right _ (tb_6 _ (List.mem_of_getElem? (i := 106) rfl))
set_option maxRecDepth 100000 in
theorem GWc20_m_31 : (Cond.methodLink RX8 251 yJ0_equals_9ea2d) ∈ lw_big := List.mem_append_right _ (tb_6 _ (List.mem_of_getElem? (i := 107) rfl))
set_option maxRecDepth 100000 in
theorem GWc20_m_32 : (Cond.methodLink RX8 245 yX8_compare) ∈ lw_big := List.mem_append_right _ (tb_6 _ (List.mem_of_getElem? (i := 108) rfl))
set_option maxRecDepth 100000 in
theorem GWc20_m_33 : (Cond.instanceMethod yX8_compare) ∈ lw_big := List.mem_append_right _ (tb_6 _ (List.mem_of_getElem? (i := 110) rfl))
set_option maxRecDepth 100000 in
theorem GWc20_m_34 : (Cond.selects RX8 yX8_compare yX8_compare) ∈ lw_big := List.mem_append_right _ (List.mem_append_left _ (List.mem_of_getElem? (i := 56) (by decide +kernel)))
set_option maxRecDepth 100000 in
theorem GWc20_m_35 : (Cond.code yX8_compare cX8_compare 4 (some (.object "PhraseDesk$Value"))) ∈ lw_big := List.mem_append_right _ (tb_6 _ (List.mem_of_getElem? (i := 111) rfl))
set_option maxRecDepth 100000 in
theorem GWc20_m_36 : (Cond.code yX8_logic cX8_logic 4 (some (.object "PhraseDesk$Value"))) ∈ lw_big := List.mem_append_right _ (tb_6 _ (List.mem_of_getElem? (i := 62) rfl))
set_option maxRecDepth 100000 in
theorem GWc20_m_37 : (Cond.code yX8_orElse cX8_orElse 5 (some (.object "PhraseDesk$Value"))) ∈ lw_big := List.mem_append_right _ (tb_6 _ (List.mem_of_getElem? (i := 74) rfl))
set_option maxRecDepth 100000 in
theorem GWc20_m_38 : (Cond.methodLink RX8 196 yJ0_isEmpty_aae02) ∈ lw_big := List.mem_append_right _ (tb_6 _ (List.mem_of_getElem? (i := 75) rfl))
set_option maxRecDepth 100000 in
theorem GWc20_m_39 : (Cond.instanceMethod yJ0_isEmpty_aae02) ∈ lw_big := List.mem_append_right _ (tb_6 _ (List.mem_of_getElem? (i := 76) rfl))
theorem GWc20_b : ∀ w ∈ GWc20, w ∈ lw_big := List.forall_mem_cons.mpr ⟨GWc20_m_0, List.forall_mem_cons.mpr ⟨GWc20_m_1, List.forall_mem_cons.mpr ⟨GWc20_m_2, List.forall_mem_cons.mpr ⟨GWc20_m_3, List.forall_mem_cons.mpr ⟨GWc20_m_4, List.forall_mem_cons.mpr ⟨GWc20_m_5, List.forall_mem_cons.mpr ⟨GWc20_m_6, List.forall_mem_cons.mpr ⟨GWc20_m_7, List.forall_mem_cons.mpr ⟨GWc20_m_8, List.forall_mem_cons.mpr ⟨GWc20_m_9, List.forall_mem_cons.mpr ⟨GWc20_m_10, List.forall_mem_cons.mpr ⟨GWc20_m_11, List.forall_mem_cons.mpr ⟨GWc20_m_12, List.forall_mem_cons.mpr ⟨GWc20_m_13, List.forall_mem_cons.mpr ⟨GWc20_m_14, List.forall_mem_cons.mpr ⟨GWc20_m_15, List.forall_mem_cons.mpr ⟨GWc20_m_16, List.forall_mem_cons.mpr ⟨GWc20_m_17, List.forall_mem_cons.mpr ⟨GWc20_m_18, List.forall_mem_cons.mpr ⟨GWc20_m_19, List.forall_mem_cons.mpr ⟨GWc20_m_20, List.forall_mem_cons.mpr ⟨GWc20_m_21, List.forall_mem_cons.mpr ⟨GWc20_m_22, List.forall_mem_cons.mpr ⟨GWc20_m_23, List.forall_mem_cons.mpr ⟨GWc20_m_24, List.forall_mem_cons.mpr ⟨GWc20_m_25, List.forall_mem_cons.mpr ⟨GWc20_m_26, List.forall_mem_cons.mpr ⟨GWc20_m_27, List.forall_mem_cons.mpr ⟨GWc20_m_28, List.forall_mem_cons.mpr ⟨GWc20_m_29, List.forall_mem_cons.mpr ⟨GWc20_m_30, List.forall_mem_cons.mpr ⟨GWc20_m_31, List.forall_mem_cons.mpr ⟨GWc20_m_32, List.forall_mem_cons.mpr ⟨GWc20_m_33, List.forall_mem_cons.mpr ⟨GWc20_m_34, List.forall_mem_cons.mpr ⟨GWc20_m_35, List.forall_mem_cons.mpr ⟨GWc20_m_36, List.forall_mem_cons.mpr ⟨GWc20_m_37, List.forall_mem_cons.mpr ⟨GWc20_m_38, List.forall_mem_cons.mpr ⟨GWc20_m_39, fun _ h => absurd h List.not_mem_nil⟩⟩⟩⟩⟩⟩⟩⟩⟩⟩⟩⟩⟩⟩⟩⟩⟩⟩⟩⟩⟩⟩⟩⟩⟩⟩⟩⟩⟩⟩⟩⟩⟩⟩⟩⟩⟩⟩⟩⟩
set_option maxRecDepth 100000 in
theorem GWc21_m_0 : (Cond.selects RJ0 yJ0_isEmpty_aae02 yJ0_isEmpty_aae02) ∈ lw_big := List.mem_append_right _ (tb_6 _ (List.mem_of_getElem? (i := 77) rfl))
set_option maxRecDepth 100000 in
theorem GWc21_m_1 : (Cond.code yJ0_isEmpty_aae02 cJ0_isEmpty_aae02 1 (some .boolean)) ∈ lw_big := List.mem_append_right _ (tb_6 _ (List.mem_of_getElem? (i := 78) rfl))
set_option maxRecDepth 100000 in
theorem GWc21_m_2 : (Cond.code yX8_set cX8_set 5 (some (.object "PhraseDesk$Value"))) ∈ lw_big := List.mem_append_right _ (tb_6 _ (List.mem_of_getElem? (i := 82) rfl))
set_option maxRecDepth 100000 in
theorem GWc21_m_3 : (Cond.methodLink RX8 199 yX8_setProperty) ∈ lw_big := List.mem_append_right _ (tb_6 _ (List.mem_of_getElem? (i := 83) rfl))
set_option maxRecDepth 100000 in
theorem GWc21_m_4 : (Cond.instanceMethod yX8_setProperty) ∈ lw_big := List.mem_append_right _ (tb_6 _ (List.mem_of_getElem? (i := 85) rfl))
set_option maxRecDepth 100000 in
theorem GWc21_m_5 : (Cond.selects RX8 yX8_setProperty yX8_setProperty) ∈ lw_big := List.mem_append_right _ (List.mem_append_left _ (List.mem_of_getElem? (i := 53) (by decide +kernel)))
set_option maxRecDepth 100000 in
theorem GWc21_m_6 : (Cond.methodLink RX8 203 yX8_setVariable) ∈ lw_big := List.mem_append_right _ (tb_6 _ (List.mem_of_getElem? (i := 96) rfl))
set_option maxRecDepth 100000 in
theorem GWc21_m_7 : (Cond.instanceMethod yX8_setVariable) ∈ lw_big := List.mem_append_right _ (tb_6 _ (List.mem_of_getElem? (i := 97) rfl))
set_option maxRecDepth 100000 in
theorem GWc21_m_8 : (Cond.selects RX8 yX8_setVariable yX8_setVariable) ∈ lw_big := List.mem_append_right _ (tb_6 _ (List.mem_of_getElem? (i := 98) rfl))
set_option maxRecDepth 100000 in
theorem GWc21_m_9 : (Cond.code yX8_setVariable cX8_setVariable 4 (some .boolean)) ∈ lw_big := List.mem_append_right _ (tb_6 _ (List.mem_of_getElem? (i := 99) rfl))
set_option maxRecDepth 100000 in
theorem GWc21_m_10 : (Cond.code yX8_setProperty cX8_setProperty 6 (some (.object "PhraseDesk$Value"))) ∈ lw_big := List.mem_append_right _ (tb_6 _ (List.mem_of_getElem? (i := 86) rfl))
set_option maxRecDepth 100000 in
theorem GWc21_m_11 : (Cond.methodLink RX8 207 yX8_setField) ∈ lw_big := List.mem_append_right _ (tb_6 _ (List.mem_of_getElem? (i := 87) rfl))
set_option maxRecDepth 100000 in
theorem GWc21_m_12 : (Cond.instanceMethod yX8_setField) ∈ lw_big := List.mem_append_right _ (tb_6 _ (List.mem_of_getElem? (i := 89) rfl))
set_option maxRecDepth 100000 in
theorem GWc21_m_13 : (Cond.selects RX8 yX8_setField yX8_setField) ∈ lw_big := List.mem_append_right _ (List.mem_append_left _ (List.mem_of_getElem? (i := 54) (by decide +kernel)))
set_option maxRecDepth 100000 in
theorem GWc21_m_14 : (Cond.code yX8_setField cX8_setField 6 (some (.object "PhraseDesk$Value"))) ∈ lw_big := List.mem_append_right _ (tb_6 _ (List.mem_of_getElem? (i := 90) rfl))
set_option maxRecDepth 100000 in
theorem GWc21_m_15 : (Cond.fieldLink RX8 217 "PhraseDesk$Field" "type" "I") ∈ lw_big := List.mem_append_right _ (tb_4 _ (List.mem_of_getElem? (i := 239) rfl))
set_option maxRecDepth 100000 in
theorem GWc21_m_16 : (Cond.methodLink RX8 211 yX1_nearestField) ∈ lw_big := List.mem_append_right _ (tb_6 _ (List.mem_of_getElem? (i := 91) rfl))
set_option maxRecDepth 100000 in
theorem GWc21_m_17 : (Cond.methodLink RX8 222 yX9_hold) ∈ lw_big := List.mem_append_right _ (tb_6 _ (List.mem_of_getElem? (i := 92) rfl))
set_option maxRecDepth 100000 in
theorem GWc21_m_18 : (Cond.instanceMethod yX9_hold) ∈ lw_big := List.mem_append_right _ (tb_6 _ (List.mem_of_getElem? (i := 93) rfl))
set_option maxRecDepth 100000 in
theorem GWc21_m_19 : (Cond.selects RX9 yX9_hold yX9_hold) ∈ lw_big := List.mem_append_right _ (tb_6 _ (List.mem_of_getElem? (i := 94) rfl))
set_option maxRecDepth 100000 in
theorem GWc21_m_20 : (Cond.code yX9_hold cX9_hold 3 none) ∈ lw_big := List.mem_append_right _ (tb_6 _ (List.mem_of_getElem? (i := 95) rfl))
set_option maxRecDepth 100000 in
theorem GWc21_m_21 : (Cond.code yX9_init cX9_init 5 none) ∈ lw_big := List.mem_append_right _ (tb_5 _ (List.mem_of_getElem? (i := 73) rfl))
set_option maxRecDepth 100000 in
theorem GWc21_m_22 : (Cond.methodLink RX9 3 objectInit) ∈ lw_big := List.mem_append_right _ (tb_5 _ (List.mem_of_getElem? (i := 74) rfl))
set_option maxRecDepth 100000 in
theorem GWc21_m_23 : (Cond.fieldLink RX9 9 "PhraseDesk$Thing" "number" "I") ∈ lw_big := List.mem_append_right _ (tb_5 _ (List.mem_of_getElem? (i := 76) rfl))
set_option maxRecDepth 100000 in
theorem GWc21_m_24 : (Cond.classLink RX9 19 RX10) ∈ lw_big := List.mem_append_right _ (tb_5 _ (List.mem_of_getElem? (i := 75) rfl))
set_option maxRecDepth 100000 in
theorem GWc21_m_25 : (Cond.code yX10_ofThing cX10_ofThing 1 (some (.object "PhraseDesk$Value"))) ∈ lw_big := List.mem_append_right _ (tb_5 _ (List.mem_of_getElem? (i := 92) rfl))
set_option maxRecDepth 100000 in
theorem GWc21_m_26 : (Cond.fieldLink RX10 50 "PhraseDesk$Thing" "number" "I") ∈ lw_big := List.mem_append_right _ (tb_5 _ (List.mem_of_getElem? (i := 77) rfl))
set_option maxRecDepth 100000 in
theorem GWc21_m_27 : (Cond.code yX11_init cX11_init 1 none) ∈ lw_big := List.mem_append_right _ (tb_1 _ (List.mem_of_getElem? (i := 34) rfl))
set_option maxRecDepth 100000 in
theorem GWc21_m_28 : (Cond.methodLink RX11 1 objectInit) ∈ lw_big := List.mem_append_right _ (tb_1 _ (List.mem_of_getElem? (i := 35) rfl))
set_option maxRecDepth 100000 in
theorem GWc21_m_29 : (Cond.classLink RX11 7 RX6) ∈ lw_big := List.mem_append_right _ (tb_1 _ (List.mem_of_getElem? (i := 38) rfl))
set_option maxRecDepth 100000 in
theorem GWc21_m_30 : (Cond.instantiable RX6 4) ∈ lw_big := List.mem_append_right _ (tb_1 _ (List.mem_of_getElem? (i := 39) rfl))
set_option maxRecDepth 100000 in
theorem GWc21_m_31 : (Cond.fieldLink RX11 10 "PhraseDesk" "parser" "LPhraseDesk$Parser;") ∈ lw_big := List.mem_append_right _ (tb_2 _ (List.mem_of_getElem? (i := 8) rfl))
set_option maxRecDepth 100000 in
theorem GWc21_m_32 : (Cond.classLink RX11 16 RX8) ∈ lw_big := List.mem_append_right _ (tb_1 _ (List.mem_of_getElem? (i := 130) rfl))
set_option maxRecDepth 100000 in
theorem GWc21_m_33 : (Cond.instantiable RX8 8) ∈ lw_big := List.mem_append_right _ (tb_1 _ (List.mem_of_getElem? (i := 131) rfl))
set_option maxRecDepth 100000 in
theorem GWc21_m_34 : (Cond.fieldLink RX11 19 "PhraseDesk" "runner" "LPhraseDesk$Runner;") ∈ lw_big := List.mem_append_right _ (tb_2 _ (List.mem_of_getElem? (i := 9) rfl))
set_option maxRecDepth 100000 in
theorem GWc21_m_35 : (Cond.classLink RX11 23 RX5) ∈ lw_big := List.mem_append_right _ (tb_2 _ (List.mem_of_getElem? (i := 2) rfl))
set_option maxRecDepth 100000 in
theorem GWc21_m_36 : (Cond.fieldLink RX11 25 "PhraseDesk" "programs" "[LPhraseDesk$Node;") ∈ lw_big := List.mem_append_right _ (tb_2 _ (List.mem_of_getElem? (i := 10) rfl))
set_option maxRecDepth 100000 in
theorem GWc21_m_37 : (Cond.classLink RX11 29 RX1) ∈ lw_big := List.mem_append_right _ (tb_2 _ (List.mem_of_getElem? (i := 4) rfl))
set_option maxRecDepth 100000 in
theorem GWc21_m_38 : (Cond.fieldLink RX11 31 "PhraseDesk" "families" "[LPhraseDesk$Family;") ∈ lw_big := List.mem_append_right _ (tb_2 _ (List.mem_of_getElem? (i := 12) rfl))
set_option maxRecDepth 100000 in
theorem GWc21_m_39 : (Cond.classLink RX11 35 RX10) ∈ lw_big := List.mem_append_right _ (tb_2 _ (List.mem_of_getElem? (i := 6) rfl))
theorem GWc21_b : ∀ w ∈ GWc21, w ∈ lw_big := List.forall_mem_cons.mpr ⟨GWc21_m_0, List.forall_mem_cons.mpr ⟨GWc21_m_1, List.forall_mem_cons.mpr ⟨GWc21_m_2, List.forall_mem_cons.mpr ⟨GWc21_m_3, List.forall_mem_cons.mpr ⟨GWc21_m_4, List.forall_mem_cons.mpr ⟨GWc21_m_5, List.forall_mem_cons.mpr ⟨GWc21_m_6, List.forall_mem_cons.mpr ⟨GWc21_m_7, List.forall_mem_cons.mpr ⟨GWc21_m_8, List.forall_mem_cons.mpr ⟨GWc21_m_9, List.forall_mem_cons.mpr ⟨GWc21_m_10, List.forall_mem_cons.mpr ⟨GWc21_m_11, List.forall_mem_cons.mpr ⟨GWc21_m_12, List.forall_mem_cons.mpr ⟨GWc21_m_13, List.forall_mem_cons.mpr ⟨GWc21_m_14, List.forall_mem_cons.mpr ⟨GWc21_m_15, List.forall_mem_cons.mpr ⟨GWc21_m_16, List.forall_mem_cons.mpr ⟨GWc21_m_17, List.forall_mem_cons.mpr ⟨GWc21_m_18, List.forall_mem_cons.mpr ⟨GWc21_m_19, List.forall_mem_cons.mpr ⟨GWc21_m_20, List.forall_mem_cons.mpr ⟨GWc21_m_21, List.forall_mem_cons.mpr ⟨GWc21_m_22, List.forall_mem_cons.mpr ⟨GWc21_m_23, List.forall_mem_cons.mpr ⟨GWc21_m_24, List.forall_mem_cons.mpr ⟨GWc21_m_25, List.forall_mem_cons.mpr ⟨GWc21_m_26, List.forall_mem_cons.mpr ⟨GWc21_m_27, List.forall_mem_cons.mpr ⟨GWc21_m_28, List.forall_mem_cons.mpr ⟨GWc21_m_29, List.forall_mem_cons.mpr ⟨GWc21_m_30, List.forall_mem_cons.mpr ⟨GWc21_m_31, List.forall_mem_cons.mpr ⟨GWc21_m_32, List.forall_mem_cons.mpr ⟨GWc21_m_33, List.forall_mem_cons.mpr ⟨GWc21_m_34, List.forall_mem_cons.mpr ⟨GWc21_m_35, List.forall_mem_cons.mpr ⟨GWc21_m_36, List.forall_mem_cons.mpr ⟨GWc21_m_37, List.forall_mem_cons.mpr ⟨GWc21_m_38, List.forall_mem_cons.mpr ⟨GWc21_m_39, fun _ h => absurd h List.not_mem_nil⟩⟩⟩⟩⟩⟩⟩⟩⟩⟩⟩⟩⟩⟩⟩⟩⟩⟩⟩⟩⟩⟩⟩⟩⟩⟩⟩⟩⟩⟩⟩⟩⟩⟩⟩⟩⟩⟩⟩⟩
set_option maxRecDepth 100000 in
theorem GWc22_m_0 : (Cond.fieldLink RX11 37 "PhraseDesk" "objects" "[LPhraseDesk$Value;") ∈ lw_big := List.mem_append_right _ (tb_2 _ (List.mem_of_getElem? (i := 14) rfl))
set_option maxRecDepth 100000 in
theorem GWc22_m_1 : (Cond.fieldLink RX11 45 "PhraseDesk" "latest" "LPhraseDesk$Value;") ∈ lw_big := List.mem_append_right _ (tb_2 _ (List.mem_of_getElem? (i := 16) rfl))
set_option maxRecDepth 100000 in
theorem GWc22_m_2 : (Cond.methodLink RX11 9 yX6_init) ∈ lw_big := List.mem_append_right _ (tb_1 _ (List.mem_of_getElem? (i := 40) rfl))
set_option maxRecDepth 100000 in
theorem GWc22_m_3 : (Cond.instanceMethod yX6_init) ∈ lw_big := List.mem_append_right _ (tb_1 _ (List.mem_of_getElem? (i := 41) rfl))
set_option maxRecDepth 100000 in
theorem GWc22_m_4 : (Cond.methodLink RX11 18 yX8_init) ∈ lw_big := List.mem_append_right _ (tb_1 _ (List.mem_of_getElem? (i := 132) rfl))
set_option maxRecDepth 100000 in
theorem GWc22_m_5 : (Cond.instanceMethod yX8_init) ∈ lw_big := List.mem_append_right _ (tb_1 _ (List.mem_of_getElem? (i := 133) rfl))
set_option maxRecDepth 100000 in
theorem GWc22_m_6 : (Cond.methodLink RX11 41 yX10_ofNull) ∈ lw_big := List.mem_append_right _ (tb_2 _ (List.mem_of_getElem? (i := 7) rfl))
set_option maxRecDepth 100000 in
theorem GWc22_m_7 : (Cond.code yX11_letter cX11_letter 2 (some .int)) ∈ lw_big := List.mem_append_right _ (tb_2 _ (List.mem_of_getElem? (i := 104) rfl))
set_option maxRecDepth 100000 in
theorem GWc22_m_8 : (Cond.classLink RX11 49 "java/lang/IllegalArgumentException") ∈ lw_big := List.mem_append_right _ (tb_2 _ (List.mem_of_getElem? (i := 105) rfl))
set_option maxRecDepth 100000 in
theorem GWc22_m_9 : (Cond.initialized "java/lang/IllegalArgumentException") ∈ lw_big := List.mem_append_right _ (tb_1 _ (List.mem_of_getElem? (i := 16) rfl))
set_option maxRecDepth 100000 in
theorem GWc22_m_10 : (Cond.classLink RX11 66 "java/lang/IllegalStateException") ∈ lw_big := List.mem_append_right _ (tb_2 _ (List.mem_of_getElem? (i := 171) rfl))
set_option maxRecDepth 100000 in
theorem GWc22_m_11 : (Cond.initialized "java/lang/IllegalStateException") ∈ lw_big := List.mem_append_right _ (tb_1 _ (List.mem_of_getElem? (i := 17) rfl))
set_option maxRecDepth 100000 in
theorem GWc22_m_12 : (Cond.fieldLink RX11 56 "PhraseDesk$Parser" "lexer" "LPhraseDesk$Lexer;") ∈ lw_big := List.mem_append_right _ (tb_1 _ (List.mem_of_getElem? (i := 115) rfl))
set_option maxRecDepth 100000 in
theorem GWc22_m_13 : (Cond.fieldLink RX11 60 "PhraseDesk$Lexer" "length" "I") ∈ lw_big := List.mem_append_right _ (tb_1 _ (List.mem_of_getElem? (i := 89) rfl))
set_option maxRecDepth 100000 in
theorem GWc22_m_14 : (Cond.methodLink RX11 71 yX4_append) ∈ lw_big := List.mem_append_right _ (tb_2 _ (List.mem_of_getElem? (i := 187) rfl))
set_option maxRecDepth 100000 in
theorem GWc22_m_15 : (Cond.instanceMethod yX4_append) ∈ lw_big := List.mem_append_right _ (tb_2 _ (List.mem_of_getElem? (i := 188) rfl))
set_option maxRecDepth 100000 in
theorem GWc22_m_16 : (Cond.selects RX4 yX4_append yX4_append) ∈ lw_big := List.mem_append_right _ (tb_2 _ (List.mem_of_getElem? (i := 189) rfl))
set_option maxRecDepth 100000 in
theorem GWc22_m_17 : (Cond.code yX11_parse cX11_parse 2 (some .int)) ∈ lw_big := List.mem_append_right _ (tb_2 _ (List.mem_of_getElem? (i := 197) rfl))
set_option maxRecDepth 100000 in
theorem GWc22_m_18 : (Cond.fieldLink RX11 75 "PhraseDesk" "programCount" "I") ∈ lw_big := List.mem_append_right _ (tb_2 _ (List.mem_of_getElem? (i := 11) rfl))
set_option maxRecDepth 100000 in
theorem GWc22_m_19 : (Cond.fieldLink RX11 84 "PhraseDesk$Parser" "error" "I") ∈ lw_big := List.mem_append_right _ (tb_1 _ (List.mem_of_getElem? (i := 118) rfl))
set_option maxRecDepth 100000 in
theorem GWc22_m_20 : (Cond.fieldLink RX11 87 "PhraseDesk$Parser" "place" "I") ∈ lw_big := List.mem_append_right _ (tb_1 _ (List.mem_of_getElem? (i := 120) rfl))
set_option maxRecDepth 100000 in
theorem GWc22_m_21 : (Cond.methodLink RX11 80 yX6_read) ∈ lw_big := List.mem_append_right _ (tb_2 _ (List.mem_of_getElem? (i := 199) rfl))
set_option maxRecDepth 100000 in
theorem GWc22_m_22 : (Cond.instanceMethod yX6_read) ∈ lw_big := List.mem_append_right _ (tb_2 _ (List.mem_of_getElem? (i := 200) rfl))
set_option maxRecDepth 100000 in
theorem GWc22_m_23 : (Cond.selects RX6 yX6_read yX6_read) ∈ lw_big := List.mem_append_right _ (tb_2 _ (List.mem_of_getElem? (i := 201) rfl))
set_option maxRecDepth 100000 in
theorem GWc22_m_24 : (Cond.code yX11_type cX11_type 3 (some .int)) ∈ lw_big := List.mem_append_right _ (tb_4 _ (List.mem_of_getElem? (i := 161) rfl))
set_option maxRecDepth 100000 in
theorem GWc22_m_25 : (Cond.fieldLink RX11 96 "PhraseDesk" "familyCount" "I") ∈ lw_big := List.mem_append_right _ (tb_2 _ (List.mem_of_getElem? (i := 13) rfl))
set_option maxRecDepth 100000 in
theorem GWc22_m_26 : (Cond.instantiable RX1 7) ∈ lw_big := List.mem_append_right _ (tb_4 _ (List.mem_of_getElem? (i := 168) rfl))
set_option maxRecDepth 100000 in
theorem GWc22_m_27 : (Cond.methodLink RX11 90 yX11_familyAt) ∈ lw_big := List.mem_append_right _ (tb_4 _ (List.mem_of_getElem? (i := 162) rfl))
set_option maxRecDepth 100000 in
theorem GWc22_m_28 : (Cond.instanceMethod yX11_familyAt) ∈ lw_big := List.mem_append_right _ (tb_4 _ (List.mem_of_getElem? (i := 164) rfl))
set_option maxRecDepth 100000 in
theorem GWc22_m_29 : (Cond.selects RX11 yX11_familyAt yX11_familyAt) ∈ lw_big := List.mem_append_right _ (List.mem_append_left _ (List.mem_of_getElem? (i := 24) (by decide +kernel)))
set_option maxRecDepth 100000 in
theorem GWc22_m_30 : (Cond.initialized RX11) ∈ lw_big := List.mem_append_right _ (tb_1 _ (List.mem_of_getElem? (i := 1) rfl))
set_option maxRecDepth 100000 in
theorem GWc22_m_31 : (Cond.code yX11_familyAt cX11_familyAt 2 (some (.object "PhraseDesk$Family"))) ∈ lw_big := List.mem_append_right _ (tb_4 _ (List.mem_of_getElem? (i := 165) rfl))
set_option maxRecDepth 100000 in
theorem GWc22_m_32 : (Cond.methodLink RX11 101 yX1_init) ∈ lw_big := List.mem_append_right _ (tb_4 _ (List.mem_of_getElem? (i := 169) rfl))
set_option maxRecDepth 100000 in
theorem GWc22_m_33 : (Cond.instanceMethod yX1_init) ∈ lw_big := List.mem_append_right _ (tb_4 _ (List.mem_of_getElem? (i := 170) rfl))
set_option maxRecDepth 100000 in
theorem GWc22_m_34 : (Cond.code yX11_field cX11_field 5 (some .int)) ∈ lw_big := List.mem_append_right _ (tb_4 _ (List.mem_of_getElem? (i := 212) rfl))
set_option maxRecDepth 100000 in
theorem GWc22_m_35 : (Cond.fieldLink RX11 113 "PhraseDesk$Family" "fieldCount" "I") ∈ lw_big := List.mem_append_right _ (tb_4 _ (List.mem_of_getElem? (i := 186) rfl))
set_option maxRecDepth 100000 in
theorem GWc22_m_36 : (Cond.fieldLink RX11 120 "PhraseDesk" "objectCount" "I") ∈ lw_big := List.mem_append_right _ (tb_2 _ (List.mem_of_getElem? (i := 15) rfl))
set_option maxRecDepth 100000 in
theorem GWc22_m_37 : (Cond.methodLink RX11 104 yX11_isName) ∈ lw_big := List.mem_append_right _ (tb_4 _ (List.mem_of_getElem? (i := 213) rfl))
set_option maxRecDepth 100000 in
theorem GWc22_m_38 : (Cond.static yX11_isName) ∈ lw_big := List.mem_append_right _ (tb_4 _ (List.mem_of_getElem? (i := 214) rfl))
set_option maxRecDepth 100000 in
theorem GWc22_m_39 : (Cond.code yX11_isName cX11_isName 1 (some .boolean)) ∈ lw_big := List.mem_append_right _ (tb_4 _ (List.mem_of_getElem? (i := 215) rfl))
theorem GWc22_b : ∀ w ∈ GWc22, w ∈ lw_big := List.forall_mem_cons.mpr ⟨GWc22_m_0, List.forall_mem_cons.mpr ⟨GWc22_m_1, List.forall_mem_cons.mpr ⟨GWc22_m_2, List.forall_mem_cons.mpr ⟨GWc22_m_3, List.forall_mem_cons.mpr ⟨GWc22_m_4, List.forall_mem_cons.mpr ⟨GWc22_m_5, List.forall_mem_cons.mpr ⟨GWc22_m_6, List.forall_mem_cons.mpr ⟨GWc22_m_7, List.forall_mem_cons.mpr ⟨GWc22_m_8, List.forall_mem_cons.mpr ⟨GWc22_m_9, List.forall_mem_cons.mpr ⟨GWc22_m_10, List.forall_mem_cons.mpr ⟨GWc22_m_11, List.forall_mem_cons.mpr ⟨GWc22_m_12, List.forall_mem_cons.mpr ⟨GWc22_m_13, List.forall_mem_cons.mpr ⟨GWc22_m_14, List.forall_mem_cons.mpr ⟨GWc22_m_15, List.forall_mem_cons.mpr ⟨GWc22_m_16, List.forall_mem_cons.mpr ⟨GWc22_m_17, List.forall_mem_cons.mpr ⟨GWc22_m_18, List.forall_mem_cons.mpr ⟨GWc22_m_19, List.forall_mem_cons.mpr ⟨GWc22_m_20, List.forall_mem_cons.mpr ⟨GWc22_m_21, List.forall_mem_cons.mpr ⟨GWc22_m_22, List.forall_mem_cons.mpr ⟨GWc22_m_23, List.forall_mem_cons.mpr ⟨GWc22_m_24, List.forall_mem_cons.mpr ⟨GWc22_m_25, List.forall_mem_cons.mpr ⟨GWc22_m_26, List.forall_mem_cons.mpr ⟨GWc22_m_27, List.forall_mem_cons.mpr ⟨GWc22_m_28, List.forall_mem_cons.mpr ⟨GWc22_m_29, List.forall_mem_cons.mpr ⟨GWc22_m_30, List.forall_mem_cons.mpr ⟨GWc22_m_31, List.forall_mem_cons.mpr ⟨GWc22_m_32, List.forall_mem_cons.mpr ⟨GWc22_m_33, List.forall_mem_cons.mpr ⟨GWc22_m_34, List.forall_mem_cons.mpr ⟨GWc22_m_35, List.forall_mem_cons.mpr ⟨GWc22_m_36, List.forall_mem_cons.mpr ⟨GWc22_m_37, List.forall_mem_cons.mpr ⟨GWc22_m_38, List.forall_mem_cons.mpr ⟨GWc22_m_39, fun _ h => absurd h List.not_mem_nil⟩⟩⟩⟩⟩⟩⟩⟩⟩⟩⟩⟩⟩⟩⟩⟩⟩⟩⟩⟩⟩⟩⟩⟩⟩⟩⟩⟩⟩⟩⟩⟩⟩⟩⟩⟩⟩⟩⟩⟩
set_option maxRecDepth 100000 in
theorem GWc23_m_0 : (Cond.constant RX11 236 (14348906)) ∈ lw_big := List.mem_append_right _ (tb_4 _ (List.mem_of_getElem? (i := 216) rfl))
set_option maxRecDepth 100000 in
theorem GWc23_m_1 : (Cond.methodLink RX11 108 yX11_isType) ∈ lw_big := List.mem_append_right _ (tb_4 _ (List.mem_of_getElem? (i := 217) rfl))
set_option maxRecDepth 100000 in
theorem GWc23_m_2 : (Cond.instanceMethod yX11_isType) ∈ lw_big := List.mem_append_right _ (tb_4 _ (List.mem_of_getElem? (i := 219) rfl))
set_option maxRecDepth 100000 in
theorem GWc23_m_3 : (Cond.selects RX11 yX11_isType yX11_isType) ∈ lw_big := List.mem_append_right _ (List.mem_append_left _ (List.mem_of_getElem? (i := 25) (by decide +kernel)))
set_option maxRecDepth 100000 in
theorem GWc23_m_4 : (Cond.code yX11_isType cX11_isType 2 (some .boolean)) ∈ lw_big := List.mem_append_right _ (tb_4 _ (List.mem_of_getElem? (i := 220) rfl))
set_option maxRecDepth 100000 in
theorem GWc23_m_5 : (Cond.methodLink RX11 116 yX1_ownField) ∈ lw_big := List.mem_append_right _ (tb_4 _ (List.mem_of_getElem? (i := 222) rfl))
set_option maxRecDepth 100000 in
theorem GWc23_m_6 : (Cond.methodLink RX11 125 yX1_addField) ∈ lw_big := List.mem_append_right _ (tb_4 _ (List.mem_of_getElem? (i := 227) rfl))
set_option maxRecDepth 100000 in
theorem GWc23_m_7 : (Cond.instanceMethod yX1_addField) ∈ lw_big := List.mem_append_right _ (tb_4 _ (List.mem_of_getElem? (i := 228) rfl))
set_option maxRecDepth 100000 in
theorem GWc23_m_8 : (Cond.selects RX1 yX1_addField yX1_addField) ∈ lw_big := List.mem_append_right _ (tb_4 _ (List.mem_of_getElem? (i := 229) rfl))
set_option maxRecDepth 100000 in
theorem GWc23_m_9 : (Cond.code yX11_method cX11_method 8 (some .int)) ∈ lw_big := List.mem_append_right _ (tb_5 _ (List.mem_of_getElem? (i := 15) rfl))
set_option maxRecDepth 100000 in
theorem GWc23_m_10 : (Cond.fieldLink RX11 135 "PhraseDesk$Family" "routineCount" "I") ∈ lw_big := List.mem_append_right _ (tb_4 _ (List.mem_of_getElem? (i := 190) rfl))
set_option maxRecDepth 100000 in
theorem GWc23_m_11 : (Cond.classLink RX11 140 RX7) ∈ lw_big := List.mem_append_right _ (tb_5 _ (List.mem_of_getElem? (i := 22) rfl))
set_option maxRecDepth 100000 in
theorem GWc23_m_12 : (Cond.instantiable RX7 6) ∈ lw_big := List.mem_append_right _ (tb_5 _ (List.mem_of_getElem? (i := 23) rfl))
set_option maxRecDepth 100000 in
theorem GWc23_m_13 : (Cond.initialized RX7) ∈ lw_big := List.mem_append_right _ (tb_1 _ (List.mem_of_getElem? (i := 28) rfl))
set_option maxRecDepth 100000 in
theorem GWc23_m_14 : (Cond.methodLink RX11 129 yX11_areParameters) ∈ lw_big := List.mem_append_right _ (tb_5 _ (List.mem_of_getElem? (i := 16) rfl))
set_option maxRecDepth 100000 in
theorem GWc23_m_15 : (Cond.instanceMethod yX11_areParameters) ∈ lw_big := List.mem_append_right _ (tb_5 _ (List.mem_of_getElem? (i := 18) rfl))
set_option maxRecDepth 100000 in
theorem GWc23_m_16 : (Cond.selects RX11 yX11_areParameters yX11_areParameters) ∈ lw_big := List.mem_append_right _ (List.mem_append_left _ (List.mem_of_getElem? (i := 26) (by decide +kernel)))
set_option maxRecDepth 100000 in
theorem GWc23_m_17 : (Cond.code yX11_areParameters cX11_areParameters 3 (some .boolean)) ∈ lw_big := List.mem_append_right _ (tb_5 _ (List.mem_of_getElem? (i := 19) rfl))
set_option maxRecDepth 100000 in
theorem GWc23_m_18 : (Cond.methodLink RX11 142 yX7_init) ∈ lw_big := List.mem_append_right _ (tb_5 _ (List.mem_of_getElem? (i := 24) rfl))
set_option maxRecDepth 100000 in
theorem GWc23_m_19 : (Cond.instanceMethod yX7_init) ∈ lw_big := List.mem_append_right _ (tb_5 _ (List.mem_of_getElem? (i := 25) rfl))
set_option maxRecDepth 100000 in
theorem GWc23_m_20 : (Cond.methodLink RX11 145 yX1_addRoutine) ∈ lw_big := List.mem_append_right _ (tb_5 _ (List.mem_of_getElem? (i := 56) rfl))
set_option maxRecDepth 100000 in
theorem GWc23_m_21 : (Cond.instanceMethod yX1_addRoutine) ∈ lw_big := List.mem_append_right _ (tb_5 _ (List.mem_of_getElem? (i := 57) rfl))
set_option maxRecDepth 100000 in
theorem GWc23_m_22 : (Cond.selects RX1 yX1_addRoutine yX1_addRoutine) ∈ lw_big := List.mem_append_right _ (tb_5 _ (List.mem_of_getElem? (i := 58) rfl))
set_option maxRecDepth 100000 in
theorem GWc23_m_23 : (Cond.code yX11_make cX11_make 3 (some .int)) ∈ lw_big := List.mem_append_right _ (tb_5 _ (List.mem_of_getElem? (i := 66) rfl))
set_option maxRecDepth 100000 in
theorem GWc23_m_24 : (Cond.classLink RX11 153 RX9) ∈ lw_big := List.mem_append_right _ (tb_5 _ (List.mem_of_getElem? (i := 69) rfl))
set_option maxRecDepth 100000 in
theorem GWc23_m_25 : (Cond.instantiable RX9 3) ∈ lw_big := List.mem_append_right _ (tb_5 _ (List.mem_of_getElem? (i := 70) rfl))
set_option maxRecDepth 100000 in
theorem GWc23_m_26 : (Cond.fieldLink RX11 155 "PhraseDesk$Runner" "nothing" "LPhraseDesk$Value;") ∈ lw_big := List.mem_append_right _ (tb_1 _ (List.mem_of_getElem? (i := 214) rfl))
set_option maxRecDepth 100000 in
theorem GWc23_m_27 : (Cond.methodLink RX11 158 yX9_init) ∈ lw_big := List.mem_append_right _ (tb_5 _ (List.mem_of_getElem? (i := 71) rfl))
set_option maxRecDepth 100000 in
theorem GWc23_m_28 : (Cond.instanceMethod yX9_init) ∈ lw_big := List.mem_append_right _ (tb_5 _ (List.mem_of_getElem? (i := 72) rfl))
set_option maxRecDepth 100000 in
theorem GWc23_m_29 : (Cond.methodLink RX11 161 yX10_ofThing) ∈ lw_big := List.mem_append_right _ (tb_5 _ (List.mem_of_getElem? (i := 90) rfl))
set_option maxRecDepth 100000 in
theorem GWc23_m_30 : (Cond.static yX10_ofThing) ∈ lw_big := List.mem_append_right _ (tb_5 _ (List.mem_of_getElem? (i := 91) rfl))
set_option maxRecDepth 100000 in
theorem GWc23_m_31 : (Cond.code yX11_converter cX11_converter 5 (some .boolean)) ∈ lw_big := List.mem_append_right _ (tb_5 _ (List.mem_of_getElem? (i := 99) rfl))
set_option maxRecDepth 100000 in
theorem GWc23_m_32 : (Cond.fieldLink RX11 167 "PhraseDesk$Runner" "converters" "LPhraseDesk$Converters;") ∈ lw_big := List.mem_append_right _ (tb_1 _ (List.mem_of_getElem? (i := 216) rfl))
set_option maxRecDepth 100000 in
theorem GWc23_m_33 : (Cond.methodLink RX11 171 yX0_change) ∈ lw_big := List.mem_append_right _ (tb_5 _ (List.mem_of_getElem? (i := 101) rfl))
set_option maxRecDepth 100000 in
theorem GWc23_m_34 : (Cond.instanceMethod yX0_change) ∈ lw_big := List.mem_append_right _ (tb_5 _ (List.mem_of_getElem? (i := 102) rfl))
set_option maxRecDepth 100000 in
theorem GWc23_m_35 : (Cond.selects RX0 yX0_change yX0_change) ∈ lw_big := List.mem_append_right _ (tb_5 _ (List.mem_of_getElem? (i := 103) rfl))
set_option maxRecDepth 100000 in
theorem GWc23_m_36 : (Cond.code yX11_run cX11_run 6 (some .int)) ∈ lw_big := List.mem_append_right _ (tb_5 _ (List.mem_of_getElem? (i := 115) rfl))
set_option maxRecDepth 100000 in
theorem GWc23_m_37 : (Cond.fieldLink RX11 191 "PhraseDesk$Runner" "failure" "I") ∈ lw_big := List.mem_append_right _ (tb_1 _ (List.mem_of_getElem? (i := 224) rfl))
set_option maxRecDepth 100000 in
theorem GWc23_m_38 : (Cond.methodLink RX11 177 yX11_objectAt) ∈ lw_big := List.mem_append_right _ (tb_5 _ (List.mem_of_getElem? (i := 116) rfl))
set_option maxRecDepth 100000 in
theorem GWc23_m_39 : (Cond.instanceMethod yX11_objectAt) ∈ lw_big := List.mem_append_right _ (tb_5 _ (List.mem_of_getElem? (i := 118) rfl))
theorem GWc23_b : ∀ w ∈ GWc23, w ∈ lw_big := List.forall_mem_cons.mpr ⟨GWc23_m_0, List.forall_mem_cons.mpr ⟨GWc23_m_1, List.forall_mem_cons.mpr ⟨GWc23_m_2, List.forall_mem_cons.mpr ⟨GWc23_m_3, List.forall_mem_cons.mpr ⟨GWc23_m_4, List.forall_mem_cons.mpr ⟨GWc23_m_5, List.forall_mem_cons.mpr ⟨GWc23_m_6, List.forall_mem_cons.mpr ⟨GWc23_m_7, List.forall_mem_cons.mpr ⟨GWc23_m_8, List.forall_mem_cons.mpr ⟨GWc23_m_9, List.forall_mem_cons.mpr ⟨GWc23_m_10, List.forall_mem_cons.mpr ⟨GWc23_m_11, List.forall_mem_cons.mpr ⟨GWc23_m_12, List.forall_mem_cons.mpr ⟨GWc23_m_13, List.forall_mem_cons.mpr ⟨GWc23_m_14, List.forall_mem_cons.mpr ⟨GWc23_m_15, List.forall_mem_cons.mpr ⟨GWc23_m_16, List.forall_mem_cons.mpr ⟨GWc23_m_17, List.forall_mem_cons.mpr ⟨GWc23_m_18, List.forall_mem_cons.mpr ⟨GWc23_m_19, List.forall_mem_cons.mpr ⟨GWc23_m_20, List.forall_mem_cons.mpr ⟨GWc23_m_21, List.forall_mem_cons.mpr ⟨GWc23_m_22, List.forall_mem_cons.mpr ⟨GWc23_m_23, List.forall_mem_cons.mpr ⟨GWc23_m_24, List.forall_mem_cons.mpr ⟨GWc23_m_25, List.forall_mem_cons.mpr ⟨GWc23_m_26, List.forall_mem_cons.mpr ⟨GWc23_m_27, List.forall_mem_cons.mpr ⟨GWc23_m_28, List.forall_mem_cons.mpr ⟨GWc23_m_29, List.forall_mem_cons.mpr ⟨GWc23_m_30, List.forall_mem_cons.mpr ⟨GWc23_m_31, List.forall_mem_cons.mpr ⟨GWc23_m_32, List.forall_mem_cons.mpr ⟨GWc23_m_33, List.forall_mem_cons.mpr ⟨GWc23_m_34, List.forall_mem_cons.mpr ⟨GWc23_m_35, List.forall_mem_cons.mpr ⟨GWc23_m_36, List.forall_mem_cons.mpr ⟨GWc23_m_37, List.forall_mem_cons.mpr ⟨GWc23_m_38, List.forall_mem_cons.mpr ⟨GWc23_m_39, fun _ h => absurd h List.not_mem_nil⟩⟩⟩⟩⟩⟩⟩⟩⟩⟩⟩⟩⟩⟩⟩⟩⟩⟩⟩⟩⟩⟩⟩⟩⟩⟩⟩⟩⟩⟩⟩⟩⟩⟩⟩⟩⟩⟩⟩⟩
set_option maxRecDepth 100000 in
theorem GWc24_m_0 : (Cond.selects RX11 yX11_objectAt yX11_objectAt) ∈ lw_big := List.mem_append_right _ (List.mem_append_left _ (List.mem_of_getElem? (i := 28) (by decide +kernel)))
set_option maxRecDepth 100000 in
theorem GWc24_m_1 : (Cond.code yX11_objectAt cX11_objectAt 2 (some (.object "PhraseDesk$Value"))) ∈ lw_big := List.mem_append_right _ (tb_5 _ (List.mem_of_getElem? (i := 119) rfl))
set_option maxRecDepth 100000 in
theorem GWc24_m_2 : (Cond.methodLink RX11 183 yX8_begin) ∈ lw_big := List.mem_append_right _ (tb_5 _ (List.mem_of_getElem? (i := 121) rfl))
set_option maxRecDepth 100000 in
theorem GWc24_m_3 : (Cond.instanceMethod yX8_begin) ∈ lw_big := List.mem_append_right _ (tb_5 _ (List.mem_of_getElem? (i := 122) rfl))
set_option maxRecDepth 100000 in
theorem GWc24_m_4 : (Cond.selects RX8 yX8_begin yX8_begin) ∈ lw_big := List.mem_append_right _ (tb_5 _ (List.mem_of_getElem? (i := 123) rfl))
set_option maxRecDepth 100000 in
theorem GWc24_m_5 : (Cond.code yX11_keep cX11_keep 2 (some .int)) ∈ lw_big := List.mem_append_right _ (tb_6 _ (List.mem_of_getElem? (i := 118) rfl))
set_option maxRecDepth 100000 in
theorem GWc24_m_6 : (Cond.fieldLink RX11 202 "PhraseDesk$Value" "kind" "I") ∈ lw_big := List.mem_append_right _ (tb_1 _ (List.mem_of_getElem? (i := 150) rfl))
set_option maxRecDepth 100000 in
theorem GWc24_m_7 : (Cond.methodLink RX11 196 yX8_setVariable) ∈ lw_big := List.mem_append_right _ (tb_6 _ (List.mem_of_getElem? (i := 120) rfl))
set_option maxRecDepth 100000 in
theorem GWc24_m_8 : (Cond.code yX11_result cX11_result 2 (some .int)) ∈ lw_big := List.mem_append_right _ (tb_2 _ (List.mem_of_getElem? (i := 39) rfl))
set_option maxRecDepth 100000 in
theorem GWc24_m_9 : (Cond.fieldLink RX11 205 "PhraseDesk$Value" "number" "I") ∈ lw_big := List.mem_append_right _ (tb_1 _ (List.mem_of_getElem? (i := 154) rfl))
set_option maxRecDepth 100000 in
theorem GWc24_m_10 : (Cond.constantDouble RX11 208 (4652007308841189376)) ∈ lw_big := List.mem_append_right _ (tb_2 _ (List.mem_of_getElem? (i := 40) rfl))
set_option maxRecDepth 100000 in
theorem GWc24_m_11 : (Cond.fieldLink RX11 210 "PhraseDesk$Value" "real" "D") ∈ lw_big := List.mem_append_right _ (tb_1 _ (List.mem_of_getElem? (i := 158) rfl))
set_option maxRecDepth 100000 in
theorem GWc24_m_12 : (Cond.code yX11_text cX11_text 2 (some .int)) ∈ lw_big := List.mem_append_right _ (tb_2 _ (List.mem_of_getElem? (i := 44) rfl))
set_option maxRecDepth 100000 in
theorem GWc24_m_13 : (Cond.fieldLink RX11 214 "PhraseDesk$Value" "chars" "Ljava/lang/String;") ∈ lw_big := List.mem_append_right _ (tb_1 _ (List.mem_of_getElem? (i := 162) rfl))
set_option maxRecDepth 100000 in
theorem GWc24_m_14 : (Cond.methodLink RX11 218 yJ0_length_8abf5) ∈ lw_big := List.mem_append_right _ (tb_2 _ (List.mem_of_getElem? (i := 45) rfl))
set_option maxRecDepth 100000 in
theorem GWc24_m_15 : (Cond.methodLink RX11 223 yJ0_charAt_5068e) ∈ lw_big := List.mem_append_right _ (tb_2 _ (List.mem_of_getElem? (i := 54) rfl))
set_option maxRecDepth 100000 in
theorem GWc24_m_16 : (Cond.code yX11_put cX11_put 4 (some .int)) ∈ lw_big := List.mem_append_right _ (tb_6 _ (List.mem_of_getElem? (i := 128) rfl))
set_option maxRecDepth 100000 in
theorem GWc24_m_17 : (Cond.code yX11_about cX11_about 2 (some .int)) ∈ lw_big := List.mem_append_right _ (tb_2 _ (List.mem_of_getElem? (i := 95) rfl))
set_option maxRecDepth 100000 in
theorem GWc24_m_18 : (Cond.fieldLink RX11 233 "PhraseDesk$Runner" "variableCount" "I") ∈ lw_big := List.mem_append_right _ (tb_1 _ (List.mem_of_getElem? (i := 220) rfl))
set_option maxRecDepth 100000 in
theorem GWc24_m_19 : (Cond.code yJ9_max_7cf53 cJ9_max_7cf53 2 (some .int)) ∈ lw_big := List.mem_append_right _ (tb_3 _ (List.mem_of_getElem? (i := 34) rfl))
set_option maxRecDepth 100000 in
theorem GWc24_m_20 : (Cond.code yJ9_min_7cf53 cJ9_min_7cf53 2 (some .int)) ∈ lw_big := List.mem_append_right _ (tb_3 _ (List.mem_of_getElem? (i := 52) rfl))
theorem GWc24_b : ∀ w ∈ GWc24, w ∈ lw_big := List.forall_mem_cons.mpr ⟨GWc24_m_0, List.forall_mem_cons.mpr ⟨GWc24_m_1, List.forall_mem_cons.mpr ⟨GWc24_m_2, List.forall_mem_cons.mpr ⟨GWc24_m_3, List.forall_mem_cons.mpr ⟨GWc24_m_4, List.forall_mem_cons.mpr ⟨GWc24_m_5, List.forall_mem_cons.mpr ⟨GWc24_m_6, List.forall_mem_cons.mpr ⟨GWc24_m_7, List.forall_mem_cons.mpr ⟨GWc24_m_8, List.forall_mem_cons.mpr ⟨GWc24_m_9, List.forall_mem_cons.mpr ⟨GWc24_m_10, List.forall_mem_cons.mpr ⟨GWc24_m_11, List.forall_mem_cons.mpr ⟨GWc24_m_12, List.forall_mem_cons.mpr ⟨GWc24_m_13, List.forall_mem_cons.mpr ⟨GWc24_m_14, List.forall_mem_cons.mpr ⟨GWc24_m_15, List.forall_mem_cons.mpr ⟨GWc24_m_16, List.forall_mem_cons.mpr ⟨GWc24_m_17, List.forall_mem_cons.mpr ⟨GWc24_m_18, List.forall_mem_cons.mpr ⟨GWc24_m_19, List.forall_mem_cons.mpr ⟨GWc24_m_20, fun _ h => absurd h List.not_mem_nil⟩⟩⟩⟩⟩⟩⟩⟩⟩⟩⟩⟩⟩⟩⟩⟩⟩⟩⟩⟩⟩
set_option maxRecDepth 100000 in
theorem GWm0_m_0 : (Cond.code yX12_thrown cX12_thrown 1 (some .int)) ∈ lw_big := List.mem_append_right _ (tb_7 _ (List.mem_of_getElem? (i := 83) rfl))
set_option maxRecDepth 100000 in
theorem GWm0_m_1 : (Cond.fieldLink RX12 127 "PhraseDeskModel" "threw" "I") ∈ lw_big := List.mem_append_right _ (tb_6 _ (List.mem_of_getElem? (i := 137) rfl))
set_option maxRecDepth 100000 in
theorem GWm0_m_2 : (Cond.code yX12_letter cX12_letter 2 (some .int)) ∈ lw_big := List.mem_append_right _ (tb_7 _ (List.mem_of_getElem? (i := 87) rfl))
set_option maxRecDepth 100000 in
theorem GWm0_m_3 : (Cond.fieldLink RX12 131 "PhraseDeskModel" "size" "I") ∈ lw_big := List.mem_append_right _ (tb_6 _ (List.mem_of_getElem? (i := 138) rfl))
set_option maxRecDepth 100000 in
theorem GWm0_m_4 : (Cond.fieldLink RX12 7 "PhraseDeskModel" "letters" "[I") ∈ lw_big := List.mem_append_right _ (tb_6 _ (List.mem_of_getElem? (i := 139) rfl))
set_option maxRecDepth 100000 in
theorem GWm0_m_5 : (Cond.code yX12_at cX12_at 2 (some .int)) ∈ lw_big := List.mem_append_right _ (tb_7 _ (List.mem_of_getElem? (i := 99) rfl))
set_option maxRecDepth 100000 in
theorem GWm0_m_6 : (Cond.code yX12_digit cX12_digit 2 (some .boolean)) ∈ lw_big := List.mem_append_right _ (tb_7 _ (List.mem_of_getElem? (i := 103) rfl))
set_option maxRecDepth 100000 in
theorem GWm0_m_7 : (Cond.methodLink RX12 134 yX12_at) ∈ lw_big := List.mem_append_right _ (tb_7 _ (List.mem_of_getElem? (i := 96) rfl))
set_option maxRecDepth 100000 in
theorem GWm0_m_8 : (Cond.instanceMethod yX12_at) ∈ lw_big := List.mem_append_right _ (tb_7 _ (List.mem_of_getElem? (i := 98) rfl))
set_option maxRecDepth 100000 in
theorem GWm0_m_9 : (Cond.selects RX12 yX12_at yX12_at) ∈ lw_big := List.mem_append_right _ (List.mem_append_left _ (List.mem_of_getElem? (i := 58) (by decide +kernel)))
set_option maxRecDepth 100000 in
theorem GWm0_m_10 : (Cond.initialized RX12) ∈ lw_big := List.mem_append_right _ (tb_1 _ (List.mem_of_getElem? (i := 12) rfl))
set_option maxRecDepth 100000 in
theorem GWm0_m_11 : (Cond.code yX12_lower cX12_lower 2 (some .boolean)) ∈ lw_big := List.mem_append_right _ (tb_7 _ (List.mem_of_getElem? (i := 121) rfl))
set_option maxRecDepth 100000 in
theorem GWm0_m_12 : (Cond.code yX12_wrong cX12_wrong 3 none) ∈ lw_big := List.mem_append_right _ (tb_7 _ (List.mem_of_getElem? (i := 113) rfl))
set_option maxRecDepth 100000 in
theorem GWm0_m_13 : (Cond.fieldLink RX12 138 "PhraseDeskModel" "error" "I") ∈ lw_big := List.mem_append_right _ (tb_6 _ (List.mem_of_getElem? (i := 145) rfl))
set_option maxRecDepth 100000 in
theorem GWm0_m_14 : (Cond.fieldLink RX12 141 "PhraseDeskModel" "where" "I") ∈ lw_big := List.mem_append_right _ (tb_6 _ (List.mem_of_getElem? (i := 146) rfl))
set_option maxRecDepth 100000 in
theorem GWm0_m_15 : (Cond.code yX12_add cX12_add 5 none) ∈ lw_big := List.mem_append_right _ (tb_7 _ (List.mem_of_getElem? (i := 117) rfl))
set_option maxRecDepth 100000 in
theorem GWm0_m_16 : (Cond.fieldLink RX12 13 "PhraseDeskModel" "tokenKind" "[I") ∈ lw_big := List.mem_append_right _ (tb_6 _ (List.mem_of_getElem? (i := 141) rfl))
set_option maxRecDepth 100000 in
theorem GWm0_m_17 : (Cond.fieldLink RX12 144 "PhraseDeskModel" "tokens" "I") ∈ lw_big := List.mem_append_right _ (tb_6 _ (List.mem_of_getElem? (i := 140) rfl))
set_option maxRecDepth 100000 in
theorem GWm0_m_18 : (Cond.fieldLink RX12 16 "PhraseDeskModel" "tokenAt" "[I") ∈ lw_big := List.mem_append_right _ (tb_6 _ (List.mem_of_getElem? (i := 142) rfl))
set_option maxRecDepth 100000 in
theorem GWm0_m_19 : (Cond.fieldLink RX12 19 "PhraseDeskModel" "token" "[J") ∈ lw_big := List.mem_append_right _ (tb_6 _ (List.mem_of_getElem? (i := 143) rfl))
set_option maxRecDepth 100000 in
theorem GWm0_m_20 : (Cond.fieldLink RX12 23 "PhraseDeskModel" "scale" "[I") ∈ lw_big := List.mem_append_right _ (tb_6 _ (List.mem_of_getElem? (i := 144) rfl))
set_option maxRecDepth 100000 in
theorem GWm0_m_21 : (Cond.code yX12_number cX12_number 7 (some .int)) ∈ lw_big := List.mem_append_right _ (tb_7 _ (List.mem_of_getElem? (i := 107) rfl))
set_option maxRecDepth 100000 in
theorem GWm0_m_22 : (Cond.constantLong RX12 151 (10)) ∈ lw_big := List.mem_append_right _ (tb_7 _ (List.mem_of_getElem? (i := 108) rfl))
set_option maxRecDepth 100000 in
theorem GWm0_m_23 : (Cond.constantLong RX12 153 (48)) ∈ lw_big := List.mem_append_right _ (tb_7 _ (List.mem_of_getElem? (i := 109) rfl))
set_option maxRecDepth 100000 in
theorem GWm0_m_24 : (Cond.methodLink RX12 147 yX12_digit) ∈ lw_big := List.mem_append_right _ (tb_7 _ (List.mem_of_getElem? (i := 100) rfl))
set_option maxRecDepth 100000 in
theorem GWm0_m_25 : (Cond.instanceMethod yX12_digit) ∈ lw_big := List.mem_append_right _ (tb_7 _ (List.mem_of_getElem? (i := 102) rfl))
set_option maxRecDepth 100000 in
theorem GWm0_m_26 : (Cond.selects RX12 yX12_digit yX12_digit) ∈ lw_big := List.mem_append_right _ (List.mem_append_left _ (List.mem_of_getElem? (i := 59) (by decide +kernel)))
set_option maxRecDepth 100000 in
theorem GWm0_m_27 : (Cond.methodLink RX12 155 yX12_wrong) ∈ lw_big := List.mem_append_right _ (tb_7 _ (List.mem_of_getElem? (i := 110) rfl))
set_option maxRecDepth 100000 in
theorem GWm0_m_28 : (Cond.instanceMethod yX12_wrong) ∈ lw_big := List.mem_append_right _ (tb_7 _ (List.mem_of_getElem? (i := 112) rfl))
set_option maxRecDepth 100000 in
theorem GWm0_m_29 : (Cond.selects RX12 yX12_wrong yX12_wrong) ∈ lw_big := List.mem_append_right _ (List.mem_append_left _ (List.mem_of_getElem? (i := 61) (by decide +kernel)))
set_option maxRecDepth 100000 in
theorem GWm0_m_30 : (Cond.methodLink RX12 159 yX12_add) ∈ lw_big := List.mem_append_right _ (tb_7 _ (List.mem_of_getElem? (i := 114) rfl))
set_option maxRecDepth 100000 in
theorem GWm0_m_31 : (Cond.instanceMethod yX12_add) ∈ lw_big := List.mem_append_right _ (tb_7 _ (List.mem_of_getElem? (i := 116) rfl))
set_option maxRecDepth 100000 in
theorem GWm0_m_32 : (Cond.selects RX12 yX12_add yX12_add) ∈ lw_big := List.mem_append_right _ (List.mem_append_left _ (List.mem_of_getElem? (i := 62) (by decide +kernel)))
set_option maxRecDepth 100000 in
theorem GWm0_m_33 : (Cond.code yX12_name cX12_name 5 (some .int)) ∈ lw_big := List.mem_append_right _ (tb_7 _ (List.mem_of_getElem? (i := 125) rfl))
set_option maxRecDepth 100000 in
theorem GWm0_m_34 : (Cond.constantLong RX12 166 (27)) ∈ lw_big := List.mem_append_right _ (tb_7 _ (List.mem_of_getElem? (i := 126) rfl))
set_option maxRecDepth 100000 in
theorem GWm0_m_35 : (Cond.constantLong RX12 168 (97)) ∈ lw_big := List.mem_append_right _ (tb_7 _ (List.mem_of_getElem? (i := 127) rfl))
set_option maxRecDepth 100000 in
theorem GWm0_m_36 : (Cond.methodLink RX12 163 yX12_lower) ∈ lw_big := List.mem_append_right _ (tb_7 _ (List.mem_of_getElem? (i := 118) rfl))
set_option maxRecDepth 100000 in
theorem GWm0_m_37 : (Cond.instanceMethod yX12_lower) ∈ lw_big := List.mem_append_right _ (tb_7 _ (List.mem_of_getElem? (i := 120) rfl))
set_option maxRecDepth 100000 in
theorem GWm0_m_38 : (Cond.selects RX12 yX12_lower yX12_lower) ∈ lw_big := List.mem_append_right _ (List.mem_append_left _ (List.mem_of_getElem? (i := 63) (by decide +kernel)))
set_option maxRecDepth 100000 in
theorem GWm0_m_39 : (Cond.code yX12_quoted cX12_quoted 5 (some .int)) ∈ lw_big := List.mem_append_right _ (tb_7 _ (List.mem_of_getElem? (i := 131) rfl))
theorem GWm0_b : ∀ w ∈ GWm0, w ∈ lw_big := List.forall_mem_cons.mpr ⟨GWm0_m_0, List.forall_mem_cons.mpr ⟨GWm0_m_1, List.forall_mem_cons.mpr ⟨GWm0_m_2, List.forall_mem_cons.mpr ⟨GWm0_m_3, List.forall_mem_cons.mpr ⟨GWm0_m_4, List.forall_mem_cons.mpr ⟨GWm0_m_5, List.forall_mem_cons.mpr ⟨GWm0_m_6, List.forall_mem_cons.mpr ⟨GWm0_m_7, List.forall_mem_cons.mpr ⟨GWm0_m_8, List.forall_mem_cons.mpr ⟨GWm0_m_9, List.forall_mem_cons.mpr ⟨GWm0_m_10, List.forall_mem_cons.mpr ⟨GWm0_m_11, List.forall_mem_cons.mpr ⟨GWm0_m_12, List.forall_mem_cons.mpr ⟨GWm0_m_13, List.forall_mem_cons.mpr ⟨GWm0_m_14, List.forall_mem_cons.mpr ⟨GWm0_m_15, List.forall_mem_cons.mpr ⟨GWm0_m_16, List.forall_mem_cons.mpr ⟨GWm0_m_17, List.forall_mem_cons.mpr ⟨GWm0_m_18, List.forall_mem_cons.mpr ⟨GWm0_m_19, List.forall_mem_cons.mpr ⟨GWm0_m_20, List.forall_mem_cons.mpr ⟨GWm0_m_21, List.forall_mem_cons.mpr ⟨GWm0_m_22, List.forall_mem_cons.mpr ⟨GWm0_m_23, List.forall_mem_cons.mpr ⟨GWm0_m_24, List.forall_mem_cons.mpr ⟨GWm0_m_25, List.forall_mem_cons.mpr ⟨GWm0_m_26, List.forall_mem_cons.mpr ⟨GWm0_m_27, List.forall_mem_cons.mpr ⟨GWm0_m_28, List.forall_mem_cons.mpr ⟨GWm0_m_29, List.forall_mem_cons.mpr ⟨GWm0_m_30, List.forall_mem_cons.mpr ⟨GWm0_m_31, List.forall_mem_cons.mpr ⟨GWm0_m_32, List.forall_mem_cons.mpr ⟨GWm0_m_33, List.forall_mem_cons.mpr ⟨GWm0_m_34, List.forall_mem_cons.mpr ⟨GWm0_m_35, List.forall_mem_cons.mpr ⟨GWm0_m_36, List.forall_mem_cons.mpr ⟨GWm0_m_37, List.forall_mem_cons.mpr ⟨GWm0_m_38, List.forall_mem_cons.mpr ⟨GWm0_m_39, fun _ h => absurd h List.not_mem_nil⟩⟩⟩⟩⟩⟩⟩⟩⟩⟩⟩⟩⟩⟩⟩⟩⟩⟩⟩⟩⟩⟩⟩⟩⟩⟩⟩⟩⟩⟩⟩⟩⟩⟩⟩⟩⟩⟩⟩⟩
set_option maxRecDepth 100000 in
theorem GWm1_m_0 : (Cond.code yX12_single cX12_single 1 (some .boolean)) ∈ lw_big := List.mem_append_right _ (tb_7 _ (List.mem_of_getElem? (i := 142) rfl))
set_option maxRecDepth 100000 in
theorem GWm1_m_1 : (Cond.code yX12_twice cX12_twice 2 (some .boolean)) ∈ lw_big := List.mem_append_right _ (tb_7 _ (List.mem_of_getElem? (i := 138) rfl))
set_option maxRecDepth 100000 in
theorem GWm1_m_2 : (Cond.code yX12_sign cX12_sign 3 (some .int)) ∈ lw_big := List.mem_append_right _ (tb_7 _ (List.mem_of_getElem? (i := 135) rfl))
set_option maxRecDepth 100000 in
theorem GWm1_m_3 : (Cond.constantLong RX12 174 (256)) ∈ lw_big := List.mem_append_right _ (tb_7 _ (List.mem_of_getElem? (i := 139) rfl))
set_option maxRecDepth 100000 in
theorem GWm1_m_4 : (Cond.methodLink RX12 170 yX12_twice) ∈ lw_big := List.mem_append_right _ (tb_7 _ (List.mem_of_getElem? (i := 136) rfl))
set_option maxRecDepth 100000 in
theorem GWm1_m_5 : (Cond.static yX12_twice) ∈ lw_big := List.mem_append_right _ (tb_7 _ (List.mem_of_getElem? (i := 137) rfl))
set_option maxRecDepth 100000 in
theorem GWm1_m_6 : (Cond.methodLink RX12 176 yX12_single) ∈ lw_big := List.mem_append_right _ (tb_7 _ (List.mem_of_getElem? (i := 140) rfl))
set_option maxRecDepth 100000 in
theorem GWm1_m_7 : (Cond.static yX12_single) ∈ lw_big := List.mem_append_right _ (tb_7 _ (List.mem_of_getElem? (i := 141) rfl))
set_option maxRecDepth 100000 in
theorem GWm1_m_8 : (Cond.code yX12_cut cX12_cut 2 none) ∈ lw_big := List.mem_append_right _ (tb_7 _ (List.mem_of_getElem? (i := 95) rfl))
set_option maxRecDepth 100000 in
theorem GWm1_m_9 : (Cond.methodLink RX12 179 yX12_number) ∈ lw_big := List.mem_append_right _ (tb_7 _ (List.mem_of_getElem? (i := 104) rfl))
set_option maxRecDepth 100000 in
theorem GWm1_m_10 : (Cond.instanceMethod yX12_number) ∈ lw_big := List.mem_append_right _ (tb_7 _ (List.mem_of_getElem? (i := 106) rfl))
set_option maxRecDepth 100000 in
theorem GWm1_m_11 : (Cond.selects RX12 yX12_number yX12_number) ∈ lw_big := List.mem_append_right _ (List.mem_append_left _ (List.mem_of_getElem? (i := 60) (by decide +kernel)))
set_option maxRecDepth 100000 in
theorem GWm1_m_12 : (Cond.methodLink RX12 182 yX12_name) ∈ lw_big := List.mem_append_right _ (tb_7 _ (List.mem_of_getElem? (i := 122) rfl))
set_option maxRecDepth 100000 in
theorem GWm1_m_13 : (Cond.instanceMethod yX12_name) ∈ lw_big := List.mem_append_right _ (tb_7 _ (List.mem_of_getElem? (i := 124) rfl))
set_option maxRecDepth 100000 in
theorem GWm1_m_14 : (Cond.selects RX12 yX12_name yX12_name) ∈ lw_big := List.mem_append_right _ (List.mem_append_left _ (List.mem_of_getElem? (i := 64) (by decide +kernel)))
set_option maxRecDepth 100000 in
theorem GWm1_m_15 : (Cond.methodLink RX12 185 yX12_quoted) ∈ lw_big := List.mem_append_right _ (tb_7 _ (List.mem_of_getElem? (i := 128) rfl))
set_option maxRecDepth 100000 in
theorem GWm1_m_16 : (Cond.instanceMethod yX12_quoted) ∈ lw_big := List.mem_append_right _ (tb_7 _ (List.mem_of_getElem? (i := 130) rfl))
set_option maxRecDepth 100000 in
theorem GWm1_m_17 : (Cond.selects RX12 yX12_quoted yX12_quoted) ∈ lw_big := List.mem_append_right _ (List.mem_append_left _ (List.mem_of_getElem? (i := 65) (by decide +kernel)))
set_option maxRecDepth 100000 in
theorem GWm1_m_18 : (Cond.methodLink RX12 188 yX12_sign) ∈ lw_big := List.mem_append_right _ (tb_7 _ (List.mem_of_getElem? (i := 132) rfl))
set_option maxRecDepth 100000 in
theorem GWm1_m_19 : (Cond.instanceMethod yX12_sign) ∈ lw_big := List.mem_append_right _ (tb_7 _ (List.mem_of_getElem? (i := 134) rfl))
set_option maxRecDepth 100000 in
theorem GWm1_m_20 : (Cond.selects RX12 yX12_sign yX12_sign) ∈ lw_big := List.mem_append_right _ (List.mem_append_left _ (List.mem_of_getElem? (i := 66) (by decide +kernel)))
set_option maxRecDepth 100000 in
theorem GWm1_m_21 : (Cond.code yX12_isSign cX12_isSign 2 (some .boolean)) ∈ lw_big := List.mem_append_right _ (tb_7 _ (List.mem_of_getElem? (i := 177) rfl))
set_option maxRecDepth 100000 in
theorem GWm1_m_22 : (Cond.fieldLink RX12 190 "PhraseDeskModel" "next" "I") ∈ lw_big := List.mem_append_right _ (tb_6 _ (List.mem_of_getElem? (i := 151) rfl))
set_option maxRecDepth 100000 in
theorem GWm1_m_23 : (Cond.code yX12_misfit cX12_misfit 1 none) ∈ lw_big := List.mem_append_right _ (tb_7 _ (List.mem_of_getElem? (i := 186) rfl))
set_option maxRecDepth 100000 in
theorem GWm1_m_24 : (Cond.code yX12_emit cX12_emit 4 (some .int)) ∈ lw_big := List.mem_append_right _ (tb_7 _ (List.mem_of_getElem? (i := 158) rfl))
set_option maxRecDepth 100000 in
theorem GWm1_m_25 : (Cond.fieldLink RX12 26 "PhraseDeskModel" "step" "[I") ∈ lw_big := List.mem_append_right _ (tb_6 _ (List.mem_of_getElem? (i := 148) rfl))
set_option maxRecDepth 100000 in
theorem GWm1_m_26 : (Cond.fieldLink RX12 193 "PhraseDeskModel" "start" "I") ∈ lw_big := List.mem_append_right _ (tb_6 _ (List.mem_of_getElem? (i := 152) rfl))
set_option maxRecDepth 100000 in
theorem GWm1_m_27 : (Cond.fieldLink RX12 196 "PhraseDeskModel" "written" "I") ∈ lw_big := List.mem_append_right _ (tb_6 _ (List.mem_of_getElem? (i := 153) rfl))
set_option maxRecDepth 100000 in
theorem GWm1_m_28 : (Cond.fieldLink RX12 29 "PhraseDeskModel" "with" "[J") ∈ lw_big := List.mem_append_right _ (tb_6 _ (List.mem_of_getElem? (i := 149) rfl))
set_option maxRecDepth 100000 in
theorem GWm1_m_29 : (Cond.code yX12_open cX12_open 2 none) ∈ lw_big := List.mem_append_right _ (tb_7 _ (List.mem_of_getElem? (i := 146) rfl))
set_option maxRecDepth 100000 in
theorem GWm1_m_30 : (Cond.fieldLink RX12 199 "PhraseDeskModel" "frames" "I") ∈ lw_big := List.mem_append_right _ (tb_6 _ (List.mem_of_getElem? (i := 156) rfl))
set_option maxRecDepth 100000 in
theorem GWm1_m_31 : (Cond.fieldLink RX12 35 "PhraseDeskModel" "frame" "[I") ∈ lw_big := List.mem_append_right _ (tb_6 _ (List.mem_of_getElem? (i := 157) rfl))
set_option maxRecDepth 100000 in
theorem GWm1_m_32 : (Cond.methodLink RX12 202 yX12_fresh) ∈ lw_big := List.mem_append_right _ (tb_7 _ (List.mem_of_getElem? (i := 147) rfl))
set_option maxRecDepth 100000 in
theorem GWm1_m_33 : (Cond.instanceMethod yX12_fresh) ∈ lw_big := List.mem_append_right _ (tb_7 _ (List.mem_of_getElem? (i := 149) rfl))
set_option maxRecDepth 100000 in
theorem GWm1_m_34 : (Cond.selects RX12 yX12_fresh yX12_fresh) ∈ lw_big := List.mem_append_right _ (List.mem_append_left _ (List.mem_of_getElem? (i := 68) (by decide +kernel)))
set_option maxRecDepth 100000 in
theorem GWm1_m_35 : (Cond.code yX12_fresh cX12_fresh 2 none) ∈ lw_big := List.mem_append_right _ (tb_7 _ (List.mem_of_getElem? (i := 150) rfl))
set_option maxRecDepth 100000 in
theorem GWm1_m_36 : (Cond.fieldLink RX12 38 "PhraseDeskModel" "base" "[I") ∈ lw_big := List.mem_append_right _ (tb_6 _ (List.mem_of_getElem? (i := 158) rfl))
set_option maxRecDepth 100000 in
theorem GWm1_m_37 : (Cond.fieldLink RX12 205 "PhraseDeskModel" "waiting" "I") ∈ lw_big := List.mem_append_right _ (tb_6 _ (List.mem_of_getElem? (i := 166) rfl))
set_option maxRecDepth 100000 in
theorem GWm1_m_38 : (Cond.fieldLink RX12 41 "PhraseDeskModel" "sign" "[I") ∈ lw_big := List.mem_append_right _ (tb_6 _ (List.mem_of_getElem? (i := 159) rfl))
set_option maxRecDepth 100000 in
theorem GWm1_m_39 : (Cond.fieldLink RX12 53 "PhraseDeskModel" "closed" "[Z") ∈ lw_big := List.mem_append_right _ (tb_6 _ (List.mem_of_getElem? (i := 163) rfl))
theorem GWm1_b : ∀ w ∈ GWm1, w ∈ lw_big := List.forall_mem_cons.mpr ⟨GWm1_m_0, List.forall_mem_cons.mpr ⟨GWm1_m_1, List.forall_mem_cons.mpr ⟨GWm1_m_2, List.forall_mem_cons.mpr ⟨GWm1_m_3, List.forall_mem_cons.mpr ⟨GWm1_m_4, List.forall_mem_cons.mpr ⟨GWm1_m_5, List.forall_mem_cons.mpr ⟨GWm1_m_6, List.forall_mem_cons.mpr ⟨GWm1_m_7, List.forall_mem_cons.mpr ⟨GWm1_m_8, List.forall_mem_cons.mpr ⟨GWm1_m_9, List.forall_mem_cons.mpr ⟨GWm1_m_10, List.forall_mem_cons.mpr ⟨GWm1_m_11, List.forall_mem_cons.mpr ⟨GWm1_m_12, List.forall_mem_cons.mpr ⟨GWm1_m_13, List.forall_mem_cons.mpr ⟨GWm1_m_14, List.forall_mem_cons.mpr ⟨GWm1_m_15, List.forall_mem_cons.mpr ⟨GWm1_m_16, List.forall_mem_cons.mpr ⟨GWm1_m_17, List.forall_mem_cons.mpr ⟨GWm1_m_18, List.forall_mem_cons.mpr ⟨GWm1_m_19, List.forall_mem_cons.mpr ⟨GWm1_m_20, List.forall_mem_cons.mpr ⟨GWm1_m_21, List.forall_mem_cons.mpr ⟨GWm1_m_22, List.forall_mem_cons.mpr ⟨GWm1_m_23, List.forall_mem_cons.mpr ⟨GWm1_m_24, List.forall_mem_cons.mpr ⟨GWm1_m_25, List.forall_mem_cons.mpr ⟨GWm1_m_26, List.forall_mem_cons.mpr ⟨GWm1_m_27, List.forall_mem_cons.mpr ⟨GWm1_m_28, List.forall_mem_cons.mpr ⟨GWm1_m_29, List.forall_mem_cons.mpr ⟨GWm1_m_30, List.forall_mem_cons.mpr ⟨GWm1_m_31, List.forall_mem_cons.mpr ⟨GWm1_m_32, List.forall_mem_cons.mpr ⟨GWm1_m_33, List.forall_mem_cons.mpr ⟨GWm1_m_34, List.forall_mem_cons.mpr ⟨GWm1_m_35, List.forall_mem_cons.mpr ⟨GWm1_m_36, List.forall_mem_cons.mpr ⟨GWm1_m_37, List.forall_mem_cons.mpr ⟨GWm1_m_38, List.forall_mem_cons.mpr ⟨GWm1_m_39, fun _ h => absurd h List.not_mem_nil⟩⟩⟩⟩⟩⟩⟩⟩⟩⟩⟩⟩⟩⟩⟩⟩⟩⟩⟩⟩⟩⟩⟩⟩⟩⟩⟩⟩⟩⟩⟩⟩⟩⟩⟩⟩⟩⟩⟩⟩
set_option maxRecDepth 100000 in
theorem GWm2_m_0 : (Cond.fieldLink RX12 57 "PhraseDeskModel" "plain" "[Z") ∈ lw_big := List.mem_append_right _ (tb_6 _ (List.mem_of_getElem? (i := 164) rfl))
set_option maxRecDepth 100000 in
theorem GWm2_m_1 : (Cond.fieldLink RX12 60 "PhraseDeskModel" "aims" "[Z") ∈ lw_big := List.mem_append_right _ (tb_6 _ (List.mem_of_getElem? (i := 165) rfl))
set_option maxRecDepth 100000 in
theorem GWm2_m_2 : (Cond.fieldLink RX12 208 "PhraseDeskModel" "operand" "Z") ∈ lw_big := List.mem_append_right _ (tb_6 _ (List.mem_of_getElem? (i := 154) rfl))
set_option maxRecDepth 100000 in
theorem GWm2_m_3 : (Cond.code yX12_ready cX12_ready 2 none) ∈ lw_big := List.mem_append_right _ (tb_7 _ (List.mem_of_getElem? (i := 162) rfl))
set_option maxRecDepth 100000 in
theorem GWm2_m_4 : (Cond.code yX12_call cX12_call 4 none) ∈ lw_big := List.mem_append_right _ (tb_7 _ (List.mem_of_getElem? (i := 181) rfl))
set_option maxRecDepth 100000 in
theorem GWm2_m_5 : (Cond.constantLong RX12 219 (4)) ∈ lw_big := List.mem_append_right _ (tb_7 _ (List.mem_of_getElem? (i := 182) rfl))
set_option maxRecDepth 100000 in
theorem GWm2_m_6 : (Cond.fieldLink RX12 44 "PhraseDeskModel" "patch" "[I") ∈ lw_big := List.mem_append_right _ (tb_6 _ (List.mem_of_getElem? (i := 160) rfl))
set_option maxRecDepth 100000 in
theorem GWm2_m_7 : (Cond.fieldLink RX12 47 "PhraseDeskModel" "callName" "[I") ∈ lw_big := List.mem_append_right _ (tb_6 _ (List.mem_of_getElem? (i := 161) rfl))
set_option maxRecDepth 100000 in
theorem GWm2_m_8 : (Cond.fieldLink RX12 50 "PhraseDeskModel" "callCount" "[I") ∈ lw_big := List.mem_append_right _ (tb_6 _ (List.mem_of_getElem? (i := 162) rfl))
set_option maxRecDepth 100000 in
theorem GWm2_m_9 : (Cond.methodLink RX12 212 yX12_emit) ∈ lw_big := List.mem_append_right _ (tb_7 _ (List.mem_of_getElem? (i := 155) rfl))
set_option maxRecDepth 100000 in
theorem GWm2_m_10 : (Cond.instanceMethod yX12_emit) ∈ lw_big := List.mem_append_right _ (tb_7 _ (List.mem_of_getElem? (i := 157) rfl))
set_option maxRecDepth 100000 in
theorem GWm2_m_11 : (Cond.selects RX12 yX12_emit yX12_emit) ∈ lw_big := List.mem_append_right _ (List.mem_append_left _ (List.mem_of_getElem? (i := 70) (by decide +kernel)))
set_option maxRecDepth 100000 in
theorem GWm2_m_12 : (Cond.methodLink RX12 216 yX12_isSign) ∈ lw_big := List.mem_append_right _ (tb_7 _ (List.mem_of_getElem? (i := 174) rfl))
set_option maxRecDepth 100000 in
theorem GWm2_m_13 : (Cond.instanceMethod yX12_isSign) ∈ lw_big := List.mem_append_right _ (tb_7 _ (List.mem_of_getElem? (i := 176) rfl))
set_option maxRecDepth 100000 in
theorem GWm2_m_14 : (Cond.selects RX12 yX12_isSign yX12_isSign) ∈ lw_big := List.mem_append_right _ (List.mem_append_left _ (List.mem_of_getElem? (i := 74) (by decide +kernel)))
set_option maxRecDepth 100000 in
theorem GWm2_m_15 : (Cond.methodLink RX12 221 yX12_ready) ∈ lw_big := List.mem_append_right _ (tb_7 _ (List.mem_of_getElem? (i := 159) rfl))
set_option maxRecDepth 100000 in
theorem GWm2_m_16 : (Cond.instanceMethod yX12_ready) ∈ lw_big := List.mem_append_right _ (tb_7 _ (List.mem_of_getElem? (i := 161) rfl))
set_option maxRecDepth 100000 in
theorem GWm2_m_17 : (Cond.selects RX12 yX12_ready yX12_ready) ∈ lw_big := List.mem_append_right _ (List.mem_append_left _ (List.mem_of_getElem? (i := 71) (by decide +kernel)))
set_option maxRecDepth 100000 in
theorem GWm2_m_18 : (Cond.methodLink RX12 225 yX12_open) ∈ lw_big := List.mem_append_right _ (tb_7 _ (List.mem_of_getElem? (i := 143) rfl))
set_option maxRecDepth 100000 in
theorem GWm2_m_19 : (Cond.instanceMethod yX12_open) ∈ lw_big := List.mem_append_right _ (tb_7 _ (List.mem_of_getElem? (i := 145) rfl))
set_option maxRecDepth 100000 in
theorem GWm2_m_20 : (Cond.selects RX12 yX12_open yX12_open) ∈ lw_big := List.mem_append_right _ (List.mem_append_left _ (List.mem_of_getElem? (i := 67) (by decide +kernel)))
set_option maxRecDepth 100000 in
theorem GWm2_m_21 : (Cond.code yX12_named cX12_named 3 none) ∈ lw_big := List.mem_append_right _ (tb_7 _ (List.mem_of_getElem? (i := 173) rfl))
set_option maxRecDepth 100000 in
theorem GWm2_m_22 : (Cond.methodLink RX12 229 yX12_call) ∈ lw_big := List.mem_append_right _ (tb_7 _ (List.mem_of_getElem? (i := 178) rfl))
set_option maxRecDepth 100000 in
theorem GWm2_m_23 : (Cond.instanceMethod yX12_call) ∈ lw_big := List.mem_append_right _ (tb_7 _ (List.mem_of_getElem? (i := 180) rfl))
set_option maxRecDepth 100000 in
theorem GWm2_m_24 : (Cond.selects RX12 yX12_call yX12_call) ∈ lw_big := List.mem_append_right _ (List.mem_append_left _ (List.mem_of_getElem? (i := 75) (by decide +kernel)))
set_option maxRecDepth 100000 in
theorem GWm2_m_25 : (Cond.code yX12_word cX12_word 2 none) ∈ lw_big := List.mem_append_right _ (tb_7 _ (List.mem_of_getElem? (i := 166) rfl))
set_option maxRecDepth 100000 in
theorem GWm2_m_26 : (Cond.constant RX12 233 (407354)) ∈ lw_big := List.mem_append_right _ (tb_7 _ (List.mem_of_getElem? (i := 167) rfl))
set_option maxRecDepth 100000 in
theorem GWm2_m_27 : (Cond.constant RX12 234 (3217595)) ∈ lw_big := List.mem_append_right _ (tb_7 _ (List.mem_of_getElem? (i := 168) rfl))
set_option maxRecDepth 100000 in
theorem GWm2_m_28 : (Cond.constant RX12 235 (291207)) ∈ lw_big := List.mem_append_right _ (tb_7 _ (List.mem_of_getElem? (i := 169) rfl))
set_option maxRecDepth 100000 in
theorem GWm2_m_29 : (Cond.methodLink RX12 236 yX12_named) ∈ lw_big := List.mem_append_right _ (tb_7 _ (List.mem_of_getElem? (i := 170) rfl))
set_option maxRecDepth 100000 in
theorem GWm2_m_30 : (Cond.instanceMethod yX12_named) ∈ lw_big := List.mem_append_right _ (tb_7 _ (List.mem_of_getElem? (i := 172) rfl))
set_option maxRecDepth 100000 in
theorem GWm2_m_31 : (Cond.selects RX12 yX12_named yX12_named) ∈ lw_big := List.mem_append_right _ (List.mem_append_left _ (List.mem_of_getElem? (i := 73) (by decide +kernel)))
set_option maxRecDepth 100000 in
theorem GWm2_m_32 : (Cond.code yX12_first cX12_first 3 none) ∈ lw_big := List.mem_append_right _ (tb_7 _ (List.mem_of_getElem? (i := 154) rfl))
set_option maxRecDepth 100000 in
theorem GWm2_m_33 : (Cond.methodLink RX12 239 yX12_word) ∈ lw_big := List.mem_append_right _ (tb_7 _ (List.mem_of_getElem? (i := 163) rfl))
set_option maxRecDepth 100000 in
theorem GWm2_m_34 : (Cond.instanceMethod yX12_word) ∈ lw_big := List.mem_append_right _ (tb_7 _ (List.mem_of_getElem? (i := 165) rfl))
set_option maxRecDepth 100000 in
theorem GWm2_m_35 : (Cond.selects RX12 yX12_word yX12_word) ∈ lw_big := List.mem_append_right _ (List.mem_append_left _ (List.mem_of_getElem? (i := 72) (by decide +kernel)))
set_option maxRecDepth 100000 in
theorem GWm2_m_36 : (Cond.methodLink RX12 242 yX12_misfit) ∈ lw_big := List.mem_append_right _ (tb_7 _ (List.mem_of_getElem? (i := 183) rfl))
set_option maxRecDepth 100000 in
theorem GWm2_m_37 : (Cond.instanceMethod yX12_misfit) ∈ lw_big := List.mem_append_right _ (tb_7 _ (List.mem_of_getElem? (i := 185) rfl))
set_option maxRecDepth 100000 in
theorem GWm2_m_38 : (Cond.selects RX12 yX12_misfit yX12_misfit) ∈ lw_big := List.mem_append_right _ (List.mem_append_left _ (List.mem_of_getElem? (i := 76) (by decide +kernel)))
set_option maxRecDepth 100000 in
theorem GWm2_m_39 : (Cond.code yX12_levelNext cX12_levelNext 2 (some .int)) ∈ lw_big := List.mem_append_right _ (tb_7 _ (List.mem_of_getElem? (i := 214) rfl))
theorem GWm2_b : ∀ w ∈ GWm2, w ∈ lw_big := List.forall_mem_cons.mpr ⟨GWm2_m_0, List.forall_mem_cons.mpr ⟨GWm2_m_1, List.forall_mem_cons.mpr ⟨GWm2_m_2, List.forall_mem_cons.mpr ⟨GWm2_m_3, List.forall_mem_cons.mpr ⟨GWm2_m_4, List.forall_mem_cons.mpr ⟨GWm2_m_5, List.forall_mem_cons.mpr ⟨GWm2_m_6, List.forall_mem_cons.mpr ⟨GWm2_m_7, List.forall_mem_cons.mpr ⟨GWm2_m_8, List.forall_mem_cons.mpr ⟨GWm2_m_9, List.forall_mem_cons.mpr ⟨GWm2_m_10, List.forall_mem_cons.mpr ⟨GWm2_m_11, List.forall_mem_cons.mpr ⟨GWm2_m_12, List.forall_mem_cons.mpr ⟨GWm2_m_13, List.forall_mem_cons.mpr ⟨GWm2_m_14, List.forall_mem_cons.mpr ⟨GWm2_m_15, List.forall_mem_cons.mpr ⟨GWm2_m_16, List.forall_mem_cons.mpr ⟨GWm2_m_17, List.forall_mem_cons.mpr ⟨GWm2_m_18, List.forall_mem_cons.mpr ⟨GWm2_m_19, List.forall_mem_cons.mpr ⟨GWm2_m_20, List.forall_mem_cons.mpr ⟨GWm2_m_21, List.forall_mem_cons.mpr ⟨GWm2_m_22, List.forall_mem_cons.mpr ⟨GWm2_m_23, List.forall_mem_cons.mpr ⟨GWm2_m_24, List.forall_mem_cons.mpr ⟨GWm2_m_25, List.forall_mem_cons.mpr ⟨GWm2_m_26, List.forall_mem_cons.mpr ⟨GWm2_m_27, List.forall_mem_cons.mpr ⟨GWm2_m_28, List.forall_mem_cons.mpr ⟨GWm2_m_29, List.forall_mem_cons.mpr ⟨GWm2_m_30, List.forall_mem_cons.mpr ⟨GWm2_m_31, List.forall_mem_cons.mpr ⟨GWm2_m_32, List.forall_mem_cons.mpr ⟨GWm2_m_33, List.forall_mem_cons.mpr ⟨GWm2_m_34, List.forall_mem_cons.mpr ⟨GWm2_m_35, List.forall_mem_cons.mpr ⟨GWm2_m_36, List.forall_mem_cons.mpr ⟨GWm2_m_37, List.forall_mem_cons.mpr ⟨GWm2_m_38, List.forall_mem_cons.mpr ⟨GWm2_m_39, fun _ h => absurd h List.not_mem_nil⟩⟩⟩⟩⟩⟩⟩⟩⟩⟩⟩⟩⟩⟩⟩⟩⟩⟩⟩⟩⟩⟩⟩⟩⟩⟩⟩⟩⟩⟩⟩⟩⟩⟩⟩⟩⟩⟩⟩⟩
set_option maxRecDepth 100000 in
theorem GWm3_m_0 : (Cond.code yX12_stepOf cX12_stepOf 1 (some .int)) ∈ lw_big := List.mem_append_right _ (tb_7 _ (List.mem_of_getElem? (i := 225) rfl))
set_option maxRecDepth 100000 in
theorem GWm3_m_1 : (Cond.code yX12_reduce cX12_reduce 2 none) ∈ lw_big := List.mem_append_right _ (tb_7 _ (List.mem_of_getElem? (i := 198) rfl))
set_option maxRecDepth 100000 in
theorem GWm3_m_2 : (Cond.fieldLink RX12 66 "PhraseDeskModel" "level" "[I") ∈ lw_big := List.mem_append_right _ (tb_6 _ (List.mem_of_getElem? (i := 168) rfl))
set_option maxRecDepth 100000 in
theorem GWm3_m_3 : (Cond.fieldLink RX12 69 "PhraseDeskModel" "jump" "[I") ∈ lw_big := List.mem_append_right _ (tb_6 _ (List.mem_of_getElem? (i := 169) rfl))
set_option maxRecDepth 100000 in
theorem GWm3_m_4 : (Cond.fieldLink RX12 63 "PhraseDeskModel" "operation" "[I") ∈ lw_big := List.mem_append_right _ (tb_6 _ (List.mem_of_getElem? (i := 167) rfl))
set_option maxRecDepth 100000 in
theorem GWm3_m_5 : (Cond.code yX12_compared cX12_compared 1 (some .boolean)) ∈ lw_big := List.mem_append_right _ (tb_7 _ (List.mem_of_getElem? (i := 218) rfl))
set_option maxRecDepth 100000 in
theorem GWm3_m_6 : (Cond.code yX12_binary cX12_binary 3 none) ∈ lw_big := List.mem_append_right _ (tb_7 _ (List.mem_of_getElem? (i := 222) rfl))
set_option maxRecDepth 100000 in
theorem GWm3_m_7 : (Cond.methodLink RX12 245 yX12_stepOf) ∈ lw_big := List.mem_append_right _ (tb_7 _ (List.mem_of_getElem? (i := 223) rfl))
set_option maxRecDepth 100000 in
theorem GWm3_m_8 : (Cond.static yX12_stepOf) ∈ lw_big := List.mem_append_right _ (tb_7 _ (List.mem_of_getElem? (i := 224) rfl))
set_option maxRecDepth 100000 in
theorem GWm3_m_9 : (Cond.code yX12_suffix cX12_suffix 3 (some .boolean)) ∈ lw_big := List.mem_append_right _ (tb_7 _ (List.mem_of_getElem? (i := 210) rfl))
set_option maxRecDepth 100000 in
theorem GWm3_m_10 : (Cond.code yX12_behind cX12_behind 5 none) ∈ lw_big := List.mem_append_right _ (tb_7 _ (List.mem_of_getElem? (i := 190) rfl))
set_option maxRecDepth 100000 in
theorem GWm3_m_11 : (Cond.methodLink RX12 248 yX12_finish) ∈ lw_big := List.mem_append_right _ (tb_7 _ (List.mem_of_getElem? (i := 191) rfl))
set_option maxRecDepth 100000 in
theorem GWm3_m_12 : (Cond.instanceMethod yX12_finish) ∈ lw_big := List.mem_append_right _ (tb_7 _ (List.mem_of_getElem? (i := 193) rfl))
set_option maxRecDepth 100000 in
theorem GWm3_m_13 : (Cond.selects RX12 yX12_finish yX12_finish) ∈ lw_big := List.mem_append_right _ (List.mem_append_left _ (List.mem_of_getElem? (i := 78) (by decide +kernel)))
set_option maxRecDepth 100000 in
theorem GWm3_m_14 : (Cond.code yX12_finish cX12_finish 3 none) ∈ lw_big := List.mem_append_right _ (tb_7 _ (List.mem_of_getElem? (i := 194) rfl))
set_option maxRecDepth 100000 in
theorem GWm3_m_15 : (Cond.fieldLink RX12 271 "PhraseDeskModel" "targetStep" "I") ∈ lw_big := List.mem_append_right _ (tb_6 _ (List.mem_of_getElem? (i := 171) rfl))
set_option maxRecDepth 100000 in
theorem GWm3_m_16 : (Cond.fieldLink RX12 268 "PhraseDeskModel" "target" "I") ∈ lw_big := List.mem_append_right _ (tb_6 _ (List.mem_of_getElem? (i := 170) rfl))
set_option maxRecDepth 100000 in
theorem GWm3_m_17 : (Cond.fieldLink RX12 280 "PhraseDeskModel" "done" "Z") ∈ lw_big := List.mem_append_right _ (tb_6 _ (List.mem_of_getElem? (i := 155) rfl))
set_option maxRecDepth 100000 in
theorem GWm3_m_18 : (Cond.methodLink RX12 259 yX12_reduce) ∈ lw_big := List.mem_append_right _ (tb_7 _ (List.mem_of_getElem? (i := 195) rfl))
set_option maxRecDepth 100000 in
theorem GWm3_m_19 : (Cond.instanceMethod yX12_reduce) ∈ lw_big := List.mem_append_right _ (tb_7 _ (List.mem_of_getElem? (i := 197) rfl))
set_option maxRecDepth 100000 in
theorem GWm3_m_20 : (Cond.selects RX12 yX12_reduce yX12_reduce) ∈ lw_big := List.mem_append_right _ (List.mem_append_left _ (List.mem_of_getElem? (i := 79) (by decide +kernel)))
set_option maxRecDepth 100000 in
theorem GWm3_m_21 : (Cond.methodLink RX12 274 yX12_argument) ∈ lw_big := List.mem_append_right _ (tb_7 _ (List.mem_of_getElem? (i := 199) rfl))
set_option maxRecDepth 100000 in
theorem GWm3_m_22 : (Cond.instanceMethod yX12_argument) ∈ lw_big := List.mem_append_right _ (tb_7 _ (List.mem_of_getElem? (i := 201) rfl))
set_option maxRecDepth 100000 in
theorem GWm3_m_23 : (Cond.selects RX12 yX12_argument yX12_argument) ∈ lw_big := List.mem_append_right _ (List.mem_append_left _ (List.mem_of_getElem? (i := 80) (by decide +kernel)))
set_option maxRecDepth 100000 in
theorem GWm3_m_24 : (Cond.code yX12_argument cX12_argument 2 none) ∈ lw_big := List.mem_append_right _ (tb_7 _ (List.mem_of_getElem? (i := 202) rfl))
set_option maxRecDepth 100000 in
theorem GWm3_m_25 : (Cond.methodLink RX12 277 yX12_assign) ∈ lw_big := List.mem_append_right _ (tb_7 _ (List.mem_of_getElem? (i := 203) rfl))
set_option maxRecDepth 100000 in
theorem GWm3_m_26 : (Cond.instanceMethod yX12_assign) ∈ lw_big := List.mem_append_right _ (tb_7 _ (List.mem_of_getElem? (i := 205) rfl))
set_option maxRecDepth 100000 in
theorem GWm3_m_27 : (Cond.selects RX12 yX12_assign yX12_assign) ∈ lw_big := List.mem_append_right _ (List.mem_append_left _ (List.mem_of_getElem? (i := 81) (by decide +kernel)))
set_option maxRecDepth 100000 in
theorem GWm3_m_28 : (Cond.code yX12_assign cX12_assign 3 none) ∈ lw_big := List.mem_append_right _ (tb_7 _ (List.mem_of_getElem? (i := 206) rfl))
set_option maxRecDepth 100000 in
theorem GWm3_m_29 : (Cond.methodLink RX12 251 yX12_suffix) ∈ lw_big := List.mem_append_right _ (tb_7 _ (List.mem_of_getElem? (i := 207) rfl))
set_option maxRecDepth 100000 in
theorem GWm3_m_30 : (Cond.instanceMethod yX12_suffix) ∈ lw_big := List.mem_append_right _ (tb_7 _ (List.mem_of_getElem? (i := 209) rfl))
set_option maxRecDepth 100000 in
theorem GWm3_m_31 : (Cond.selects RX12 yX12_suffix yX12_suffix) ∈ lw_big := List.mem_append_right _ (List.mem_append_left _ (List.mem_of_getElem? (i := 82) (by decide +kernel)))
set_option maxRecDepth 100000 in
theorem GWm3_m_32 : (Cond.methodLink RX12 255 yX12_levelNext) ∈ lw_big := List.mem_append_right _ (tb_7 _ (List.mem_of_getElem? (i := 211) rfl))
set_option maxRecDepth 100000 in
theorem GWm3_m_33 : (Cond.instanceMethod yX12_levelNext) ∈ lw_big := List.mem_append_right _ (tb_7 _ (List.mem_of_getElem? (i := 213) rfl))
set_option maxRecDepth 100000 in
theorem GWm3_m_34 : (Cond.selects RX12 yX12_levelNext yX12_levelNext) ∈ lw_big := List.mem_append_right _ (List.mem_append_left _ (List.mem_of_getElem? (i := 83) (by decide +kernel)))
set_option maxRecDepth 100000 in
theorem GWm3_m_35 : (Cond.methodLink RX12 262 yX12_compared) ∈ lw_big := List.mem_append_right _ (tb_7 _ (List.mem_of_getElem? (i := 215) rfl))
set_option maxRecDepth 100000 in
theorem GWm3_m_36 : (Cond.instanceMethod yX12_compared) ∈ lw_big := List.mem_append_right _ (tb_7 _ (List.mem_of_getElem? (i := 217) rfl))
set_option maxRecDepth 100000 in
theorem GWm3_m_37 : (Cond.selects RX12 yX12_compared yX12_compared) ∈ lw_big := List.mem_append_right _ (List.mem_append_left _ (List.mem_of_getElem? (i := 84) (by decide +kernel)))
set_option maxRecDepth 100000 in
theorem GWm3_m_38 : (Cond.methodLink RX12 265 yX12_binary) ∈ lw_big := List.mem_append_right _ (tb_7 _ (List.mem_of_getElem? (i := 219) rfl))
set_option maxRecDepth 100000 in
theorem GWm3_m_39 : (Cond.instanceMethod yX12_binary) ∈ lw_big := List.mem_append_right _ (tb_7 _ (List.mem_of_getElem? (i := 221) rfl))
theorem GWm3_b : ∀ w ∈ GWm3, w ∈ lw_big := List.forall_mem_cons.mpr ⟨GWm3_m_0, List.forall_mem_cons.mpr ⟨GWm3_m_1, List.forall_mem_cons.mpr ⟨GWm3_m_2, List.forall_mem_cons.mpr ⟨GWm3_m_3, List.forall_mem_cons.mpr ⟨GWm3_m_4, List.forall_mem_cons.mpr ⟨GWm3_m_5, List.forall_mem_cons.mpr ⟨GWm3_m_6, List.forall_mem_cons.mpr ⟨GWm3_m_7, List.forall_mem_cons.mpr ⟨GWm3_m_8, List.forall_mem_cons.mpr ⟨GWm3_m_9, List.forall_mem_cons.mpr ⟨GWm3_m_10, List.forall_mem_cons.mpr ⟨GWm3_m_11, List.forall_mem_cons.mpr ⟨GWm3_m_12, List.forall_mem_cons.mpr ⟨GWm3_m_13, List.forall_mem_cons.mpr ⟨GWm3_m_14, List.forall_mem_cons.mpr ⟨GWm3_m_15, List.forall_mem_cons.mpr ⟨GWm3_m_16, List.forall_mem_cons.mpr ⟨GWm3_m_17, List.forall_mem_cons.mpr ⟨GWm3_m_18, List.forall_mem_cons.mpr ⟨GWm3_m_19, List.forall_mem_cons.mpr ⟨GWm3_m_20, List.forall_mem_cons.mpr ⟨GWm3_m_21, List.forall_mem_cons.mpr ⟨GWm3_m_22, List.forall_mem_cons.mpr ⟨GWm3_m_23, List.forall_mem_cons.mpr ⟨GWm3_m_24, List.forall_mem_cons.mpr ⟨GWm3_m_25, List.forall_mem_cons.mpr ⟨GWm3_m_26, List.forall_mem_cons.mpr ⟨GWm3_m_27, List.forall_mem_cons.mpr ⟨GWm3_m_28, List.forall_mem_cons.mpr ⟨GWm3_m_29, List.forall_mem_cons.mpr ⟨GWm3_m_30, List.forall_mem_cons.mpr ⟨GWm3_m_31, List.forall_mem_cons.mpr ⟨GWm3_m_32, List.forall_mem_cons.mpr ⟨GWm3_m_33, List.forall_mem_cons.mpr ⟨GWm3_m_34, List.forall_mem_cons.mpr ⟨GWm3_m_35, List.forall_mem_cons.mpr ⟨GWm3_m_36, List.forall_mem_cons.mpr ⟨GWm3_m_37, List.forall_mem_cons.mpr ⟨GWm3_m_38, List.forall_mem_cons.mpr ⟨GWm3_m_39, fun _ h => absurd h List.not_mem_nil⟩⟩⟩⟩⟩⟩⟩⟩⟩⟩⟩⟩⟩⟩⟩⟩⟩⟩⟩⟩⟩⟩⟩⟩⟩⟩⟩⟩⟩⟩⟩⟩⟩⟩⟩⟩⟩⟩⟩⟩
set_option maxRecDepth 100000 in
theorem GWm4_m_0 : (Cond.selects RX12 yX12_binary yX12_binary) ∈ lw_big := List.mem_append_right _ (List.mem_append_left _ (List.mem_of_getElem? (i := 85) (by decide +kernel)))
set_option maxRecDepth 100000 in
theorem GWm4_m_1 : (Cond.code yX12_parse cX12_parse 2 (some .int)) ∈ lw_big := List.mem_append_right _ (tb_7 _ (List.mem_of_getElem? (i := 91) rfl))
set_option maxRecDepth 100000 in
theorem GWm4_m_2 : (Cond.fieldLink RX12 283 "PhraseDeskModel" "programs" "I") ∈ lw_big := List.mem_append_right _ (tb_6 _ (List.mem_of_getElem? (i := 147) rfl))
set_option maxRecDepth 100000 in
theorem GWm4_m_3 : (Cond.fieldLink RX12 32 "PhraseDeskModel" "lengths" "[I") ∈ lw_big := List.mem_append_right _ (tb_6 _ (List.mem_of_getElem? (i := 150) rfl))
set_option maxRecDepth 100000 in
theorem GWm4_m_4 : (Cond.methodLink RX12 286 yX12_cut) ∈ lw_big := List.mem_append_right _ (tb_7 _ (List.mem_of_getElem? (i := 92) rfl))
set_option maxRecDepth 100000 in
theorem GWm4_m_5 : (Cond.instanceMethod yX12_cut) ∈ lw_big := List.mem_append_right _ (tb_7 _ (List.mem_of_getElem? (i := 94) rfl))
set_option maxRecDepth 100000 in
theorem GWm4_m_6 : (Cond.selects RX12 yX12_cut yX12_cut) ∈ lw_big := List.mem_append_right _ (List.mem_append_left _ (List.mem_of_getElem? (i := 57) (by decide +kernel)))
set_option maxRecDepth 100000 in
theorem GWm4_m_7 : (Cond.methodLink RX12 289 yX12_first) ∈ lw_big := List.mem_append_right _ (tb_7 _ (List.mem_of_getElem? (i := 151) rfl))
set_option maxRecDepth 100000 in
theorem GWm4_m_8 : (Cond.instanceMethod yX12_first) ∈ lw_big := List.mem_append_right _ (tb_7 _ (List.mem_of_getElem? (i := 153) rfl))
set_option maxRecDepth 100000 in
theorem GWm4_m_9 : (Cond.selects RX12 yX12_first yX12_first) ∈ lw_big := List.mem_append_right _ (List.mem_append_left _ (List.mem_of_getElem? (i := 69) (by decide +kernel)))
set_option maxRecDepth 100000 in
theorem GWm4_m_10 : (Cond.methodLink RX12 292 yX12_behind) ∈ lw_big := List.mem_append_right _ (tb_7 _ (List.mem_of_getElem? (i := 187) rfl))
set_option maxRecDepth 100000 in
theorem GWm4_m_11 : (Cond.instanceMethod yX12_behind) ∈ lw_big := List.mem_append_right _ (tb_7 _ (List.mem_of_getElem? (i := 189) rfl))
set_option maxRecDepth 100000 in
theorem GWm4_m_12 : (Cond.selects RX12 yX12_behind yX12_behind) ∈ lw_big := List.mem_append_right _ (List.mem_append_left _ (List.mem_of_getElem? (i := 77) (by decide +kernel)))
set_option maxRecDepth 100000 in
theorem GWm4_m_13 : (Cond.code yX12_isClass cX12_isClass 2 (some .boolean)) ∈ lw_big := List.mem_append_right _ (tb_7 _ (List.mem_of_getElem? (i := 233) rfl))
set_option maxRecDepth 100000 in
theorem GWm4_m_14 : (Cond.fieldLink RX12 295 "PhraseDeskModel" "classes" "I") ∈ lw_big := List.mem_append_right _ (tb_6 _ (List.mem_of_getElem? (i := 172) rfl))
set_option maxRecDepth 100000 in
theorem GWm4_m_15 : (Cond.code yX12_isType cX12_isType 2 (some .boolean)) ∈ lw_big := List.mem_append_right _ (tb_8 _ (List.mem_of_getElem? (i := 5) rfl))
set_option maxRecDepth 100000 in
theorem GWm4_m_16 : (Cond.methodLink RX12 298 yX12_isClass) ∈ lw_big := List.mem_append_right _ (tb_7 _ (List.mem_of_getElem? (i := 230) rfl))
set_option maxRecDepth 100000 in
theorem GWm4_m_17 : (Cond.instanceMethod yX12_isClass) ∈ lw_big := List.mem_append_right _ (tb_7 _ (List.mem_of_getElem? (i := 232) rfl))
set_option maxRecDepth 100000 in
theorem GWm4_m_18 : (Cond.selects RX12 yX12_isClass yX12_isClass) ∈ lw_big := List.mem_append_right _ (List.mem_append_left _ (List.mem_of_getElem? (i := 86) (by decide +kernel)))
set_option maxRecDepth 100000 in
theorem GWm4_m_19 : (Cond.code yX12_isName cX12_isName 1 (some .boolean)) ∈ lw_big := List.mem_append_right _ (tb_8 _ (List.mem_of_getElem? (i := 0) rfl))
set_option maxRecDepth 100000 in
theorem GWm4_m_20 : (Cond.constant RX12 301 (14348906)) ∈ lw_big := List.mem_append_right _ (tb_8 _ (List.mem_of_getElem? (i := 1) rfl))
set_option maxRecDepth 100000 in
theorem GWm4_m_21 : (Cond.code yX12_type cX12_type 2 (some .int)) ∈ lw_big := List.mem_append_right _ (tb_7 _ (List.mem_of_getElem? (i := 229) rfl))
set_option maxRecDepth 100000 in
theorem GWm4_m_22 : (Cond.fieldLink RX12 72 "PhraseDeskModel" "parent" "[I") ∈ lw_big := List.mem_append_right _ (tb_6 _ (List.mem_of_getElem? (i := 173) rfl))
set_option maxRecDepth 100000 in
theorem GWm4_m_23 : (Cond.code yX12_field cX12_field 6 (some .int)) ∈ lw_big := List.mem_append_right _ (tb_7 _ (List.mem_of_getElem? (i := 237) rfl))
set_option maxRecDepth 100000 in
theorem GWm4_m_24 : (Cond.fieldLink RX12 75 "PhraseDeskModel" "fields" "[I") ∈ lw_big := List.mem_append_right _ (tb_6 _ (List.mem_of_getElem? (i := 174) rfl))
set_option maxRecDepth 100000 in
theorem GWm4_m_25 : (Cond.fieldLink RX12 78 "PhraseDeskModel" "fieldName" "[I") ∈ lw_big := List.mem_append_right _ (tb_6 _ (List.mem_of_getElem? (i := 175) rfl))
set_option maxRecDepth 100000 in
theorem GWm4_m_26 : (Cond.fieldLink RX12 308 "PhraseDeskModel" "objects" "I") ∈ lw_big := List.mem_append_right _ (tb_6 _ (List.mem_of_getElem? (i := 184) rfl))
set_option maxRecDepth 100000 in
theorem GWm4_m_27 : (Cond.fieldLink RX12 81 "PhraseDeskModel" "fieldType" "[I") ∈ lw_big := List.mem_append_right _ (tb_6 _ (List.mem_of_getElem? (i := 176) rfl))
set_option maxRecDepth 100000 in
theorem GWm4_m_28 : (Cond.methodLink RX12 302 yX12_isName) ∈ lw_big := List.mem_append_right _ (tb_7 _ (List.mem_of_getElem? (i := 238) rfl))
set_option maxRecDepth 100000 in
theorem GWm4_m_29 : (Cond.static yX12_isName) ∈ lw_big := List.mem_append_right _ (tb_7 _ (List.mem_of_getElem? (i := 239) rfl))
set_option maxRecDepth 100000 in
theorem GWm4_m_30 : (Cond.methodLink RX12 305 yX12_isType) ∈ lw_big := List.mem_append_right _ (tb_8 _ (List.mem_of_getElem? (i := 2) rfl))
set_option maxRecDepth 100000 in
theorem GWm4_m_31 : (Cond.instanceMethod yX12_isType) ∈ lw_big := List.mem_append_right _ (tb_8 _ (List.mem_of_getElem? (i := 4) rfl))
set_option maxRecDepth 100000 in
theorem GWm4_m_32 : (Cond.selects RX12 yX12_isType yX12_isType) ∈ lw_big := List.mem_append_right _ (List.mem_append_left _ (List.mem_of_getElem? (i := 87) (by decide +kernel)))
set_option maxRecDepth 100000 in
theorem GWm4_m_33 : (Cond.code yX12_method cX12_method 9 (some .int)) ∈ lw_big := List.mem_append_right _ (tb_8 _ (List.mem_of_getElem? (i := 9) rfl))
set_option maxRecDepth 100000 in
theorem GWm4_m_34 : (Cond.fieldLink RX12 84 "PhraseDeskModel" "methods" "[I") ∈ lw_big := List.mem_append_right _ (tb_6 _ (List.mem_of_getElem? (i := 177) rfl))
set_option maxRecDepth 100000 in
theorem GWm4_m_35 : (Cond.fieldLink RX12 87 "PhraseDeskModel" "methodName" "[I") ∈ lw_big := List.mem_append_right _ (tb_6 _ (List.mem_of_getElem? (i := 178) rfl))
set_option maxRecDepth 100000 in
theorem GWm4_m_36 : (Cond.fieldLink RX12 90 "PhraseDeskModel" "one" "[I") ∈ lw_big := List.mem_append_right _ (tb_6 _ (List.mem_of_getElem? (i := 179) rfl))
set_option maxRecDepth 100000 in
theorem GWm4_m_37 : (Cond.fieldLink RX12 93 "PhraseDeskModel" "two" "[I") ∈ lw_big := List.mem_append_right _ (tb_6 _ (List.mem_of_getElem? (i := 180) rfl))
set_option maxRecDepth 100000 in
theorem GWm4_m_38 : (Cond.fieldLink RX12 96 "PhraseDeskModel" "action" "[I") ∈ lw_big := List.mem_append_right _ (tb_6 _ (List.mem_of_getElem? (i := 181) rfl))
set_option maxRecDepth 100000 in
theorem GWm4_m_39 : (Cond.fieldLink RX12 99 "PhraseDeskModel" "methodNumber" "[I") ∈ lw_big := List.mem_append_right _ (tb_6 _ (List.mem_of_getElem? (i := 182) rfl))
theorem GWm4_b : ∀ w ∈ GWm4, w ∈ lw_big := List.forall_mem_cons.mpr ⟨GWm4_m_0, List.forall_mem_cons.mpr ⟨GWm4_m_1, List.forall_mem_cons.mpr ⟨GWm4_m_2, List.forall_mem_cons.mpr ⟨GWm4_m_3, List.forall_mem_cons.mpr ⟨GWm4_m_4, List.forall_mem_cons.mpr ⟨GWm4_m_5, List.forall_mem_cons.mpr ⟨GWm4_m_6, List.forall_mem_cons.mpr ⟨GWm4_m_7, List.forall_mem_cons.mpr ⟨GWm4_m_8, List.forall_mem_cons.mpr ⟨GWm4_m_9, List.forall_mem_cons.mpr ⟨GWm4_m_10, List.forall_mem_cons.mpr ⟨GWm4_m_11, List.forall_mem_cons.mpr ⟨GWm4_m_12, List.forall_mem_cons.mpr ⟨GWm4_m_13, List.forall_mem_cons.mpr ⟨GWm4_m_14, List.forall_mem_cons.mpr ⟨GWm4_m_15, List.forall_mem_cons.mpr ⟨GWm4_m_16, List.forall_mem_cons.mpr ⟨GWm4_m_17, List.forall_mem_cons.mpr ⟨GWm4_m_18, List.forall_mem_cons.mpr ⟨GWm4_m_19, List.forall_mem_cons.mpr ⟨GWm4_m_20, List.forall_mem_cons.mpr ⟨GWm4_m_21, List.forall_mem_cons.mpr ⟨GWm4_m_22, List.forall_mem_cons.mpr ⟨GWm4_m_23, List.forall_mem_cons.mpr ⟨GWm4_m_24, List.forall_mem_cons.mpr ⟨GWm4_m_25, List.forall_mem_cons.mpr ⟨GWm4_m_26, List.forall_mem_cons.mpr ⟨GWm4_m_27, List.forall_mem_cons.mpr ⟨GWm4_m_28, List.forall_mem_cons.mpr ⟨GWm4_m_29, List.forall_mem_cons.mpr ⟨GWm4_m_30, List.forall_mem_cons.mpr ⟨GWm4_m_31, List.forall_mem_cons.mpr ⟨GWm4_m_32, List.forall_mem_cons.mpr ⟨GWm4_m_33, List.forall_mem_cons.mpr ⟨GWm4_m_34, List.forall_mem_cons.mpr ⟨GWm4_m_35, List.forall_mem_cons.mpr ⟨GWm4_m_36, List.forall_mem_cons.mpr ⟨GWm4_m_37, List.forall_mem_cons.mpr ⟨GWm4_m_38, List.forall_mem_cons.mpr ⟨GWm4_m_39, fun _ h => absurd h List.not_mem_nil⟩⟩⟩⟩⟩⟩⟩⟩⟩⟩⟩⟩⟩⟩⟩⟩⟩⟩⟩⟩⟩⟩⟩⟩⟩⟩⟩⟩⟩⟩⟩⟩⟩⟩⟩⟩⟩⟩⟩⟩
set_option maxRecDepth 100000 in
theorem GWm5_m_0 : (Cond.code yX12_make cX12_make 2 (some .int)) ∈ lw_big := List.mem_append_right _ (tb_8 _ (List.mem_of_getElem? (i := 13) rfl))
set_option maxRecDepth 100000 in
theorem GWm5_m_1 : (Cond.fieldLink RX12 105 "PhraseDeskModel" "classOf" "[I") ∈ lw_big := List.mem_append_right _ (tb_6 _ (List.mem_of_getElem? (i := 185) rfl))
set_option maxRecDepth 100000 in
theorem GWm5_m_2 : (Cond.code yX12_converter cX12_converter 6 (some .boolean)) ∈ lw_big := List.mem_append_right _ (tb_8 _ (List.mem_of_getElem? (i := 17) rfl))
set_option maxRecDepth 100000 in
theorem GWm5_m_3 : (Cond.fieldLink RX12 102 "PhraseDeskModel" "converts" "[Z") ∈ lw_big := List.mem_append_right _ (tb_6 _ (List.mem_of_getElem? (i := 183) rfl))
set_option maxRecDepth 100000 in
theorem GWm5_m_4 : (Cond.code yX12_fieldOf cX12_fieldOf 6 (some .int)) ∈ lw_big := List.mem_append_right _ (tb_8 _ (List.mem_of_getElem? (i := 68) rfl))
set_option maxRecDepth 100000 in
theorem GWm5_m_5 : (Cond.fieldLink RX12 111 "PhraseDeskModel" "kind" "[I") ∈ lw_big := List.mem_append_right _ (tb_6 _ (List.mem_of_getElem? (i := 188) rfl))
set_option maxRecDepth 100000 in
theorem GWm5_m_6 : (Cond.fieldLink RX12 114 "PhraseDeskModel" "a" "[J") ∈ lw_big := List.mem_append_right _ (tb_6 _ (List.mem_of_getElem? (i := 189) rfl))
set_option maxRecDepth 100000 in
theorem GWm5_m_7 : (Cond.code yX12_set cX12_set 7 none) ∈ lw_big := List.mem_append_right _ (tb_8 _ (List.mem_of_getElem? (i := 49) rfl))
set_option maxRecDepth 100000 in
theorem GWm5_m_8 : (Cond.fieldLink RX12 117 "PhraseDeskModel" "b" "[J") ∈ lw_big := List.mem_append_right _ (tb_6 _ (List.mem_of_getElem? (i := 190) rfl))
set_option maxRecDepth 100000 in
theorem GWm5_m_9 : (Cond.fieldLink RX12 120 "PhraseDeskModel" "real" "[D") ∈ lw_big := List.mem_append_right _ (tb_6 _ (List.mem_of_getElem? (i := 191) rfl))
set_option maxRecDepth 100000 in
theorem GWm5_m_10 : (Cond.code yX12_copy cX12_copy 3 none) ∈ lw_big := List.mem_append_right _ (tb_8 _ (List.mem_of_getElem? (i := 60) rfl))
set_option maxRecDepth 100000 in
theorem GWm5_m_11 : (Cond.code yX12_push cX12_push 4 none) ∈ lw_big := List.mem_append_right _ (tb_8 _ (List.mem_of_getElem? (i := 45) rfl))
set_option maxRecDepth 100000 in
theorem GWm5_m_12 : (Cond.fieldLink RX12 311 "PhraseDeskModel" "top" "I") ∈ lw_big := List.mem_append_right _ (tb_6 _ (List.mem_of_getElem? (i := 192) rfl))
set_option maxRecDepth 100000 in
theorem GWm5_m_13 : (Cond.methodLink RX12 314 yX12_set) ∈ lw_big := List.mem_append_right _ (tb_8 _ (List.mem_of_getElem? (i := 46) rfl))
set_option maxRecDepth 100000 in
theorem GWm5_m_14 : (Cond.instanceMethod yX12_set) ∈ lw_big := List.mem_append_right _ (tb_8 _ (List.mem_of_getElem? (i := 48) rfl))
set_option maxRecDepth 100000 in
theorem GWm5_m_15 : (Cond.selects RX12 yX12_set yX12_set) ∈ lw_big := List.mem_append_right _ (List.mem_append_left _ (List.mem_of_getElem? (i := 94) (by decide +kernel)))
set_option maxRecDepth 100000 in
theorem GWm5_m_16 : (Cond.code yX12_lengthOf cX12_lengthOf 2 (some .int)) ∈ lw_big := List.mem_append_right _ (tb_8 _ (List.mem_of_getElem? (i := 33) rfl))
set_option maxRecDepth 100000 in
theorem GWm5_m_17 : (Cond.code yX12_sign8 cX12_sign8 3 (some .int)) ∈ lw_big := List.mem_append_right _ (tb_8 _ (List.mem_of_getElem? (i := 119) rfl))
set_option maxRecDepth 100000 in
theorem GWm5_m_18 : (Cond.constantLong RX12 318 (127)) ∈ lw_big := List.mem_append_right _ (tb_8 _ (List.mem_of_getElem? (i := 120) rfl))
set_option maxRecDepth 100000 in
theorem GWm5_m_19 : (Cond.code yX12_build cX12_build 2 none) ∈ lw_big := List.mem_append_right _ (tb_8 _ (List.mem_of_getElem? (i := 124) rfl))
set_option maxRecDepth 100000 in
theorem GWm5_m_20 : (Cond.fieldLink RX12 320 "PhraseDeskModel" "builtSize" "I") ∈ lw_big := List.mem_append_right _ (tb_6 _ (List.mem_of_getElem? (i := 196) rfl))
set_option maxRecDepth 100000 in
theorem GWm5_m_21 : (Cond.fieldLink RX12 124 "PhraseDeskModel" "built" "[I") ∈ lw_big := List.mem_append_right _ (tb_6 _ (List.mem_of_getElem? (i := 195) rfl))
set_option maxRecDepth 100000 in
theorem GWm5_m_22 : (Cond.code yX12_buildNumber cX12_buildNumber 7 none) ∈ lw_big := List.mem_append_right _ (tb_8 _ (List.mem_of_getElem? (i := 128) rfl))
set_option maxRecDepth 100000 in
theorem GWm5_m_23 : (Cond.methodLink RX12 323 yX12_build) ∈ lw_big := List.mem_append_right _ (tb_8 _ (List.mem_of_getElem? (i := 121) rfl))
set_option maxRecDepth 100000 in
theorem GWm5_m_24 : (Cond.instanceMethod yX12_build) ∈ lw_big := List.mem_append_right _ (tb_8 _ (List.mem_of_getElem? (i := 123) rfl))
set_option maxRecDepth 100000 in
theorem GWm5_m_25 : (Cond.selects RX12 yX12_build yX12_build) ∈ lw_big := List.mem_append_right _ (List.mem_append_left _ (List.mem_of_getElem? (i := 111) (by decide +kernel)))
set_option maxRecDepth 100000 in
theorem GWm5_m_26 : (Cond.code yX12_buildWord cX12_buildWord 6 none) ∈ lw_big := List.mem_append_right _ (tb_8 _ (List.mem_of_getElem? (i := 132) rfl))
set_option maxRecDepth 100000 in
theorem GWm5_m_27 : (Cond.code yX12_spell cX12_spell 3 none) ∈ lw_big := List.mem_append_right _ (tb_8 _ (List.mem_of_getElem? (i := 115) rfl))
set_option maxRecDepth 100000 in
theorem GWm5_m_28 : (Cond.methodLink RX12 326 yX12_lengthOf) ∈ lw_big := List.mem_append_right _ (tb_8 _ (List.mem_of_getElem? (i := 30) rfl))
set_option maxRecDepth 100000 in
theorem GWm5_m_29 : (Cond.instanceMethod yX12_lengthOf) ∈ lw_big := List.mem_append_right _ (tb_8 _ (List.mem_of_getElem? (i := 32) rfl))
set_option maxRecDepth 100000 in
theorem GWm5_m_30 : (Cond.selects RX12 yX12_lengthOf yX12_lengthOf) ∈ lw_big := List.mem_append_right _ (List.mem_append_left _ (List.mem_of_getElem? (i := 90) (by decide +kernel)))
set_option maxRecDepth 100000 in
theorem GWm5_m_31 : (Cond.methodLink RX12 329 yX12_sign8) ∈ lw_big := List.mem_append_right _ (tb_8 _ (List.mem_of_getElem? (i := 116) rfl))
set_option maxRecDepth 100000 in
theorem GWm5_m_32 : (Cond.instanceMethod yX12_sign8) ∈ lw_big := List.mem_append_right _ (tb_8 _ (List.mem_of_getElem? (i := 118) rfl))
set_option maxRecDepth 100000 in
theorem GWm5_m_33 : (Cond.selects RX12 yX12_sign8 yX12_sign8) ∈ lw_big := List.mem_append_right _ (List.mem_append_left _ (List.mem_of_getElem? (i := 110) (by decide +kernel)))
set_option maxRecDepth 100000 in
theorem GWm5_m_34 : (Cond.methodLink RX12 333 yX12_buildNumber) ∈ lw_big := List.mem_append_right _ (tb_8 _ (List.mem_of_getElem? (i := 125) rfl))
set_option maxRecDepth 100000 in
theorem GWm5_m_35 : (Cond.instanceMethod yX12_buildNumber) ∈ lw_big := List.mem_append_right _ (tb_8 _ (List.mem_of_getElem? (i := 127) rfl))
set_option maxRecDepth 100000 in
theorem GWm5_m_36 : (Cond.selects RX12 yX12_buildNumber yX12_buildNumber) ∈ lw_big := List.mem_append_right _ (List.mem_append_left _ (List.mem_of_getElem? (i := 112) (by decide +kernel)))
set_option maxRecDepth 100000 in
theorem GWm5_m_37 : (Cond.methodLink RX12 336 yX12_buildWord) ∈ lw_big := List.mem_append_right _ (tb_8 _ (List.mem_of_getElem? (i := 129) rfl))
set_option maxRecDepth 100000 in
theorem GWm5_m_38 : (Cond.instanceMethod yX12_buildWord) ∈ lw_big := List.mem_append_right _ (tb_8 _ (List.mem_of_getElem? (i := 131) rfl))
set_option maxRecDepth 100000 in
theorem GWm5_m_39 : (Cond.selects RX12 yX12_buildWord yX12_buildWord) ∈ lw_big := List.mem_append_right _ (List.mem_append_left _ (List.mem_of_getElem? (i := 113) (by decide +kernel)))
theorem GWm5_b : ∀ w ∈ GWm5, w ∈ lw_big := List.forall_mem_cons.mpr ⟨GWm5_m_0, List.forall_mem_cons.mpr ⟨GWm5_m_1, List.forall_mem_cons.mpr ⟨GWm5_m_2, List.forall_mem_cons.mpr ⟨GWm5_m_3, List.forall_mem_cons.mpr ⟨GWm5_m_4, List.forall_mem_cons.mpr ⟨GWm5_m_5, List.forall_mem_cons.mpr ⟨GWm5_m_6, List.forall_mem_cons.mpr ⟨GWm5_m_7, List.forall_mem_cons.mpr ⟨GWm5_m_8, List.forall_mem_cons.mpr ⟨GWm5_m_9, List.forall_mem_cons.mpr ⟨GWm5_m_10, List.forall_mem_cons.mpr ⟨GWm5_m_11, List.forall_mem_cons.mpr ⟨GWm5_m_12, List.forall_mem_cons.mpr ⟨GWm5_m_13, List.forall_mem_cons.mpr ⟨GWm5_m_14, List.forall_mem_cons.mpr ⟨GWm5_m_15, List.forall_mem_cons.mpr ⟨GWm5_m_16, List.forall_mem_cons.mpr ⟨GWm5_m_17, List.forall_mem_cons.mpr ⟨GWm5_m_18, List.forall_mem_cons.mpr ⟨GWm5_m_19, List.forall_mem_cons.mpr ⟨GWm5_m_20, List.forall_mem_cons.mpr ⟨GWm5_m_21, List.forall_mem_cons.mpr ⟨GWm5_m_22, List.forall_mem_cons.mpr ⟨GWm5_m_23, List.forall_mem_cons.mpr ⟨GWm5_m_24, List.forall_mem_cons.mpr ⟨GWm5_m_25, List.forall_mem_cons.mpr ⟨GWm5_m_26, List.forall_mem_cons.mpr ⟨GWm5_m_27, List.forall_mem_cons.mpr ⟨GWm5_m_28, List.forall_mem_cons.mpr ⟨GWm5_m_29, List.forall_mem_cons.mpr ⟨GWm5_m_30, List.forall_mem_cons.mpr ⟨GWm5_m_31, List.forall_mem_cons.mpr ⟨GWm5_m_32, List.forall_mem_cons.mpr ⟨GWm5_m_33, List.forall_mem_cons.mpr ⟨GWm5_m_34, List.forall_mem_cons.mpr ⟨GWm5_m_35, List.forall_mem_cons.mpr ⟨GWm5_m_36, List.forall_mem_cons.mpr ⟨GWm5_m_37, List.forall_mem_cons.mpr ⟨GWm5_m_38, List.forall_mem_cons.mpr ⟨GWm5_m_39, fun _ h => absurd h List.not_mem_nil⟩⟩⟩⟩⟩⟩⟩⟩⟩⟩⟩⟩⟩⟩⟩⟩⟩⟩⟩⟩⟩⟩⟩⟩⟩⟩⟩⟩⟩⟩⟩⟩⟩⟩⟩⟩⟩⟩⟩⟩
set_option maxRecDepth 100000 in
theorem GWm6_m_0 : (Cond.code yX12_settle cX12_settle 7 none) ∈ lw_big := List.mem_append_right _ (tb_8 _ (List.mem_of_getElem? (i := 136) rfl))
set_option maxRecDepth 100000 in
theorem GWm6_m_1 : (Cond.code yX12_intOf cX12_intOf 8 (some .int)) ∈ lw_big := List.mem_append_right _ (tb_8 _ (List.mem_of_getElem? (i := 152) rfl))
set_option maxRecDepth 100000 in
theorem GWm6_m_2 : (Cond.fieldLink RX12 340 "PhraseDeskModel" "failure" "I") ∈ lw_big := List.mem_append_right _ (tb_6 _ (List.mem_of_getElem? (i := 193) rfl))
set_option maxRecDepth 100000 in
theorem GWm6_m_3 : (Cond.code yX12_whole cX12_whole 2 (some .int)) ∈ lw_big := List.mem_append_right _ (tb_8 _ (List.mem_of_getElem? (i := 148) rfl))
set_option maxRecDepth 100000 in
theorem GWm6_m_4 : (Cond.methodLink RX12 343 yX12_intOf) ∈ lw_big := List.mem_append_right _ (tb_8 _ (List.mem_of_getElem? (i := 149) rfl))
set_option maxRecDepth 100000 in
theorem GWm6_m_5 : (Cond.instanceMethod yX12_intOf) ∈ lw_big := List.mem_append_right _ (tb_8 _ (List.mem_of_getElem? (i := 151) rfl))
set_option maxRecDepth 100000 in
theorem GWm6_m_6 : (Cond.selects RX12 yX12_intOf yX12_intOf) ∈ lw_big := List.mem_append_right _ (List.mem_append_left _ (List.mem_of_getElem? (i := 118) (by decide +kernel)))
set_option maxRecDepth 100000 in
theorem GWm6_m_7 : (Cond.code yX12_spells cX12_spells 8 (some .boolean)) ∈ lw_big := List.mem_append_right _ (tb_8 _ (List.mem_of_getElem? (i := 144) rfl))
set_option maxRecDepth 100000 in
theorem GWm6_m_8 : (Cond.code yX12_toBool cX12_toBool 3 none) ∈ lw_big := List.mem_append_right _ (tb_8 _ (List.mem_of_getElem? (i := 140) rfl))
set_option maxRecDepth 100000 in
theorem GWm6_m_9 : (Cond.methodLink RX12 346 yX12_spells) ∈ lw_big := List.mem_append_right _ (tb_8 _ (List.mem_of_getElem? (i := 141) rfl))
set_option maxRecDepth 100000 in
theorem GWm6_m_10 : (Cond.instanceMethod yX12_spells) ∈ lw_big := List.mem_append_right _ (tb_8 _ (List.mem_of_getElem? (i := 143) rfl))
set_option maxRecDepth 100000 in
theorem GWm6_m_11 : (Cond.selects RX12 yX12_spells yX12_spells) ∈ lw_big := List.mem_append_right _ (List.mem_append_left _ (List.mem_of_getElem? (i := 116) (by decide +kernel)))
set_option maxRecDepth 100000 in
theorem GWm6_m_12 : (Cond.code yX12_convert cX12_convert 5 none) ∈ lw_big := List.mem_append_right _ (tb_8 _ (List.mem_of_getElem? (i := 111) rfl))
set_option maxRecDepth 100000 in
theorem GWm6_m_13 : (Cond.methodLink RX12 350 yX12_spell) ∈ lw_big := List.mem_append_right _ (tb_8 _ (List.mem_of_getElem? (i := 112) rfl))
set_option maxRecDepth 100000 in
theorem GWm6_m_14 : (Cond.instanceMethod yX12_spell) ∈ lw_big := List.mem_append_right _ (tb_8 _ (List.mem_of_getElem? (i := 114) rfl))
set_option maxRecDepth 100000 in
theorem GWm6_m_15 : (Cond.selects RX12 yX12_spell yX12_spell) ∈ lw_big := List.mem_append_right _ (List.mem_append_left _ (List.mem_of_getElem? (i := 109) (by decide +kernel)))
set_option maxRecDepth 100000 in
theorem GWm6_m_16 : (Cond.methodLink RX12 353 yX12_settle) ∈ lw_big := List.mem_append_right _ (tb_8 _ (List.mem_of_getElem? (i := 133) rfl))
set_option maxRecDepth 100000 in
theorem GWm6_m_17 : (Cond.instanceMethod yX12_settle) ∈ lw_big := List.mem_append_right _ (tb_8 _ (List.mem_of_getElem? (i := 135) rfl))
set_option maxRecDepth 100000 in
theorem GWm6_m_18 : (Cond.selects RX12 yX12_settle yX12_settle) ∈ lw_big := List.mem_append_right _ (List.mem_append_left _ (List.mem_of_getElem? (i := 114) (by decide +kernel)))
set_option maxRecDepth 100000 in
theorem GWm6_m_19 : (Cond.methodLink RX12 356 yX12_toBool) ∈ lw_big := List.mem_append_right _ (tb_8 _ (List.mem_of_getElem? (i := 137) rfl))
set_option maxRecDepth 100000 in
theorem GWm6_m_20 : (Cond.instanceMethod yX12_toBool) ∈ lw_big := List.mem_append_right _ (tb_8 _ (List.mem_of_getElem? (i := 139) rfl))
set_option maxRecDepth 100000 in
theorem GWm6_m_21 : (Cond.selects RX12 yX12_toBool yX12_toBool) ∈ lw_big := List.mem_append_right _ (List.mem_append_left _ (List.mem_of_getElem? (i := 115) (by decide +kernel)))
set_option maxRecDepth 100000 in
theorem GWm6_m_22 : (Cond.methodLink RX12 359 yX12_whole) ∈ lw_big := List.mem_append_right _ (tb_8 _ (List.mem_of_getElem? (i := 145) rfl))
set_option maxRecDepth 100000 in
theorem GWm6_m_23 : (Cond.instanceMethod yX12_whole) ∈ lw_big := List.mem_append_right _ (tb_8 _ (List.mem_of_getElem? (i := 147) rfl))
set_option maxRecDepth 100000 in
theorem GWm6_m_24 : (Cond.selects RX12 yX12_whole yX12_whole) ∈ lw_big := List.mem_append_right _ (List.mem_append_left _ (List.mem_of_getElem? (i := 117) (by decide +kernel)))
set_option maxRecDepth 100000 in
theorem GWm6_m_25 : (Cond.code yX12_steps cX12_steps 5 (some .int)) ∈ lw_big := List.mem_append_right _ (tb_8 _ (List.mem_of_getElem? (i := 95) rfl))
set_option maxRecDepth 100000 in
theorem GWm6_m_26 : (Cond.code yX12_fitsType cX12_fitsType 3 (some .boolean)) ∈ lw_big := List.mem_append_right _ (tb_8 _ (List.mem_of_getElem? (i := 91) rfl))
set_option maxRecDepth 100000 in
theorem GWm6_m_27 : (Cond.methodLink RX12 362 yX12_steps) ∈ lw_big := List.mem_append_right _ (tb_8 _ (List.mem_of_getElem? (i := 92) rfl))
set_option maxRecDepth 100000 in
theorem GWm6_m_28 : (Cond.instanceMethod yX12_steps) ∈ lw_big := List.mem_append_right _ (tb_8 _ (List.mem_of_getElem? (i := 94) rfl))
set_option maxRecDepth 100000 in
theorem GWm6_m_29 : (Cond.selects RX12 yX12_steps yX12_steps) ∈ lw_big := List.mem_append_right _ (List.mem_append_left _ (List.mem_of_getElem? (i := 104) (by decide +kernel)))
set_option maxRecDepth 100000 in
theorem GWm6_m_30 : (Cond.code yX12_convertible cX12_convertible 5 (some .boolean)) ∈ lw_big := List.mem_append_right _ (tb_8 _ (List.mem_of_getElem? (i := 99) rfl))
set_option maxRecDepth 100000 in
theorem GWm6_m_31 : (Cond.code yX12_fit cX12_fit 3 none) ∈ lw_big := List.mem_append_right _ (tb_8 _ (List.mem_of_getElem? (i := 107) rfl))
set_option maxRecDepth 100000 in
theorem GWm6_m_32 : (Cond.methodLink RX12 365 yX12_fitsType) ∈ lw_big := List.mem_append_right _ (tb_8 _ (List.mem_of_getElem? (i := 88) rfl))
set_option maxRecDepth 100000 in
theorem GWm6_m_33 : (Cond.instanceMethod yX12_fitsType) ∈ lw_big := List.mem_append_right _ (tb_8 _ (List.mem_of_getElem? (i := 90) rfl))
set_option maxRecDepth 100000 in
theorem GWm6_m_34 : (Cond.selects RX12 yX12_fitsType yX12_fitsType) ∈ lw_big := List.mem_append_right _ (List.mem_append_left _ (List.mem_of_getElem? (i := 103) (by decide +kernel)))
set_option maxRecDepth 100000 in
theorem GWm6_m_35 : (Cond.methodLink RX12 368 yX12_convertible) ∈ lw_big := List.mem_append_right _ (tb_8 _ (List.mem_of_getElem? (i := 96) rfl))
set_option maxRecDepth 100000 in
theorem GWm6_m_36 : (Cond.instanceMethod yX12_convertible) ∈ lw_big := List.mem_append_right _ (tb_8 _ (List.mem_of_getElem? (i := 98) rfl))
set_option maxRecDepth 100000 in
theorem GWm6_m_37 : (Cond.selects RX12 yX12_convertible yX12_convertible) ∈ lw_big := List.mem_append_right _ (List.mem_append_left _ (List.mem_of_getElem? (i := 105) (by decide +kernel)))
set_option maxRecDepth 100000 in
theorem GWm6_m_38 : (Cond.methodLink RX12 371 yX12_convert) ∈ lw_big := List.mem_append_right _ (tb_8 _ (List.mem_of_getElem? (i := 108) rfl))
set_option maxRecDepth 100000 in
theorem GWm6_m_39 : (Cond.instanceMethod yX12_convert) ∈ lw_big := List.mem_append_right _ (tb_8 _ (List.mem_of_getElem? (i := 110) rfl))
theorem GWm6_b : ∀ w ∈ GWm6, w ∈ lw_big := List.forall_mem_cons.mpr ⟨GWm6_m_0, List.forall_mem_cons.mpr ⟨GWm6_m_1, List.forall_mem_cons.mpr ⟨GWm6_m_2, List.forall_mem_cons.mpr ⟨GWm6_m_3, List.forall_mem_cons.mpr ⟨GWm6_m_4, List.forall_mem_cons.mpr ⟨GWm6_m_5, List.forall_mem_cons.mpr ⟨GWm6_m_6, List.forall_mem_cons.mpr ⟨GWm6_m_7, List.forall_mem_cons.mpr ⟨GWm6_m_8, List.forall_mem_cons.mpr ⟨GWm6_m_9, List.forall_mem_cons.mpr ⟨GWm6_m_10, List.forall_mem_cons.mpr ⟨GWm6_m_11, List.forall_mem_cons.mpr ⟨GWm6_m_12, List.forall_mem_cons.mpr ⟨GWm6_m_13, List.forall_mem_cons.mpr ⟨GWm6_m_14, List.forall_mem_cons.mpr ⟨GWm6_m_15, List.forall_mem_cons.mpr ⟨GWm6_m_16, List.forall_mem_cons.mpr ⟨GWm6_m_17, List.forall_mem_cons.mpr ⟨GWm6_m_18, List.forall_mem_cons.mpr ⟨GWm6_m_19, List.forall_mem_cons.mpr ⟨GWm6_m_20, List.forall_mem_cons.mpr ⟨GWm6_m_21, List.forall_mem_cons.mpr ⟨GWm6_m_22, List.forall_mem_cons.mpr ⟨GWm6_m_23, List.forall_mem_cons.mpr ⟨GWm6_m_24, List.forall_mem_cons.mpr ⟨GWm6_m_25, List.forall_mem_cons.mpr ⟨GWm6_m_26, List.forall_mem_cons.mpr ⟨GWm6_m_27, List.forall_mem_cons.mpr ⟨GWm6_m_28, List.forall_mem_cons.mpr ⟨GWm6_m_29, List.forall_mem_cons.mpr ⟨GWm6_m_30, List.forall_mem_cons.mpr ⟨GWm6_m_31, List.forall_mem_cons.mpr ⟨GWm6_m_32, List.forall_mem_cons.mpr ⟨GWm6_m_33, List.forall_mem_cons.mpr ⟨GWm6_m_34, List.forall_mem_cons.mpr ⟨GWm6_m_35, List.forall_mem_cons.mpr ⟨GWm6_m_36, List.forall_mem_cons.mpr ⟨GWm6_m_37, List.forall_mem_cons.mpr ⟨GWm6_m_38, List.forall_mem_cons.mpr ⟨GWm6_m_39, fun _ h => absurd h List.not_mem_nil⟩⟩⟩⟩⟩⟩⟩⟩⟩⟩⟩⟩⟩⟩⟩⟩⟩⟩⟩⟩⟩⟩⟩⟩⟩⟩⟩⟩⟩⟩⟩⟩⟩⟩⟩⟩⟩⟩⟩⟩
set_option maxRecDepth 100000 in
theorem GWm7_m_0 : (Cond.selects RX12 yX12_convert yX12_convert) ∈ lw_big := List.mem_append_right _ (List.mem_append_left _ (List.mem_of_getElem? (i := 108) (by decide +kernel)))
set_option maxRecDepth 100000 in
theorem GWm7_m_1 : (Cond.code yX12_isNumber cX12_isNumber 2 (some .boolean)) ∈ lw_big := List.mem_append_right _ (tb_8 _ (List.mem_of_getElem? (i := 168) rfl))
set_option maxRecDepth 100000 in
theorem GWm7_m_2 : (Cond.code yX12_realOf cX12_realOf 2 (some .double)) ∈ lw_big := List.mem_append_right _ (tb_8 _ (List.mem_of_getElem? (i := 176) rfl))
set_option maxRecDepth 100000 in
theorem GWm7_m_3 : (Cond.code yX12_joins cX12_joins 2 (some .boolean)) ∈ lw_big := List.mem_append_right _ (tb_8 _ (List.mem_of_getElem? (i := 164) rfl))
set_option maxRecDepth 100000 in
theorem GWm7_m_4 : (Cond.code yX12_reals cX12_reals 10 none) ∈ lw_big := List.mem_append_right _ (tb_8 _ (List.mem_of_getElem? (i := 172) rfl))
set_option maxRecDepth 100000 in
theorem GWm7_m_5 : (Cond.constantDouble RX12 378 (4786511204640096256)) ∈ lw_big := List.mem_append_right _ (tb_8 _ (List.mem_of_getElem? (i := 177) rfl))
set_option maxRecDepth 100000 in
theorem GWm7_m_6 : (Cond.constantDouble RX12 380 (14009883241494872064)) ∈ lw_big := List.mem_append_right _ (tb_8 _ (List.mem_of_getElem? (i := 178) rfl))
set_option maxRecDepth 100000 in
theorem GWm7_m_7 : (Cond.methodLink RX12 374 yX12_realOf) ∈ lw_big := List.mem_append_right _ (tb_8 _ (List.mem_of_getElem? (i := 173) rfl))
set_option maxRecDepth 100000 in
theorem GWm7_m_8 : (Cond.instanceMethod yX12_realOf) ∈ lw_big := List.mem_append_right _ (tb_8 _ (List.mem_of_getElem? (i := 175) rfl))
set_option maxRecDepth 100000 in
theorem GWm7_m_9 : (Cond.selects RX12 yX12_realOf yX12_realOf) ∈ lw_big := List.mem_append_right _ (List.mem_append_left _ (List.mem_of_getElem? (i := 124) (by decide +kernel)))
set_option maxRecDepth 100000 in
theorem GWm7_m_10 : (Cond.code yX12_ints cX12_ints 7 none) ∈ lw_big := List.mem_append_right _ (tb_8 _ (List.mem_of_getElem? (i := 182) rfl))
set_option maxRecDepth 100000 in
theorem GWm7_m_11 : (Cond.code yX12_reckon cX12_reckon 5 none) ∈ lw_big := List.mem_append_right _ (tb_8 _ (List.mem_of_getElem? (i := 160) rfl))
set_option maxRecDepth 100000 in
theorem GWm7_m_12 : (Cond.methodLink RX12 382 yX12_joins) ∈ lw_big := List.mem_append_right _ (tb_8 _ (List.mem_of_getElem? (i := 161) rfl))
set_option maxRecDepth 100000 in
theorem GWm7_m_13 : (Cond.instanceMethod yX12_joins) ∈ lw_big := List.mem_append_right _ (tb_8 _ (List.mem_of_getElem? (i := 163) rfl))
set_option maxRecDepth 100000 in
theorem GWm7_m_14 : (Cond.selects RX12 yX12_joins yX12_joins) ∈ lw_big := List.mem_append_right _ (List.mem_append_left _ (List.mem_of_getElem? (i := 121) (by decide +kernel)))
set_option maxRecDepth 100000 in
theorem GWm7_m_15 : (Cond.methodLink RX12 385 yX12_isNumber) ∈ lw_big := List.mem_append_right _ (tb_8 _ (List.mem_of_getElem? (i := 165) rfl))
set_option maxRecDepth 100000 in
theorem GWm7_m_16 : (Cond.instanceMethod yX12_isNumber) ∈ lw_big := List.mem_append_right _ (tb_8 _ (List.mem_of_getElem? (i := 167) rfl))
set_option maxRecDepth 100000 in
theorem GWm7_m_17 : (Cond.selects RX12 yX12_isNumber yX12_isNumber) ∈ lw_big := List.mem_append_right _ (List.mem_append_left _ (List.mem_of_getElem? (i := 122) (by decide +kernel)))
set_option maxRecDepth 100000 in
theorem GWm7_m_18 : (Cond.methodLink RX12 388 yX12_reals) ∈ lw_big := List.mem_append_right _ (tb_8 _ (List.mem_of_getElem? (i := 169) rfl))
set_option maxRecDepth 100000 in
theorem GWm7_m_19 : (Cond.instanceMethod yX12_reals) ∈ lw_big := List.mem_append_right _ (tb_8 _ (List.mem_of_getElem? (i := 171) rfl))
set_option maxRecDepth 100000 in
theorem GWm7_m_20 : (Cond.selects RX12 yX12_reals yX12_reals) ∈ lw_big := List.mem_append_right _ (List.mem_append_left _ (List.mem_of_getElem? (i := 123) (by decide +kernel)))
set_option maxRecDepth 100000 in
theorem GWm7_m_21 : (Cond.methodLink RX12 392 yX12_ints) ∈ lw_big := List.mem_append_right _ (tb_8 _ (List.mem_of_getElem? (i := 179) rfl))
set_option maxRecDepth 100000 in
theorem GWm7_m_22 : (Cond.instanceMethod yX12_ints) ∈ lw_big := List.mem_append_right _ (tb_8 _ (List.mem_of_getElem? (i := 181) rfl))
set_option maxRecDepth 100000 in
theorem GWm7_m_23 : (Cond.selects RX12 yX12_ints yX12_ints) ∈ lw_big := List.mem_append_right _ (List.mem_append_left _ (List.mem_of_getElem? (i := 125) (by decide +kernel)))
set_option maxRecDepth 100000 in
theorem GWm7_m_24 : (Cond.code yX12_alike cX12_alike 3 (some .boolean)) ∈ lw_big := List.mem_append_right _ (tb_8 _ (List.mem_of_getElem? (i := 190) rfl))
set_option maxRecDepth 100000 in
theorem GWm7_m_25 : (Cond.code yX12_compare cX12_compare 9 none) ∈ lw_big := List.mem_append_right _ (tb_8 _ (List.mem_of_getElem? (i := 186) rfl))
set_option maxRecDepth 100000 in
theorem GWm7_m_26 : (Cond.methodLink RX12 395 yX12_alike) ∈ lw_big := List.mem_append_right _ (tb_8 _ (List.mem_of_getElem? (i := 187) rfl))
set_option maxRecDepth 100000 in
theorem GWm7_m_27 : (Cond.instanceMethod yX12_alike) ∈ lw_big := List.mem_append_right _ (tb_8 _ (List.mem_of_getElem? (i := 189) rfl))
set_option maxRecDepth 100000 in
theorem GWm7_m_28 : (Cond.selects RX12 yX12_alike yX12_alike) ∈ lw_big := List.mem_append_right _ (List.mem_append_left _ (List.mem_of_getElem? (i := 127) (by decide +kernel)))
set_option maxRecDepth 100000 in
theorem GWm7_m_29 : (Cond.code yX12_unary cX12_unary 5 none) ∈ lw_big := List.mem_append_right _ (tb_8 _ (List.mem_of_getElem? (i := 194) rfl))
set_option maxRecDepth 100000 in
theorem GWm7_m_30 : (Cond.code yX12_property cX12_property 5 none) ∈ lw_big := List.mem_append_right _ (tb_8 _ (List.mem_of_getElem? (i := 64) rfl))
set_option maxRecDepth 100000 in
theorem GWm7_m_31 : (Cond.methodLink RX12 398 yX12_fieldOf) ∈ lw_big := List.mem_append_right _ (tb_8 _ (List.mem_of_getElem? (i := 65) rfl))
set_option maxRecDepth 100000 in
theorem GWm7_m_32 : (Cond.instanceMethod yX12_fieldOf) ∈ lw_big := List.mem_append_right _ (tb_8 _ (List.mem_of_getElem? (i := 67) rfl))
set_option maxRecDepth 100000 in
theorem GWm7_m_33 : (Cond.selects RX12 yX12_fieldOf yX12_fieldOf) ∈ lw_big := List.mem_append_right _ (List.mem_append_left _ (List.mem_of_getElem? (i := 98) (by decide +kernel)))
set_option maxRecDepth 100000 in
theorem GWm7_m_34 : (Cond.methodLink RX12 401 yX12_copy) ∈ lw_big := List.mem_append_right _ (tb_8 _ (List.mem_of_getElem? (i := 57) rfl))
set_option maxRecDepth 100000 in
theorem GWm7_m_35 : (Cond.instanceMethod yX12_copy) ∈ lw_big := List.mem_append_right _ (tb_8 _ (List.mem_of_getElem? (i := 59) rfl))
set_option maxRecDepth 100000 in
theorem GWm7_m_36 : (Cond.selects RX12 yX12_copy yX12_copy) ∈ lw_big := List.mem_append_right _ (List.mem_append_left _ (List.mem_of_getElem? (i := 96) (by decide +kernel)))
set_option maxRecDepth 100000 in
theorem GWm7_m_37 : (Cond.code yX12_paramsOf cX12_paramsOf 2 (some .int)) ∈ lw_big := List.mem_append_right _ (tb_8 _ (List.mem_of_getElem? (i := 83) rfl))
set_option maxRecDepth 100000 in
theorem GWm7_m_38 : (Cond.code yX12_stands cX12_stands 9 (some .boolean)) ∈ lw_big := List.mem_append_right _ (tb_8 _ (List.mem_of_getElem? (i := 80) rfl))
set_option maxRecDepth 100000 in
theorem GWm7_m_39 : (Cond.methodLink RX12 404 yX12_paramsOf) ∈ lw_big := List.mem_append_right _ (tb_8 _ (List.mem_of_getElem? (i := 81) rfl))
theorem GWm7_b : ∀ w ∈ GWm7, w ∈ lw_big := List.forall_mem_cons.mpr ⟨GWm7_m_0, List.forall_mem_cons.mpr ⟨GWm7_m_1, List.forall_mem_cons.mpr ⟨GWm7_m_2, List.forall_mem_cons.mpr ⟨GWm7_m_3, List.forall_mem_cons.mpr ⟨GWm7_m_4, List.forall_mem_cons.mpr ⟨GWm7_m_5, List.forall_mem_cons.mpr ⟨GWm7_m_6, List.forall_mem_cons.mpr ⟨GWm7_m_7, List.forall_mem_cons.mpr ⟨GWm7_m_8, List.forall_mem_cons.mpr ⟨GWm7_m_9, List.forall_mem_cons.mpr ⟨GWm7_m_10, List.forall_mem_cons.mpr ⟨GWm7_m_11, List.forall_mem_cons.mpr ⟨GWm7_m_12, List.forall_mem_cons.mpr ⟨GWm7_m_13, List.forall_mem_cons.mpr ⟨GWm7_m_14, List.forall_mem_cons.mpr ⟨GWm7_m_15, List.forall_mem_cons.mpr ⟨GWm7_m_16, List.forall_mem_cons.mpr ⟨GWm7_m_17, List.forall_mem_cons.mpr ⟨GWm7_m_18, List.forall_mem_cons.mpr ⟨GWm7_m_19, List.forall_mem_cons.mpr ⟨GWm7_m_20, List.forall_mem_cons.mpr ⟨GWm7_m_21, List.forall_mem_cons.mpr ⟨GWm7_m_22, List.forall_mem_cons.mpr ⟨GWm7_m_23, List.forall_mem_cons.mpr ⟨GWm7_m_24, List.forall_mem_cons.mpr ⟨GWm7_m_25, List.forall_mem_cons.mpr ⟨GWm7_m_26, List.forall_mem_cons.mpr ⟨GWm7_m_27, List.forall_mem_cons.mpr ⟨GWm7_m_28, List.forall_mem_cons.mpr ⟨GWm7_m_29, List.forall_mem_cons.mpr ⟨GWm7_m_30, List.forall_mem_cons.mpr ⟨GWm7_m_31, List.forall_mem_cons.mpr ⟨GWm7_m_32, List.forall_mem_cons.mpr ⟨GWm7_m_33, List.forall_mem_cons.mpr ⟨GWm7_m_34, List.forall_mem_cons.mpr ⟨GWm7_m_35, List.forall_mem_cons.mpr ⟨GWm7_m_36, List.forall_mem_cons.mpr ⟨GWm7_m_37, List.forall_mem_cons.mpr ⟨GWm7_m_38, List.forall_mem_cons.mpr ⟨GWm7_m_39, fun _ h => absurd h List.not_mem_nil⟩⟩⟩⟩⟩⟩⟩⟩⟩⟩⟩⟩⟩⟩⟩⟩⟩⟩⟩⟩⟩⟩⟩⟩⟩⟩⟩⟩⟩⟩⟩⟩⟩⟩⟩⟩⟩⟩⟩⟩
set_option maxRecDepth 100000 in
theorem GWm8_m_0 : (Cond.static yX12_paramsOf) ∈ lw_big := List.mem_append_right _ (tb_8 _ (List.mem_of_getElem? (i := 82) rfl))
set_option maxRecDepth 100000 in
theorem GWm8_m_1 : (Cond.code yX12_weight cX12_weight 3 (some .int)) ∈ lw_big := List.mem_append_right _ (tb_8 _ (List.mem_of_getElem? (i := 103) rfl))
set_option maxRecDepth 100000 in
theorem GWm8_m_2 : (Cond.code yX12_suits cX12_suits 11 (some .int)) ∈ lw_big := List.mem_append_right _ (tb_8 _ (List.mem_of_getElem? (i := 87) rfl))
set_option maxRecDepth 100000 in
theorem GWm8_m_3 : (Cond.methodLink RX12 407 yX12_weight) ∈ lw_big := List.mem_append_right _ (tb_8 _ (List.mem_of_getElem? (i := 100) rfl))
set_option maxRecDepth 100000 in
theorem GWm8_m_4 : (Cond.instanceMethod yX12_weight) ∈ lw_big := List.mem_append_right _ (tb_8 _ (List.mem_of_getElem? (i := 102) rfl))
set_option maxRecDepth 100000 in
theorem GWm8_m_5 : (Cond.selects RX12 yX12_weight yX12_weight) ∈ lw_big := List.mem_append_right _ (List.mem_append_left _ (List.mem_of_getElem? (i := 106) (by decide +kernel)))
set_option maxRecDepth 100000 in
theorem GWm8_m_6 : (Cond.code yX12_found cX12_found 11 (some .int)) ∈ lw_big := List.mem_append_right _ (tb_8 _ (List.mem_of_getElem? (i := 76) rfl))
set_option maxRecDepth 100000 in
theorem GWm8_m_7 : (Cond.methodLink RX12 410 yX12_stands) ∈ lw_big := List.mem_append_right _ (tb_8 _ (List.mem_of_getElem? (i := 77) rfl))
set_option maxRecDepth 100000 in
theorem GWm8_m_8 : (Cond.instanceMethod yX12_stands) ∈ lw_big := List.mem_append_right _ (tb_8 _ (List.mem_of_getElem? (i := 79) rfl))
set_option maxRecDepth 100000 in
theorem GWm8_m_9 : (Cond.selects RX12 yX12_stands yX12_stands) ∈ lw_big := List.mem_append_right _ (List.mem_append_left _ (List.mem_of_getElem? (i := 101) (by decide +kernel)))
set_option maxRecDepth 100000 in
theorem GWm8_m_10 : (Cond.methodLink RX12 414 yX12_suits) ∈ lw_big := List.mem_append_right _ (tb_8 _ (List.mem_of_getElem? (i := 84) rfl))
set_option maxRecDepth 100000 in
theorem GWm8_m_11 : (Cond.instanceMethod yX12_suits) ∈ lw_big := List.mem_append_right _ (tb_8 _ (List.mem_of_getElem? (i := 86) rfl))
set_option maxRecDepth 100000 in
theorem GWm8_m_12 : (Cond.selects RX12 yX12_suits yX12_suits) ∈ lw_big := List.mem_append_right _ (List.mem_append_left _ (List.mem_of_getElem? (i := 102) (by decide +kernel)))
set_option maxRecDepth 100000 in
theorem GWm8_m_13 : (Cond.code yX12_act cX12_act 7 none) ∈ lw_big := List.mem_append_right _ (tb_8 _ (List.mem_of_getElem? (i := 156) rfl))
set_option maxRecDepth 100000 in
theorem GWm8_m_14 : (Cond.methodLink RX12 418 yX12_reckon) ∈ lw_big := List.mem_append_right _ (tb_8 _ (List.mem_of_getElem? (i := 157) rfl))
set_option maxRecDepth 100000 in
theorem GWm8_m_15 : (Cond.instanceMethod yX12_reckon) ∈ lw_big := List.mem_append_right _ (tb_8 _ (List.mem_of_getElem? (i := 159) rfl))
set_option maxRecDepth 100000 in
theorem GWm8_m_16 : (Cond.selects RX12 yX12_reckon yX12_reckon) ∈ lw_big := List.mem_append_right _ (List.mem_append_left _ (List.mem_of_getElem? (i := 120) (by decide +kernel)))
set_option maxRecDepth 100000 in
theorem GWm8_m_17 : (Cond.code yX12_calls cX12_calls 6 none) ∈ lw_big := List.mem_append_right _ (tb_8 _ (List.mem_of_getElem? (i := 72) rfl))
set_option maxRecDepth 100000 in
theorem GWm8_m_18 : (Cond.methodLink RX12 421 yX12_found) ∈ lw_big := List.mem_append_right _ (tb_8 _ (List.mem_of_getElem? (i := 73) rfl))
set_option maxRecDepth 100000 in
theorem GWm8_m_19 : (Cond.instanceMethod yX12_found) ∈ lw_big := List.mem_append_right _ (tb_8 _ (List.mem_of_getElem? (i := 75) rfl))
set_option maxRecDepth 100000 in
theorem GWm8_m_20 : (Cond.selects RX12 yX12_found yX12_found) ∈ lw_big := List.mem_append_right _ (List.mem_append_left _ (List.mem_of_getElem? (i := 100) (by decide +kernel)))
set_option maxRecDepth 100000 in
theorem GWm8_m_21 : (Cond.methodLink RX12 425 yX12_fit) ∈ lw_big := List.mem_append_right _ (tb_8 _ (List.mem_of_getElem? (i := 104) rfl))
set_option maxRecDepth 100000 in
theorem GWm8_m_22 : (Cond.instanceMethod yX12_fit) ∈ lw_big := List.mem_append_right _ (tb_8 _ (List.mem_of_getElem? (i := 106) rfl))
set_option maxRecDepth 100000 in
theorem GWm8_m_23 : (Cond.selects RX12 yX12_fit yX12_fit) ∈ lw_big := List.mem_append_right _ (List.mem_append_left _ (List.mem_of_getElem? (i := 107) (by decide +kernel)))
set_option maxRecDepth 100000 in
theorem GWm8_m_24 : (Cond.methodLink RX12 428 yX12_act) ∈ lw_big := List.mem_append_right _ (tb_8 _ (List.mem_of_getElem? (i := 153) rfl))
set_option maxRecDepth 100000 in
theorem GWm8_m_25 : (Cond.instanceMethod yX12_act) ∈ lw_big := List.mem_append_right _ (tb_8 _ (List.mem_of_getElem? (i := 155) rfl))
set_option maxRecDepth 100000 in
theorem GWm8_m_26 : (Cond.selects RX12 yX12_act yX12_act) ∈ lw_big := List.mem_append_right _ (List.mem_append_left _ (List.mem_of_getElem? (i := 119) (by decide +kernel)))
set_option maxRecDepth 100000 in
theorem GWm8_m_27 : (Cond.code yX12_placeOf cX12_placeOf 4 (some .int)) ∈ lw_big := List.mem_append_right _ (tb_8 _ (List.mem_of_getElem? (i := 56) rfl))
set_option maxRecDepth 100000 in
theorem GWm8_m_28 : (Cond.fieldLink RX12 431 "PhraseDeskModel" "variables" "I") ∈ lw_big := List.mem_append_right _ (tb_6 _ (List.mem_of_getElem? (i := 186) rfl))
set_option maxRecDepth 100000 in
theorem GWm8_m_29 : (Cond.fieldLink RX12 108 "PhraseDeskModel" "variable" "[I") ∈ lw_big := List.mem_append_right _ (tb_6 _ (List.mem_of_getElem? (i := 187) rfl))
set_option maxRecDepth 100000 in
theorem GWm8_m_30 : (Cond.code yX12_placeFor cX12_placeFor 3 (some .int)) ∈ lw_big := List.mem_append_right _ (tb_8 _ (List.mem_of_getElem? (i := 206) rfl))
set_option maxRecDepth 100000 in
theorem GWm8_m_31 : (Cond.methodLink RX12 434 yX12_placeOf) ∈ lw_big := List.mem_append_right _ (tb_8 _ (List.mem_of_getElem? (i := 53) rfl))
set_option maxRecDepth 100000 in
theorem GWm8_m_32 : (Cond.instanceMethod yX12_placeOf) ∈ lw_big := List.mem_append_right _ (tb_8 _ (List.mem_of_getElem? (i := 55) rfl))
set_option maxRecDepth 100000 in
theorem GWm8_m_33 : (Cond.selects RX12 yX12_placeOf yX12_placeOf) ∈ lw_big := List.mem_append_right _ (List.mem_append_left _ (List.mem_of_getElem? (i := 95) (by decide +kernel)))
set_option maxRecDepth 100000 in
theorem GWm8_m_34 : (Cond.code yX12_typeAt cX12_typeAt 3 (some .int)) ∈ lw_big := List.mem_append_right _ (tb_8 _ (List.mem_of_getElem? (i := 210) rfl))
set_option maxRecDepth 100000 in
theorem GWm8_m_35 : (Cond.code yX12_assigns cX12_assigns 5 none) ∈ lw_big := List.mem_append_right _ (tb_8 _ (List.mem_of_getElem? (i := 202) rfl))
set_option maxRecDepth 100000 in
theorem GWm8_m_36 : (Cond.methodLink RX12 437 yX12_placeFor) ∈ lw_big := List.mem_append_right _ (tb_8 _ (List.mem_of_getElem? (i := 203) rfl))
set_option maxRecDepth 100000 in
theorem GWm8_m_37 : (Cond.instanceMethod yX12_placeFor) ∈ lw_big := List.mem_append_right _ (tb_8 _ (List.mem_of_getElem? (i := 205) rfl))
set_option maxRecDepth 100000 in
theorem GWm8_m_38 : (Cond.selects RX12 yX12_placeFor yX12_placeFor) ∈ lw_big := List.mem_append_right _ (List.mem_append_left _ (List.mem_of_getElem? (i := 131) (by decide +kernel)))
set_option maxRecDepth 100000 in
theorem GWm8_m_39 : (Cond.methodLink RX12 440 yX12_typeAt) ∈ lw_big := List.mem_append_right _ (tb_8 _ (List.mem_of_getElem? (i := 207) rfl))
theorem GWm8_b : ∀ w ∈ GWm8, w ∈ lw_big := List.forall_mem_cons.mpr ⟨GWm8_m_0, List.forall_mem_cons.mpr ⟨GWm8_m_1, List.forall_mem_cons.mpr ⟨GWm8_m_2, List.forall_mem_cons.mpr ⟨GWm8_m_3, List.forall_mem_cons.mpr ⟨GWm8_m_4, List.forall_mem_cons.mpr ⟨GWm8_m_5, List.forall_mem_cons.mpr ⟨GWm8_m_6, List.forall_mem_cons.mpr ⟨GWm8_m_7, List.forall_mem_cons.mpr ⟨GWm8_m_8, List.forall_mem_cons.mpr ⟨GWm8_m_9, List.forall_mem_cons.mpr ⟨GWm8_m_10, List.forall_mem_cons.mpr ⟨GWm8_m_11, List.forall_mem_cons.mpr ⟨GWm8_m_12, List.forall_mem_cons.mpr ⟨GWm8_m_13, List.forall_mem_cons.mpr ⟨GWm8_m_14, List.forall_mem_cons.mpr ⟨GWm8_m_15, List.forall_mem_cons.mpr ⟨GWm8_m_16, List.forall_mem_cons.mpr ⟨GWm8_m_17, List.forall_mem_cons.mpr ⟨GWm8_m_18, List.forall_mem_cons.mpr ⟨GWm8_m_19, List.forall_mem_cons.mpr ⟨GWm8_m_20, List.forall_mem_cons.mpr ⟨GWm8_m_21, List.forall_mem_cons.mpr ⟨GWm8_m_22, List.forall_mem_cons.mpr ⟨GWm8_m_23, List.forall_mem_cons.mpr ⟨GWm8_m_24, List.forall_mem_cons.mpr ⟨GWm8_m_25, List.forall_mem_cons.mpr ⟨GWm8_m_26, List.forall_mem_cons.mpr ⟨GWm8_m_27, List.forall_mem_cons.mpr ⟨GWm8_m_28, List.forall_mem_cons.mpr ⟨GWm8_m_29, List.forall_mem_cons.mpr ⟨GWm8_m_30, List.forall_mem_cons.mpr ⟨GWm8_m_31, List.forall_mem_cons.mpr ⟨GWm8_m_32, List.forall_mem_cons.mpr ⟨GWm8_m_33, List.forall_mem_cons.mpr ⟨GWm8_m_34, List.forall_mem_cons.mpr ⟨GWm8_m_35, List.forall_mem_cons.mpr ⟨GWm8_m_36, List.forall_mem_cons.mpr ⟨GWm8_m_37, List.forall_mem_cons.mpr ⟨GWm8_m_38, List.forall_mem_cons.mpr ⟨GWm8_m_39, fun _ h => absurd h List.not_mem_nil⟩⟩⟩⟩⟩⟩⟩⟩⟩⟩⟩⟩⟩⟩⟩⟩⟩⟩⟩⟩⟩⟩⟩⟩⟩⟩⟩⟩⟩⟩⟩⟩⟩⟩⟩⟩⟩⟩⟩⟩
set_option maxRecDepth 100000 in
theorem GWm9_m_0 : (Cond.instanceMethod yX12_typeAt) ∈ lw_big := List.mem_append_right _ (tb_8 _ (List.mem_of_getElem? (i := 209) rfl))
set_option maxRecDepth 100000 in
theorem GWm9_m_1 : (Cond.selects RX12 yX12_typeAt yX12_typeAt) ∈ lw_big := List.mem_append_right _ (List.mem_append_left _ (List.mem_of_getElem? (i := 132) (by decide +kernel)))
set_option maxRecDepth 100000 in
theorem GWm9_m_2 : (Cond.code yX12_aim cX12_aim 3 none) ∈ lw_big := List.mem_append_right _ (tb_8 _ (List.mem_of_getElem? (i := 198) rfl))
set_option maxRecDepth 100000 in
theorem GWm9_m_3 : (Cond.code yX12_loads cX12_loads 8 none) ∈ lw_big := List.mem_append_right _ (tb_8 _ (List.mem_of_getElem? (i := 41) rfl))
set_option maxRecDepth 100000 in
theorem GWm9_m_4 : (Cond.constantDouble RX12 447 (4621819117588971520)) ∈ lw_big := List.mem_append_right _ (tb_8 _ (List.mem_of_getElem? (i := 50) rfl))
set_option maxRecDepth 100000 in
theorem GWm9_m_5 : (Cond.constantDouble RX12 449 (4636737291354636288)) ∈ lw_big := List.mem_append_right _ (tb_8 _ (List.mem_of_getElem? (i := 51) rfl))
set_option maxRecDepth 100000 in
theorem GWm9_m_6 : (Cond.constantDouble RX12 451 (4652007308841189376)) ∈ lw_big := List.mem_append_right _ (tb_8 _ (List.mem_of_getElem? (i := 52) rfl))
set_option maxRecDepth 100000 in
theorem GWm9_m_7 : (Cond.fieldLink RX12 453 "PhraseDeskModel" "root" "I") ∈ lw_big := List.mem_append_right _ (tb_6 _ (List.mem_of_getElem? (i := 194) rfl))
set_option maxRecDepth 100000 in
theorem GWm9_m_8 : (Cond.methodLink RX12 443 yX12_push) ∈ lw_big := List.mem_append_right _ (tb_8 _ (List.mem_of_getElem? (i := 42) rfl))
set_option maxRecDepth 100000 in
theorem GWm9_m_9 : (Cond.instanceMethod yX12_push) ∈ lw_big := List.mem_append_right _ (tb_8 _ (List.mem_of_getElem? (i := 44) rfl))
set_option maxRecDepth 100000 in
theorem GWm9_m_10 : (Cond.selects RX12 yX12_push yX12_push) ∈ lw_big := List.mem_append_right _ (List.mem_append_left _ (List.mem_of_getElem? (i := 93) (by decide +kernel)))
set_option maxRecDepth 100000 in
theorem GWm9_m_11 : (Cond.code yX12_empty cX12_empty 2 (some .boolean)) ∈ lw_big := List.mem_append_right _ (tb_8 _ (List.mem_of_getElem? (i := 29) rfl))
set_option maxRecDepth 100000 in
theorem GWm9_m_12 : (Cond.code yX12_jumps cX12_jumps 4 (some .boolean)) ∈ lw_big := List.mem_append_right _ (tb_8 _ (List.mem_of_getElem? (i := 25) rfl))
set_option maxRecDepth 100000 in
theorem GWm9_m_13 : (Cond.methodLink RX12 456 yX12_empty) ∈ lw_big := List.mem_append_right _ (tb_8 _ (List.mem_of_getElem? (i := 26) rfl))
set_option maxRecDepth 100000 in
theorem GWm9_m_14 : (Cond.instanceMethod yX12_empty) ∈ lw_big := List.mem_append_right _ (tb_8 _ (List.mem_of_getElem? (i := 28) rfl))
set_option maxRecDepth 100000 in
theorem GWm9_m_15 : (Cond.selects RX12 yX12_empty yX12_empty) ∈ lw_big := List.mem_append_right _ (List.mem_append_left _ (List.mem_of_getElem? (i := 89) (by decide +kernel)))
set_option maxRecDepth 100000 in
theorem GWm9_m_16 : (Cond.code yX12_does cX12_does 4 none) ∈ lw_big := List.mem_append_right _ (tb_8 _ (List.mem_of_getElem? (i := 37) rfl))
set_option maxRecDepth 100000 in
theorem GWm9_m_17 : (Cond.methodLink RX12 459 yX12_loads) ∈ lw_big := List.mem_append_right _ (tb_8 _ (List.mem_of_getElem? (i := 38) rfl))
set_option maxRecDepth 100000 in
theorem GWm9_m_18 : (Cond.instanceMethod yX12_loads) ∈ lw_big := List.mem_append_right _ (tb_8 _ (List.mem_of_getElem? (i := 40) rfl))
set_option maxRecDepth 100000 in
theorem GWm9_m_19 : (Cond.selects RX12 yX12_loads yX12_loads) ∈ lw_big := List.mem_append_right _ (List.mem_append_left _ (List.mem_of_getElem? (i := 92) (by decide +kernel)))
set_option maxRecDepth 100000 in
theorem GWm9_m_20 : (Cond.methodLink RX12 462 yX12_property) ∈ lw_big := List.mem_append_right _ (tb_8 _ (List.mem_of_getElem? (i := 61) rfl))
set_option maxRecDepth 100000 in
theorem GWm9_m_21 : (Cond.instanceMethod yX12_property) ∈ lw_big := List.mem_append_right _ (tb_8 _ (List.mem_of_getElem? (i := 63) rfl))
set_option maxRecDepth 100000 in
theorem GWm9_m_22 : (Cond.selects RX12 yX12_property yX12_property) ∈ lw_big := List.mem_append_right _ (List.mem_append_left _ (List.mem_of_getElem? (i := 97) (by decide +kernel)))
set_option maxRecDepth 100000 in
theorem GWm9_m_23 : (Cond.methodLink RX12 465 yX12_calls) ∈ lw_big := List.mem_append_right _ (tb_8 _ (List.mem_of_getElem? (i := 69) rfl))
set_option maxRecDepth 100000 in
theorem GWm9_m_24 : (Cond.instanceMethod yX12_calls) ∈ lw_big := List.mem_append_right _ (tb_8 _ (List.mem_of_getElem? (i := 71) rfl))
set_option maxRecDepth 100000 in
theorem GWm9_m_25 : (Cond.selects RX12 yX12_calls yX12_calls) ∈ lw_big := List.mem_append_right _ (List.mem_append_left _ (List.mem_of_getElem? (i := 99) (by decide +kernel)))
set_option maxRecDepth 100000 in
theorem GWm9_m_26 : (Cond.methodLink RX12 468 yX12_compare) ∈ lw_big := List.mem_append_right _ (tb_8 _ (List.mem_of_getElem? (i := 183) rfl))
set_option maxRecDepth 100000 in
theorem GWm9_m_27 : (Cond.instanceMethod yX12_compare) ∈ lw_big := List.mem_append_right _ (tb_8 _ (List.mem_of_getElem? (i := 185) rfl))
set_option maxRecDepth 100000 in
theorem GWm9_m_28 : (Cond.selects RX12 yX12_compare yX12_compare) ∈ lw_big := List.mem_append_right _ (List.mem_append_left _ (List.mem_of_getElem? (i := 126) (by decide +kernel)))
set_option maxRecDepth 100000 in
theorem GWm9_m_29 : (Cond.methodLink RX12 471 yX12_unary) ∈ lw_big := List.mem_append_right _ (tb_8 _ (List.mem_of_getElem? (i := 191) rfl))
set_option maxRecDepth 100000 in
theorem GWm9_m_30 : (Cond.instanceMethod yX12_unary) ∈ lw_big := List.mem_append_right _ (tb_8 _ (List.mem_of_getElem? (i := 193) rfl))
set_option maxRecDepth 100000 in
theorem GWm9_m_31 : (Cond.selects RX12 yX12_unary yX12_unary) ∈ lw_big := List.mem_append_right _ (List.mem_append_left _ (List.mem_of_getElem? (i := 128) (by decide +kernel)))
set_option maxRecDepth 100000 in
theorem GWm9_m_32 : (Cond.methodLink RX12 474 yX12_aim) ∈ lw_big := List.mem_append_right _ (tb_8 _ (List.mem_of_getElem? (i := 195) rfl))
set_option maxRecDepth 100000 in
theorem GWm9_m_33 : (Cond.instanceMethod yX12_aim) ∈ lw_big := List.mem_append_right _ (tb_8 _ (List.mem_of_getElem? (i := 197) rfl))
set_option maxRecDepth 100000 in
theorem GWm9_m_34 : (Cond.selects RX12 yX12_aim yX12_aim) ∈ lw_big := List.mem_append_right _ (List.mem_append_left _ (List.mem_of_getElem? (i := 129) (by decide +kernel)))
set_option maxRecDepth 100000 in
theorem GWm9_m_35 : (Cond.methodLink RX12 477 yX12_assigns) ∈ lw_big := List.mem_append_right _ (tb_8 _ (List.mem_of_getElem? (i := 199) rfl))
set_option maxRecDepth 100000 in
theorem GWm9_m_36 : (Cond.instanceMethod yX12_assigns) ∈ lw_big := List.mem_append_right _ (tb_8 _ (List.mem_of_getElem? (i := 201) rfl))
set_option maxRecDepth 100000 in
theorem GWm9_m_37 : (Cond.selects RX12 yX12_assigns yX12_assigns) ∈ lw_big := List.mem_append_right _ (List.mem_append_left _ (List.mem_of_getElem? (i := 130) (by decide +kernel)))
set_option maxRecDepth 100000 in
theorem GWm9_m_38 : (Cond.code yX12_run cX12_run 7 (some .int)) ∈ lw_big := List.mem_append_right _ (tb_8 _ (List.mem_of_getElem? (i := 21) rfl))
set_option maxRecDepth 100000 in
theorem GWm9_m_39 : (Cond.methodLink RX12 480 yX12_jumps) ∈ lw_big := List.mem_append_right _ (tb_8 _ (List.mem_of_getElem? (i := 22) rfl))
theorem GWm9_b : ∀ w ∈ GWm9, w ∈ lw_big := List.forall_mem_cons.mpr ⟨GWm9_m_0, List.forall_mem_cons.mpr ⟨GWm9_m_1, List.forall_mem_cons.mpr ⟨GWm9_m_2, List.forall_mem_cons.mpr ⟨GWm9_m_3, List.forall_mem_cons.mpr ⟨GWm9_m_4, List.forall_mem_cons.mpr ⟨GWm9_m_5, List.forall_mem_cons.mpr ⟨GWm9_m_6, List.forall_mem_cons.mpr ⟨GWm9_m_7, List.forall_mem_cons.mpr ⟨GWm9_m_8, List.forall_mem_cons.mpr ⟨GWm9_m_9, List.forall_mem_cons.mpr ⟨GWm9_m_10, List.forall_mem_cons.mpr ⟨GWm9_m_11, List.forall_mem_cons.mpr ⟨GWm9_m_12, List.forall_mem_cons.mpr ⟨GWm9_m_13, List.forall_mem_cons.mpr ⟨GWm9_m_14, List.forall_mem_cons.mpr ⟨GWm9_m_15, List.forall_mem_cons.mpr ⟨GWm9_m_16, List.forall_mem_cons.mpr ⟨GWm9_m_17, List.forall_mem_cons.mpr ⟨GWm9_m_18, List.forall_mem_cons.mpr ⟨GWm9_m_19, List.forall_mem_cons.mpr ⟨GWm9_m_20, List.forall_mem_cons.mpr ⟨GWm9_m_21, List.forall_mem_cons.mpr ⟨GWm9_m_22, List.forall_mem_cons.mpr ⟨GWm9_m_23, List.forall_mem_cons.mpr ⟨GWm9_m_24, List.forall_mem_cons.mpr ⟨GWm9_m_25, List.forall_mem_cons.mpr ⟨GWm9_m_26, List.forall_mem_cons.mpr ⟨GWm9_m_27, List.forall_mem_cons.mpr ⟨GWm9_m_28, List.forall_mem_cons.mpr ⟨GWm9_m_29, List.forall_mem_cons.mpr ⟨GWm9_m_30, List.forall_mem_cons.mpr ⟨GWm9_m_31, List.forall_mem_cons.mpr ⟨GWm9_m_32, List.forall_mem_cons.mpr ⟨GWm9_m_33, List.forall_mem_cons.mpr ⟨GWm9_m_34, List.forall_mem_cons.mpr ⟨GWm9_m_35, List.forall_mem_cons.mpr ⟨GWm9_m_36, List.forall_mem_cons.mpr ⟨GWm9_m_37, List.forall_mem_cons.mpr ⟨GWm9_m_38, List.forall_mem_cons.mpr ⟨GWm9_m_39, fun _ h => absurd h List.not_mem_nil⟩⟩⟩⟩⟩⟩⟩⟩⟩⟩⟩⟩⟩⟩⟩⟩⟩⟩⟩⟩⟩⟩⟩⟩⟩⟩⟩⟩⟩⟩⟩⟩⟩⟩⟩⟩⟩⟩⟩⟩
set_option maxRecDepth 100000 in
theorem GWm10_m_0 : (Cond.instanceMethod yX12_jumps) ∈ lw_big := List.mem_append_right _ (tb_8 _ (List.mem_of_getElem? (i := 24) rfl))
set_option maxRecDepth 100000 in
theorem GWm10_m_1 : (Cond.selects RX12 yX12_jumps yX12_jumps) ∈ lw_big := List.mem_append_right _ (List.mem_append_left _ (List.mem_of_getElem? (i := 88) (by decide +kernel)))
set_option maxRecDepth 100000 in
theorem GWm10_m_2 : (Cond.methodLink RX12 483 yX12_does) ∈ lw_big := List.mem_append_right _ (tb_8 _ (List.mem_of_getElem? (i := 34) rfl))
set_option maxRecDepth 100000 in
theorem GWm10_m_3 : (Cond.instanceMethod yX12_does) ∈ lw_big := List.mem_append_right _ (tb_8 _ (List.mem_of_getElem? (i := 36) rfl))
set_option maxRecDepth 100000 in
theorem GWm10_m_4 : (Cond.selects RX12 yX12_does yX12_does) ∈ lw_big := List.mem_append_right _ (List.mem_append_left _ (List.mem_of_getElem? (i := 91) (by decide +kernel)))
set_option maxRecDepth 100000 in
theorem GWm10_m_5 : (Cond.code yX12_keep cX12_keep 3 (some .int)) ∈ lw_big := List.mem_append_right _ (tb_8 _ (List.mem_of_getElem? (i := 214) rfl))
set_option maxRecDepth 100000 in
theorem GWm10_m_6 : (Cond.code yX12_put cX12_put 4 (some .int)) ∈ lw_big := List.mem_append_right _ (tb_8 _ (List.mem_of_getElem? (i := 218) rfl))
set_option maxRecDepth 100000 in
theorem GWm10_m_7 : (Cond.code yX12_result cX12_result 3 (some .int)) ∈ lw_big := List.mem_append_right _ (tb_8 _ (List.mem_of_getElem? (i := 222) rfl))
set_option maxRecDepth 100000 in
theorem GWm10_m_8 : (Cond.code yX12_text cX12_text 2 (some .int)) ∈ lw_big := List.mem_append_right _ (tb_8 _ (List.mem_of_getElem? (i := 226) rfl))
set_option maxRecDepth 100000 in
theorem GWm10_m_9 : (Cond.code yX12_about cX12_about 2 (some .int)) ∈ lw_big := List.mem_append_right _ (tb_8 _ (List.mem_of_getElem? (i := 230) rfl))
theorem GWm10_b : ∀ w ∈ GWm10, w ∈ lw_big := List.forall_mem_cons.mpr ⟨GWm10_m_0, List.forall_mem_cons.mpr ⟨GWm10_m_1, List.forall_mem_cons.mpr ⟨GWm10_m_2, List.forall_mem_cons.mpr ⟨GWm10_m_3, List.forall_mem_cons.mpr ⟨GWm10_m_4, List.forall_mem_cons.mpr ⟨GWm10_m_5, List.forall_mem_cons.mpr ⟨GWm10_m_6, List.forall_mem_cons.mpr ⟨GWm10_m_7, List.forall_mem_cons.mpr ⟨GWm10_m_8, List.forall_mem_cons.mpr ⟨GWm10_m_9, fun _ h => absurd h List.not_mem_nil⟩⟩⟩⟩⟩⟩⟩⟩⟩⟩
set_option maxRecDepth 100000 in
theorem GWL_m_0 : (Cond.initialized RX11) ∈ lw_big := List.mem_append_right _ (tb_1 _ (List.mem_of_getElem? (i := 1) rfl))
set_option maxRecDepth 100000 in
theorem GWL_m_1 : (Cond.classLink RL 13 "java/lang/IllegalArgumentException") ∈ lw_big := List.mem_append_right _ (tb_2 _ (List.mem_of_getElem? (i := 99) rfl))
set_option maxRecDepth 100000 in
theorem GWL_m_2 : (Cond.classLink RL 15 "java/lang/IllegalStateException") ∈ lw_big := List.mem_append_right _ (tb_2 _ (List.mem_of_getElem? (i := 100) rfl))
set_option maxRecDepth 100000 in
theorem GWL_m_3 : (Cond.methodLink RL 7 yX11_letter) ∈ lw_big := List.mem_append_right _ (tb_2 _ (List.mem_of_getElem? (i := 101) rfl))
set_option maxRecDepth 100000 in
theorem GWL_m_4 : (Cond.instanceMethod yX11_letter) ∈ lw_big := List.mem_append_right _ (tb_2 _ (List.mem_of_getElem? (i := 102) rfl))
set_option maxRecDepth 100000 in
theorem GWL_m_5 : (Cond.selects RX11 yX11_letter yX11_letter) ∈ lw_big := List.mem_append_right _ (tb_2 _ (List.mem_of_getElem? (i := 103) rfl))
set_option maxRecDepth 100000 in
theorem GWL_m_6 : (Cond.code yX11_letter cX11_letter 2 (some .int)) ∈ lw_big := List.mem_append_right _ (tb_2 _ (List.mem_of_getElem? (i := 104) rfl))
set_option maxRecDepth 100000 in
theorem GWL_m_7 : (Cond.methodLink RL 17 yX11_parse) ∈ lw_big := List.mem_append_right _ (tb_2 _ (List.mem_of_getElem? (i := 194) rfl))
set_option maxRecDepth 100000 in
theorem GWL_m_8 : (Cond.instanceMethod yX11_parse) ∈ lw_big := List.mem_append_right _ (tb_2 _ (List.mem_of_getElem? (i := 195) rfl))
set_option maxRecDepth 100000 in
theorem GWL_m_9 : (Cond.selects RX11 yX11_parse yX11_parse) ∈ lw_big := List.mem_append_right _ (tb_2 _ (List.mem_of_getElem? (i := 196) rfl))
set_option maxRecDepth 100000 in
theorem GWL_m_10 : (Cond.code yX11_parse cX11_parse 2 (some .int)) ∈ lw_big := List.mem_append_right _ (tb_2 _ (List.mem_of_getElem? (i := 197) rfl))
set_option maxRecDepth 100000 in
theorem GWL_m_11 : (Cond.methodLink RL 21 yX11_type) ∈ lw_big := List.mem_append_right _ (tb_4 _ (List.mem_of_getElem? (i := 158) rfl))
set_option maxRecDepth 100000 in
theorem GWL_m_12 : (Cond.instanceMethod yX11_type) ∈ lw_big := List.mem_append_right _ (tb_4 _ (List.mem_of_getElem? (i := 159) rfl))
set_option maxRecDepth 100000 in
theorem GWL_m_13 : (Cond.selects RX11 yX11_type yX11_type) ∈ lw_big := List.mem_append_right _ (tb_4 _ (List.mem_of_getElem? (i := 160) rfl))
set_option maxRecDepth 100000 in
theorem GWL_m_14 : (Cond.code yX11_type cX11_type 3 (some .int)) ∈ lw_big := List.mem_append_right _ (tb_4 _ (List.mem_of_getElem? (i := 161) rfl))
set_option maxRecDepth 100000 in
theorem GWL_m_15 : (Cond.methodLink RL 24 yX11_field) ∈ lw_big := List.mem_append_right _ (tb_4 _ (List.mem_of_getElem? (i := 209) rfl))
set_option maxRecDepth 100000 in
theorem GWL_m_16 : (Cond.instanceMethod yX11_field) ∈ lw_big := List.mem_append_right _ (tb_4 _ (List.mem_of_getElem? (i := 210) rfl))
set_option maxRecDepth 100000 in
theorem GWL_m_17 : (Cond.selects RX11 yX11_field yX11_field) ∈ lw_big := List.mem_append_right _ (tb_4 _ (List.mem_of_getElem? (i := 211) rfl))
set_option maxRecDepth 100000 in
theorem GWL_m_18 : (Cond.code yX11_field cX11_field 5 (some .int)) ∈ lw_big := List.mem_append_right _ (tb_4 _ (List.mem_of_getElem? (i := 212) rfl))
set_option maxRecDepth 100000 in
theorem GWL_m_19 : (Cond.methodLink RL 28 yX11_method) ∈ lw_big := List.mem_append_right _ (tb_5 _ (List.mem_of_getElem? (i := 12) rfl))
set_option maxRecDepth 100000 in
theorem GWL_m_20 : (Cond.instanceMethod yX11_method) ∈ lw_big := List.mem_append_right _ (tb_5 _ (List.mem_of_getElem? (i := 13) rfl))
set_option maxRecDepth 100000 in
theorem GWL_m_21 : (Cond.selects RX11 yX11_method yX11_method) ∈ lw_big := List.mem_append_right _ (tb_5 _ (List.mem_of_getElem? (i := 14) rfl))
set_option maxRecDepth 100000 in
theorem GWL_m_22 : (Cond.code yX11_method cX11_method 8 (some .int)) ∈ lw_big := List.mem_append_right _ (tb_5 _ (List.mem_of_getElem? (i := 15) rfl))
set_option maxRecDepth 100000 in
theorem GWL_m_23 : (Cond.methodLink RL 32 yX11_make) ∈ lw_big := List.mem_append_right _ (tb_5 _ (List.mem_of_getElem? (i := 63) rfl))
set_option maxRecDepth 100000 in
theorem GWL_m_24 : (Cond.instanceMethod yX11_make) ∈ lw_big := List.mem_append_right _ (tb_5 _ (List.mem_of_getElem? (i := 64) rfl))
set_option maxRecDepth 100000 in
theorem GWL_m_25 : (Cond.selects RX11 yX11_make yX11_make) ∈ lw_big := List.mem_append_right _ (tb_5 _ (List.mem_of_getElem? (i := 65) rfl))
set_option maxRecDepth 100000 in
theorem GWL_m_26 : (Cond.code yX11_make cX11_make 3 (some .int)) ∈ lw_big := List.mem_append_right _ (tb_5 _ (List.mem_of_getElem? (i := 66) rfl))
set_option maxRecDepth 100000 in
theorem GWL_m_27 : (Cond.methodLink RL 35 yX11_converter) ∈ lw_big := List.mem_append_right _ (tb_5 _ (List.mem_of_getElem? (i := 96) rfl))
set_option maxRecDepth 100000 in
theorem GWL_m_28 : (Cond.instanceMethod yX11_converter) ∈ lw_big := List.mem_append_right _ (tb_5 _ (List.mem_of_getElem? (i := 97) rfl))
set_option maxRecDepth 100000 in
theorem GWL_m_29 : (Cond.selects RX11 yX11_converter yX11_converter) ∈ lw_big := List.mem_append_right _ (tb_5 _ (List.mem_of_getElem? (i := 98) rfl))
set_option maxRecDepth 100000 in
theorem GWL_m_30 : (Cond.code yX11_converter cX11_converter 5 (some .boolean)) ∈ lw_big := List.mem_append_right _ (tb_5 _ (List.mem_of_getElem? (i := 99) rfl))
set_option maxRecDepth 100000 in
theorem GWL_m_31 : (Cond.methodLink RL 39 yX11_run) ∈ lw_big := List.mem_append_right _ (tb_5 _ (List.mem_of_getElem? (i := 112) rfl))
set_option maxRecDepth 100000 in
theorem GWL_m_32 : (Cond.instanceMethod yX11_run) ∈ lw_big := List.mem_append_right _ (tb_5 _ (List.mem_of_getElem? (i := 113) rfl))
set_option maxRecDepth 100000 in
theorem GWL_m_33 : (Cond.selects RX11 yX11_run yX11_run) ∈ lw_big := List.mem_append_right _ (tb_5 _ (List.mem_of_getElem? (i := 114) rfl))
set_option maxRecDepth 100000 in
theorem GWL_m_34 : (Cond.code yX11_run cX11_run 6 (some .int)) ∈ lw_big := List.mem_append_right _ (tb_5 _ (List.mem_of_getElem? (i := 115) rfl))
set_option maxRecDepth 100000 in
theorem GWL_m_35 : (Cond.methodLink RL 43 yX11_keep) ∈ lw_big := List.mem_append_right _ (tb_6 _ (List.mem_of_getElem? (i := 115) rfl))
set_option maxRecDepth 100000 in
theorem GWL_m_36 : (Cond.instanceMethod yX11_keep) ∈ lw_big := List.mem_append_right _ (tb_6 _ (List.mem_of_getElem? (i := 116) rfl))
set_option maxRecDepth 100000 in
theorem GWL_m_37 : (Cond.selects RX11 yX11_keep yX11_keep) ∈ lw_big := List.mem_append_right _ (tb_6 _ (List.mem_of_getElem? (i := 117) rfl))
set_option maxRecDepth 100000 in
theorem GWL_m_38 : (Cond.code yX11_keep cX11_keep 2 (some .int)) ∈ lw_big := List.mem_append_right _ (tb_6 _ (List.mem_of_getElem? (i := 118) rfl))
set_option maxRecDepth 100000 in
theorem GWL_m_39 : (Cond.methodLink RL 46 yX11_put) ∈ lw_big := List.mem_append_right _ (tb_6 _ (List.mem_of_getElem? (i := 125) rfl))
set_option maxRecDepth 100000 in
theorem GWL_m_40 : (Cond.instanceMethod yX11_put) ∈ lw_big := List.mem_append_right _ (tb_6 _ (List.mem_of_getElem? (i := 126) rfl))
set_option maxRecDepth 100000 in
theorem GWL_m_41 : (Cond.selects RX11 yX11_put yX11_put) ∈ lw_big := List.mem_append_right _ (tb_6 _ (List.mem_of_getElem? (i := 127) rfl))
set_option maxRecDepth 100000 in
theorem GWL_m_42 : (Cond.code yX11_put cX11_put 4 (some .int)) ∈ lw_big := List.mem_append_right _ (tb_6 _ (List.mem_of_getElem? (i := 128) rfl))
theorem GWL_b : ∀ w ∈ GWL, w ∈ lw_big := List.forall_mem_cons.mpr ⟨GWL_m_0, List.forall_mem_cons.mpr ⟨GWL_m_1, List.forall_mem_cons.mpr ⟨GWL_m_2, List.forall_mem_cons.mpr ⟨GWL_m_3, List.forall_mem_cons.mpr ⟨GWL_m_4, List.forall_mem_cons.mpr ⟨GWL_m_5, List.forall_mem_cons.mpr ⟨GWL_m_6, List.forall_mem_cons.mpr ⟨GWL_m_7, List.forall_mem_cons.mpr ⟨GWL_m_8, List.forall_mem_cons.mpr ⟨GWL_m_9, List.forall_mem_cons.mpr ⟨GWL_m_10, List.forall_mem_cons.mpr ⟨GWL_m_11, List.forall_mem_cons.mpr ⟨GWL_m_12, List.forall_mem_cons.mpr ⟨GWL_m_13, List.forall_mem_cons.mpr ⟨GWL_m_14, List.forall_mem_cons.mpr ⟨GWL_m_15, List.forall_mem_cons.mpr ⟨GWL_m_16, List.forall_mem_cons.mpr ⟨GWL_m_17, List.forall_mem_cons.mpr ⟨GWL_m_18, List.forall_mem_cons.mpr ⟨GWL_m_19, List.forall_mem_cons.mpr ⟨GWL_m_20, List.forall_mem_cons.mpr ⟨GWL_m_21, List.forall_mem_cons.mpr ⟨GWL_m_22, List.forall_mem_cons.mpr ⟨GWL_m_23, List.forall_mem_cons.mpr ⟨GWL_m_24, List.forall_mem_cons.mpr ⟨GWL_m_25, List.forall_mem_cons.mpr ⟨GWL_m_26, List.forall_mem_cons.mpr ⟨GWL_m_27, List.forall_mem_cons.mpr ⟨GWL_m_28, List.forall_mem_cons.mpr ⟨GWL_m_29, List.forall_mem_cons.mpr ⟨GWL_m_30, List.forall_mem_cons.mpr ⟨GWL_m_31, List.forall_mem_cons.mpr ⟨GWL_m_32, List.forall_mem_cons.mpr ⟨GWL_m_33, List.forall_mem_cons.mpr ⟨GWL_m_34, List.forall_mem_cons.mpr ⟨GWL_m_35, List.forall_mem_cons.mpr ⟨GWL_m_36, List.forall_mem_cons.mpr ⟨GWL_m_37, List.forall_mem_cons.mpr ⟨GWL_m_38, List.forall_mem_cons.mpr ⟨GWL_m_39, List.forall_mem_cons.mpr ⟨GWL_m_40, List.forall_mem_cons.mpr ⟨GWL_m_41, List.forall_mem_cons.mpr ⟨GWL_m_42, fun _ h => absurd h List.not_mem_nil⟩⟩⟩⟩⟩⟩⟩⟩⟩⟩⟩⟩⟩⟩⟩⟩⟩⟩⟩⟩⟩⟩⟩⟩⟩⟩⟩⟩⟩⟩⟩⟩⟩⟩⟩⟩⟩⟩⟩⟩⟩⟩⟩
set_option maxRecDepth 100000 in
theorem wl_0 : (Cond.methodLink RL 53 yL_letter) ∈ lw_big := List.mem_append_right _ (tb_2 _ (List.mem_of_getElem? (i := 96) rfl))
set_option maxRecDepth 100000 in
theorem wl_1 : (Cond.static yL_letter) ∈ lw_big := List.mem_append_right _ (tb_2 _ (List.mem_of_getElem? (i := 97) rfl))
set_option maxRecDepth 100000 in
theorem wl_2 : (Cond.initialized RL) ∈ lw_big := List.mem_append_right _ (tb_1 _ (List.mem_of_getElem? (i := 0) rfl))
set_option maxRecDepth 100000 in
theorem wl_3 : (Cond.codeWith yL_letter cL_letter 4 (some .int) [(0, 9, 12, 13), (0, 9, 15, 15)]) ∈ lw_big := List.mem_append_right _ (tb_2 _ (List.mem_of_getElem? (i := 98) rfl))
set_option maxRecDepth 100000 in
theorem wl_4 : (Cond.methodLink RL 58 yX12_letter) ∈ lw_big := List.mem_append_right _ (tb_7 _ (List.mem_of_getElem? (i := 84) rfl))
set_option maxRecDepth 100000 in
theorem wl_5 : (Cond.instanceMethod yX12_letter) ∈ lw_big := List.mem_append_right _ (tb_7 _ (List.mem_of_getElem? (i := 85) rfl))
set_option maxRecDepth 100000 in
theorem wl_6 : (Cond.selects RX12 yX12_letter yX12_letter) ∈ lw_big := List.mem_append_right _ (tb_7 _ (List.mem_of_getElem? (i := 86) rfl))
set_option maxRecDepth 100000 in
theorem wl_7 : (Cond.code yX12_letter cX12_letter 2 (some .int)) ∈ lw_big := List.mem_append_right _ (tb_7 _ (List.mem_of_getElem? (i := 87) rfl))
set_option maxRecDepth 100000 in
theorem wl_8 : (Cond.methodLink RL 59 yX12_thrown) ∈ lw_big := List.mem_append_right _ (tb_7 _ (List.mem_of_getElem? (i := 80) rfl))
set_option maxRecDepth 100000 in
theorem wl_9 : (Cond.instanceMethod yX12_thrown) ∈ lw_big := List.mem_append_right _ (tb_7 _ (List.mem_of_getElem? (i := 81) rfl))
set_option maxRecDepth 100000 in
theorem wl_10 : (Cond.selects RX12 yX12_thrown yX12_thrown) ∈ lw_big := List.mem_append_right _ (tb_7 _ (List.mem_of_getElem? (i := 82) rfl))
set_option maxRecDepth 100000 in
theorem wl_11 : (Cond.code yX12_thrown cX12_thrown 1 (some .int)) ∈ lw_big := List.mem_append_right _ (tb_7 _ (List.mem_of_getElem? (i := 83) rfl))
set_option maxRecDepth 100000 in
theorem wl_12 : (Cond.methodLink RL 62 yL_parse) ∈ lw_big := List.mem_append_right _ (tb_2 _ (List.mem_of_getElem? (i := 191) rfl))
set_option maxRecDepth 100000 in
theorem wl_13 : (Cond.static yL_parse) ∈ lw_big := List.mem_append_right _ (tb_2 _ (List.mem_of_getElem? (i := 192) rfl))
set_option maxRecDepth 100000 in
theorem wl_14 : (Cond.codeWith yL_parse cL_parse 3 (some .int) [(0, 8, 11, 15)]) ∈ lw_big := List.mem_append_right _ (tb_2 _ (List.mem_of_getElem? (i := 193) rfl))
set_option maxRecDepth 100000 in
theorem wl_15 : (Cond.methodLink RL 65 yX12_parse) ∈ lw_big := List.mem_append_right _ (tb_7 _ (List.mem_of_getElem? (i := 88) rfl))
set_option maxRecDepth 100000 in
theorem wl_16 : (Cond.instanceMethod yX12_parse) ∈ lw_big := List.mem_append_right _ (tb_7 _ (List.mem_of_getElem? (i := 89) rfl))
set_option maxRecDepth 100000 in
theorem wl_17 : (Cond.selects RX12 yX12_parse yX12_parse) ∈ lw_big := List.mem_append_right _ (tb_7 _ (List.mem_of_getElem? (i := 90) rfl))
set_option maxRecDepth 100000 in
theorem wl_18 : (Cond.code yX12_parse cX12_parse 2 (some .int)) ∈ lw_big := List.mem_append_right _ (tb_7 _ (List.mem_of_getElem? (i := 91) rfl))
set_option maxRecDepth 100000 in
theorem wl_19 : (Cond.methodLink RL 66 yL_type) ∈ lw_big := List.mem_append_right _ (tb_4 _ (List.mem_of_getElem? (i := 155) rfl))
set_option maxRecDepth 100000 in
theorem wl_20 : (Cond.static yL_type) ∈ lw_big := List.mem_append_right _ (tb_4 _ (List.mem_of_getElem? (i := 156) rfl))
set_option maxRecDepth 100000 in
theorem wl_21 : (Cond.codeWith yL_type cL_type 4 (some .int) [(0, 9, 12, 13), (0, 9, 15, 15)]) ∈ lw_big := List.mem_append_right _ (tb_4 _ (List.mem_of_getElem? (i := 157) rfl))
set_option maxRecDepth 100000 in
theorem wl_22 : (Cond.methodLink RL 68 yX12_type) ∈ lw_big := List.mem_append_right _ (tb_7 _ (List.mem_of_getElem? (i := 226) rfl))
set_option maxRecDepth 100000 in
theorem wl_23 : (Cond.instanceMethod yX12_type) ∈ lw_big := List.mem_append_right _ (tb_7 _ (List.mem_of_getElem? (i := 227) rfl))
set_option maxRecDepth 100000 in
theorem wl_24 : (Cond.selects RX12 yX12_type yX12_type) ∈ lw_big := List.mem_append_right _ (tb_7 _ (List.mem_of_getElem? (i := 228) rfl))
set_option maxRecDepth 100000 in
theorem wl_25 : (Cond.code yX12_type cX12_type 2 (some .int)) ∈ lw_big := List.mem_append_right _ (tb_7 _ (List.mem_of_getElem? (i := 229) rfl))
set_option maxRecDepth 100000 in
theorem wl_26 : (Cond.methodLink RL 69 yL_field) ∈ lw_big := List.mem_append_right _ (tb_4 _ (List.mem_of_getElem? (i := 206) rfl))
set_option maxRecDepth 100000 in
theorem wl_27 : (Cond.static yL_field) ∈ lw_big := List.mem_append_right _ (tb_4 _ (List.mem_of_getElem? (i := 207) rfl))
set_option maxRecDepth 100000 in
theorem wl_28 : (Cond.codeWith yL_field cL_field 6 (some .int) [(0, 12, 15, 13), (0, 12, 19, 15)]) ∈ lw_big := List.mem_append_right _ (tb_4 _ (List.mem_of_getElem? (i := 208) rfl))
set_option maxRecDepth 100000 in
theorem wl_29 : (Cond.methodLink RL 72 yX12_field) ∈ lw_big := List.mem_append_right _ (tb_7 _ (List.mem_of_getElem? (i := 234) rfl))
set_option maxRecDepth 100000 in
theorem wl_30 : (Cond.instanceMethod yX12_field) ∈ lw_big := List.mem_append_right _ (tb_7 _ (List.mem_of_getElem? (i := 235) rfl))
set_option maxRecDepth 100000 in
theorem wl_31 : (Cond.selects RX12 yX12_field yX12_field) ∈ lw_big := List.mem_append_right _ (tb_7 _ (List.mem_of_getElem? (i := 236) rfl))
set_option maxRecDepth 100000 in
theorem wl_32 : (Cond.code yX12_field cX12_field 6 (some .int)) ∈ lw_big := List.mem_append_right _ (tb_7 _ (List.mem_of_getElem? (i := 237) rfl))
set_option maxRecDepth 100000 in
theorem wl_33 : (Cond.methodLink RL 73 yL_method) ∈ lw_big := List.mem_append_right _ (tb_5 _ (List.mem_of_getElem? (i := 9) rfl))
set_option maxRecDepth 100000 in
theorem wl_34 : (Cond.static yL_method) ∈ lw_big := List.mem_append_right _ (tb_5 _ (List.mem_of_getElem? (i := 10) rfl))
set_option maxRecDepth 100000 in
theorem wl_35 : (Cond.codeWith yL_method cL_method 9 (some .int) [(0, 18, 21, 13), (0, 18, 25, 15)]) ∈ lw_big := List.mem_append_right _ (tb_5 _ (List.mem_of_getElem? (i := 11) rfl))
set_option maxRecDepth 100000 in
theorem wl_36 : (Cond.methodLink RL 76 yX12_method) ∈ lw_big := List.mem_append_right _ (tb_8 _ (List.mem_of_getElem? (i := 6) rfl))
set_option maxRecDepth 100000 in
theorem wl_37 : (Cond.instanceMethod yX12_method) ∈ lw_big := List.mem_append_right _ (tb_8 _ (List.mem_of_getElem? (i := 7) rfl))
set_option maxRecDepth 100000 in
theorem wl_38 : (Cond.selects RX12 yX12_method yX12_method) ∈ lw_big := List.mem_append_right _ (tb_8 _ (List.mem_of_getElem? (i := 8) rfl))
set_option maxRecDepth 100000 in
theorem wl_39 : (Cond.code yX12_method cX12_method 9 (some .int)) ∈ lw_big := List.mem_append_right _ (tb_8 _ (List.mem_of_getElem? (i := 9) rfl))
set_option maxRecDepth 100000 in
theorem wl_40 : (Cond.methodLink RL 77 yL_make) ∈ lw_big := List.mem_append_right _ (tb_5 _ (List.mem_of_getElem? (i := 60) rfl))
set_option maxRecDepth 100000 in
theorem wl_41 : (Cond.static yL_make) ∈ lw_big := List.mem_append_right _ (tb_5 _ (List.mem_of_getElem? (i := 61) rfl))
set_option maxRecDepth 100000 in
theorem wl_42 : (Cond.codeWith yL_make cL_make 4 (some .int) [(0, 9, 12, 13), (0, 9, 15, 15)]) ∈ lw_big := List.mem_append_right _ (tb_5 _ (List.mem_of_getElem? (i := 62) rfl))
set_option maxRecDepth 100000 in
theorem wl_43 : (Cond.methodLink RL 79 yX12_make) ∈ lw_big := List.mem_append_right _ (tb_8 _ (List.mem_of_getElem? (i := 10) rfl))
set_option maxRecDepth 100000 in
theorem wl_44 : (Cond.instanceMethod yX12_make) ∈ lw_big := List.mem_append_right _ (tb_8 _ (List.mem_of_getElem? (i := 11) rfl))
set_option maxRecDepth 100000 in
theorem wl_45 : (Cond.selects RX12 yX12_make yX12_make) ∈ lw_big := List.mem_append_right _ (tb_8 _ (List.mem_of_getElem? (i := 12) rfl))
set_option maxRecDepth 100000 in
theorem wl_46 : (Cond.code yX12_make cX12_make 2 (some .int)) ∈ lw_big := List.mem_append_right _ (tb_8 _ (List.mem_of_getElem? (i := 13) rfl))
set_option maxRecDepth 100000 in
theorem wl_47 : (Cond.methodLink RL 80 yL_converter) ∈ lw_big := List.mem_append_right _ (tb_5 _ (List.mem_of_getElem? (i := 93) rfl))
set_option maxRecDepth 100000 in
theorem wl_48 : (Cond.static yL_converter) ∈ lw_big := List.mem_append_right _ (tb_5 _ (List.mem_of_getElem? (i := 94) rfl))
set_option maxRecDepth 100000 in
theorem wl_49 : (Cond.codeWith yL_converter cL_converter 6 (some .int) [(0, 19, 22, 13)]) ∈ lw_big := List.mem_append_right _ (tb_5 _ (List.mem_of_getElem? (i := 95) rfl))
set_option maxRecDepth 100000 in
theorem wl_50 : (Cond.methodLink RL 83 yX12_converter) ∈ lw_big := List.mem_append_right _ (tb_8 _ (List.mem_of_getElem? (i := 14) rfl))
set_option maxRecDepth 100000 in
theorem wl_51 : (Cond.instanceMethod yX12_converter) ∈ lw_big := List.mem_append_right _ (tb_8 _ (List.mem_of_getElem? (i := 15) rfl))
set_option maxRecDepth 100000 in
theorem wl_52 : (Cond.selects RX12 yX12_converter yX12_converter) ∈ lw_big := List.mem_append_right _ (tb_8 _ (List.mem_of_getElem? (i := 16) rfl))
set_option maxRecDepth 100000 in
theorem wl_53 : (Cond.code yX12_converter cX12_converter 6 (some .boolean)) ∈ lw_big := List.mem_append_right _ (tb_8 _ (List.mem_of_getElem? (i := 17) rfl))
set_option maxRecDepth 100000 in
theorem wl_54 : (Cond.methodLink RL 84 yL_run) ∈ lw_big := List.mem_append_right _ (tb_5 _ (List.mem_of_getElem? (i := 109) rfl))
set_option maxRecDepth 100000 in
theorem wl_55 : (Cond.static yL_run) ∈ lw_big := List.mem_append_right _ (tb_5 _ (List.mem_of_getElem? (i := 110) rfl))
set_option maxRecDepth 100000 in
theorem wl_56 : (Cond.codeWith yL_run cL_run 5 (some .int) [(0, 10, 13, 13)]) ∈ lw_big := List.mem_append_right _ (tb_5 _ (List.mem_of_getElem? (i := 111) rfl))
set_option maxRecDepth 100000 in
theorem wl_57 : (Cond.methodLink RL 87 yX12_run) ∈ lw_big := List.mem_append_right _ (tb_8 _ (List.mem_of_getElem? (i := 18) rfl))
set_option maxRecDepth 100000 in
theorem wl_58 : (Cond.instanceMethod yX12_run) ∈ lw_big := List.mem_append_right _ (tb_8 _ (List.mem_of_getElem? (i := 19) rfl))
set_option maxRecDepth 100000 in
theorem wl_59 : (Cond.selects RX12 yX12_run yX12_run) ∈ lw_big := List.mem_append_right _ (tb_8 _ (List.mem_of_getElem? (i := 20) rfl))
set_option maxRecDepth 100000 in
theorem wl_60 : (Cond.code yX12_run cX12_run 7 (some .int)) ∈ lw_big := List.mem_append_right _ (tb_8 _ (List.mem_of_getElem? (i := 21) rfl))
set_option maxRecDepth 100000 in
theorem wl_61 : (Cond.methodLink RL 88 yL_keep) ∈ lw_big := List.mem_append_right _ (tb_6 _ (List.mem_of_getElem? (i := 112) rfl))
set_option maxRecDepth 100000 in
theorem wl_62 : (Cond.static yL_keep) ∈ lw_big := List.mem_append_right _ (tb_6 _ (List.mem_of_getElem? (i := 113) rfl))
set_option maxRecDepth 100000 in
theorem wl_63 : (Cond.codeWith yL_keep cL_keep 4 (some .int) [(0, 9, 12, 13), (0, 9, 15, 15)]) ∈ lw_big := List.mem_append_right _ (tb_6 _ (List.mem_of_getElem? (i := 114) rfl))
set_option maxRecDepth 100000 in
theorem wl_64 : (Cond.methodLink RL 90 yX12_keep) ∈ lw_big := List.mem_append_right _ (tb_8 _ (List.mem_of_getElem? (i := 211) rfl))
set_option maxRecDepth 100000 in
theorem wl_65 : (Cond.instanceMethod yX12_keep) ∈ lw_big := List.mem_append_right _ (tb_8 _ (List.mem_of_getElem? (i := 212) rfl))
set_option maxRecDepth 100000 in
theorem wl_66 : (Cond.selects RX12 yX12_keep yX12_keep) ∈ lw_big := List.mem_append_right _ (tb_8 _ (List.mem_of_getElem? (i := 213) rfl))
set_option maxRecDepth 100000 in
theorem wl_67 : (Cond.code yX12_keep cX12_keep 3 (some .int)) ∈ lw_big := List.mem_append_right _ (tb_8 _ (List.mem_of_getElem? (i := 214) rfl))
set_option maxRecDepth 100000 in
theorem wl_68 : (Cond.methodLink RL 91 yX11_result) ∈ lw_big := List.mem_append_right _ (tb_2 _ (List.mem_of_getElem? (i := 36) rfl))
set_option maxRecDepth 100000 in
theorem wl_69 : (Cond.instanceMethod yX11_result) ∈ lw_big := List.mem_append_right _ (tb_2 _ (List.mem_of_getElem? (i := 37) rfl))
set_option maxRecDepth 100000 in
theorem wl_70 : (Cond.selects RX11 yX11_result yX11_result) ∈ lw_big := List.mem_append_right _ (tb_2 _ (List.mem_of_getElem? (i := 38) rfl))
set_option maxRecDepth 100000 in
theorem wl_71 : (Cond.code yX11_result cX11_result 2 (some .int)) ∈ lw_big := List.mem_append_right _ (tb_2 _ (List.mem_of_getElem? (i := 39) rfl))
set_option maxRecDepth 100000 in
theorem wl_72 : (Cond.methodLink RL 94 yX12_result) ∈ lw_big := List.mem_append_right _ (tb_8 _ (List.mem_of_getElem? (i := 219) rfl))
set_option maxRecDepth 100000 in
theorem wl_73 : (Cond.instanceMethod yX12_result) ∈ lw_big := List.mem_append_right _ (tb_8 _ (List.mem_of_getElem? (i := 220) rfl))
set_option maxRecDepth 100000 in
theorem wl_74 : (Cond.selects RX12 yX12_result yX12_result) ∈ lw_big := List.mem_append_right _ (tb_8 _ (List.mem_of_getElem? (i := 221) rfl))
set_option maxRecDepth 100000 in
theorem wl_75 : (Cond.code yX12_result cX12_result 3 (some .int)) ∈ lw_big := List.mem_append_right _ (tb_8 _ (List.mem_of_getElem? (i := 222) rfl))
set_option maxRecDepth 100000 in
theorem wl_76 : (Cond.methodLink RL 95 yX11_text) ∈ lw_big := List.mem_append_right _ (tb_2 _ (List.mem_of_getElem? (i := 41) rfl))
set_option maxRecDepth 100000 in
theorem wl_77 : (Cond.instanceMethod yX11_text) ∈ lw_big := List.mem_append_right _ (tb_2 _ (List.mem_of_getElem? (i := 42) rfl))
set_option maxRecDepth 100000 in
theorem wl_78 : (Cond.selects RX11 yX11_text yX11_text) ∈ lw_big := List.mem_append_right _ (tb_2 _ (List.mem_of_getElem? (i := 43) rfl))
set_option maxRecDepth 100000 in
theorem wl_79 : (Cond.code yX11_text cX11_text 2 (some .int)) ∈ lw_big := List.mem_append_right _ (tb_2 _ (List.mem_of_getElem? (i := 44) rfl))
set_option maxRecDepth 100000 in
theorem wl_80 : (Cond.methodLink RL 98 yX12_text) ∈ lw_big := List.mem_append_right _ (tb_8 _ (List.mem_of_getElem? (i := 223) rfl))
set_option maxRecDepth 100000 in
theorem wl_81 : (Cond.instanceMethod yX12_text) ∈ lw_big := List.mem_append_right _ (tb_8 _ (List.mem_of_getElem? (i := 224) rfl))
set_option maxRecDepth 100000 in
theorem wl_82 : (Cond.selects RX12 yX12_text yX12_text) ∈ lw_big := List.mem_append_right _ (tb_8 _ (List.mem_of_getElem? (i := 225) rfl))
set_option maxRecDepth 100000 in
theorem wl_83 : (Cond.code yX12_text cX12_text 2 (some .int)) ∈ lw_big := List.mem_append_right _ (tb_8 _ (List.mem_of_getElem? (i := 226) rfl))
set_option maxRecDepth 100000 in
theorem wl_84 : (Cond.methodLink RL 99 yL_put) ∈ lw_big := List.mem_append_right _ (tb_6 _ (List.mem_of_getElem? (i := 122) rfl))
set_option maxRecDepth 100000 in
theorem wl_85 : (Cond.static yL_put) ∈ lw_big := List.mem_append_right _ (tb_6 _ (List.mem_of_getElem? (i := 123) rfl))
set_option maxRecDepth 100000 in
theorem wl_86 : (Cond.codeWith yL_put cL_put 5 (some .int) [(0, 10, 13, 13)]) ∈ lw_big := List.mem_append_right _ (tb_6 _ (List.mem_of_getElem? (i := 124) rfl))
set_option maxRecDepth 100000 in
theorem wl_87 : (Cond.methodLink RL 101 yX12_put) ∈ lw_big := List.mem_append_right _ (tb_8 _ (List.mem_of_getElem? (i := 215) rfl))
set_option maxRecDepth 100000 in
theorem wl_88 : (Cond.instanceMethod yX12_put) ∈ lw_big := List.mem_append_right _ (tb_8 _ (List.mem_of_getElem? (i := 216) rfl))
set_option maxRecDepth 100000 in
theorem wl_89 : (Cond.selects RX12 yX12_put yX12_put) ∈ lw_big := List.mem_append_right _ (tb_8 _ (List.mem_of_getElem? (i := 217) rfl))
set_option maxRecDepth 100000 in
theorem wl_90 : (Cond.code yX12_put cX12_put 4 (some .int)) ∈ lw_big := List.mem_append_right _ (tb_8 _ (List.mem_of_getElem? (i := 218) rfl))
set_option maxRecDepth 100000 in
theorem wl_91 : (Cond.methodLink RL 102 yX11_about) ∈ lw_big := List.mem_append_right _ (tb_2 _ (List.mem_of_getElem? (i := 92) rfl))
set_option maxRecDepth 100000 in
theorem wl_92 : (Cond.instanceMethod yX11_about) ∈ lw_big := List.mem_append_right _ (tb_2 _ (List.mem_of_getElem? (i := 93) rfl))
set_option maxRecDepth 100000 in
theorem wl_93 : (Cond.selects RX11 yX11_about yX11_about) ∈ lw_big := List.mem_append_right _ (tb_2 _ (List.mem_of_getElem? (i := 94) rfl))
set_option maxRecDepth 100000 in
theorem wl_94 : (Cond.code yX11_about cX11_about 2 (some .int)) ∈ lw_big := List.mem_append_right _ (tb_2 _ (List.mem_of_getElem? (i := 95) rfl))
set_option maxRecDepth 100000 in
theorem wl_95 : (Cond.methodLink RL 105 yX12_about) ∈ lw_big := List.mem_append_right _ (tb_8 _ (List.mem_of_getElem? (i := 227) rfl))
set_option maxRecDepth 100000 in
theorem wl_96 : (Cond.instanceMethod yX12_about) ∈ lw_big := List.mem_append_right _ (tb_8 _ (List.mem_of_getElem? (i := 228) rfl))
set_option maxRecDepth 100000 in
theorem wl_97 : (Cond.selects RX12 yX12_about yX12_about) ∈ lw_big := List.mem_append_right _ (tb_8 _ (List.mem_of_getElem? (i := 229) rfl))
set_option maxRecDepth 100000 in
theorem wl_98 : (Cond.code yX12_about cX12_about 2 (some .int)) ∈ lw_big := List.mem_append_right _ (tb_8 _ (List.mem_of_getElem? (i := 230) rfl))
theorem GWcT_b : ∀ w ∈ GWcT, w ∈ lw_big := by
  unfold GWcT
  intro w h
  rcases List.mem_append.mp h with h | h
  · exact List.mem_append_right _ (iT_X0 w h)
  rcases List.mem_append.mp h with h | h
  · exact List.mem_append_right _ (iT_X1 w h)
  rcases List.mem_append.mp h with h | h
  · exact List.mem_append_right _ (iT_X2 w h)
  rcases List.mem_append.mp h with h | h
  · exact List.mem_append_right _ (iT_X3 w h)
  rcases List.mem_append.mp h with h | h
  · exact List.mem_append_right _ (iT_X4 w h)
  rcases List.mem_append.mp h with h | h
  · exact List.mem_append_right _ (iT_X5 w h)
  rcases List.mem_append.mp h with h | h
  · exact List.mem_append_right _ (iT_X6 w h)
  rcases List.mem_append.mp h with h | h
  · exact List.mem_append_right _ (iT_X7 w h)
  rcases List.mem_append.mp h with h | h
  · exact List.mem_append_right _ (iT_X8 w h)
  rcases List.mem_append.mp h with h | h
  · exact List.mem_append_right _ (iT_X9 w h)
  rcases List.mem_append.mp h with h | h
  · exact List.mem_append_right _ (iT_X10 w h)
  rcases List.mem_append.mp h with h | h
  · exact List.mem_append_right _ (iT_X11 w h)
  rcases List.mem_append.mp h with h | h
  · exact List.mem_append_right _ (iT_J0 w h)
  exact List.mem_append_right _ (iT_J4 w h)
theorem GWcX_b : ∀ w ∈ GWcX, w ∈ lw_big := by
  unfold GWcX
  intro w h
  rcases List.mem_append.mp h with h | h
  · exact List.mem_append_right _ (iT_VX w h)
  exact List.mem_append_right _ (iT_VS w h)
theorem GWc_b : ∀ w ∈ GWc, w ∈ lw_big := by
  unfold GWc
  intro w h
  rcases List.mem_append.mp h with h | h
  · exact GWc0_b w h
  rcases List.mem_append.mp h with h | h
  · exact GWc1_b w h
  rcases List.mem_append.mp h with h | h
  · exact GWc2_b w h
  rcases List.mem_append.mp h with h | h
  · exact GWc3_b w h
  rcases List.mem_append.mp h with h | h
  · exact GWc4_b w h
  rcases List.mem_append.mp h with h | h
  · exact GWc5_b w h
  rcases List.mem_append.mp h with h | h
  · exact GWc6_b w h
  rcases List.mem_append.mp h with h | h
  · exact GWc7_b w h
  rcases List.mem_append.mp h with h | h
  · exact GWc8_b w h
  rcases List.mem_append.mp h with h | h
  · exact GWc9_b w h
  rcases List.mem_append.mp h with h | h
  · exact GWc10_b w h
  rcases List.mem_append.mp h with h | h
  · exact GWc11_b w h
  rcases List.mem_append.mp h with h | h
  · exact GWc12_b w h
  rcases List.mem_append.mp h with h | h
  · exact GWc13_b w h
  rcases List.mem_append.mp h with h | h
  · exact GWc14_b w h
  rcases List.mem_append.mp h with h | h
  · exact GWc15_b w h
  rcases List.mem_append.mp h with h | h
  · exact GWc16_b w h
  rcases List.mem_append.mp h with h | h
  · exact GWc17_b w h
  rcases List.mem_append.mp h with h | h
  · exact GWc18_b w h
  rcases List.mem_append.mp h with h | h
  · exact GWc19_b w h
  rcases List.mem_append.mp h with h | h
  · exact GWc20_b w h
  rcases List.mem_append.mp h with h | h
  · exact GWc21_b w h
  rcases List.mem_append.mp h with h | h
  · exact GWc22_b w h
  rcases List.mem_append.mp h with h | h
  · exact GWc23_b w h
  rcases List.mem_append.mp h with h | h
  · exact GWc24_b w h
  rcases List.mem_append.mp h with h | h
  · exact GWcT_b w h
  exact GWcX_b w h
theorem GWm_b : ∀ w ∈ GWm, w ∈ lw_big := by
  unfold GWm
  intro w h
  rcases List.mem_append.mp h with h | h
  · exact GWm0_b w h
  rcases List.mem_append.mp h with h | h
  · exact GWm1_b w h
  rcases List.mem_append.mp h with h | h
  · exact GWm2_b w h
  rcases List.mem_append.mp h with h | h
  · exact GWm3_b w h
  rcases List.mem_append.mp h with h | h
  · exact GWm4_b w h
  rcases List.mem_append.mp h with h | h
  · exact GWm5_b w h
  rcases List.mem_append.mp h with h | h
  · exact GWm6_b w h
  rcases List.mem_append.mp h with h | h
  · exact GWm7_b w h
  rcases List.mem_append.mp h with h | h
  · exact GWm8_b w h
  rcases List.mem_append.mp h with h | h
  · exact GWm9_b w h
  rcases List.mem_append.mp h with h | h
  · exact GWm10_b w h
  exact List.mem_append_right _ (iT_X12 w h)
theorem GWl_b : GoodIn lw_big GWl := fun w h => by
  unfold GWl at h
  rcases List.mem_append.mp h with h | h
  · exact ⟨GWL_b w h, good_of_word (GWL_ok w h)⟩
  exact ⟨GWc_b w h, good_of_word (GWc_ok w h)⟩
theorem lb_S {idx n : Nat} {y : MethodName} {b : ByteArray} {r : Option FieldType} {hh : List (Nat × Nat × Nat × Nat)} (h1 : Cond.methodLink RL idx y ∈ lw_big) (h2 : Cond.static y ∈ lw_big) (h3 : Cond.initialized y.cls ∈ lw_big) (h4 : Cond.codeWith y b n r hh ∈ lw_big) : GoodIn lw_big (va_wsS RL idx y (Cond.codeWith y b n r hh :: GWl)) := fun w hw => by
  unfold va_wsS at hw
  rcases List.mem_append.mp hw with hw | hw
  · simp only [List.mem_cons, List.not_mem_nil, or_false] at hw
    rcases hw with rfl | rfl | rfl
    · exact ⟨h1, good_of_word rfl⟩
    · exact ⟨h2, good_of_word rfl⟩
    · exact ⟨h3, good_of_word rfl⟩
  rcases List.mem_cons.mp hw with rfl | hw
  · exact ⟨h4, good_of_word rfl⟩
  · exact GWl_b w hw
theorem lb_C {idx n : Nat} {y : MethodName} {b : ByteArray} {r : Option FieldType} (h1 : Cond.methodLink RL idx y ∈ lw_big) (h2 : Cond.instanceMethod y ∈ lw_big) (h3 : Cond.selects RX11 y y ∈ lw_big) (h4 : Cond.code y b n r ∈ lw_big) : GoodIn lw_big (wsV RL idx RX11 y (Cond.code y b n r :: GWc)) := fun w hw => by
  unfold wsV at hw
  rcases List.mem_append.mp hw with hw | hw
  · simp only [List.mem_cons, List.not_mem_nil, or_false] at hw
    rcases hw with rfl | rfl | rfl | rfl
    · exact ⟨h1, good_of_word rfl⟩
    · exact ⟨h2, good_of_word rfl⟩
    · exact ⟨h3, good_of_word rfl⟩
    · exact ⟨GWL_b _ (List.mem_of_getElem? (i := 0) rfl), good_of_word rfl⟩
  rcases List.mem_cons.mp hw with rfl | hw
  · exact ⟨h4, good_of_word rfl⟩
  · exact ⟨GWc_b w hw, good_of_word (GWc_ok w hw)⟩
theorem lb_R {idx n : Nat} {y : MethodName} {b : ByteArray} {r : Option FieldType} (h1 : Cond.methodLink RL idx y ∈ lw_big) (h2 : Cond.instanceMethod y ∈ lw_big) (h3 : Cond.selects RX12 y y ∈ lw_big) (h4 : Cond.code y b n r ∈ lw_big) : GoodIn lw_big (wsV RL idx RX12 y (Cond.code y b n r :: GWm)) := fun w hw => by
  unfold wsV at hw
  rcases List.mem_append.mp hw with hw | hw
  · simp only [List.mem_cons, List.not_mem_nil, or_false] at hw
    rcases hw with rfl | rfl | rfl | rfl
    · exact ⟨h1, good_of_word rfl⟩
    · exact ⟨h2, good_of_word rfl⟩
    · exact ⟨h3, good_of_word rfl⟩
    · exact ⟨GWm_b _ (by unfold GWm; exact List.mem_append_left _ (List.mem_of_getElem? (i := 10) rfl)), good_of_word rfl⟩
  rcases List.mem_cons.mp hw with rfl | hw
  · exact ⟨h4, good_of_word rfl⟩
  · exact ⟨GWm_b w hw, good_of_word (GWm_ok w hw)⟩
theorem sin_ok {i j : Int32} {L : Nat} (hi : 0 ≤ i.toInt ∧ i.toInt + 7 ≤ (L : Int) ∧ L ≤ 3584) (hj : 0 ≤ j.toInt ∧ j.toInt ≤ 6) : vp_in (i + j) L := by
  have e : (i + j).toInt = i.toInt + j.toInt := z_add (by omega) (by omega)
  exact vp_in_iff.mpr ⟨by omega, by omega⟩
