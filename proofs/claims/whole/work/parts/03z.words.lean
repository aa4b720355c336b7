def wsAll : List Cond := lw_tbl.filter goodWord
theorem aw_0 {w : Cond} (h : w ∈ k2_sels lw_privs) (g : goodWord w = true) : w ∈ wsAll := List.mem_filter.mpr ⟨List.mem_append_left _ h, g⟩
theorem aw_1 {w : Cond} (h : w ∈ tables_1_1) (g : goodWord w = true) : w ∈ wsAll := List.mem_filter.mpr ⟨List.mem_append_right _ (List.mem_append_left _ h), g⟩
theorem aw_2 {w : Cond} (h : w ∈ tables_1_2) (g : goodWord w = true) : w ∈ wsAll := List.mem_filter.mpr ⟨List.mem_append_right _ (List.mem_append_right _ (List.mem_append_left _ h)), g⟩
theorem aw_3 {w : Cond} (h : w ∈ tables_1_3) (g : goodWord w = true) : w ∈ wsAll := List.mem_filter.mpr ⟨List.mem_append_right _ (List.mem_append_right _ (List.mem_append_right _ (List.mem_append_left _ h))), g⟩
theorem aw_4 {w : Cond} (h : w ∈ tables_1_4) (g : goodWord w = true) : w ∈ wsAll := List.mem_filter.mpr ⟨List.mem_append_right _ (List.mem_append_right _ (List.mem_append_right _ (List.mem_append_right _ h))), g⟩
theorem wsAll_tbl : ∀ w ∈ wsAll, w ∈ lw_tbl := fun w h => (List.mem_filter.mp h).1
theorem wsAll_good : GoodIn wsAll wsAll := fun w h => ⟨h, good_of_word (List.mem_filter.mp h).2⟩
/-- the words of a method: its own code, then all -/
def aW (y : MethodName) (cc : ByteArray) (n : Nat) (r : Option FieldType) : List Cond := .code y cc n r :: wsAll
theorem aW_in {y : MethodName} {cc : ByteArray} {n : Nat} {r : Option FieldType} {args : Array Value} {s : State} (h : ∀ w ∈ aW y cc n r, w.before args s = true) : ∀ w ∈ wsAll, w.before args s = true := fun w hw => h w (List.mem_cons_of_mem _ hw)
theorem aW_good {y : MethodName} {cc : ByteArray} {n : Nat} {r : Option FieldType} (h : Cond.code y cc n r ∈ wsAll) : GoodIn wsAll (aW y cc n r) := fun w hw => by
  rcases List.mem_cons.mp hw with rfl | hw
  · exact wsAll_good _ h
  · exact wsAll_good w hw
theorem gV {own C : String} {idx : Nat} {y : MethodName} {cc : ByteArray} {n : Nat} {r : Option FieldType} (h1 : Cond.methodLink own idx y ∈ wsAll) (h2 : Cond.instanceMethod y ∈ wsAll) (h3 : Cond.selects C y y ∈ wsAll) (h4 : Cond.initialized C ∈ wsAll) (h5 : Cond.code y cc n r ∈ wsAll) : GoodIn wsAll (wsV own idx C y (aW y cc n r)) := by
  intro w hw
  unfold wsV at hw
  rcases List.mem_append.mp hw with hw | hw
  · refine wsAll_good w ?_
    simp only [List.mem_cons, List.not_mem_nil, or_false] at hw
    rcases hw with rfl | rfl | rfl | rfl
    · exact h1
    · exact h2
    · exact h3
    · exact h4
  · exact aW_good h5 w hw
theorem gS {own : String} {idx : Nat} {y : MethodName} {cc : ByteArray} {n : Nat} {r : Option FieldType} (h1 : Cond.methodLink own idx y ∈ wsAll) (h2 : Cond.static y ∈ wsAll) (h4 : Cond.initialized y.cls ∈ wsAll) (h5 : Cond.code y cc n r ∈ wsAll) : GoodIn wsAll (va_wsS own idx y (aW y cc n r)) := by
  intro w hw
  unfold va_wsS at hw
  rcases List.mem_append.mp hw with hw | hw
  · refine wsAll_good w ?_
    simp only [List.mem_cons, List.not_mem_nil, or_false] at hw
    rcases hw with rfl | rfl | rfl
    · exact h1
    · exact h2
    · exact h4
  · exact aW_good h5 w hw
theorem kn_RL : Cond.initialized RL ∈ wsAll := aw_1 (List.mem_of_getElem? (i := 0) rfl) rfl
theorem kn_RX6 : Cond.initialized RX6 ∈ wsAll := aw_1 (List.mem_of_getElem? (i := 1) rfl) rfl
theorem kn_RX1 : Cond.initialized RX1 ∈ wsAll := aw_1 (List.mem_of_getElem? (i := 2) rfl) rfl
theorem kn_RX5 : Cond.initialized RX5 ∈ wsAll := aw_1 (List.mem_of_getElem? (i := 3) rfl) rfl
theorem kn_RX0 : Cond.initialized RX0 ∈ wsAll := aw_1 (List.mem_of_getElem? (i := 4) rfl) rfl
theorem kn_RX2 : Cond.initialized RX2 ∈ wsAll := aw_1 (List.mem_of_getElem? (i := 5) rfl) rfl
theorem kn_RX3 : Cond.initialized RX3 ∈ wsAll := aw_1 (List.mem_of_getElem? (i := 6) rfl) rfl
theorem kn_RX4 : Cond.initialized RX4 ∈ wsAll := aw_1 (List.mem_of_getElem? (i := 7) rfl) rfl
theorem kn_RX7 : Cond.initialized RX7 ∈ wsAll := aw_1 (List.mem_of_getElem? (i := 8) rfl) rfl
theorem kn_RJ6 : Cond.initialized RJ6 ∈ wsAll := aw_1 (List.mem_of_getElem? (i := 9) rfl) rfl
theorem kn_RJ9 : Cond.initialized RJ9 ∈ wsAll := aw_1 (List.mem_of_getElem? (i := 10) rfl) rfl
theorem kx_RL_7 : Cond.classLink RL 7 RX6 ∈ wsAll := aw_1 (List.mem_of_getElem? (i := 11) rfl) rfl
theorem kz_RX6 : Cond.instantiable RX6 10 ∈ wsAll := aw_1 (List.mem_of_getElem? (i := 12) rfl) rfl
theorem km_RL_9 : Cond.methodLink RL 9 yX6_init ∈ wsAll := aw_1 (List.mem_of_getElem? (i := 13) rfl) rfl
theorem ki_yX6_init : Cond.instanceMethod yX6_init ∈ wsAll := aw_1 (List.mem_of_getElem? (i := 14) rfl) rfl
theorem kc_yX6_init : Cond.code yX6_init cX6_init 1 none ∈ wsAll := aw_1 (List.mem_of_getElem? (i := 15) rfl) rfl
theorem km_RX6_5 : Cond.methodLink RX6 5 objectInit ∈ wsAll := aw_1 (List.mem_of_getElem? (i := 16) rfl) rfl
theorem ki_objectInit : Cond.instanceMethod objectInit ∈ wsAll := aw_1 (List.mem_of_getElem? (i := 17) rfl) rfl
theorem kc_objectInit : Cond.code objectInit ⟨#[0xb1]⟩ 1 none ∈ wsAll := aw_1 (List.mem_of_getElem? (i := 18) rfl) rfl
theorem kx_RX6_11 : Cond.classLink RX6 11 RX1 ∈ wsAll := aw_1 (List.mem_of_getElem? (i := 19) rfl) rfl
theorem kz_RX1 : Cond.instantiable RX1 6 ∈ wsAll := aw_1 (List.mem_of_getElem? (i := 20) rfl) rfl
theorem km_RX6_13 : Cond.methodLink RX6 13 yX1_init ∈ wsAll := aw_1 (List.mem_of_getElem? (i := 21) rfl) rfl
theorem ki_yX1_init : Cond.instanceMethod yX1_init ∈ wsAll := aw_1 (List.mem_of_getElem? (i := 22) rfl) rfl
theorem kc_yX1_init : Cond.code yX1_init cX1_init 2 none ∈ wsAll := aw_1 (List.mem_of_getElem? (i := 23) rfl) rfl
theorem km_RX1_3 : Cond.methodLink RX1 3 objectInit ∈ wsAll := aw_1 (List.mem_of_getElem? (i := 24) rfl) rfl
theorem kf_RX1_9 : Cond.fieldLink RX1 9 "FewestCauses$Knowledge" "oddsFor" "[I" ∈ wsAll := aw_1 (List.mem_of_getElem? (i := 25) rfl) rfl
theorem kf_RX6_68 : Cond.fieldLink RX6 68 "FewestCauses$Knowledge" "oddsFor" "[I" ∈ wsAll := aw_1 (List.mem_of_getElem? (i := 26) rfl) rfl
theorem kf_RX2_72 : Cond.fieldLink RX2 72 "FewestCauses$Knowledge" "oddsFor" "[I" ∈ wsAll := aw_1 (List.mem_of_getElem? (i := 27) rfl) rfl
theorem kf_RX1_15 : Cond.fieldLink RX1 15 "FewestCauses$Knowledge" "oddsAgainst" "[I" ∈ wsAll := aw_1 (List.mem_of_getElem? (i := 28) rfl) rfl
theorem kf_RX6_72 : Cond.fieldLink RX6 72 "FewestCauses$Knowledge" "oddsAgainst" "[I" ∈ wsAll := aw_1 (List.mem_of_getElem? (i := 29) rfl) rfl
theorem kf_RX2_66 : Cond.fieldLink RX2 66 "FewestCauses$Knowledge" "oddsAgainst" "[I" ∈ wsAll := aw_1 (List.mem_of_getElem? (i := 30) rfl) rfl
theorem kf_RX1_18 : Cond.fieldLink RX1 18 "FewestCauses$Knowledge" "linkedFindings" "[I" ∈ wsAll := aw_1 (List.mem_of_getElem? (i := 31) rfl) rfl
theorem kf_RX2_55 : Cond.fieldLink RX2 55 "FewestCauses$Knowledge" "linkedFindings" "[I" ∈ wsAll := aw_1 (List.mem_of_getElem? (i := 32) rfl) rfl
theorem kf_RX6_89 : Cond.fieldLink RX6 89 "FewestCauses$Knowledge" "linkedFindings" "[I" ∈ wsAll := aw_1 (List.mem_of_getElem? (i := 33) rfl) rfl
theorem kf_RX1_21 : Cond.fieldLink RX1 21 "FewestCauses$Knowledge" "mustFindings" "[I" ∈ wsAll := aw_1 (List.mem_of_getElem? (i := 34) rfl) rfl
theorem kf_RX6_92 : Cond.fieldLink RX6 92 "FewestCauses$Knowledge" "mustFindings" "[I" ∈ wsAll := aw_1 (List.mem_of_getElem? (i := 35) rfl) rfl
theorem kf_RX1_24 : Cond.fieldLink RX1 24 "FewestCauses$Knowledge" "linkedCauses" "[I" ∈ wsAll := aw_1 (List.mem_of_getElem? (i := 36) rfl) rfl
theorem kf_RX6_117 : Cond.fieldLink RX6 117 "FewestCauses$Knowledge" "linkedCauses" "[I" ∈ wsAll := aw_1 (List.mem_of_getElem? (i := 37) rfl) rfl
theorem kf_RX1_27 : Cond.fieldLink RX1 27 "FewestCauses$Knowledge" "mustCauses" "[I" ∈ wsAll := aw_1 (List.mem_of_getElem? (i := 38) rfl) rfl
theorem kf_RX6_120 : Cond.fieldLink RX6 120 "FewestCauses$Knowledge" "mustCauses" "[I" ∈ wsAll := aw_1 (List.mem_of_getElem? (i := 39) rfl) rfl
theorem kY_RX1_oddsFor : Cond.laysFinal RX1 RX1 "oddsFor" "[I" ∈ wsAll := aw_1 (List.mem_of_getElem? (i := 40) rfl) rfl
theorem kY_RX1_oddsAgainst : Cond.laysFinal RX1 RX1 "oddsAgainst" "[I" ∈ wsAll := aw_1 (List.mem_of_getElem? (i := 42) rfl) rfl
theorem kY_RX1_linkedFindings : Cond.laysFinal RX1 RX1 "linkedFindings" "[I" ∈ wsAll := aw_1 (List.mem_of_getElem? (i := 44) rfl) rfl
theorem kY_RX1_mustFindings : Cond.laysFinal RX1 RX1 "mustFindings" "[I" ∈ wsAll := aw_1 (List.mem_of_getElem? (i := 46) rfl) rfl
theorem kY_RX1_linkedCauses : Cond.laysFinal RX1 RX1 "linkedCauses" "[I" ∈ wsAll := aw_1 (List.mem_of_getElem? (i := 48) rfl) rfl
theorem kY_RX1_mustCauses : Cond.laysFinal RX1 RX1 "mustCauses" "[I" ∈ wsAll := aw_1 (List.mem_of_getElem? (i := 50) rfl) rfl
theorem ka_int : Cond.arrayClass .int ∈ wsAll := aw_1 (List.mem_of_getElem? (i := 53) rfl) rfl
theorem kx_RX6_18 : Cond.classLink RX6 18 RX5 ∈ wsAll := aw_1 (List.mem_of_getElem? (i := 54) rfl) rfl
theorem kz_RX5 : Cond.instantiable RX5 2 ∈ wsAll := aw_1 (List.mem_of_getElem? (i := 55) rfl) rfl
theorem ki_yX5_init : Cond.instanceMethod yX5_init ∈ wsAll := aw_1 (List.mem_of_getElem? (i := 57) rfl) rfl
theorem kc_yX5_init : Cond.code yX5_init cX5_init 1 none ∈ wsAll := aw_1 (List.mem_of_getElem? (i := 58) rfl) rfl
theorem km_RX5_3 : Cond.methodLink RX5 3 objectInit ∈ wsAll := aw_1 (List.mem_of_getElem? (i := 59) rfl) rfl
theorem kf_RX5_9 : Cond.fieldLink RX5 9 "FewestCauses$Told" "there" "I" ∈ wsAll := aw_1 (List.mem_of_getElem? (i := 60) rfl) rfl
theorem kf_RX2_31 : Cond.fieldLink RX2 31 "FewestCauses$Told" "there" "I" ∈ wsAll := aw_1 (List.mem_of_getElem? (i := 61) rfl) rfl
theorem kf_RX6_137 : Cond.fieldLink RX6 137 "FewestCauses$Told" "there" "I" ∈ wsAll := aw_1 (List.mem_of_getElem? (i := 62) rfl) rfl
theorem kf_RX5_19 : Cond.fieldLink RX5 19 "FewestCauses$Told" "absent" "I" ∈ wsAll := aw_1 (List.mem_of_getElem? (i := 63) rfl) rfl
theorem kf_RX2_39 : Cond.fieldLink RX2 39 "FewestCauses$Told" "absent" "I" ∈ wsAll := aw_1 (List.mem_of_getElem? (i := 64) rfl) rfl
theorem kf_RX6_95 : Cond.fieldLink RX6 95 "FewestCauses$Told" "absent" "I" ∈ wsAll := aw_1 (List.mem_of_getElem? (i := 65) rfl) rfl
theorem kY_RX5_there : Cond.lays RX5 RX5 "there" "I" ∈ wsAll := aw_1 (List.mem_of_getElem? (i := 66) rfl) rfl
theorem kY_RX5_absent : Cond.lays RX5 RX5 "absent" "I" ∈ wsAll := aw_1 (List.mem_of_getElem? (i := 68) rfl) rfl
theorem kx_RX6_25 : Cond.classLink RX6 25 RX0 ∈ wsAll := aw_1 (List.mem_of_getElem? (i := 71) rfl) rfl
theorem kz_RX0 : Cond.instantiable RX0 3 ∈ wsAll := aw_1 (List.mem_of_getElem? (i := 72) rfl) rfl
theorem ki_yX0_init : Cond.instanceMethod yX0_init ∈ wsAll := aw_1 (List.mem_of_getElem? (i := 74) rfl) rfl
theorem kc_yX0_init : Cond.code yX0_init cX0_init 1 none ∈ wsAll := aw_1 (List.mem_of_getElem? (i := 75) rfl) rfl
theorem km_RX0_3 : Cond.methodLink RX0 3 objectInit ∈ wsAll := aw_1 (List.mem_of_getElem? (i := 76) rfl) rfl
theorem kf_RX0_9 : Cond.fieldLink RX0 9 "FewestCauses$History" "finding" "[I" ∈ wsAll := aw_1 (List.mem_of_getElem? (i := 77) rfl) rfl
theorem kf_RX0_15 : Cond.fieldLink RX0 15 "FewestCauses$History" "stateBefore" "[I" ∈ wsAll := aw_1 (List.mem_of_getElem? (i := 78) rfl) rfl
theorem kf_RX0_18 : Cond.fieldLink RX0 18 "FewestCauses$History" "size" "I" ∈ wsAll := aw_1 (List.mem_of_getElem? (i := 79) rfl) rfl
theorem kf_RX6_129 : Cond.fieldLink RX6 129 "FewestCauses$History" "size" "I" ∈ wsAll := aw_1 (List.mem_of_getElem? (i := 80) rfl) rfl
theorem kY_RX0_finding : Cond.laysFinal RX0 RX0 "finding" "[I" ∈ wsAll := aw_1 (List.mem_of_getElem? (i := 81) rfl) rfl
theorem kY_RX0_stateBefore : Cond.laysFinal RX0 RX0 "stateBefore" "[I" ∈ wsAll := aw_1 (List.mem_of_getElem? (i := 83) rfl) rfl
theorem kY_RX0_size : Cond.lays RX0 RX0 "size" "I" ∈ wsAll := aw_1 (List.mem_of_getElem? (i := 85) rfl) rfl
theorem kx_RX6_32 : Cond.classLink RX6 32 RX2 ∈ wsAll := aw_1 (List.mem_of_getElem? (i := 88) rfl) rfl
theorem kz_RX2 : Cond.instantiable RX2 7 ∈ wsAll := aw_1 (List.mem_of_getElem? (i := 89) rfl) rfl
theorem km_RX6_34 : Cond.methodLink RX6 34 yX2_init ∈ wsAll := aw_1 (List.mem_of_getElem? (i := 90) rfl) rfl
theorem ki_yX2_init : Cond.instanceMethod yX2_init ∈ wsAll := aw_1 (List.mem_of_getElem? (i := 91) rfl) rfl
theorem kc_yX2_init : Cond.code yX2_init cX2_init 2 none ∈ wsAll := aw_1 (List.mem_of_getElem? (i := 92) rfl) rfl
theorem km_RX2_5 : Cond.methodLink RX2 5 objectInit ∈ wsAll := aw_1 (List.mem_of_getElem? (i := 93) rfl) rfl
theorem kf_RX2_19 : Cond.fieldLink RX2 19 "FewestCauses$Listing" "knowledge" "LFewestCauses$Knowledge;" ∈ wsAll := aw_1 (List.mem_of_getElem? (i := 94) rfl) rfl
theorem kf_RX2_11 : Cond.fieldLink RX2 11 "FewestCauses$Listing" "keys" "[J" ∈ wsAll := aw_1 (List.mem_of_getElem? (i := 95) rfl) rfl
theorem kf_RX2_23 : Cond.fieldLink RX2 23 "FewestCauses$Listing" "size" "I" ∈ wsAll := aw_1 (List.mem_of_getElem? (i := 96) rfl) rfl
theorem kf_RX3_21 : Cond.fieldLink RX3 21 "FewestCauses$Listing" "size" "I" ∈ wsAll := aw_1 (List.mem_of_getElem? (i := 97) rfl) rfl
theorem kf_RX6_136 : Cond.fieldLink RX6 136 "FewestCauses$Listing" "size" "I" ∈ wsAll := aw_1 (List.mem_of_getElem? (i := 98) rfl) rfl
theorem kf_RX2_27 : Cond.fieldLink RX2 27 "FewestCauses$Listing" "total" "J" ∈ wsAll := aw_1 (List.mem_of_getElem? (i := 99) rfl) rfl
theorem kf_RX6_160 : Cond.fieldLink RX6 160 "FewestCauses$Listing" "total" "J" ∈ wsAll := aw_1 (List.mem_of_getElem? (i := 100) rfl) rfl
theorem kf_RX2_15 : Cond.fieldLink RX2 15 "FewestCauses$Listing" "reach" "[I" ∈ wsAll := aw_1 (List.mem_of_getElem? (i := 101) rfl) rfl
theorem kf_RX2_36 : Cond.fieldLink RX2 36 "FewestCauses$Listing" "toExplain" "I" ∈ wsAll := aw_1 (List.mem_of_getElem? (i := 102) rfl) rfl
theorem kf_RX2_48 : Cond.fieldLink RX2 48 "FewestCauses$Listing" "excluded" "I" ∈ wsAll := aw_1 (List.mem_of_getElem? (i := 103) rfl) rfl
theorem kY_RX2_knowledge : Cond.laysFinal RX2 RX2 "knowledge" "LFewestCauses$Knowledge;" ∈ wsAll := aw_1 (List.mem_of_getElem? (i := 104) rfl) rfl
theorem kY_RX2_keys : Cond.laysFinal RX2 RX2 "keys" "[J" ∈ wsAll := aw_1 (List.mem_of_getElem? (i := 106) rfl) rfl
theorem kY_RX2_size : Cond.lays RX2 RX2 "size" "I" ∈ wsAll := aw_1 (List.mem_of_getElem? (i := 108) rfl) rfl
theorem kY_RX2_total : Cond.lays RX2 RX2 "total" "J" ∈ wsAll := aw_1 (List.mem_of_getElem? (i := 110) rfl) rfl
theorem kY_RX2_reach : Cond.laysFinal RX2 RX2 "reach" "[I" ∈ wsAll := aw_1 (List.mem_of_getElem? (i := 112) rfl) rfl
theorem kY_RX2_toExplain : Cond.lays RX2 RX2 "toExplain" "I" ∈ wsAll := aw_1 (List.mem_of_getElem? (i := 114) rfl) rfl
theorem kY_RX2_excluded : Cond.lays RX2 RX2 "excluded" "I" ∈ wsAll := aw_1 (List.mem_of_getElem? (i := 116) rfl) rfl
theorem ka_long : Cond.arrayClass .long ∈ wsAll := aw_1 (List.mem_of_getElem? (i := 119) rfl) rfl
theorem kx_RX6_47 : Cond.classLink RX6 47 RX3 ∈ wsAll := aw_1 (List.mem_of_getElem? (i := 120) rfl) rfl
theorem kz_RX3 : Cond.instantiable RX3 3 ∈ wsAll := aw_1 (List.mem_of_getElem? (i := 121) rfl) rfl
theorem ki_yX3_init : Cond.instanceMethod yX3_init ∈ wsAll := aw_1 (List.mem_of_getElem? (i := 123) rfl) rfl
theorem kc_yX3_init : Cond.code yX3_init cX3_init 1 none ∈ wsAll := aw_1 (List.mem_of_getElem? (i := 124) rfl) rfl
theorem km_RX3_3 : Cond.methodLink RX3 3 objectInit ∈ wsAll := aw_1 (List.mem_of_getElem? (i := 125) rfl) rfl
theorem kf_RX3_9 : Cond.fieldLink RX3 9 "FewestCauses$Split" "there" "J" ∈ wsAll := aw_1 (List.mem_of_getElem? (i := 126) rfl) rfl
theorem kf_RX6_201 : Cond.fieldLink RX6 201 "FewestCauses$Split" "there" "J" ∈ wsAll := aw_1 (List.mem_of_getElem? (i := 127) rfl) rfl
theorem kf_RX3_15 : Cond.fieldLink RX3 15 "FewestCauses$Split" "absent" "J" ∈ wsAll := aw_1 (List.mem_of_getElem? (i := 128) rfl) rfl
theorem kf_RX6_203 : Cond.fieldLink RX6 203 "FewestCauses$Split" "absent" "J" ∈ wsAll := aw_1 (List.mem_of_getElem? (i := 129) rfl) rfl
theorem kf_RX3_18 : Cond.fieldLink RX3 18 "FewestCauses$Split" "open" "J" ∈ wsAll := aw_1 (List.mem_of_getElem? (i := 130) rfl) rfl
theorem kf_RX6_205 : Cond.fieldLink RX6 205 "FewestCauses$Split" "open" "J" ∈ wsAll := aw_1 (List.mem_of_getElem? (i := 131) rfl) rfl
theorem kY_RX3_there : Cond.lays RX3 RX3 "there" "J" ∈ wsAll := aw_1 (List.mem_of_getElem? (i := 132) rfl) rfl
theorem kY_RX3_absent : Cond.lays RX3 RX3 "absent" "J" ∈ wsAll := aw_1 (List.mem_of_getElem? (i := 134) rfl) rfl
theorem kY_RX3_open : Cond.lays RX3 RX3 "open" "J" ∈ wsAll := aw_1 (List.mem_of_getElem? (i := 136) rfl) rfl
theorem kx_RX6_54 : Cond.classLink RX6 54 RX4 ∈ wsAll := aw_1 (List.mem_of_getElem? (i := 139) rfl) rfl
theorem kz_RX4 : Cond.instantiable RX4 4 ∈ wsAll := aw_1 (List.mem_of_getElem? (i := 140) rfl) rfl
theorem ki_yX4_init : Cond.instanceMethod yX4_init ∈ wsAll := aw_1 (List.mem_of_getElem? (i := 142) rfl) rfl
theorem kc_yX4_init : Cond.code yX4_init cX4_init 1 none ∈ wsAll := aw_1 (List.mem_of_getElem? (i := 143) rfl) rfl
theorem km_RX4_3 : Cond.methodLink RX4 3 objectInit ∈ wsAll := aw_1 (List.mem_of_getElem? (i := 144) rfl) rfl
theorem kf_RX4_9 : Cond.fieldLink RX4 9 "FewestCauses$Steps" "finding" "[I" ∈ wsAll := aw_1 (List.mem_of_getElem? (i := 145) rfl) rfl
theorem kf_RX6_230 : Cond.fieldLink RX6 230 "FewestCauses$Steps" "finding" "[I" ∈ wsAll := aw_1 (List.mem_of_getElem? (i := 146) rfl) rfl
theorem kf_RX4_15 : Cond.fieldLink RX4 15 "FewestCauses$Steps" "takenAs" "[I" ∈ wsAll := aw_1 (List.mem_of_getElem? (i := 147) rfl) rfl
theorem kf_RX6_233 : Cond.fieldLink RX6 233 "FewestCauses$Steps" "takenAs" "[I" ∈ wsAll := aw_1 (List.mem_of_getElem? (i := 148) rfl) rfl
theorem kf_RX4_18 : Cond.fieldLink RX4 18 "FewestCauses$Steps" "explanationsLeft" "[I" ∈ wsAll := aw_1 (List.mem_of_getElem? (i := 149) rfl) rfl
theorem kf_RX6_236 : Cond.fieldLink RX6 236 "FewestCauses$Steps" "explanationsLeft" "[I" ∈ wsAll := aw_1 (List.mem_of_getElem? (i := 150) rfl) rfl
theorem kf_RX4_21 : Cond.fieldLink RX4 21 "FewestCauses$Steps" "size" "I" ∈ wsAll := aw_1 (List.mem_of_getElem? (i := 151) rfl) rfl
theorem kf_RX6_229 : Cond.fieldLink RX6 229 "FewestCauses$Steps" "size" "I" ∈ wsAll := aw_1 (List.mem_of_getElem? (i := 152) rfl) rfl
theorem kY_RX4_finding : Cond.laysFinal RX4 RX4 "finding" "[I" ∈ wsAll := aw_1 (List.mem_of_getElem? (i := 153) rfl) rfl
theorem kY_RX4_takenAs : Cond.laysFinal RX4 RX4 "takenAs" "[I" ∈ wsAll := aw_1 (List.mem_of_getElem? (i := 155) rfl) rfl
theorem kY_RX4_explanationsLeft : Cond.laysFinal RX4 RX4 "explanationsLeft" "[I" ∈ wsAll := aw_1 (List.mem_of_getElem? (i := 157) rfl) rfl
theorem kY_RX4_size : Cond.lays RX4 RX4 "size" "I" ∈ wsAll := aw_1 (List.mem_of_getElem? (i := 159) rfl) rfl
theorem kf_RX6_14 : Cond.fieldLink RX6 14 "FewestCauses" "knowledge" "LFewestCauses$Knowledge;" ∈ wsAll := aw_1 (List.mem_of_getElem? (i := 162) rfl) rfl
theorem kf_RX6_21 : Cond.fieldLink RX6 21 "FewestCauses" "told" "LFewestCauses$Told;" ∈ wsAll := aw_1 (List.mem_of_getElem? (i := 163) rfl) rfl
theorem kf_RX6_28 : Cond.fieldLink RX6 28 "FewestCauses" "history" "LFewestCauses$History;" ∈ wsAll := aw_1 (List.mem_of_getElem? (i := 164) rfl) rfl
theorem kf_RX6_37 : Cond.fieldLink RX6 37 "FewestCauses" "listing" "LFewestCauses$Listing;" ∈ wsAll := aw_1 (List.mem_of_getElem? (i := 165) rfl) rfl
theorem kf_RX6_242 : Cond.fieldLink RX6 242 "FewestCauses" "listed" "Z" ∈ wsAll := aw_1 (List.mem_of_getElem? (i := 166) rfl) rfl
theorem kf_RX6_41 : Cond.fieldLink RX6 41 "FewestCauses" "toldOnPaper" "LFewestCauses$Told;" ∈ wsAll := aw_1 (List.mem_of_getElem? (i := 167) rfl) rfl
theorem kf_RX6_44 : Cond.fieldLink RX6 44 "FewestCauses" "listingOnPaper" "LFewestCauses$Listing;" ∈ wsAll := aw_1 (List.mem_of_getElem? (i := 168) rfl) rfl
theorem kf_RX6_50 : Cond.fieldLink RX6 50 "FewestCauses" "parts" "LFewestCauses$Split;" ∈ wsAll := aw_1 (List.mem_of_getElem? (i := 169) rfl) rfl
theorem kf_RX6_57 : Cond.fieldLink RX6 57 "FewestCauses" "steps" "LFewestCauses$Steps;" ∈ wsAll := aw_1 (List.mem_of_getElem? (i := 170) rfl) rfl
theorem kf_RX6_246 : Cond.fieldLink RX6 246 "FewestCauses" "planned" "Z" ∈ wsAll := aw_1 (List.mem_of_getElem? (i := 171) rfl) rfl
theorem kY_RX6_knowledge : Cond.laysFinal RX6 RX6 "knowledge" "LFewestCauses$Knowledge;" ∈ wsAll := aw_1 (List.mem_of_getElem? (i := 172) rfl) rfl
theorem kY_RX6_told : Cond.laysFinal RX6 RX6 "told" "LFewestCauses$Told;" ∈ wsAll := aw_1 (List.mem_of_getElem? (i := 174) rfl) rfl
theorem kY_RX6_history : Cond.laysFinal RX6 RX6 "history" "LFewestCauses$History;" ∈ wsAll := aw_1 (List.mem_of_getElem? (i := 176) rfl) rfl
theorem kY_RX6_listing : Cond.laysFinal RX6 RX6 "listing" "LFewestCauses$Listing;" ∈ wsAll := aw_1 (List.mem_of_getElem? (i := 178) rfl) rfl
theorem kY_RX6_listed : Cond.lays RX6 RX6 "listed" "Z" ∈ wsAll := aw_1 (List.mem_of_getElem? (i := 180) rfl) rfl
theorem kY_RX6_toldOnPaper : Cond.laysFinal RX6 RX6 "toldOnPaper" "LFewestCauses$Told;" ∈ wsAll := aw_1 (List.mem_of_getElem? (i := 182) rfl) rfl
theorem kY_RX6_listingOnPaper : Cond.laysFinal RX6 RX6 "listingOnPaper" "LFewestCauses$Listing;" ∈ wsAll := aw_1 (List.mem_of_getElem? (i := 184) rfl) rfl
theorem kY_RX6_parts : Cond.laysFinal RX6 RX6 "parts" "LFewestCauses$Split;" ∈ wsAll := aw_1 (List.mem_of_getElem? (i := 186) rfl) rfl
theorem kY_RX6_steps : Cond.laysFinal RX6 RX6 "steps" "LFewestCauses$Steps;" ∈ wsAll := aw_1 (List.mem_of_getElem? (i := 188) rfl) rfl
theorem kY_RX6_planned : Cond.lays RX6 RX6 "planned" "Z" ∈ wsAll := aw_1 (List.mem_of_getElem? (i := 190) rfl) rfl
theorem km_RL_13 : Cond.methodLink RL 13 yX6_cause ∈ wsAll := aw_1 (List.mem_of_getElem? (i := 193) rfl) rfl
theorem ki_yX6_cause : Cond.instanceMethod yX6_cause ∈ wsAll := aw_1 (List.mem_of_getElem? (i := 194) rfl) rfl
theorem kl_yX6_cause : Cond.selects RX6 yX6_cause yX6_cause ∈ wsAll := aw_1 (List.mem_of_getElem? (i := 195) rfl) rfl
theorem kc_yX6_cause : Cond.code yX6_cause cX6_cause 4 (some .int) ∈ wsAll := aw_1 (List.mem_of_getElem? (i := 196) rfl) rfl
theorem km_RX6_61 : Cond.methodLink RX6 61 yX6_isCause ∈ wsAll := aw_1 (List.mem_of_getElem? (i := 197) rfl) rfl
theorem ks_yX6_isCause : Cond.static yX6_isCause ∈ wsAll := aw_1 (List.mem_of_getElem? (i := 198) rfl) rfl
theorem kc_yX6_isCause : Cond.code yX6_isCause cX6_isCause 1 (some .boolean) ∈ wsAll := aw_1 (List.mem_of_getElem? (i := 199) rfl) rfl
theorem km_RX6_65 : Cond.methodLink RX6 65 yX6_areOdds ∈ wsAll := aw_1 (List.mem_of_getElem? (i := 200) rfl) rfl
theorem ks_yX6_areOdds : Cond.static yX6_areOdds ∈ wsAll := aw_1 (List.mem_of_getElem? (i := 201) rfl) rfl
theorem kc_yX6_areOdds : Cond.code yX6_areOdds cX6_areOdds 1 (some .boolean) ∈ wsAll := aw_1 (List.mem_of_getElem? (i := 202) rfl) rfl
theorem km_RX6_75 : Cond.methodLink RX6 75 yX6_forgetWhatFollowed ∈ wsAll := aw_1 (List.mem_of_getElem? (i := 203) rfl) rfl
theorem ki_yX6_forgetWhatFollowed : Cond.instanceMethod yX6_forgetWhatFollowed ∈ wsAll := aw_1 (List.mem_of_getElem? (i := 205) rfl) rfl
theorem kc_yX6_forgetWhatFollowed : Cond.code yX6_forgetWhatFollowed cX6_forgetWhatFollowed 1 none ∈ wsAll := aw_1 (List.mem_of_getElem? (i := 206) rfl) rfl
theorem km_RL_18 : Cond.methodLink RL 18 yX6_link ∈ wsAll := aw_1 (List.mem_of_getElem? (i := 207) rfl) rfl
theorem ki_yX6_link : Cond.instanceMethod yX6_link ∈ wsAll := aw_1 (List.mem_of_getElem? (i := 208) rfl) rfl
theorem kl_yX6_link : Cond.selects RX6 yX6_link yX6_link ∈ wsAll := aw_1 (List.mem_of_getElem? (i := 209) rfl) rfl
theorem kc_yX6_link : Cond.code yX6_link cX6_link 5 (some .int) ∈ wsAll := aw_1 (List.mem_of_getElem? (i := 210) rfl) rfl
theorem km_RX6_78 : Cond.methodLink RX6 78 yX6_isFinding ∈ wsAll := aw_1 (List.mem_of_getElem? (i := 211) rfl) rfl
theorem ks_yX6_isFinding : Cond.static yX6_isFinding ∈ wsAll := aw_1 (List.mem_of_getElem? (i := 212) rfl) rfl
theorem kc_yX6_isFinding : Cond.code yX6_isFinding cX6_isFinding 1 (some .boolean) ∈ wsAll := aw_1 (List.mem_of_getElem? (i := 213) rfl) rfl
theorem km_RX6_81 : Cond.methodLink RX6 81 yX1_linkBetween ∈ wsAll := aw_1 (List.mem_of_getElem? (i := 214) rfl) rfl
theorem ki_yX1_linkBetween : Cond.instanceMethod yX1_linkBetween ∈ wsAll := aw_1 (List.mem_of_getElem? (i := 215) rfl) rfl
theorem kl_yX1_linkBetween : Cond.selects RX1 yX1_linkBetween yX1_linkBetween ∈ wsAll := aw_1 (List.mem_of_getElem? (i := 216) rfl) rfl
theorem kc_yX1_linkBetween : Cond.code yX1_linkBetween cX1_linkBetween 3 (some .int) ∈ wsAll := aw_1 (List.mem_of_getElem? (i := 217) rfl) rfl
theorem ks_yX6_has : Cond.static yX6_has ∈ wsAll := aw_1 (List.mem_of_getElem? (i := 219) rfl) rfl
theorem kc_yX6_has : Cond.code yX6_has cX6_has 2 (some .boolean) ∈ wsAll := aw_1 (List.mem_of_getElem? (i := 220) rfl) rfl
theorem km_RX6_85 : Cond.methodLink RX6 85 yX1_putLink ∈ wsAll := aw_1 (List.mem_of_getElem? (i := 221) rfl) rfl
theorem ki_yX1_putLink : Cond.instanceMethod yX1_putLink ∈ wsAll := aw_1 (List.mem_of_getElem? (i := 222) rfl) rfl
theorem kl_yX1_putLink : Cond.selects RX1 yX1_putLink yX1_putLink ∈ wsAll := aw_1 (List.mem_of_getElem? (i := 223) rfl) rfl
theorem kc_yX1_putLink : Cond.code yX1_putLink cX1_putLink 4 none ∈ wsAll := aw_1 (List.mem_of_getElem? (i := 224) rfl) rfl
theorem km_RX1_34 : Cond.methodLink RX1 34 yX1_with ∈ wsAll := aw_1 (List.mem_of_getElem? (i := 225) rfl) rfl
theorem ks_yX1_with : Cond.static yX1_with ∈ wsAll := aw_1 (List.mem_of_getElem? (i := 226) rfl) rfl
theorem kc_yX1_with : Cond.code yX1_with cX1_with 3 (some .int) ∈ wsAll := aw_1 (List.mem_of_getElem? (i := 227) rfl) rfl
theorem km_RL_22 : Cond.methodLink RL 22 yX6_ofCause ∈ wsAll := aw_1 (List.mem_of_getElem? (i := 228) rfl) rfl
theorem ki_yX6_ofCause : Cond.instanceMethod yX6_ofCause ∈ wsAll := aw_1 (List.mem_of_getElem? (i := 229) rfl) rfl
theorem kl_yX6_ofCause : Cond.selects RX6 yX6_ofCause yX6_ofCause ∈ wsAll := aw_1 (List.mem_of_getElem? (i := 230) rfl) rfl
theorem kc_yX6_ofCause : Cond.code yX6_ofCause cX6_ofCause 3 (some .int) ∈ wsAll := aw_1 (List.mem_of_getElem? (i := 231) rfl) rfl
theorem km_RX6_99 : Cond.methodLink RX6 99 yX1_excludedBy ∈ wsAll := aw_1 (List.mem_of_getElem? (i := 232) rfl) rfl
theorem ki_yX1_excludedBy : Cond.instanceMethod yX1_excludedBy ∈ wsAll := aw_1 (List.mem_of_getElem? (i := 233) rfl) rfl
theorem kl_yX1_excludedBy : Cond.selects RX1 yX1_excludedBy yX1_excludedBy ∈ wsAll := aw_1 (List.mem_of_getElem? (i := 234) rfl) rfl
theorem kc_yX1_excludedBy : Cond.code yX1_excludedBy cX1_excludedBy 4 (some .int) ∈ wsAll := aw_1 (List.mem_of_getElem? (i := 235) rfl) rfl
theorem km_RX6_103 : Cond.methodLink RX6 103 yX6_has ∈ wsAll := aw_1 (List.mem_of_getElem? (i := 236) rfl) rfl
theorem km_RX6_107 : Cond.methodLink RX6 107 yX6_upToDate ∈ wsAll := aw_1 (List.mem_of_getElem? (i := 237) rfl) rfl
theorem ki_yX6_upToDate : Cond.instanceMethod yX6_upToDate ∈ wsAll := aw_1 (List.mem_of_getElem? (i := 239) rfl) rfl
theorem kc_yX6_upToDate : Cond.code yX6_upToDate cX6_upToDate 1 (some (.object "FewestCauses$Listing")) ∈ wsAll := aw_2 (List.mem_of_getElem? (i := 0) rfl) rfl
theorem km_RX6_223 : Cond.methodLink RX6 223 yX2_list ∈ wsAll := aw_2 (List.mem_of_getElem? (i := 1) rfl) rfl
theorem ki_yX2_list : Cond.instanceMethod yX2_list ∈ wsAll := aw_2 (List.mem_of_getElem? (i := 2) rfl) rfl
theorem kl_yX2_list : Cond.selects RX2 yX2_list yX2_list ∈ wsAll := aw_2 (List.mem_of_getElem? (i := 3) rfl) rfl
theorem kc_yX2_list : Cond.code yX2_list cX2_list 4 none ∈ wsAll := aw_2 (List.mem_of_getElem? (i := 4) rfl) rfl
theorem km_RX2_42 : Cond.methodLink RX2 42 yX1_excludedBy ∈ wsAll := aw_2 (List.mem_of_getElem? (i := 5) rfl) rfl
theorem km_RX2_58 : Cond.methodLink RX2 58 yX2_choose ∈ wsAll := aw_2 (List.mem_of_getElem? (i := 7) rfl) rfl
theorem ks_yX2_choose : Cond.static yX2_choose ∈ wsAll := aw_2 (List.mem_of_getElem? (i := 8) rfl) rfl
theorem kc_yX2_choose : Cond.code yX2_choose cX2_choose 11 none ∈ wsAll := aw_2 (List.mem_of_getElem? (i := 9) rfl) rfl
theorem km_RX2_62 : Cond.methodLink RX2 62 yX2_enter ∈ wsAll := aw_2 (List.mem_of_getElem? (i := 10) rfl) rfl
theorem ki_yX2_enter : Cond.instanceMethod yX2_enter ∈ wsAll := aw_2 (List.mem_of_getElem? (i := 12) rfl) rfl
theorem kc_yX2_enter : Cond.code yX2_enter cX2_enter 8 none ∈ wsAll := aw_2 (List.mem_of_getElem? (i := 13) rfl) rfl
theorem km_RX2_75 : Cond.methodLink RX2 75 yJ6_bitCount_0f7a4 ∈ wsAll := aw_2 (List.mem_of_getElem? (i := 14) rfl) rfl
theorem ks_yJ6_bitCount_0f7a4 : Cond.static yJ6_bitCount_0f7a4 ∈ wsAll := aw_2 (List.mem_of_getElem? (i := 15) rfl) rfl
theorem kc_yJ6_bitCount_0f7a4 : Cond.code yJ6_bitCount_0f7a4 cJ6_bitCount_0f7a4 1 (some .int) ∈ wsAll := aw_2 (List.mem_of_getElem? (i := 16) rfl) rfl
theorem kk_RJ6_265 : Cond.constant RJ6 265 (1431655765) ∈ wsAll := aw_2 (List.mem_of_getElem? (i := 17) rfl) rfl
theorem kk_RJ6_266 : Cond.constant RJ6 266 (858993459) ∈ wsAll := aw_2 (List.mem_of_getElem? (i := 18) rfl) rfl
theorem kk_RJ6_267 : Cond.constant RJ6 267 (252645135) ∈ wsAll := aw_2 (List.mem_of_getElem? (i := 19) rfl) rfl
theorem km_RX2_69 : Cond.methodLink RX2 69 yX2_allAreAloneForOne ∈ wsAll := aw_2 (List.mem_of_getElem? (i := 20) rfl) rfl
theorem ki_yX2_allAreAloneForOne : Cond.instanceMethod yX2_allAreAloneForOne ∈ wsAll := aw_2 (List.mem_of_getElem? (i := 22) rfl) rfl
theorem kc_yX2_allAreAloneForOne : Cond.code yX2_allAreAloneForOne cX2_allAreAloneForOne 4 (some .boolean) ∈ wsAll := aw_2 (List.mem_of_getElem? (i := 23) rfl) rfl
theorem km_RX6_249 : Cond.methodLink RX6 249 yX2_putInOrder ∈ wsAll := aw_2 (List.mem_of_getElem? (i := 24) rfl) rfl
theorem ki_yX2_putInOrder : Cond.instanceMethod yX2_putInOrder ∈ wsAll := aw_2 (List.mem_of_getElem? (i := 25) rfl) rfl
theorem kl_yX2_putInOrder : Cond.selects RX2 yX2_putInOrder yX2_putInOrder ∈ wsAll := aw_2 (List.mem_of_getElem? (i := 26) rfl) rfl
theorem kc_yX2_putInOrder : Cond.code yX2_putInOrder cX2_putInOrder 6 none ∈ wsAll := aw_2 (List.mem_of_getElem? (i := 27) rfl) rfl
theorem kf_RX2_80 : Cond.fieldLink RX2 80 "FewestCauses$Listing" "GAPS" "[I" ∈ wsAll := aw_2 (List.mem_of_getElem? (i := 28) rfl) rfl
theorem kY_static : Cond.laysStatic RX2 "GAPS" "[I" ∈ lw_tbl := List.mem_append_right _ (List.mem_append_right _ (List.mem_append_left _ (List.mem_of_getElem? (i := 29) rfl)))
theorem km_RX2_83 : Cond.methodLink RX2 83 yX2_bringForward ∈ wsAll := aw_2 (List.mem_of_getElem? (i := 30) rfl) rfl
theorem ki_yX2_bringForward : Cond.instanceMethod yX2_bringForward ∈ wsAll := aw_2 (List.mem_of_getElem? (i := 32) rfl) rfl
theorem kc_yX2_bringForward : Cond.code yX2_bringForward cX2_bringForward 6 none ∈ wsAll := aw_2 (List.mem_of_getElem? (i := 33) rfl) rfl
theorem km_RX6_111 : Cond.methodLink RX6 111 yX2_countWithCause ∈ wsAll := aw_2 (List.mem_of_getElem? (i := 34) rfl) rfl
theorem ki_yX2_countWithCause : Cond.instanceMethod yX2_countWithCause ∈ wsAll := aw_2 (List.mem_of_getElem? (i := 35) rfl) rfl
theorem kl_yX2_countWithCause : Cond.selects RX2 yX2_countWithCause yX2_countWithCause ∈ wsAll := aw_2 (List.mem_of_getElem? (i := 36) rfl) rfl
theorem kc_yX2_countWithCause : Cond.code yX2_countWithCause cX2_countWithCause 4 (some .int) ∈ wsAll := aw_2 (List.mem_of_getElem? (i := 37) rfl) rfl
theorem km_RX2_89 : Cond.methodLink RX2 89 yX2_setOf ∈ wsAll := aw_2 (List.mem_of_getElem? (i := 38) rfl) rfl
theorem ki_yX2_setOf : Cond.instanceMethod yX2_setOf ∈ wsAll := aw_2 (List.mem_of_getElem? (i := 39) rfl) rfl
theorem kl_yX2_setOf : Cond.selects RX2 yX2_setOf yX2_setOf ∈ wsAll := aw_2 (List.mem_of_getElem? (i := 40) rfl) rfl
theorem kc_yX2_setOf : Cond.code yX2_setOf cX2_setOf 2 (some .int) ∈ wsAll := aw_2 (List.mem_of_getElem? (i := 41) rfl) rfl
theorem kk_RX2_87 : Cond.constantLong RX2 87 (1023) ∈ wsAll := aw_2 (List.mem_of_getElem? (i := 42) rfl) rfl
theorem km_RL_27 : Cond.methodLink RL 27 yX6_ofFinding ∈ wsAll := aw_2 (List.mem_of_getElem? (i := 43) rfl) rfl
theorem ki_yX6_ofFinding : Cond.instanceMethod yX6_ofFinding ∈ wsAll := aw_2 (List.mem_of_getElem? (i := 44) rfl) rfl
theorem kl_yX6_ofFinding : Cond.selects RX6 yX6_ofFinding yX6_ofFinding ∈ wsAll := aw_2 (List.mem_of_getElem? (i := 45) rfl) rfl
theorem kc_yX6_ofFinding : Cond.code yX6_ofFinding cX6_ofFinding 3 (some .int) ∈ wsAll := aw_2 (List.mem_of_getElem? (i := 46) rfl) rfl
theorem km_RX6_114 : Cond.methodLink RX6 114 yX5_stateOf ∈ wsAll := aw_2 (List.mem_of_getElem? (i := 47) rfl) rfl
theorem ki_yX5_stateOf : Cond.instanceMethod yX5_stateOf ∈ wsAll := aw_2 (List.mem_of_getElem? (i := 48) rfl) rfl
theorem kl_yX5_stateOf : Cond.selects RX5 yX5_stateOf yX5_stateOf ∈ wsAll := aw_2 (List.mem_of_getElem? (i := 49) rfl) rfl
theorem kc_yX5_stateOf : Cond.code yX5_stateOf cX5_stateOf 2 (some .int) ∈ wsAll := aw_2 (List.mem_of_getElem? (i := 50) rfl) rfl
theorem km_RX6_123 : Cond.methodLink RX6 123 yX2_countForetelling ∈ wsAll := aw_2 (List.mem_of_getElem? (i := 52) rfl) rfl
theorem ki_yX2_countForetelling : Cond.instanceMethod yX2_countForetelling ∈ wsAll := aw_2 (List.mem_of_getElem? (i := 53) rfl) rfl
theorem kl_yX2_countForetelling : Cond.selects RX2 yX2_countForetelling yX2_countForetelling ∈ wsAll := aw_2 (List.mem_of_getElem? (i := 54) rfl) rfl
theorem kc_yX2_countForetelling : Cond.code yX2_countForetelling cX2_countForetelling 5 (some .int) ∈ wsAll := aw_2 (List.mem_of_getElem? (i := 55) rfl) rfl
theorem km_RX2_96 : Cond.methodLink RX2 96 yX2_foretoldBy ∈ wsAll := aw_2 (List.mem_of_getElem? (i := 56) rfl) rfl
theorem ki_yX2_foretoldBy : Cond.instanceMethod yX2_foretoldBy ∈ wsAll := aw_2 (List.mem_of_getElem? (i := 57) rfl) rfl
theorem kl_yX2_foretoldBy : Cond.selects RX2 yX2_foretoldBy yX2_foretoldBy ∈ wsAll := aw_2 (List.mem_of_getElem? (i := 58) rfl) rfl
theorem kc_yX2_foretoldBy : Cond.code yX2_foretoldBy cX2_foretoldBy 3 (some .int) ∈ wsAll := aw_2 (List.mem_of_getElem? (i := 59) rfl) rfl
theorem km_RX2_100 : Cond.methodLink RX2 100 yX1_foretold ∈ wsAll := aw_2 (List.mem_of_getElem? (i := 60) rfl) rfl
theorem ki_yX1_foretold : Cond.instanceMethod yX1_foretold ∈ wsAll := aw_2 (List.mem_of_getElem? (i := 61) rfl) rfl
theorem kl_yX1_foretold : Cond.selects RX1 yX1_foretold yX1_foretold ∈ wsAll := aw_2 (List.mem_of_getElem? (i := 62) rfl) rfl
theorem kc_yX1_foretold : Cond.code yX1_foretold cX1_foretold 3 (some .int) ∈ wsAll := aw_2 (List.mem_of_getElem? (i := 63) rfl) rfl
theorem km_RL_31 : Cond.methodLink RL 31 yX6_tell ∈ wsAll := aw_2 (List.mem_of_getElem? (i := 64) rfl) rfl
theorem ki_yX6_tell : Cond.instanceMethod yX6_tell ∈ wsAll := aw_2 (List.mem_of_getElem? (i := 65) rfl) rfl
theorem kl_yX6_tell : Cond.selects RX6 yX6_tell yX6_tell ∈ wsAll := aw_2 (List.mem_of_getElem? (i := 66) rfl) rfl
theorem kc_yX6_tell : Cond.code yX6_tell cX6_tell 3 (some .int) ∈ wsAll := aw_2 (List.mem_of_getElem? (i := 67) rfl) rfl
theorem km_RX6_126 : Cond.methodLink RX6 126 yX6_changeFinding ∈ wsAll := aw_2 (List.mem_of_getElem? (i := 68) rfl) rfl
theorem ki_yX6_changeFinding : Cond.instanceMethod yX6_changeFinding ∈ wsAll := aw_2 (List.mem_of_getElem? (i := 70) rfl) rfl
theorem kc_yX6_changeFinding : Cond.code yX6_changeFinding cX6_changeFinding 3 (some .int) ∈ wsAll := aw_2 (List.mem_of_getElem? (i := 71) rfl) rfl
theorem km_RX6_252 : Cond.methodLink RX6 252 yX0_remember ∈ wsAll := aw_2 (List.mem_of_getElem? (i := 72) rfl) rfl
theorem ki_yX0_remember : Cond.instanceMethod yX0_remember ∈ wsAll := aw_2 (List.mem_of_getElem? (i := 73) rfl) rfl
theorem kl_yX0_remember : Cond.selects RX0 yX0_remember yX0_remember ∈ wsAll := aw_2 (List.mem_of_getElem? (i := 74) rfl) rfl
theorem kc_yX0_remember : Cond.code yX0_remember cX0_remember 3 none ∈ wsAll := aw_2 (List.mem_of_getElem? (i := 75) rfl) rfl
theorem km_RX0_22 : Cond.methodLink RX0 22 yX0_dropOldest ∈ wsAll := aw_2 (List.mem_of_getElem? (i := 76) rfl) rfl
theorem ki_yX0_dropOldest : Cond.instanceMethod yX0_dropOldest ∈ wsAll := aw_2 (List.mem_of_getElem? (i := 78) rfl) rfl
theorem kc_yX0_dropOldest : Cond.code yX0_dropOldest cX0_dropOldest 2 none ∈ wsAll := aw_2 (List.mem_of_getElem? (i := 79) rfl) rfl
theorem km_RX6_219 : Cond.methodLink RX6 219 yX5_put ∈ wsAll := aw_2 (List.mem_of_getElem? (i := 80) rfl) rfl
theorem ki_yX5_put : Cond.instanceMethod yX5_put ∈ wsAll := aw_2 (List.mem_of_getElem? (i := 81) rfl) rfl
theorem kl_yX5_put : Cond.selects RX5 yX5_put yX5_put ∈ wsAll := aw_2 (List.mem_of_getElem? (i := 82) rfl) rfl
theorem kc_yX5_put : Cond.code yX5_put cX5_put 4 none ∈ wsAll := aw_2 (List.mem_of_getElem? (i := 83) rfl) rfl
theorem km_RL_35 : Cond.methodLink RL 35 yX6_withdraw ∈ wsAll := aw_2 (List.mem_of_getElem? (i := 84) rfl) rfl
theorem ki_yX6_withdraw : Cond.instanceMethod yX6_withdraw ∈ wsAll := aw_2 (List.mem_of_getElem? (i := 85) rfl) rfl
theorem kl_yX6_withdraw : Cond.selects RX6 yX6_withdraw yX6_withdraw ∈ wsAll := aw_2 (List.mem_of_getElem? (i := 86) rfl) rfl
theorem kc_yX6_withdraw : Cond.code yX6_withdraw cX6_withdraw 2 (some .int) ∈ wsAll := aw_2 (List.mem_of_getElem? (i := 87) rfl) rfl
theorem km_RL_40 : Cond.methodLink RL 40 yX6_back ∈ wsAll := aw_2 (List.mem_of_getElem? (i := 88) rfl) rfl
theorem ki_yX6_back : Cond.instanceMethod yX6_back ∈ wsAll := aw_2 (List.mem_of_getElem? (i := 89) rfl) rfl
theorem kl_yX6_back : Cond.selects RX6 yX6_back yX6_back ∈ wsAll := aw_2 (List.mem_of_getElem? (i := 90) rfl) rfl
theorem kc_yX6_back : Cond.code yX6_back cX6_back 1 (some .int) ∈ wsAll := aw_2 (List.mem_of_getElem? (i := 91) rfl) rfl
theorem km_RX6_132 : Cond.methodLink RX6 132 yX0_takeBackLast ∈ wsAll := aw_2 (List.mem_of_getElem? (i := 92) rfl) rfl
theorem ki_yX0_takeBackLast : Cond.instanceMethod yX0_takeBackLast ∈ wsAll := aw_2 (List.mem_of_getElem? (i := 93) rfl) rfl
theorem kl_yX0_takeBackLast : Cond.selects RX0 yX0_takeBackLast yX0_takeBackLast ∈ wsAll := aw_2 (List.mem_of_getElem? (i := 94) rfl) rfl
theorem kc_yX0_takeBackLast : Cond.code yX0_takeBackLast cX0_takeBackLast 2 none ∈ wsAll := aw_2 (List.mem_of_getElem? (i := 95) rfl) rfl
theorem km_RX0_25 : Cond.methodLink RX0 25 yX5_put ∈ wsAll := aw_2 (List.mem_of_getElem? (i := 96) rfl) rfl
theorem km_RL_45 : Cond.methodLink RL 45 yX6_anew ∈ wsAll := aw_2 (List.mem_of_getElem? (i := 97) rfl) rfl
theorem ki_yX6_anew : Cond.instanceMethod yX6_anew ∈ wsAll := aw_2 (List.mem_of_getElem? (i := 98) rfl) rfl
theorem kl_yX6_anew : Cond.selects RX6 yX6_anew yX6_anew ∈ wsAll := aw_2 (List.mem_of_getElem? (i := 99) rfl) rfl
theorem kc_yX6_anew : Cond.code yX6_anew cX6_anew 2 (some .int) ∈ wsAll := aw_2 (List.mem_of_getElem? (i := 100) rfl) rfl
theorem km_RX6_140 : Cond.methodLink RX6 140 yJ6_bitCount_0f7a4 ∈ wsAll := aw_2 (List.mem_of_getElem? (i := 101) rfl) rfl
theorem km_RL_49 : Cond.methodLink RL 49 yX6_explanation ∈ wsAll := aw_2 (List.mem_of_getElem? (i := 102) rfl) rfl
theorem ki_yX6_explanation : Cond.instanceMethod yX6_explanation ∈ wsAll := aw_2 (List.mem_of_getElem? (i := 103) rfl) rfl
theorem kl_yX6_explanation : Cond.selects RX6 yX6_explanation yX6_explanation ∈ wsAll := aw_2 (List.mem_of_getElem? (i := 104) rfl) rfl
theorem kc_yX6_explanation : Cond.code yX6_explanation cX6_explanation 5 (some .int) ∈ wsAll := aw_2 (List.mem_of_getElem? (i := 105) rfl) rfl
theorem km_RX6_145 : Cond.methodLink RX6 145 yX2_isNumber ∈ wsAll := aw_2 (List.mem_of_getElem? (i := 106) rfl) rfl
theorem ki_yX2_isNumber : Cond.instanceMethod yX2_isNumber ∈ wsAll := aw_2 (List.mem_of_getElem? (i := 107) rfl) rfl
theorem kl_yX2_isNumber : Cond.selects RX2 yX2_isNumber yX2_isNumber ∈ wsAll := aw_2 (List.mem_of_getElem? (i := 108) rfl) rfl
theorem kc_yX2_isNumber : Cond.code yX2_isNumber cX2_isNumber 2 (some .boolean) ∈ wsAll := aw_2 (List.mem_of_getElem? (i := 109) rfl) rfl
theorem km_RX6_148 : Cond.methodLink RX6 148 yX2_setOf ∈ wsAll := aw_2 (List.mem_of_getElem? (i := 110) rfl) rfl
theorem km_RL_53 : Cond.methodLink RL 53 yX6_weight ∈ wsAll := aw_2 (List.mem_of_getElem? (i := 111) rfl) rfl
theorem ki_yX6_weight : Cond.instanceMethod yX6_weight ∈ wsAll := aw_2 (List.mem_of_getElem? (i := 112) rfl) rfl
theorem kl_yX6_weight : Cond.selects RX6 yX6_weight yX6_weight ∈ wsAll := aw_2 (List.mem_of_getElem? (i := 113) rfl) rfl
theorem kc_yX6_weight : Cond.code yX6_weight cX6_weight 3 (some .long) ∈ wsAll := aw_2 (List.mem_of_getElem? (i := 114) rfl) rfl
theorem km_RX6_151 : Cond.methodLink RX6 151 yX2_weightOf ∈ wsAll := aw_2 (List.mem_of_getElem? (i := 115) rfl) rfl
theorem ki_yX2_weightOf : Cond.instanceMethod yX2_weightOf ∈ wsAll := aw_2 (List.mem_of_getElem? (i := 116) rfl) rfl
theorem kl_yX2_weightOf : Cond.selects RX2 yX2_weightOf yX2_weightOf ∈ wsAll := aw_2 (List.mem_of_getElem? (i := 117) rfl) rfl
theorem kc_yX2_weightOf : Cond.code yX2_weightOf cX2_weightOf 2 (some .long) ∈ wsAll := aw_2 (List.mem_of_getElem? (i := 118) rfl) rfl
theorem kk_RX6_155 : Cond.constantLong RX6 155 (-9223372036854775808) ∈ wsAll := aw_2 (List.mem_of_getElem? (i := 119) rfl) rfl
theorem km_RL_58 : Cond.methodLink RL 58 yX6_share ∈ wsAll := aw_2 (List.mem_of_getElem? (i := 120) rfl) rfl
theorem ki_yX6_share : Cond.instanceMethod yX6_share ∈ wsAll := aw_2 (List.mem_of_getElem? (i := 121) rfl) rfl
theorem kl_yX6_share : Cond.selects RX6 yX6_share yX6_share ∈ wsAll := aw_2 (List.mem_of_getElem? (i := 122) rfl) rfl
theorem kc_yX6_share : Cond.code yX6_share cX6_share 4 (some .long) ∈ wsAll := aw_2 (List.mem_of_getElem? (i := 123) rfl) rfl
theorem km_RX6_157 : Cond.methodLink RX6 157 yX6_isUpperOrLower ∈ wsAll := aw_2 (List.mem_of_getElem? (i := 124) rfl) rfl
theorem ks_yX6_isUpperOrLower : Cond.static yX6_isUpperOrLower ∈ wsAll := aw_2 (List.mem_of_getElem? (i := 125) rfl) rfl
theorem kc_yX6_isUpperOrLower : Cond.code yX6_isUpperOrLower cX6_isUpperOrLower 1 (some .boolean) ∈ wsAll := aw_2 (List.mem_of_getElem? (i := 126) rfl) rfl
theorem km_RX6_164 : Cond.methodLink RX6 164 yX6_inLeastTerms ∈ wsAll := aw_2 (List.mem_of_getElem? (i := 127) rfl) rfl
theorem ks_yX6_inLeastTerms : Cond.static yX6_inLeastTerms ∈ wsAll := aw_2 (List.mem_of_getElem? (i := 128) rfl) rfl
theorem kc_yX6_inLeastTerms : Cond.code yX6_inLeastTerms cX6_inLeastTerms 9 (some .long) ∈ wsAll := aw_2 (List.mem_of_getElem? (i := 129) rfl) rfl
theorem km_RX6_264 : Cond.methodLink RX6 264 yX6_greatestDivisor ∈ wsAll := aw_2 (List.mem_of_getElem? (i := 130) rfl) rfl
theorem ks_yX6_greatestDivisor : Cond.static yX6_greatestDivisor ∈ wsAll := aw_2 (List.mem_of_getElem? (i := 131) rfl) rfl
theorem kc_yX6_greatestDivisor : Cond.code yX6_greatestDivisor cX6_greatestDivisor 11 (some .long) ∈ wsAll := aw_2 (List.mem_of_getElem? (i := 132) rfl) rfl
theorem km_RL_63 : Cond.methodLink RL 63 yX6_needs ∈ wsAll := aw_2 (List.mem_of_getElem? (i := 133) rfl) rfl
theorem ki_yX6_needs : Cond.instanceMethod yX6_needs ∈ wsAll := aw_2 (List.mem_of_getElem? (i := 134) rfl) rfl
theorem kl_yX6_needs : Cond.selects RX6 yX6_needs yX6_needs ∈ wsAll := aw_2 (List.mem_of_getElem? (i := 135) rfl) rfl
theorem kc_yX6_needs : Cond.code yX6_needs cX6_needs 5 (some .int) ∈ wsAll := aw_2 (List.mem_of_getElem? (i := 136) rfl) rfl
theorem km_RX6_168 : Cond.methodLink RX6 168 yX1_neededFor ∈ wsAll := aw_2 (List.mem_of_getElem? (i := 137) rfl) rfl
theorem ki_yX1_neededFor : Cond.instanceMethod yX1_neededFor ∈ wsAll := aw_2 (List.mem_of_getElem? (i := 138) rfl) rfl
theorem kl_yX1_neededFor : Cond.selects RX1 yX1_neededFor yX1_neededFor ∈ wsAll := aw_2 (List.mem_of_getElem? (i := 139) rfl) rfl
theorem kc_yX1_neededFor : Cond.code yX1_neededFor cX1_neededFor 4 (some .int) ∈ wsAll := aw_2 (List.mem_of_getElem? (i := 140) rfl) rfl
theorem km_RX1_44 : Cond.methodLink RX1 44 yX1_findingsOf ∈ wsAll := aw_2 (List.mem_of_getElem? (i := 141) rfl) rfl
theorem ki_yX1_findingsOf : Cond.instanceMethod yX1_findingsOf ∈ wsAll := aw_2 (List.mem_of_getElem? (i := 142) rfl) rfl
theorem kl_yX1_findingsOf : Cond.selects RX1 yX1_findingsOf yX1_findingsOf ∈ wsAll := aw_2 (List.mem_of_getElem? (i := 143) rfl) rfl
theorem kc_yX1_findingsOf : Cond.code yX1_findingsOf cX1_findingsOf 4 (some .int) ∈ wsAll := aw_2 (List.mem_of_getElem? (i := 144) rfl) rfl
theorem km_RL_67 : Cond.methodLink RL 67 yX6_sets ∈ wsAll := aw_2 (List.mem_of_getElem? (i := 145) rfl) rfl
theorem ki_yX6_sets : Cond.instanceMethod yX6_sets ∈ wsAll := aw_2 (List.mem_of_getElem? (i := 146) rfl) rfl
theorem kl_yX6_sets : Cond.selects RX6 yX6_sets yX6_sets ∈ wsAll := aw_2 (List.mem_of_getElem? (i := 147) rfl) rfl
theorem kc_yX6_sets : Cond.code yX6_sets cX6_sets 2 (some .int) ∈ wsAll := aw_2 (List.mem_of_getElem? (i := 148) rfl) rfl
theorem km_RX6_172 : Cond.methodLink RX6 172 yX2_causesInAll ∈ wsAll := aw_2 (List.mem_of_getElem? (i := 149) rfl) rfl
theorem ki_yX2_causesInAll : Cond.instanceMethod yX2_causesInAll ∈ wsAll := aw_2 (List.mem_of_getElem? (i := 150) rfl) rfl
theorem kl_yX2_causesInAll : Cond.selects RX2 yX2_causesInAll yX2_causesInAll ∈ wsAll := aw_2 (List.mem_of_getElem? (i := 151) rfl) rfl
theorem kc_yX2_causesInAll : Cond.code yX2_causesInAll cX2_causesInAll 3 (some .int) ∈ wsAll := aw_2 (List.mem_of_getElem? (i := 152) rfl) rfl
theorem km_RX6_176 : Cond.methodLink RX6 176 yX2_causesInAny ∈ wsAll := aw_2 (List.mem_of_getElem? (i := 153) rfl) rfl
theorem ki_yX2_causesInAny : Cond.instanceMethod yX2_causesInAny ∈ wsAll := aw_2 (List.mem_of_getElem? (i := 154) rfl) rfl
theorem kl_yX2_causesInAny : Cond.selects RX2 yX2_causesInAny yX2_causesInAny ∈ wsAll := aw_2 (List.mem_of_getElem? (i := 155) rfl) rfl
theorem kc_yX2_causesInAny : Cond.code yX2_causesInAny cX2_causesInAny 3 (some .int) ∈ wsAll := aw_2 (List.mem_of_getElem? (i := 156) rfl) rfl
theorem km_RL_71 : Cond.methodLink RL 71 yX6_belief ∈ wsAll := aw_2 (List.mem_of_getElem? (i := 157) rfl) rfl
theorem ki_yX6_belief : Cond.instanceMethod yX6_belief ∈ wsAll := aw_2 (List.mem_of_getElem? (i := 158) rfl) rfl
theorem kl_yX6_belief : Cond.selects RX6 yX6_belief yX6_belief ∈ wsAll := aw_2 (List.mem_of_getElem? (i := 159) rfl) rfl
theorem kc_yX6_belief : Cond.code yX6_belief cX6_belief 4 (some .long) ∈ wsAll := aw_2 (List.mem_of_getElem? (i := 160) rfl) rfl
theorem km_RX6_179 : Cond.methodLink RX6 179 yX2_weightWithCause ∈ wsAll := aw_2 (List.mem_of_getElem? (i := 161) rfl) rfl
theorem ki_yX2_weightWithCause : Cond.instanceMethod yX2_weightWithCause ∈ wsAll := aw_2 (List.mem_of_getElem? (i := 162) rfl) rfl
theorem kl_yX2_weightWithCause : Cond.selects RX2 yX2_weightWithCause yX2_weightWithCause ∈ wsAll := aw_2 (List.mem_of_getElem? (i := 163) rfl) rfl
theorem kc_yX2_weightWithCause : Cond.code yX2_weightWithCause cX2_weightWithCause 5 (some .long) ∈ wsAll := aw_2 (List.mem_of_getElem? (i := 164) rfl) rfl
theorem km_RX2_92 : Cond.methodLink RX2 92 yX2_weightOf ∈ wsAll := aw_2 (List.mem_of_getElem? (i := 165) rfl) rfl
theorem km_RL_75 : Cond.methodLink RL 75 yX6_fewest ∈ wsAll := aw_2 (List.mem_of_getElem? (i := 166) rfl) rfl
theorem ki_yX6_fewest : Cond.instanceMethod yX6_fewest ∈ wsAll := aw_2 (List.mem_of_getElem? (i := 167) rfl) rfl
theorem kl_yX6_fewest : Cond.selects RX6 yX6_fewest yX6_fewest ∈ wsAll := aw_2 (List.mem_of_getElem? (i := 168) rfl) rfl
theorem kc_yX6_fewest : Cond.code yX6_fewest cX6_fewest 3 (some .int) ∈ wsAll := aw_2 (List.mem_of_getElem? (i := 169) rfl) rfl
theorem km_RX6_182 : Cond.methodLink RX6 182 yX2_fewestCauses ∈ wsAll := aw_2 (List.mem_of_getElem? (i := 170) rfl) rfl
theorem ki_yX2_fewestCauses : Cond.instanceMethod yX2_fewestCauses ∈ wsAll := aw_2 (List.mem_of_getElem? (i := 171) rfl) rfl
theorem kl_yX2_fewestCauses : Cond.selects RX2 yX2_fewestCauses yX2_fewestCauses ∈ wsAll := aw_2 (List.mem_of_getElem? (i := 172) rfl) rfl
theorem kc_yX2_fewestCauses : Cond.code yX2_fewestCauses cX2_fewestCauses 3 (some .int) ∈ wsAll := aw_2 (List.mem_of_getElem? (i := 173) rfl) rfl
theorem km_RX2_103 : Cond.methodLink RX2 103 Lib.Math.min.name ∈ wsAll := aw_2 (List.mem_of_getElem? (i := 174) rfl) rfl
theorem ks_yJ9_min_7cf53 : Cond.static Lib.Math.min.name ∈ wsAll := aw_2 (List.mem_of_getElem? (i := 175) rfl) rfl
theorem kc_yJ9_min_7cf53 : Cond.code Lib.Math.min.name Lib.Math.min.code 2 (some .int) ∈ wsAll := aw_2 (List.mem_of_getElem? (i := 176) rfl) rfl
theorem km_RX6_185 : Cond.methodLink RX6 185 yX2_mostCauses ∈ wsAll := aw_2 (List.mem_of_getElem? (i := 177) rfl) rfl
theorem ki_yX2_mostCauses : Cond.instanceMethod yX2_mostCauses ∈ wsAll := aw_2 (List.mem_of_getElem? (i := 178) rfl) rfl
theorem kl_yX2_mostCauses : Cond.selects RX2 yX2_mostCauses yX2_mostCauses ∈ wsAll := aw_2 (List.mem_of_getElem? (i := 179) rfl) rfl
theorem kc_yX2_mostCauses : Cond.code yX2_mostCauses cX2_mostCauses 3 (some .int) ∈ wsAll := aw_2 (List.mem_of_getElem? (i := 180) rfl) rfl
theorem km_RX2_108 : Cond.methodLink RX2 108 Lib.Math.max.name ∈ wsAll := aw_2 (List.mem_of_getElem? (i := 181) rfl) rfl
theorem ks_yJ9_max_7cf53 : Cond.static Lib.Math.max.name ∈ wsAll := aw_2 (List.mem_of_getElem? (i := 182) rfl) rfl
theorem kc_yJ9_max_7cf53 : Cond.code Lib.Math.max.name Lib.Math.max.code 2 (some .int) ∈ wsAll := aw_2 (List.mem_of_getElem? (i := 183) rfl) rfl
theorem km_RX6_188 : Cond.methodLink RX6 188 yX2_countOfLength ∈ wsAll := aw_2 (List.mem_of_getElem? (i := 184) rfl) rfl
theorem ki_yX2_countOfLength : Cond.instanceMethod yX2_countOfLength ∈ wsAll := aw_2 (List.mem_of_getElem? (i := 185) rfl) rfl
theorem kl_yX2_countOfLength : Cond.selects RX2 yX2_countOfLength yX2_countOfLength ∈ wsAll := aw_2 (List.mem_of_getElem? (i := 186) rfl) rfl
theorem kc_yX2_countOfLength : Cond.code yX2_countOfLength cX2_countOfLength 4 (some .int) ∈ wsAll := aw_2 (List.mem_of_getElem? (i := 187) rfl) rfl
theorem km_RL_79 : Cond.methodLink RL 79 yX6_covers ∈ wsAll := aw_2 (List.mem_of_getElem? (i := 188) rfl) rfl
theorem ki_yX6_covers : Cond.instanceMethod yX6_covers ∈ wsAll := aw_2 (List.mem_of_getElem? (i := 189) rfl) rfl
theorem kl_yX6_covers : Cond.selects RX6 yX6_covers yX6_covers ∈ wsAll := aw_2 (List.mem_of_getElem? (i := 190) rfl) rfl
theorem kc_yX6_covers : Cond.code yX6_covers cX6_covers 3 (some .int) ∈ wsAll := aw_2 (List.mem_of_getElem? (i := 191) rfl) rfl
theorem km_RX6_191 : Cond.methodLink RX6 191 yX1_findingsOf ∈ wsAll := aw_2 (List.mem_of_getElem? (i := 192) rfl) rfl
theorem km_RX6_194 : Cond.methodLink RX6 194 yX1_canSpareOne ∈ wsAll := aw_2 (List.mem_of_getElem? (i := 193) rfl) rfl
theorem ki_yX1_canSpareOne : Cond.instanceMethod yX1_canSpareOne ∈ wsAll := aw_2 (List.mem_of_getElem? (i := 194) rfl) rfl
theorem kl_yX1_canSpareOne : Cond.selects RX1 yX1_canSpareOne yX1_canSpareOne ∈ wsAll := aw_2 (List.mem_of_getElem? (i := 195) rfl) rfl
theorem kc_yX1_canSpareOne : Cond.code yX1_canSpareOne cX1_canSpareOne 4 (some .boolean) ∈ wsAll := aw_2 (List.mem_of_getElem? (i := 196) rfl) rfl
theorem km_RX1_47 : Cond.methodLink RX1 47 yX1_neededFor ∈ wsAll := aw_2 (List.mem_of_getElem? (i := 197) rfl) rfl
theorem km_RL_83 : Cond.methodLink RL 83 yX6_unexplained ∈ wsAll := aw_2 (List.mem_of_getElem? (i := 198) rfl) rfl
theorem ki_yX6_unexplained : Cond.instanceMethod yX6_unexplained ∈ wsAll := aw_2 (List.mem_of_getElem? (i := 199) rfl) rfl
theorem kl_yX6_unexplained : Cond.selects RX6 yX6_unexplained yX6_unexplained ∈ wsAll := aw_2 (List.mem_of_getElem? (i := 200) rfl) rfl
theorem kc_yX6_unexplained : Cond.code yX6_unexplained cX6_unexplained 2 (some .int) ∈ wsAll := aw_2 (List.mem_of_getElem? (i := 201) rfl) rfl
theorem km_RL_87 : Cond.methodLink RL 87 yX6_split ∈ wsAll := aw_2 (List.mem_of_getElem? (i := 202) rfl) rfl
theorem ki_yX6_split : Cond.instanceMethod yX6_split ∈ wsAll := aw_2 (List.mem_of_getElem? (i := 203) rfl) rfl
theorem kl_yX6_split : Cond.selects RX6 yX6_split yX6_split ∈ wsAll := aw_2 (List.mem_of_getElem? (i := 204) rfl) rfl
theorem kc_yX6_split : Cond.code yX6_split cX6_split 3 (some .long) ∈ wsAll := aw_2 (List.mem_of_getElem? (i := 205) rfl) rfl
theorem km_RX6_197 : Cond.methodLink RX6 197 yX3_weigh ∈ wsAll := aw_2 (List.mem_of_getElem? (i := 206) rfl) rfl
theorem ki_yX3_weigh : Cond.instanceMethod yX3_weigh ∈ wsAll := aw_2 (List.mem_of_getElem? (i := 207) rfl) rfl
theorem kl_yX3_weigh : Cond.selects RX3 yX3_weigh yX3_weigh ∈ wsAll := aw_2 (List.mem_of_getElem? (i := 208) rfl) rfl
theorem kc_yX3_weigh : Cond.code yX3_weigh cX3_weigh 7 none ∈ wsAll := aw_2 (List.mem_of_getElem? (i := 209) rfl) rfl
theorem km_RX3_27 : Cond.methodLink RX3 27 yX2_weightOf ∈ wsAll := aw_2 (List.mem_of_getElem? (i := 210) rfl) rfl
theorem km_RX3_31 : Cond.methodLink RX3 31 yX2_foretoldBy ∈ wsAll := aw_2 (List.mem_of_getElem? (i := 211) rfl) rfl
theorem km_RX6_208 : Cond.methodLink RX6 208 yX3_worst ∈ wsAll := aw_2 (List.mem_of_getElem? (i := 212) rfl) rfl
theorem ki_yX3_worst : Cond.instanceMethod yX3_worst ∈ wsAll := aw_2 (List.mem_of_getElem? (i := 213) rfl) rfl
theorem kl_yX3_worst : Cond.selects RX3 yX3_worst yX3_worst ∈ wsAll := aw_2 (List.mem_of_getElem? (i := 214) rfl) rfl
theorem kc_yX3_worst : Cond.code yX3_worst cX3_worst 1 (some .long) ∈ wsAll := aw_2 (List.mem_of_getElem? (i := 215) rfl) rfl
theorem km_RX3_35 : Cond.methodLink RX3 35 yX3_leftIfThere ∈ wsAll := aw_2 (List.mem_of_getElem? (i := 216) rfl) rfl
theorem ki_yX3_leftIfThere : Cond.instanceMethod yX3_leftIfThere ∈ wsAll := aw_2 (List.mem_of_getElem? (i := 217) rfl) rfl
theorem kl_yX3_leftIfThere : Cond.selects RX3 yX3_leftIfThere yX3_leftIfThere ∈ wsAll := aw_2 (List.mem_of_getElem? (i := 218) rfl) rfl
theorem kc_yX3_leftIfThere : Cond.code yX3_leftIfThere cX3_leftIfThere 1 (some .long) ∈ wsAll := aw_2 (List.mem_of_getElem? (i := 219) rfl) rfl
theorem km_RX3_39 : Cond.methodLink RX3 39 yX3_leftIfAbsent ∈ wsAll := aw_2 (List.mem_of_getElem? (i := 220) rfl) rfl
theorem ki_yX3_leftIfAbsent : Cond.instanceMethod yX3_leftIfAbsent ∈ wsAll := aw_2 (List.mem_of_getElem? (i := 221) rfl) rfl
theorem kl_yX3_leftIfAbsent : Cond.selects RX3 yX3_leftIfAbsent yX3_leftIfAbsent ∈ wsAll := aw_2 (List.mem_of_getElem? (i := 222) rfl) rfl
theorem kc_yX3_leftIfAbsent : Cond.code yX3_leftIfAbsent cX3_leftIfAbsent 1 (some .long) ∈ wsAll := aw_2 (List.mem_of_getElem? (i := 223) rfl) rfl
theorem km_RX3_42 : Cond.methodLink RX3 42 Lib.MathLoose.max_long.x ∈ wsAll := aw_2 (List.mem_of_getElem? (i := 224) rfl) rfl
theorem ks_yJ9_max_f86c9 : Cond.static Lib.MathLoose.max_long.x ∈ wsAll := aw_2 (List.mem_of_getElem? (i := 225) rfl) rfl
theorem kc_yJ9_max_f86c9 : Cond.code Lib.MathLoose.max_long.x Lib.MathLoose.max_long.code 4 (some .long) ∈ wsAll := aw_2 (List.mem_of_getElem? (i := 226) rfl) rfl
theorem km_RL_91 : Cond.methodLink RL 91 yX6_next ∈ wsAll := aw_2 (List.mem_of_getElem? (i := 227) rfl) rfl
theorem ki_yX6_next : Cond.instanceMethod yX6_next ∈ wsAll := aw_2 (List.mem_of_getElem? (i := 228) rfl) rfl
theorem kl_yX6_next : Cond.selects RX6 yX6_next yX6_next ∈ wsAll := aw_2 (List.mem_of_getElem? (i := 229) rfl) rfl
theorem kc_yX6_next : Cond.code yX6_next cX6_next 1 (some .int) ∈ wsAll := aw_2 (List.mem_of_getElem? (i := 230) rfl) rfl
theorem km_RX6_212 : Cond.methodLink RX6 212 yX6_bestToAsk ∈ wsAll := aw_2 (List.mem_of_getElem? (i := 231) rfl) rfl
theorem ki_yX6_bestToAsk : Cond.instanceMethod yX6_bestToAsk ∈ wsAll := aw_2 (List.mem_of_getElem? (i := 233) rfl) rfl
theorem kc_yX6_bestToAsk : Cond.code yX6_bestToAsk cX6_bestToAsk 9 (some .int) ∈ wsAll := aw_2 (List.mem_of_getElem? (i := 234) rfl) rfl
theorem km_RL_95 : Cond.methodLink RL 95 yX6_would ∈ wsAll := aw_2 (List.mem_of_getElem? (i := 235) rfl) rfl
theorem ki_yX6_would : Cond.instanceMethod yX6_would ∈ wsAll := aw_2 (List.mem_of_getElem? (i := 236) rfl) rfl
theorem kl_yX6_would : Cond.selects RX6 yX6_would yX6_would ∈ wsAll := aw_2 (List.mem_of_getElem? (i := 237) rfl) rfl
theorem kc_yX6_would : Cond.code yX6_would cX6_would 3 (some .int) ∈ wsAll := aw_2 (List.mem_of_getElem? (i := 238) rfl) rfl
theorem km_RX6_216 : Cond.methodLink RX6 216 yX5_copyFrom ∈ wsAll := aw_2 (List.mem_of_getElem? (i := 239) rfl) rfl
theorem ki_yX5_copyFrom : Cond.instanceMethod yX5_copyFrom ∈ wsAll := aw_3 (List.mem_of_getElem? (i := 0) rfl) rfl
theorem kl_yX5_copyFrom : Cond.selects RX5 yX5_copyFrom yX5_copyFrom ∈ wsAll := aw_3 (List.mem_of_getElem? (i := 1) rfl) rfl
theorem kc_yX5_copyFrom : Cond.code yX5_copyFrom cX5_copyFrom 2 none ∈ wsAll := aw_3 (List.mem_of_getElem? (i := 2) rfl) rfl
theorem km_RL_99 : Cond.methodLink RL 99 yX6_plan ∈ wsAll := aw_3 (List.mem_of_getElem? (i := 3) rfl) rfl
theorem ki_yX6_plan : Cond.instanceMethod yX6_plan ∈ wsAll := aw_3 (List.mem_of_getElem? (i := 4) rfl) rfl
theorem kl_yX6_plan : Cond.selects RX6 yX6_plan yX6_plan ∈ wsAll := aw_3 (List.mem_of_getElem? (i := 5) rfl) rfl
theorem kc_yX6_plan : Cond.code yX6_plan cX6_plan 3 (some .int) ∈ wsAll := aw_3 (List.mem_of_getElem? (i := 6) rfl) rfl
theorem km_RX6_226 : Cond.methodLink RX6 226 yX6_makePlan ∈ wsAll := aw_3 (List.mem_of_getElem? (i := 7) rfl) rfl
theorem ki_yX6_makePlan : Cond.instanceMethod yX6_makePlan ∈ wsAll := aw_3 (List.mem_of_getElem? (i := 9) rfl) rfl
theorem kc_yX6_makePlan : Cond.code yX6_makePlan cX6_makePlan 4 none ∈ wsAll := aw_3 (List.mem_of_getElem? (i := 10) rfl) rfl
theorem km_RX6_255 : Cond.methodLink RX6 255 yX3_leftIfThere ∈ wsAll := aw_3 (List.mem_of_getElem? (i := 11) rfl) rfl
theorem km_RX6_258 : Cond.methodLink RX6 258 yX3_leftIfAbsent ∈ wsAll := aw_3 (List.mem_of_getElem? (i := 12) rfl) rfl
theorem km_RX6_261 : Cond.methodLink RX6 261 yX4_add ∈ wsAll := aw_3 (List.mem_of_getElem? (i := 13) rfl) rfl
theorem ki_yX4_add : Cond.instanceMethod yX4_add ∈ wsAll := aw_3 (List.mem_of_getElem? (i := 14) rfl) rfl
theorem kl_yX4_add : Cond.selects RX4 yX4_add yX4_add ∈ wsAll := aw_3 (List.mem_of_getElem? (i := 15) rfl) rfl
theorem kc_yX4_add : Cond.code yX4_add cX4_add 4 none ∈ wsAll := aw_3 (List.mem_of_getElem? (i := 16) rfl) rfl
theorem km_RL_103 : Cond.methodLink RL 103 yX6_many ∈ wsAll := aw_3 (List.mem_of_getElem? (i := 17) rfl) rfl
theorem ki_yX6_many : Cond.instanceMethod yX6_many ∈ wsAll := aw_3 (List.mem_of_getElem? (i := 18) rfl) rfl
theorem kl_yX6_many : Cond.selects RX6 yX6_many yX6_many ∈ wsAll := aw_3 (List.mem_of_getElem? (i := 19) rfl) rfl
theorem kc_yX6_many : Cond.code yX6_many cX6_many 2 (some .int) ∈ wsAll := aw_3 (List.mem_of_getElem? (i := 20) rfl) rfl
theorem km_RX6_239 : Cond.methodLink RX6 239 yX1_countLinks ∈ wsAll := aw_3 (List.mem_of_getElem? (i := 21) rfl) rfl
theorem ki_yX1_countLinks : Cond.instanceMethod yX1_countLinks ∈ wsAll := aw_3 (List.mem_of_getElem? (i := 22) rfl) rfl
theorem kl_yX1_countLinks : Cond.selects RX1 yX1_countLinks yX1_countLinks ∈ wsAll := aw_3 (List.mem_of_getElem? (i := 23) rfl) rfl
theorem kc_yX1_countLinks : Cond.code yX1_countLinks cX1_countLinks 3 (some .int) ∈ wsAll := aw_3 (List.mem_of_getElem? (i := 24) rfl) rfl
theorem km_RX1_38 : Cond.methodLink RX1 38 yJ6_bitCount_0f7a4 ∈ wsAll := aw_3 (List.mem_of_getElem? (i := 25) rfl) rfl
theorem kx_RL_10 : Cond.classLink RL 10 RX7 ∈ wsAll := aw_3 (List.mem_of_getElem? (i := 26) rfl) rfl
theorem kz_RX7 : Cond.instantiable RX7 17 ∈ wsAll := aw_3 (List.mem_of_getElem? (i := 27) rfl) rfl
theorem km_RL_12 : Cond.methodLink RL 12 yX7_init ∈ wsAll := aw_3 (List.mem_of_getElem? (i := 28) rfl) rfl
theorem ki_yX7_init : Cond.instanceMethod yX7_init ∈ wsAll := aw_3 (List.mem_of_getElem? (i := 29) rfl) rfl
theorem kc_yX7_init : Cond.code yX7_init cX7_init 2 none ∈ wsAll := aw_3 (List.mem_of_getElem? (i := 30) rfl) rfl
theorem km_RX7_1 : Cond.methodLink RX7 1 objectInit ∈ wsAll := aw_3 (List.mem_of_getElem? (i := 31) rfl) rfl
theorem kf_RX7_7 : Cond.fieldLink RX7 7 "FewestCausesModel" "oddsFor" "[I" ∈ wsAll := aw_3 (List.mem_of_getElem? (i := 32) rfl) rfl
theorem kf_RX7_13 : Cond.fieldLink RX7 13 "FewestCausesModel" "oddsAgainst" "[I" ∈ wsAll := aw_3 (List.mem_of_getElem? (i := 33) rfl) rfl
theorem kf_RX7_16 : Cond.fieldLink RX7 16 "FewestCausesModel" "linkOf" "[I" ∈ wsAll := aw_3 (List.mem_of_getElem? (i := 34) rfl) rfl
theorem kf_RX7_19 : Cond.fieldLink RX7 19 "FewestCausesModel" "stateOf" "[I" ∈ wsAll := aw_3 (List.mem_of_getElem? (i := 35) rfl) rfl
theorem kf_RX7_70 : Cond.fieldLink RX7 70 "FewestCausesModel" "taken" "I" ∈ wsAll := aw_3 (List.mem_of_getElem? (i := 36) rfl) rfl
theorem kf_RX7_22 : Cond.fieldLink RX7 22 "FewestCausesModel" "takenFinding" "[I" ∈ wsAll := aw_3 (List.mem_of_getElem? (i := 37) rfl) rfl
theorem kf_RX7_25 : Cond.fieldLink RX7 25 "FewestCausesModel" "takenState" "[I" ∈ wsAll := aw_3 (List.mem_of_getElem? (i := 38) rfl) rfl
theorem kf_RX7_99 : Cond.fieldLink RX7 99 "FewestCausesModel" "many" "I" ∈ wsAll := aw_3 (List.mem_of_getElem? (i := 39) rfl) rfl
theorem kf_RX7_28 : Cond.fieldLink RX7 28 "FewestCausesModel" "explains" "[I" ∈ wsAll := aw_3 (List.mem_of_getElem? (i := 40) rfl) rfl
theorem kf_RX7_31 : Cond.fieldLink RX7 31 "FewestCausesModel" "weightOf" "[J" ∈ wsAll := aw_3 (List.mem_of_getElem? (i := 41) rfl) rfl
theorem kf_RX7_59 : Cond.fieldLink RX7 59 "FewestCausesModel" "isKnown" "Z" ∈ wsAll := aw_3 (List.mem_of_getElem? (i := 42) rfl) rfl
theorem kf_RX7_35 : Cond.fieldLink RX7 35 "FewestCausesModel" "covers" "[Z" ∈ wsAll := aw_3 (List.mem_of_getElem? (i := 43) rfl) rfl
theorem kf_RX7_155 : Cond.fieldLink RX7 155 "FewestCausesModel" "steps" "I" ∈ wsAll := aw_3 (List.mem_of_getElem? (i := 44) rfl) rfl
theorem kf_RX7_39 : Cond.fieldLink RX7 39 "FewestCausesModel" "stepFinding" "[I" ∈ wsAll := aw_3 (List.mem_of_getElem? (i := 45) rfl) rfl
theorem kf_RX7_42 : Cond.fieldLink RX7 42 "FewestCausesModel" "stepTaken" "[I" ∈ wsAll := aw_3 (List.mem_of_getElem? (i := 46) rfl) rfl
theorem kf_RX7_45 : Cond.fieldLink RX7 45 "FewestCausesModel" "stepMany" "[I" ∈ wsAll := aw_3 (List.mem_of_getElem? (i := 47) rfl) rfl
theorem kf_RX7_48 : Cond.fieldLink RX7 48 "FewestCausesModel" "keptState" "[I" ∈ wsAll := aw_3 (List.mem_of_getElem? (i := 48) rfl) rfl
theorem kY_RX7_oddsFor : Cond.laysFinal RX7 RX7 "oddsFor" "[I" ∈ wsAll := aw_3 (List.mem_of_getElem? (i := 49) rfl) rfl
theorem kY_RX7_oddsAgainst : Cond.laysFinal RX7 RX7 "oddsAgainst" "[I" ∈ wsAll := aw_3 (List.mem_of_getElem? (i := 51) rfl) rfl
theorem kY_RX7_linkOf : Cond.laysFinal RX7 RX7 "linkOf" "[I" ∈ wsAll := aw_3 (List.mem_of_getElem? (i := 53) rfl) rfl
theorem kY_RX7_stateOf : Cond.laysFinal RX7 RX7 "stateOf" "[I" ∈ wsAll := aw_3 (List.mem_of_getElem? (i := 55) rfl) rfl
theorem kY_RX7_taken : Cond.lays RX7 RX7 "taken" "I" ∈ wsAll := aw_3 (List.mem_of_getElem? (i := 57) rfl) rfl
theorem kY_RX7_takenFinding : Cond.laysFinal RX7 RX7 "takenFinding" "[I" ∈ wsAll := aw_3 (List.mem_of_getElem? (i := 59) rfl) rfl
theorem kY_RX7_takenState : Cond.laysFinal RX7 RX7 "takenState" "[I" ∈ wsAll := aw_3 (List.mem_of_getElem? (i := 61) rfl) rfl
theorem kY_RX7_many : Cond.lays RX7 RX7 "many" "I" ∈ wsAll := aw_3 (List.mem_of_getElem? (i := 63) rfl) rfl
theorem kY_RX7_explains : Cond.laysFinal RX7 RX7 "explains" "[I" ∈ wsAll := aw_3 (List.mem_of_getElem? (i := 65) rfl) rfl
theorem kY_RX7_weightOf : Cond.laysFinal RX7 RX7 "weightOf" "[J" ∈ wsAll := aw_3 (List.mem_of_getElem? (i := 67) rfl) rfl
theorem kY_RX7_isKnown : Cond.lays RX7 RX7 "isKnown" "Z" ∈ wsAll := aw_3 (List.mem_of_getElem? (i := 69) rfl) rfl
theorem kY_RX7_covers : Cond.laysFinal RX7 RX7 "covers" "[Z" ∈ wsAll := aw_3 (List.mem_of_getElem? (i := 71) rfl) rfl
theorem kY_RX7_steps : Cond.lays RX7 RX7 "steps" "I" ∈ wsAll := aw_3 (List.mem_of_getElem? (i := 73) rfl) rfl
theorem kY_RX7_stepFinding : Cond.laysFinal RX7 RX7 "stepFinding" "[I" ∈ wsAll := aw_3 (List.mem_of_getElem? (i := 75) rfl) rfl
theorem kY_RX7_stepTaken : Cond.laysFinal RX7 RX7 "stepTaken" "[I" ∈ wsAll := aw_3 (List.mem_of_getElem? (i := 77) rfl) rfl
theorem kY_RX7_stepMany : Cond.laysFinal RX7 RX7 "stepMany" "[I" ∈ wsAll := aw_3 (List.mem_of_getElem? (i := 79) rfl) rfl
theorem kY_RX7_keptState : Cond.laysFinal RX7 RX7 "keptState" "[I" ∈ wsAll := aw_3 (List.mem_of_getElem? (i := 81) rfl) rfl
theorem ka_boolean : Cond.arrayClass .boolean ∈ wsAll := aw_3 (List.mem_of_getElem? (i := 84) rfl) rfl
theorem km_RL_17 : Cond.methodLink RL 17 yX7_cause ∈ wsAll := aw_3 (List.mem_of_getElem? (i := 85) rfl) rfl
theorem ki_yX7_cause : Cond.instanceMethod yX7_cause ∈ wsAll := aw_3 (List.mem_of_getElem? (i := 86) rfl) rfl
theorem kl_yX7_cause : Cond.selects RX7 yX7_cause yX7_cause ∈ wsAll := aw_3 (List.mem_of_getElem? (i := 87) rfl) rfl
theorem kc_yX7_cause : Cond.code yX7_cause cX7_cause 4 (some .int) ∈ wsAll := aw_3 (List.mem_of_getElem? (i := 88) rfl) rfl
theorem km_RX7_55 : Cond.methodLink RX7 55 yX7_isCause ∈ wsAll := aw_3 (List.mem_of_getElem? (i := 89) rfl) rfl
theorem ks_yX7_isCause : Cond.static yX7_isCause ∈ wsAll := aw_3 (List.mem_of_getElem? (i := 90) rfl) rfl
theorem kc_yX7_isCause : Cond.code yX7_isCause cX7_isCause 1 (some .boolean) ∈ wsAll := aw_3 (List.mem_of_getElem? (i := 91) rfl) rfl
theorem km_RX7_51 : Cond.methodLink RX7 51 yX7_within ∈ wsAll := aw_3 (List.mem_of_getElem? (i := 92) rfl) rfl
theorem ks_yX7_within : Cond.static yX7_within ∈ wsAll := aw_3 (List.mem_of_getElem? (i := 93) rfl) rfl
theorem kc_yX7_within : Cond.code yX7_within cX7_within 3 (some .boolean) ∈ wsAll := aw_3 (List.mem_of_getElem? (i := 94) rfl) rfl
theorem km_RL_21 : Cond.methodLink RL 21 yX7_link ∈ wsAll := aw_3 (List.mem_of_getElem? (i := 95) rfl) rfl
theorem ki_yX7_link : Cond.instanceMethod yX7_link ∈ wsAll := aw_3 (List.mem_of_getElem? (i := 96) rfl) rfl
theorem kl_yX7_link : Cond.selects RX7 yX7_link yX7_link ∈ wsAll := aw_3 (List.mem_of_getElem? (i := 97) rfl) rfl
theorem kc_yX7_link : Cond.code yX7_link cX7_link 5 (some .int) ∈ wsAll := aw_3 (List.mem_of_getElem? (i := 98) rfl) rfl
theorem km_RX7_63 : Cond.methodLink RX7 63 yX7_isFinding ∈ wsAll := aw_3 (List.mem_of_getElem? (i := 99) rfl) rfl
theorem ks_yX7_isFinding : Cond.static yX7_isFinding ∈ wsAll := aw_3 (List.mem_of_getElem? (i := 100) rfl) rfl
theorem kc_yX7_isFinding : Cond.code yX7_isFinding cX7_isFinding 1 (some .boolean) ∈ wsAll := aw_3 (List.mem_of_getElem? (i := 101) rfl) rfl
theorem km_RX7_66 : Cond.methodLink RX7 66 yX7_linkAt ∈ wsAll := aw_3 (List.mem_of_getElem? (i := 102) rfl) rfl
theorem ki_yX7_linkAt : Cond.instanceMethod yX7_linkAt ∈ wsAll := aw_3 (List.mem_of_getElem? (i := 104) rfl) rfl
theorem kc_yX7_linkAt : Cond.code yX7_linkAt cX7_linkAt 3 (some .int) ∈ wsAll := aw_3 (List.mem_of_getElem? (i := 105) rfl) rfl
theorem km_RL_34 : Cond.methodLink RL 34 yX7_tell ∈ wsAll := aw_3 (List.mem_of_getElem? (i := 106) rfl) rfl
theorem ki_yX7_tell : Cond.instanceMethod yX7_tell ∈ wsAll := aw_3 (List.mem_of_getElem? (i := 107) rfl) rfl
theorem kl_yX7_tell : Cond.selects RX7 yX7_tell yX7_tell ∈ wsAll := aw_3 (List.mem_of_getElem? (i := 108) rfl) rfl
theorem kc_yX7_tell : Cond.code yX7_tell cX7_tell 3 (some .int) ∈ wsAll := aw_3 (List.mem_of_getElem? (i := 109) rfl) rfl
theorem km_RX7_74 : Cond.methodLink RX7 74 yX7_keeps ∈ wsAll := aw_3 (List.mem_of_getElem? (i := 110) rfl) rfl
theorem ki_yX7_keeps : Cond.instanceMethod yX7_keeps ∈ wsAll := aw_3 (List.mem_of_getElem? (i := 112) rfl) rfl
theorem kc_yX7_keeps : Cond.code yX7_keeps cX7_keeps 3 none ∈ wsAll := aw_3 (List.mem_of_getElem? (i := 113) rfl) rfl
theorem km_RX7_78 : Cond.methodLink RX7 78 yX7_explanations ∈ wsAll := aw_3 (List.mem_of_getElem? (i := 114) rfl) rfl
theorem ki_yX7_explanations : Cond.instanceMethod yX7_explanations ∈ wsAll := aw_3 (List.mem_of_getElem? (i := 116) rfl) rfl
theorem kc_yX7_explanations : Cond.code yX7_explanations cX7_explanations 6 (some .int) ∈ wsAll := aw_3 (List.mem_of_getElem? (i := 117) rfl) rfl
theorem km_RX7_102 : Cond.methodLink RX7 102 yX7_excluded ∈ wsAll := aw_3 (List.mem_of_getElem? (i := 118) rfl) rfl
theorem ki_yX7_excluded : Cond.instanceMethod yX7_excluded ∈ wsAll := aw_3 (List.mem_of_getElem? (i := 120) rfl) rfl
theorem kc_yX7_excluded : Cond.code yX7_excluded cX7_excluded 3 (some .int) ∈ wsAll := aw_3 (List.mem_of_getElem? (i := 121) rfl) rfl
theorem km_RX7_90 : Cond.methodLink RX7 90 yX7_isExcluded ∈ wsAll := aw_3 (List.mem_of_getElem? (i := 122) rfl) rfl
theorem ki_yX7_isExcluded : Cond.instanceMethod yX7_isExcluded ∈ wsAll := aw_3 (List.mem_of_getElem? (i := 124) rfl) rfl
theorem kc_yX7_isExcluded : Cond.code yX7_isExcluded cX7_isExcluded 3 (some .boolean) ∈ wsAll := aw_3 (List.mem_of_getElem? (i := 125) rfl) rfl
theorem km_RX7_105 : Cond.methodLink RX7 105 yX7_isCovering ∈ wsAll := aw_3 (List.mem_of_getElem? (i := 126) rfl) rfl
theorem ki_yX7_isCovering : Cond.instanceMethod yX7_isCovering ∈ wsAll := aw_3 (List.mem_of_getElem? (i := 128) rfl) rfl
theorem kc_yX7_isCovering : Cond.code yX7_isCovering cX7_isCovering 4 (some .boolean) ∈ wsAll := aw_3 (List.mem_of_getElem? (i := 129) rfl) rfl
theorem km_RX7_93 : Cond.methodLink RX7 93 yX7_isLinked ∈ wsAll := aw_3 (List.mem_of_getElem? (i := 130) rfl) rfl
theorem ki_yX7_isLinked : Cond.instanceMethod yX7_isLinked ∈ wsAll := aw_3 (List.mem_of_getElem? (i := 132) rfl) rfl
theorem kc_yX7_isLinked : Cond.code yX7_isLinked cX7_isLinked 4 (some .boolean) ∈ wsAll := aw_3 (List.mem_of_getElem? (i := 133) rfl) rfl
theorem km_RX7_86 : Cond.methodLink RX7 86 yX7_isIn ∈ wsAll := aw_3 (List.mem_of_getElem? (i := 134) rfl) rfl
theorem ks_yX7_isIn : Cond.static yX7_isIn ∈ wsAll := aw_3 (List.mem_of_getElem? (i := 135) rfl) rfl
theorem kc_yX7_isIn : Cond.code yX7_isIn cX7_isIn 2 (some .boolean) ∈ wsAll := aw_3 (List.mem_of_getElem? (i := 136) rfl) rfl
theorem km_RX7_108 : Cond.methodLink RX7 108 yX7_isSpared ∈ wsAll := aw_3 (List.mem_of_getElem? (i := 137) rfl) rfl
theorem ki_yX7_isSpared : Cond.instanceMethod yX7_isSpared ∈ wsAll := aw_3 (List.mem_of_getElem? (i := 139) rfl) rfl
theorem kc_yX7_isSpared : Cond.code yX7_isSpared cX7_isSpared 3 (some .boolean) ∈ wsAll := aw_3 (List.mem_of_getElem? (i := 140) rfl) rfl
theorem km_RX7_111 : Cond.methodLink RX7 111 yX7_weightBy ∈ wsAll := aw_3 (List.mem_of_getElem? (i := 141) rfl) rfl
theorem ki_yX7_weightBy : Cond.instanceMethod yX7_weightBy ∈ wsAll := aw_3 (List.mem_of_getElem? (i := 143) rfl) rfl
theorem kc_yX7_weightBy : Cond.code yX7_weightBy cX7_weightBy 6 (some .long) ∈ wsAll := aw_3 (List.mem_of_getElem? (i := 144) rfl) rfl
theorem km_RX7_115 : Cond.methodLink RX7 115 yX7_isAhead ∈ wsAll := aw_3 (List.mem_of_getElem? (i := 145) rfl) rfl
theorem ki_yX7_isAhead : Cond.instanceMethod yX7_isAhead ∈ wsAll := aw_3 (List.mem_of_getElem? (i := 147) rfl) rfl
theorem kc_yX7_isAhead : Cond.code yX7_isAhead cX7_isAhead 6 (some .boolean) ∈ wsAll := aw_3 (List.mem_of_getElem? (i := 148) rfl) rfl
theorem km_RX7_96 : Cond.methodLink RX7 96 yX7_size ∈ wsAll := aw_3 (List.mem_of_getElem? (i := 149) rfl) rfl
theorem ks_yX7_size : Cond.static yX7_size ∈ wsAll := aw_3 (List.mem_of_getElem? (i := 150) rfl) rfl
theorem kc_yX7_size : Cond.code yX7_size cX7_size 3 (some .int) ∈ wsAll := aw_3 (List.mem_of_getElem? (i := 151) rfl) rfl
theorem km_RL_39 : Cond.methodLink RL 39 yX7_withdraw ∈ wsAll := aw_3 (List.mem_of_getElem? (i := 152) rfl) rfl
theorem ki_yX7_withdraw : Cond.instanceMethod yX7_withdraw ∈ wsAll := aw_3 (List.mem_of_getElem? (i := 153) rfl) rfl
theorem kl_yX7_withdraw : Cond.selects RX7 yX7_withdraw yX7_withdraw ∈ wsAll := aw_3 (List.mem_of_getElem? (i := 154) rfl) rfl
theorem kc_yX7_withdraw : Cond.code yX7_withdraw cX7_withdraw 2 (some .int) ∈ wsAll := aw_3 (List.mem_of_getElem? (i := 155) rfl) rfl
theorem km_RL_44 : Cond.methodLink RL 44 yX7_back ∈ wsAll := aw_3 (List.mem_of_getElem? (i := 156) rfl) rfl
theorem ki_yX7_back : Cond.instanceMethod yX7_back ∈ wsAll := aw_3 (List.mem_of_getElem? (i := 157) rfl) rfl
theorem kl_yX7_back : Cond.selects RX7 yX7_back yX7_back ∈ wsAll := aw_3 (List.mem_of_getElem? (i := 158) rfl) rfl
theorem kc_yX7_back : Cond.code yX7_back cX7_back 1 (some .int) ∈ wsAll := aw_3 (List.mem_of_getElem? (i := 159) rfl) rfl
theorem km_RL_48 : Cond.methodLink RL 48 yX7_anew ∈ wsAll := aw_3 (List.mem_of_getElem? (i := 160) rfl) rfl
theorem ki_yX7_anew : Cond.instanceMethod yX7_anew ∈ wsAll := aw_3 (List.mem_of_getElem? (i := 161) rfl) rfl
theorem kl_yX7_anew : Cond.selects RX7 yX7_anew yX7_anew ∈ wsAll := aw_3 (List.mem_of_getElem? (i := 162) rfl) rfl
theorem kc_yX7_anew : Cond.code yX7_anew cX7_anew 3 (some .int) ∈ wsAll := aw_3 (List.mem_of_getElem? (i := 163) rfl) rfl
theorem km_RX7_82 : Cond.methodLink RX7 82 yX7_manyThat ∈ wsAll := aw_3 (List.mem_of_getElem? (i := 164) rfl) rfl
theorem ki_yX7_manyThat : Cond.instanceMethod yX7_manyThat ∈ wsAll := aw_3 (List.mem_of_getElem? (i := 166) rfl) rfl
theorem kc_yX7_manyThat : Cond.code yX7_manyThat cX7_manyThat 4 (some .int) ∈ wsAll := aw_3 (List.mem_of_getElem? (i := 167) rfl) rfl
theorem km_RL_52 : Cond.methodLink RL 52 yX7_explanation ∈ wsAll := aw_3 (List.mem_of_getElem? (i := 168) rfl) rfl
theorem ki_yX7_explanation : Cond.instanceMethod yX7_explanation ∈ wsAll := aw_3 (List.mem_of_getElem? (i := 169) rfl) rfl
theorem kl_yX7_explanation : Cond.selects RX7 yX7_explanation yX7_explanation ∈ wsAll := aw_3 (List.mem_of_getElem? (i := 170) rfl) rfl
theorem kc_yX7_explanation : Cond.code yX7_explanation cX7_explanation 3 (some .int) ∈ wsAll := aw_3 (List.mem_of_getElem? (i := 171) rfl) rfl
theorem km_RX7_119 : Cond.methodLink RX7 119 yX7_isExplanation ∈ wsAll := aw_3 (List.mem_of_getElem? (i := 172) rfl) rfl
theorem ki_yX7_isExplanation : Cond.instanceMethod yX7_isExplanation ∈ wsAll := aw_3 (List.mem_of_getElem? (i := 174) rfl) rfl
theorem kc_yX7_isExplanation : Cond.code yX7_isExplanation cX7_isExplanation 2 (some .boolean) ∈ wsAll := aw_3 (List.mem_of_getElem? (i := 175) rfl) rfl
theorem km_RL_57 : Cond.methodLink RL 57 yX7_weight ∈ wsAll := aw_3 (List.mem_of_getElem? (i := 176) rfl) rfl
theorem ki_yX7_weight : Cond.instanceMethod yX7_weight ∈ wsAll := aw_3 (List.mem_of_getElem? (i := 177) rfl) rfl
theorem kl_yX7_weight : Cond.selects RX7 yX7_weight yX7_weight ∈ wsAll := aw_3 (List.mem_of_getElem? (i := 178) rfl) rfl
theorem kc_yX7_weight : Cond.code yX7_weight cX7_weight 2 (some .long) ∈ wsAll := aw_3 (List.mem_of_getElem? (i := 179) rfl) rfl
theorem kk_RX7_122 : Cond.constantLong RX7 122 (-9223372036854775808) ∈ wsAll := aw_3 (List.mem_of_getElem? (i := 180) rfl) rfl
theorem km_RL_62 : Cond.methodLink RL 62 yX7_share ∈ wsAll := aw_3 (List.mem_of_getElem? (i := 181) rfl) rfl
theorem ki_yX7_share : Cond.instanceMethod yX7_share ∈ wsAll := aw_3 (List.mem_of_getElem? (i := 182) rfl) rfl
theorem kl_yX7_share : Cond.selects RX7 yX7_share yX7_share ∈ wsAll := aw_3 (List.mem_of_getElem? (i := 183) rfl) rfl
theorem kc_yX7_share : Cond.code yX7_share cX7_share 3 (some .long) ∈ wsAll := aw_3 (List.mem_of_getElem? (i := 184) rfl) rfl
theorem km_RX7_124 : Cond.methodLink RX7 124 yX7_allWeights ∈ wsAll := aw_3 (List.mem_of_getElem? (i := 185) rfl) rfl
theorem ki_yX7_allWeights : Cond.instanceMethod yX7_allWeights ∈ wsAll := aw_3 (List.mem_of_getElem? (i := 187) rfl) rfl
theorem kc_yX7_allWeights : Cond.code yX7_allWeights cX7_allWeights 4 (some .long) ∈ wsAll := aw_3 (List.mem_of_getElem? (i := 188) rfl) rfl
theorem km_RX7_128 : Cond.methodLink RX7 128 yX7_inLeastTerms ∈ wsAll := aw_3 (List.mem_of_getElem? (i := 189) rfl) rfl
theorem ks_yX7_inLeastTerms : Cond.static yX7_inLeastTerms ∈ wsAll := aw_3 (List.mem_of_getElem? (i := 190) rfl) rfl
theorem kc_yX7_inLeastTerms : Cond.code yX7_inLeastTerms cX7_inLeastTerms 11 (some .long) ∈ wsAll := aw_3 (List.mem_of_getElem? (i := 191) rfl) rfl
theorem km_RL_66 : Cond.methodLink RL 66 yX7_needs ∈ wsAll := aw_3 (List.mem_of_getElem? (i := 192) rfl) rfl
theorem ki_yX7_needs : Cond.instanceMethod yX7_needs ∈ wsAll := aw_3 (List.mem_of_getElem? (i := 193) rfl) rfl
theorem kl_yX7_needs : Cond.selects RX7 yX7_needs yX7_needs ∈ wsAll := aw_3 (List.mem_of_getElem? (i := 194) rfl) rfl
theorem kc_yX7_needs : Cond.code yX7_needs cX7_needs 5 (some .int) ∈ wsAll := aw_3 (List.mem_of_getElem? (i := 195) rfl) rfl
theorem km_RL_70 : Cond.methodLink RL 70 yX7_sets ∈ wsAll := aw_3 (List.mem_of_getElem? (i := 196) rfl) rfl
theorem ki_yX7_sets : Cond.instanceMethod yX7_sets ∈ wsAll := aw_3 (List.mem_of_getElem? (i := 197) rfl) rfl
theorem kl_yX7_sets : Cond.selects RX7 yX7_sets yX7_sets ∈ wsAll := aw_3 (List.mem_of_getElem? (i := 198) rfl) rfl
theorem kc_yX7_sets : Cond.code yX7_sets cX7_sets 5 (some .int) ∈ wsAll := aw_3 (List.mem_of_getElem? (i := 199) rfl) rfl
theorem km_RL_74 : Cond.methodLink RL 74 yX7_belief ∈ wsAll := aw_3 (List.mem_of_getElem? (i := 200) rfl) rfl
theorem ki_yX7_belief : Cond.instanceMethod yX7_belief ∈ wsAll := aw_3 (List.mem_of_getElem? (i := 201) rfl) rfl
theorem kl_yX7_belief : Cond.selects RX7 yX7_belief yX7_belief ∈ wsAll := aw_3 (List.mem_of_getElem? (i := 202) rfl) rfl
theorem kc_yX7_belief : Cond.code yX7_belief cX7_belief 6 (some .long) ∈ wsAll := aw_3 (List.mem_of_getElem? (i := 203) rfl) rfl
theorem km_RL_78 : Cond.methodLink RL 78 yX7_fewest ∈ wsAll := aw_3 (List.mem_of_getElem? (i := 204) rfl) rfl
theorem ki_yX7_fewest : Cond.instanceMethod yX7_fewest ∈ wsAll := aw_3 (List.mem_of_getElem? (i := 205) rfl) rfl
theorem kl_yX7_fewest : Cond.selects RX7 yX7_fewest yX7_fewest ∈ wsAll := aw_3 (List.mem_of_getElem? (i := 206) rfl) rfl
theorem kc_yX7_fewest : Cond.code yX7_fewest cX7_fewest 7 (some .int) ∈ wsAll := aw_3 (List.mem_of_getElem? (i := 207) rfl) rfl
theorem km_RL_82 : Cond.methodLink RL 82 yX7_covers ∈ wsAll := aw_3 (List.mem_of_getElem? (i := 208) rfl) rfl
theorem ki_yX7_covers : Cond.instanceMethod yX7_covers ∈ wsAll := aw_3 (List.mem_of_getElem? (i := 209) rfl) rfl
theorem kl_yX7_covers : Cond.selects RX7 yX7_covers yX7_covers ∈ wsAll := aw_3 (List.mem_of_getElem? (i := 210) rfl) rfl
theorem kc_yX7_covers : Cond.code yX7_covers cX7_covers 2 (some .int) ∈ wsAll := aw_3 (List.mem_of_getElem? (i := 211) rfl) rfl
theorem km_RL_86 : Cond.methodLink RL 86 yX7_unexplained ∈ wsAll := aw_3 (List.mem_of_getElem? (i := 212) rfl) rfl
theorem ki_yX7_unexplained : Cond.instanceMethod yX7_unexplained ∈ wsAll := aw_3 (List.mem_of_getElem? (i := 213) rfl) rfl
theorem kl_yX7_unexplained : Cond.selects RX7 yX7_unexplained yX7_unexplained ∈ wsAll := aw_3 (List.mem_of_getElem? (i := 214) rfl) rfl
theorem kc_yX7_unexplained : Cond.code yX7_unexplained cX7_unexplained 3 (some .int) ∈ wsAll := aw_3 (List.mem_of_getElem? (i := 215) rfl) rfl
theorem km_RL_26 : Cond.methodLink RL 26 yX7_ofCause ∈ wsAll := aw_3 (List.mem_of_getElem? (i := 216) rfl) rfl
theorem ki_yX7_ofCause : Cond.instanceMethod yX7_ofCause ∈ wsAll := aw_3 (List.mem_of_getElem? (i := 217) rfl) rfl
theorem kl_yX7_ofCause : Cond.selects RX7 yX7_ofCause yX7_ofCause ∈ wsAll := aw_3 (List.mem_of_getElem? (i := 218) rfl) rfl
theorem kc_yX7_ofCause : Cond.code yX7_ofCause cX7_ofCause 7 (some .int) ∈ wsAll := aw_3 (List.mem_of_getElem? (i := 219) rfl) rfl
theorem km_RL_30 : Cond.methodLink RL 30 yX7_ofFinding ∈ wsAll := aw_3 (List.mem_of_getElem? (i := 220) rfl) rfl
theorem ki_yX7_ofFinding : Cond.instanceMethod yX7_ofFinding ∈ wsAll := aw_3 (List.mem_of_getElem? (i := 221) rfl) rfl
theorem kl_yX7_ofFinding : Cond.selects RX7 yX7_ofFinding yX7_ofFinding ∈ wsAll := aw_3 (List.mem_of_getElem? (i := 222) rfl) rfl
theorem kc_yX7_ofFinding : Cond.code yX7_ofFinding cX7_ofFinding 6 (some .int) ∈ wsAll := aw_3 (List.mem_of_getElem? (i := 223) rfl) rfl
theorem km_RX7_138 : Cond.methodLink RX7 138 yX7_manyForetell ∈ wsAll := aw_3 (List.mem_of_getElem? (i := 224) rfl) rfl
theorem ki_yX7_manyForetell : Cond.instanceMethod yX7_manyForetell ∈ wsAll := aw_3 (List.mem_of_getElem? (i := 226) rfl) rfl
theorem kc_yX7_manyForetell : Cond.code yX7_manyForetell cX7_manyForetell 5 (some .int) ∈ wsAll := aw_3 (List.mem_of_getElem? (i := 227) rfl) rfl
theorem km_RX7_135 : Cond.methodLink RX7 135 yX7_foretold ∈ wsAll := aw_3 (List.mem_of_getElem? (i := 228) rfl) rfl
theorem ki_yX7_foretold : Cond.instanceMethod yX7_foretold ∈ wsAll := aw_3 (List.mem_of_getElem? (i := 230) rfl) rfl
theorem kc_yX7_foretold : Cond.code yX7_foretold cX7_foretold 3 (some .int) ∈ wsAll := aw_3 (List.mem_of_getElem? (i := 231) rfl) rfl
theorem km_RX7_132 : Cond.methodLink RX7 132 yX7_isMust ∈ wsAll := aw_3 (List.mem_of_getElem? (i := 232) rfl) rfl
theorem ki_yX7_isMust : Cond.instanceMethod yX7_isMust ∈ wsAll := aw_3 (List.mem_of_getElem? (i := 234) rfl) rfl
theorem kc_yX7_isMust : Cond.code yX7_isMust cX7_isMust 4 (some .boolean) ∈ wsAll := aw_3 (List.mem_of_getElem? (i := 235) rfl) rfl
theorem km_RL_90 : Cond.methodLink RL 90 yX7_split ∈ wsAll := aw_3 (List.mem_of_getElem? (i := 236) rfl) rfl
theorem ki_yX7_split : Cond.instanceMethod yX7_split ∈ wsAll := aw_3 (List.mem_of_getElem? (i := 237) rfl) rfl
theorem kl_yX7_split : Cond.selects RX7 yX7_split yX7_split ∈ wsAll := aw_3 (List.mem_of_getElem? (i := 238) rfl) rfl
theorem kc_yX7_split : Cond.code yX7_split cX7_split 3 (some .long) ∈ wsAll := aw_3 (List.mem_of_getElem? (i := 239) rfl) rfl
theorem km_RX7_148 : Cond.methodLink RX7 148 yX7_worst ∈ wsAll := aw_4 (List.mem_of_getElem? (i := 0) rfl) rfl
theorem ki_yX7_worst : Cond.instanceMethod yX7_worst ∈ wsAll := aw_4 (List.mem_of_getElem? (i := 2) rfl) rfl
theorem kc_yX7_worst : Cond.code yX7_worst cX7_worst 6 (some .long) ∈ wsAll := aw_4 (List.mem_of_getElem? (i := 3) rfl) rfl
theorem km_RX7_144 : Cond.methodLink RX7 144 yX7_leftIf ∈ wsAll := aw_4 (List.mem_of_getElem? (i := 4) rfl) rfl
theorem ki_yX7_leftIf : Cond.instanceMethod yX7_leftIf ∈ wsAll := aw_4 (List.mem_of_getElem? (i := 6) rfl) rfl
theorem kc_yX7_leftIf : Cond.code yX7_leftIf cX7_leftIf 3 (some .long) ∈ wsAll := aw_4 (List.mem_of_getElem? (i := 7) rfl) rfl
theorem km_RX7_141 : Cond.methodLink RX7 141 yX7_weightThat ∈ wsAll := aw_4 (List.mem_of_getElem? (i := 8) rfl) rfl
theorem ki_yX7_weightThat : Cond.instanceMethod yX7_weightThat ∈ wsAll := aw_4 (List.mem_of_getElem? (i := 10) rfl) rfl
theorem kc_yX7_weightThat : Cond.code yX7_weightThat cX7_weightThat 6 (some .long) ∈ wsAll := aw_4 (List.mem_of_getElem? (i := 11) rfl) rfl
theorem km_RL_94 : Cond.methodLink RL 94 yX7_next ∈ wsAll := aw_4 (List.mem_of_getElem? (i := 12) rfl) rfl
theorem ki_yX7_next : Cond.instanceMethod yX7_next ∈ wsAll := aw_4 (List.mem_of_getElem? (i := 13) rfl) rfl
theorem kl_yX7_next : Cond.selects RX7 yX7_next yX7_next ∈ wsAll := aw_4 (List.mem_of_getElem? (i := 14) rfl) rfl
theorem kc_yX7_next : Cond.code yX7_next cX7_next 1 (some .int) ∈ wsAll := aw_4 (List.mem_of_getElem? (i := 15) rfl) rfl
theorem km_RX7_152 : Cond.methodLink RX7 152 yX7_nextOf ∈ wsAll := aw_4 (List.mem_of_getElem? (i := 16) rfl) rfl
theorem ki_yX7_nextOf : Cond.instanceMethod yX7_nextOf ∈ wsAll := aw_4 (List.mem_of_getElem? (i := 18) rfl) rfl
theorem kc_yX7_nextOf : Cond.code yX7_nextOf cX7_nextOf 3 (some .int) ∈ wsAll := aw_4 (List.mem_of_getElem? (i := 19) rfl) rfl
theorem km_RL_98 : Cond.methodLink RL 98 yX7_would ∈ wsAll := aw_4 (List.mem_of_getElem? (i := 20) rfl) rfl
theorem ki_yX7_would : Cond.instanceMethod yX7_would ∈ wsAll := aw_4 (List.mem_of_getElem? (i := 21) rfl) rfl
theorem kl_yX7_would : Cond.selects RX7 yX7_would yX7_would ∈ wsAll := aw_4 (List.mem_of_getElem? (i := 22) rfl) rfl
theorem kc_yX7_would : Cond.code yX7_would cX7_would 5 (some .int) ∈ wsAll := aw_4 (List.mem_of_getElem? (i := 23) rfl) rfl
theorem km_RL_102 : Cond.methodLink RL 102 yX7_plan ∈ wsAll := aw_4 (List.mem_of_getElem? (i := 24) rfl) rfl
theorem ki_yX7_plan : Cond.instanceMethod yX7_plan ∈ wsAll := aw_4 (List.mem_of_getElem? (i := 25) rfl) rfl
theorem kl_yX7_plan : Cond.selects RX7 yX7_plan yX7_plan ∈ wsAll := aw_4 (List.mem_of_getElem? (i := 26) rfl) rfl
theorem kc_yX7_plan : Cond.code yX7_plan cX7_plan 3 (some .int) ∈ wsAll := aw_4 (List.mem_of_getElem? (i := 27) rfl) rfl
theorem km_RX7_158 : Cond.methodLink RX7 158 yX7_findPlan ∈ wsAll := aw_4 (List.mem_of_getElem? (i := 28) rfl) rfl
theorem ki_yX7_findPlan : Cond.instanceMethod yX7_findPlan ∈ wsAll := aw_4 (List.mem_of_getElem? (i := 30) rfl) rfl
theorem kc_yX7_findPlan : Cond.code yX7_findPlan cX7_findPlan 3 none ∈ wsAll := aw_4 (List.mem_of_getElem? (i := 31) rfl) rfl
theorem km_RL_106 : Cond.methodLink RL 106 yX7_many ∈ wsAll := aw_4 (List.mem_of_getElem? (i := 32) rfl) rfl
theorem ki_yX7_many : Cond.instanceMethod yX7_many ∈ wsAll := aw_4 (List.mem_of_getElem? (i := 33) rfl) rfl
theorem kl_yX7_many : Cond.selects RX7 yX7_many yX7_many ∈ wsAll := aw_4 (List.mem_of_getElem? (i := 34) rfl) rfl
theorem kc_yX7_many : Cond.code yX7_many cX7_many 4 (some .int) ∈ wsAll := aw_4 (List.mem_of_getElem? (i := 35) rfl) rfl
theorem kl_yX6_forgetWhatFollowed : Cond.selects RX6 yX6_forgetWhatFollowed yX6_forgetWhatFollowed ∈ wsAll := aw_0 (List.mem_of_getElem? (i := 0) rfl) rfl
theorem kl_yX6_upToDate : Cond.selects RX6 yX6_upToDate yX6_upToDate ∈ wsAll := aw_0 (List.mem_of_getElem? (i := 1) rfl) rfl
theorem kl_yX2_enter : Cond.selects RX2 yX2_enter yX2_enter ∈ wsAll := aw_0 (List.mem_of_getElem? (i := 2) rfl) rfl
theorem kl_yX2_allAreAloneForOne : Cond.selects RX2 yX2_allAreAloneForOne yX2_allAreAloneForOne ∈ wsAll := aw_0 (List.mem_of_getElem? (i := 3) rfl) rfl
theorem kl_yX2_bringForward : Cond.selects RX2 yX2_bringForward yX2_bringForward ∈ wsAll := aw_0 (List.mem_of_getElem? (i := 4) rfl) rfl
theorem kl_yX6_changeFinding : Cond.selects RX6 yX6_changeFinding yX6_changeFinding ∈ wsAll := aw_0 (List.mem_of_getElem? (i := 5) rfl) rfl
theorem kl_yX0_dropOldest : Cond.selects RX0 yX0_dropOldest yX0_dropOldest ∈ wsAll := aw_0 (List.mem_of_getElem? (i := 6) rfl) rfl
theorem kl_yX6_bestToAsk : Cond.selects RX6 yX6_bestToAsk yX6_bestToAsk ∈ wsAll := aw_0 (List.mem_of_getElem? (i := 7) rfl) rfl
theorem kl_yX6_makePlan : Cond.selects RX6 yX6_makePlan yX6_makePlan ∈ wsAll := aw_0 (List.mem_of_getElem? (i := 8) rfl) rfl
theorem kl_yX7_linkAt : Cond.selects RX7 yX7_linkAt yX7_linkAt ∈ wsAll := aw_0 (List.mem_of_getElem? (i := 9) rfl) rfl
theorem kl_yX7_keeps : Cond.selects RX7 yX7_keeps yX7_keeps ∈ wsAll := aw_0 (List.mem_of_getElem? (i := 10) rfl) rfl
theorem kl_yX7_explanations : Cond.selects RX7 yX7_explanations yX7_explanations ∈ wsAll := aw_0 (List.mem_of_getElem? (i := 11) rfl) rfl
theorem kl_yX7_excluded : Cond.selects RX7 yX7_excluded yX7_excluded ∈ wsAll := aw_0 (List.mem_of_getElem? (i := 12) rfl) rfl
theorem kl_yX7_isExcluded : Cond.selects RX7 yX7_isExcluded yX7_isExcluded ∈ wsAll := aw_0 (List.mem_of_getElem? (i := 13) rfl) rfl
theorem kl_yX7_isCovering : Cond.selects RX7 yX7_isCovering yX7_isCovering ∈ wsAll := aw_0 (List.mem_of_getElem? (i := 14) rfl) rfl
theorem kl_yX7_isLinked : Cond.selects RX7 yX7_isLinked yX7_isLinked ∈ wsAll := aw_0 (List.mem_of_getElem? (i := 15) rfl) rfl
theorem kl_yX7_isSpared : Cond.selects RX7 yX7_isSpared yX7_isSpared ∈ wsAll := aw_0 (List.mem_of_getElem? (i := 16) rfl) rfl
theorem kl_yX7_weightBy : Cond.selects RX7 yX7_weightBy yX7_weightBy ∈ wsAll := aw_0 (List.mem_of_getElem? (i := 17) rfl) rfl
theorem kl_yX7_isAhead : Cond.selects RX7 yX7_isAhead yX7_isAhead ∈ wsAll := aw_0 (List.mem_of_getElem? (i := 18) rfl) rfl
theorem kl_yX7_manyThat : Cond.selects RX7 yX7_manyThat yX7_manyThat ∈ wsAll := aw_0 (List.mem_of_getElem? (i := 19) rfl) rfl
theorem kl_yX7_isExplanation : Cond.selects RX7 yX7_isExplanation yX7_isExplanation ∈ wsAll := aw_0 (List.mem_of_getElem? (i := 20) rfl) rfl
theorem kl_yX7_allWeights : Cond.selects RX7 yX7_allWeights yX7_allWeights ∈ wsAll := aw_0 (List.mem_of_getElem? (i := 21) rfl) rfl
theorem kl_yX7_manyForetell : Cond.selects RX7 yX7_manyForetell yX7_manyForetell ∈ wsAll := aw_0 (List.mem_of_getElem? (i := 22) rfl) rfl
theorem kl_yX7_foretold : Cond.selects RX7 yX7_foretold yX7_foretold ∈ wsAll := aw_0 (List.mem_of_getElem? (i := 23) rfl) rfl
theorem kl_yX7_isMust : Cond.selects RX7 yX7_isMust yX7_isMust ∈ wsAll := aw_0 (List.mem_of_getElem? (i := 24) rfl) rfl
theorem kl_yX7_worst : Cond.selects RX7 yX7_worst yX7_worst ∈ wsAll := aw_0 (List.mem_of_getElem? (i := 25) rfl) rfl
theorem kl_yX7_leftIf : Cond.selects RX7 yX7_leftIf yX7_leftIf ∈ wsAll := aw_0 (List.mem_of_getElem? (i := 26) rfl) rfl
theorem kl_yX7_weightThat : Cond.selects RX7 yX7_weightThat yX7_weightThat ∈ wsAll := aw_0 (List.mem_of_getElem? (i := 27) rfl) rfl
theorem kl_yX7_nextOf : Cond.selects RX7 yX7_nextOf yX7_nextOf ∈ wsAll := aw_0 (List.mem_of_getElem? (i := 28) rfl) rfl
theorem kl_yX7_findPlan : Cond.selects RX7 yX7_findPlan yX7_findPlan ∈ wsAll := aw_0 (List.mem_of_getElem? (i := 29) rfl) rfl
theorem inA0 : ∀ w ∈ u_ws RX0 TX0 3, w ∈ wsAll := by
  intro w hw
  obtain ⟨k, hk, rfl⟩ := List.mem_map.mp hw
  have hk := List.mem_range.mp hk
  rcases (show k = 0 ∨ k = 1 ∨ k = 2 by omega) with rfl | rfl | rfl
  · exact kY_RX0_finding
  · exact kY_RX0_stateBefore
  · exact kY_RX0_size
theorem inA1 : ∀ w ∈ u_ws RX1 TX1 6, w ∈ wsAll := by
  intro w hw
  obtain ⟨k, hk, rfl⟩ := List.mem_map.mp hw
  have hk := List.mem_range.mp hk
  rcases (show k = 0 ∨ k = 1 ∨ k = 2 ∨ k = 3 ∨ k = 4 ∨ k = 5 by omega) with rfl | rfl | rfl | rfl | rfl | rfl
  · exact kY_RX1_oddsFor
  · exact kY_RX1_oddsAgainst
  · exact kY_RX1_linkedFindings
  · exact kY_RX1_mustFindings
  · exact kY_RX1_linkedCauses
  · exact kY_RX1_mustCauses
theorem inA2 : ∀ w ∈ u_ws RX2 TX2 7, w ∈ wsAll := by
  intro w hw
  obtain ⟨k, hk, rfl⟩ := List.mem_map.mp hw
  have hk := List.mem_range.mp hk
  rcases (show k = 0 ∨ k = 1 ∨ k = 2 ∨ k = 3 ∨ k = 4 ∨ k = 5 ∨ k = 6 by omega) with rfl | rfl | rfl | rfl | rfl | rfl | rfl
  · exact kY_RX2_knowledge
  · exact kY_RX2_keys
  · exact kY_RX2_size
  · exact kY_RX2_total
  · exact kY_RX2_reach
  · exact kY_RX2_toExplain
  · exact kY_RX2_excluded
theorem inA3 : ∀ w ∈ u_ws RX3 TX3 3, w ∈ wsAll := by
  intro w hw
  obtain ⟨k, hk, rfl⟩ := List.mem_map.mp hw
  have hk := List.mem_range.mp hk
  rcases (show k = 0 ∨ k = 1 ∨ k = 2 by omega) with rfl | rfl | rfl
  · exact kY_RX3_there
  · exact kY_RX3_absent
  · exact kY_RX3_open
theorem inA4 : ∀ w ∈ u_ws RX4 TX4 4, w ∈ wsAll := by
  intro w hw
  obtain ⟨k, hk, rfl⟩ := List.mem_map.mp hw
  have hk := List.mem_range.mp hk
  rcases (show k = 0 ∨ k = 1 ∨ k = 2 ∨ k = 3 by omega) with rfl | rfl | rfl | rfl
  · exact kY_RX4_finding
  · exact kY_RX4_takenAs
  · exact kY_RX4_explanationsLeft
  · exact kY_RX4_size
theorem inA5 : ∀ w ∈ u_ws RX5 TX5 2, w ∈ wsAll := by
  intro w hw
  obtain ⟨k, hk, rfl⟩ := List.mem_map.mp hw
  have hk := List.mem_range.mp hk
  rcases (show k = 0 ∨ k = 1 by omega) with rfl | rfl
  · exact kY_RX5_there
  · exact kY_RX5_absent
theorem inA6 : ∀ w ∈ u_ws RX6 TX6 10, w ∈ wsAll := by
  intro w hw
  obtain ⟨k, hk, rfl⟩ := List.mem_map.mp hw
  have hk := List.mem_range.mp hk
  rcases (show k = 0 ∨ k = 1 ∨ k = 2 ∨ k = 3 ∨ k = 4 ∨ k = 5 ∨ k = 6 ∨ k = 7 ∨ k = 8 ∨ k = 9 by omega) with rfl | rfl | rfl | rfl | rfl | rfl | rfl | rfl | rfl | rfl
  · exact kY_RX6_knowledge
  · exact kY_RX6_told
  · exact kY_RX6_history
  · exact kY_RX6_listing
  · exact kY_RX6_listed
  · exact kY_RX6_toldOnPaper
  · exact kY_RX6_listingOnPaper
  · exact kY_RX6_parts
  · exact kY_RX6_steps
  · exact kY_RX6_planned
theorem inA7 : ∀ w ∈ u_ws RX7 TX7 17, w ∈ wsAll := by
  intro w hw
  obtain ⟨k, hk, rfl⟩ := List.mem_map.mp hw
  have hk := List.mem_range.mp hk
  rcases (show k = 0 ∨ k = 1 ∨ k = 2 ∨ k = 3 ∨ k = 4 ∨ k = 5 ∨ k = 6 ∨ k = 7 ∨ k = 8 ∨ k = 9 ∨ k = 10 ∨ k = 11 ∨ k = 12 ∨ k = 13 ∨ k = 14 ∨ k = 15 ∨ k = 16 by omega) with rfl | rfl | rfl | rfl | rfl | rfl | rfl | rfl | rfl | rfl | rfl | rfl | rfl | rfl | rfl | rfl | rfl
  · exact kY_RX7_oddsFor
  · exact kY_RX7_oddsAgainst
  · exact kY_RX7_linkOf
  · exact kY_RX7_stateOf
  · exact kY_RX7_taken
  · exact kY_RX7_takenFinding
  · exact kY_RX7_takenState
  · exact kY_RX7_many
  · exact kY_RX7_explains
  · exact kY_RX7_weightOf
  · exact kY_RX7_isKnown
  · exact kY_RX7_covers
  · exact kY_RX7_steps
  · exact kY_RX7_stepFinding
  · exact kY_RX7_stepTaken
  · exact kY_RX7_stepMany
  · exact kY_RX7_keptState
