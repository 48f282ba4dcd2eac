/-! ===== the words that methods may use: the good ones of the tables ===== -/
def mz_ws : List Cond := lw_tbl.filter goodWord
theorem mz_ws_tbl : ∀ w ∈ mz_ws, w ∈ lw_tbl := fun _ h => (List.mem_filter.mp h).1
theorem mz_good : GoodIn mz_ws mz_ws := fun _ h => ⟨h, good_of_word (List.mem_filter.mp h).2⟩
theorem mz_int {w : Cond} (h : w ∈ tables_1) (g : goodWord w = true) : w ∈ mz_ws := List.mem_filter.mpr ⟨List.mem_append_right _ h, g⟩
theorem mz_in1 {w : Cond} (h : w ∈ tables_1_1) (g : goodWord w = true) : w ∈ mz_ws := mz_int (List.mem_append_left _ h) g
theorem mz_in2 {w : Cond} (h : w ∈ tables_1_2) (g : goodWord w = true) : w ∈ mz_ws := mz_int (List.mem_append_right _ (List.mem_append_left _ h)) g
theorem mz_in3 {w : Cond} (h : w ∈ tables_1_3) (g : goodWord w = true) : w ∈ mz_ws := mz_int (List.mem_append_right _ (List.mem_append_right _ (List.mem_append_left _ h))) g
theorem mz_in4 {w : Cond} (h : w ∈ tables_1_4) (g : goodWord w = true) : w ∈ mz_ws := mz_int (List.mem_append_right _ (List.mem_append_right _ (List.mem_append_right _ (List.mem_append_left _ h)))) g
theorem mz_in5 {w : Cond} (h : w ∈ tables_1_5) (g : goodWord w = true) : w ∈ mz_ws := mz_int (List.mem_append_right _ (List.mem_append_right _ (List.mem_append_right _ (List.mem_append_right _ h)))) g
theorem mz_ip {y : MethodName} {n : Nat} (h : (y, n) ∈ lw_privs) : Cond.selects y.cls y y ∈ mz_ws := List.mem_filter.mpr ⟨List.mem_append_left _ (List.mem_map.mpr ⟨(y, n), h, rfl⟩), rfl⟩
theorem in_RL : Cond.initialized RL ∈ mz_ws := mz_in1 (List.mem_of_getElem? (i := 0) rfl) rfl
theorem in_RX5 : Cond.initialized RX5 ∈ mz_ws := mz_in1 (List.mem_of_getElem? (i := 1) rfl) rfl
theorem in_RX3 : Cond.initialized RX3 ∈ mz_ws := mz_in1 (List.mem_of_getElem? (i := 2) rfl) rfl
theorem in_RX4 : Cond.initialized RX4 ∈ mz_ws := mz_in1 (List.mem_of_getElem? (i := 3) rfl) rfl
theorem in_RJ9 : Cond.initialized RJ9 ∈ mz_ws := mz_in1 (List.mem_of_getElem? (i := 4) rfl) rfl
theorem in_RX0 : Cond.initialized RX0 ∈ mz_ws := mz_in1 (List.mem_of_getElem? (i := 5) rfl) rfl
theorem in_RX2 : Cond.initialized RX2 ∈ mz_ws := mz_in1 (List.mem_of_getElem? (i := 6) rfl) rfl
theorem in_RX1 : Cond.initialized RX1 ∈ mz_ws := mz_in1 (List.mem_of_getElem? (i := 7) rfl) rfl
theorem in_RX6 : Cond.initialized RX6 ∈ mz_ws := mz_in1 (List.mem_of_getElem? (i := 8) rfl) rfl
theorem in_java_lang_Throwable : Cond.initialized "java/lang/Throwable" ∈ mz_ws := mz_in1 (List.mem_of_getElem? (i := 9) rfl) rfl
theorem in_java_lang_Exception : Cond.initialized "java/lang/Exception" ∈ mz_ws := mz_in1 (List.mem_of_getElem? (i := 10) rfl) rfl
theorem in_java_lang_RuntimeException : Cond.initialized "java/lang/RuntimeException" ∈ mz_ws := mz_in1 (List.mem_of_getElem? (i := 11) rfl) rfl
theorem in_java_lang_IndexOutOfBoundsException : Cond.initialized "java/lang/IndexOutOfBoundsException" ∈ mz_ws := mz_in1 (List.mem_of_getElem? (i := 12) rfl) rfl
theorem in_java_lang_IllegalArgumentException : Cond.initialized "java/lang/IllegalArgumentException" ∈ mz_ws := mz_in1 (List.mem_of_getElem? (i := 13) rfl) rfl
theorem in_java_lang_IllegalStateException : Cond.initialized "java/lang/IllegalStateException" ∈ mz_ws := mz_in1 (List.mem_of_getElem? (i := 14) rfl) rfl
theorem in_RJ10 : Cond.initialized RJ10 ∈ mz_ws := mz_in1 (List.mem_of_getElem? (i := 15) rfl) rfl
theorem in_RJ7 : Cond.initialized RJ7 ∈ mz_ws := mz_in1 (List.mem_of_getElem? (i := 16) rfl) rfl
theorem ck_RL_8 : Cond.classLink RL 8 RX5 ∈ mz_ws := mz_in1 (List.mem_of_getElem? (i := 17) rfl) rfl
theorem it_RX5 : Cond.instantiable RX5 5 ∈ mz_ws := mz_in1 (List.mem_of_getElem? (i := 18) rfl) rfl
theorem lk_RL_104 : Cond.methodLink RL 104 yX5_init ∈ mz_ws := mz_in1 (List.mem_of_getElem? (i := 19) rfl) rfl
theorem im_X5_init : Cond.instanceMethod yX5_init ∈ mz_ws := mz_in1 (List.mem_of_getElem? (i := 20) rfl) rfl
theorem cd_X5_init : Cond.code yX5_init cX5_init 2 none ∈ mz_ws := mz_in1 (List.mem_of_getElem? (i := 21) rfl) rfl
theorem lk_RX5_3 : Cond.methodLink RX5 3 ⟨"java/lang/Object", "<init>", "()V"⟩ ∈ mz_ws := mz_in1 (List.mem_of_getElem? (i := 22) rfl) rfl
theorem im_java_lang_Object__init____V : Cond.instanceMethod ⟨"java/lang/Object", "<init>", "()V"⟩ ∈ mz_ws := mz_in1 (List.mem_of_getElem? (i := 23) rfl) rfl
theorem ck_RX5_9 : Cond.classLink RX5 9 RX3 ∈ mz_ws := mz_in1 (List.mem_of_getElem? (i := 25) rfl) rfl
theorem it_RX3 : Cond.instantiable RX3 5 ∈ mz_ws := mz_in1 (List.mem_of_getElem? (i := 26) rfl) rfl
theorem lk_RX5_11 : Cond.methodLink RX5 11 yX3_init ∈ mz_ws := mz_in1 (List.mem_of_getElem? (i := 27) rfl) rfl
theorem im_X3_init : Cond.instanceMethod yX3_init ∈ mz_ws := mz_in1 (List.mem_of_getElem? (i := 28) rfl) rfl
theorem cd_X3_init : Cond.code yX3_init cX3_init 2 none ∈ mz_ws := mz_in1 (List.mem_of_getElem? (i := 29) rfl) rfl
theorem lk_RX3_3 : Cond.methodLink RX3 3 ⟨"java/lang/Object", "<init>", "()V"⟩ ∈ mz_ws := mz_in1 (List.mem_of_getElem? (i := 30) rfl) rfl
theorem ck_RX3_9 : Cond.classLink RX3 9 RX0 ∈ mz_ws := mz_in1 (List.mem_of_getElem? (i := 31) rfl) rfl
theorem ck_RX3_17 : Cond.classLink RX3 17 RX2 ∈ mz_ws := mz_in1 (List.mem_of_getElem? (i := 33) rfl) rfl
theorem ck_RX3_23 : Cond.classLink RX3 23 RX4 ∈ mz_ws := mz_in1 (List.mem_of_getElem? (i := 35) rfl) rfl
theorem it_RX4 : Cond.instantiable RX4 4 ∈ mz_ws := mz_in1 (List.mem_of_getElem? (i := 36) rfl) rfl
theorem lk_RX3_25 : Cond.methodLink RX3 25 yX4_init ∈ mz_ws := mz_in1 (List.mem_of_getElem? (i := 37) rfl) rfl
theorem im_X4_init : Cond.instanceMethod yX4_init ∈ mz_ws := mz_in1 (List.mem_of_getElem? (i := 38) rfl) rfl
theorem cd_X4_init : Cond.code yX4_init cX4_init 4 none ∈ mz_ws := mz_in1 (List.mem_of_getElem? (i := 39) rfl) rfl
theorem lk_RX4_3 : Cond.methodLink RX4 3 ⟨"java/lang/Object", "<init>", "()V"⟩ ∈ mz_ws := mz_in1 (List.mem_of_getElem? (i := 40) rfl) rfl
theorem lk_RX4_21 : Cond.methodLink RX4 21 yJ9_max_7cf53 ∈ mz_ws := mz_in1 (List.mem_of_getElem? (i := 41) rfl) rfl
theorem sm_J9_max_7cf53 : Cond.static yJ9_max_7cf53 ∈ mz_ws := mz_in1 (List.mem_of_getElem? (i := 42) rfl) rfl
theorem cd_J9_max_7cf53 : Cond.code yJ9_max_7cf53 cJ9_max_7cf53 2 (some .int) ∈ mz_ws := mz_in1 (List.mem_of_getElem? (i := 43) rfl) rfl
theorem fk_RX4_15 : Cond.fieldLink RX4 15 "MailSync$Table" "width" "I" ∈ mz_ws := mz_in1 (List.mem_of_getElem? (i := 44) rfl) rfl
theorem fk_RX4_18 : Cond.fieldLink RX4 18 "MailSync$Table" "limit" "I" ∈ mz_ws := mz_in1 (List.mem_of_getElem? (i := 45) rfl) rfl
theorem fk_RX4_9 : Cond.fieldLink RX4 9 "MailSync$Table" "size" "I" ∈ mz_ws := mz_in1 (List.mem_of_getElem? (i := 46) rfl) rfl
theorem fk_RX4_27 : Cond.fieldLink RX4 27 "MailSync$Table" "cells" "[I" ∈ mz_ws := mz_in1 (List.mem_of_getElem? (i := 52) rfl) rfl
theorem ly_RX4_width : Cond.laysFinal "MailSync$Table" "MailSync$Table" "width" "I" ∈ mz_ws := mz_in1 (List.mem_of_getElem? (i := 53) rfl) rfl
theorem ly_RX4_limit : Cond.laysFinal "MailSync$Table" "MailSync$Table" "limit" "I" ∈ mz_ws := mz_in1 (List.mem_of_getElem? (i := 55) rfl) rfl
theorem ly_RX4_size : Cond.lays "MailSync$Table" "MailSync$Table" "size" "I" ∈ mz_ws := mz_in1 (List.mem_of_getElem? (i := 57) rfl) rfl
theorem ly_RX4_cells : Cond.lays "MailSync$Table" "MailSync$Table" "cells" "[I" ∈ mz_ws := mz_in1 (List.mem_of_getElem? (i := 59) rfl) rfl
theorem ac_int : Cond.arrayClass .int ∈ mz_ws := mz_in1 (List.mem_of_getElem? (i := 62) rfl) rfl
theorem it_RX0 : Cond.instantiable RX0 6 ∈ mz_ws := mz_in1 (List.mem_of_getElem? (i := 63) rfl) rfl
theorem im_X0_init : Cond.instanceMethod yX0_init ∈ mz_ws := mz_in1 (List.mem_of_getElem? (i := 65) rfl) rfl
theorem cd_X0_init : Cond.code yX0_init cX0_init 1 none ∈ mz_ws := mz_in1 (List.mem_of_getElem? (i := 66) rfl) rfl
theorem lk_RX0_3 : Cond.methodLink RX0 3 ⟨"java/lang/Object", "<init>", "()V"⟩ ∈ mz_ws := mz_in1 (List.mem_of_getElem? (i := 67) rfl) rfl
theorem ck_RX0_24 : Cond.classLink RX0 24 RX4 ∈ mz_ws := mz_in1 (List.mem_of_getElem? (i := 68) rfl) rfl
theorem lk_RX0_26 : Cond.methodLink RX0 26 yX4_init ∈ mz_ws := mz_in1 (List.mem_of_getElem? (i := 69) rfl) rfl
theorem fk_RX0_9 : Cond.fieldLink RX0 9 "MailSync$Box" "era" "I" ∈ mz_ws := mz_in1 (List.mem_of_getElem? (i := 70) rfl) rfl
theorem fk_RX0_15 : Cond.fieldLink RX0 15 "MailSync$Box" "nextName" "I" ∈ mz_ws := mz_in1 (List.mem_of_getElem? (i := 74) rfl) rfl
theorem fk_RX0_18 : Cond.fieldLink RX0 18 "MailSync$Box" "mark" "I" ∈ mz_ws := mz_in1 (List.mem_of_getElem? (i := 76) rfl) rfl
theorem fk_RX0_21 : Cond.fieldLink RX0 21 "MailSync$Box" "horizon" "I" ∈ mz_ws := mz_in1 (List.mem_of_getElem? (i := 79) rfl) rfl
theorem fk_RX0_29 : Cond.fieldLink RX0 29 "MailSync$Box" "messages" "LMailSync$Table;" ∈ mz_ws := mz_in1 (List.mem_of_getElem? (i := 81) rfl) rfl
theorem fk_RX0_33 : Cond.fieldLink RX0 33 "MailSync$Box" "lost" "LMailSync$Table;" ∈ mz_ws := mz_in1 (List.mem_of_getElem? (i := 85) rfl) rfl
theorem ly_RX0_era : Cond.lays "MailSync$Box" "MailSync$Box" "era" "I" ∈ mz_ws := mz_in1 (List.mem_of_getElem? (i := 88) rfl) rfl
theorem ly_RX0_nextName : Cond.lays "MailSync$Box" "MailSync$Box" "nextName" "I" ∈ mz_ws := mz_in1 (List.mem_of_getElem? (i := 90) rfl) rfl
theorem ly_RX0_mark : Cond.lays "MailSync$Box" "MailSync$Box" "mark" "I" ∈ mz_ws := mz_in1 (List.mem_of_getElem? (i := 92) rfl) rfl
theorem ly_RX0_horizon : Cond.lays "MailSync$Box" "MailSync$Box" "horizon" "I" ∈ mz_ws := mz_in1 (List.mem_of_getElem? (i := 94) rfl) rfl
theorem ly_RX0_messages : Cond.laysFinal "MailSync$Box" "MailSync$Box" "messages" "LMailSync$Table;" ∈ mz_ws := mz_in1 (List.mem_of_getElem? (i := 96) rfl) rfl
theorem ly_RX0_lost : Cond.laysFinal "MailSync$Box" "MailSync$Box" "lost" "LMailSync$Table;" ∈ mz_ws := mz_in1 (List.mem_of_getElem? (i := 98) rfl) rfl
theorem it_RX2 : Cond.instantiable RX2 3 ∈ mz_ws := mz_in1 (List.mem_of_getElem? (i := 101) rfl) rfl
theorem lk_RX3_41 : Cond.methodLink RX3 41 yX2_init ∈ mz_ws := mz_in1 (List.mem_of_getElem? (i := 102) rfl) rfl
theorem im_X2_init : Cond.instanceMethod yX2_init ∈ mz_ws := mz_in1 (List.mem_of_getElem? (i := 103) rfl) rfl
theorem cd_X2_init : Cond.code yX2_init cX2_init 2 none ∈ mz_ws := mz_in1 (List.mem_of_getElem? (i := 104) rfl) rfl
theorem lk_RX2_3 : Cond.methodLink RX2 3 ⟨"java/lang/Object", "<init>", "()V"⟩ ∈ mz_ws := mz_in1 (List.mem_of_getElem? (i := 105) rfl) rfl
theorem ck_RX2_15 : Cond.classLink RX2 15 RX1 ∈ mz_ws := mz_in1 (List.mem_of_getElem? (i := 106) rfl) rfl
theorem ck_RX2_21 : Cond.classLink RX2 21 RX4 ∈ mz_ws := mz_in1 (List.mem_of_getElem? (i := 108) rfl) rfl
theorem lk_RX2_23 : Cond.methodLink RX2 23 yX4_init ∈ mz_ws := mz_in1 (List.mem_of_getElem? (i := 109) rfl) rfl
theorem it_RX1 : Cond.instantiable RX1 3 ∈ mz_ws := mz_in1 (List.mem_of_getElem? (i := 110) rfl) rfl
theorem im_X1_init : Cond.instanceMethod yX1_init ∈ mz_ws := mz_in1 (List.mem_of_getElem? (i := 112) rfl) rfl
theorem cd_X1_init : Cond.code yX1_init cX1_init 1 none ∈ mz_ws := mz_in1 (List.mem_of_getElem? (i := 113) rfl) rfl
theorem lk_RX1_3 : Cond.methodLink RX1 3 ⟨"java/lang/Object", "<init>", "()V"⟩ ∈ mz_ws := mz_in1 (List.mem_of_getElem? (i := 114) rfl) rfl
theorem ck_RX1_18 : Cond.classLink RX1 18 RX4 ∈ mz_ws := mz_in1 (List.mem_of_getElem? (i := 115) rfl) rfl
theorem lk_RX1_20 : Cond.methodLink RX1 20 yX4_init ∈ mz_ws := mz_in1 (List.mem_of_getElem? (i := 116) rfl) rfl
theorem fk_RX1_9 : Cond.fieldLink RX1 9 "MailSync$Copy" "era" "I" ∈ mz_ws := mz_in1 (List.mem_of_getElem? (i := 117) rfl) rfl
theorem fk_RX1_15 : Cond.fieldLink RX1 15 "MailSync$Copy" "mark" "I" ∈ mz_ws := mz_in1 (List.mem_of_getElem? (i := 120) rfl) rfl
theorem fk_RX1_23 : Cond.fieldLink RX1 23 "MailSync$Copy" "messages" "LMailSync$Table;" ∈ mz_ws := mz_in1 (List.mem_of_getElem? (i := 123) rfl) rfl
theorem ly_RX1_era : Cond.lays "MailSync$Copy" "MailSync$Copy" "era" "I" ∈ mz_ws := mz_in1 (List.mem_of_getElem? (i := 127) rfl) rfl
theorem ly_RX1_mark : Cond.lays "MailSync$Copy" "MailSync$Copy" "mark" "I" ∈ mz_ws := mz_in1 (List.mem_of_getElem? (i := 129) rfl) rfl
theorem ly_RX1_messages : Cond.laysFinal "MailSync$Copy" "MailSync$Copy" "messages" "LMailSync$Table;" ∈ mz_ws := mz_in1 (List.mem_of_getElem? (i := 131) rfl) rfl
theorem fk_RX2_9 : Cond.fieldLink RX2 9 "MailSync$Machine" "policy" "I" ∈ mz_ws := mz_in1 (List.mem_of_getElem? (i := 134) rfl) rfl
theorem fk_RX2_17 : Cond.fieldLink RX2 17 "MailSync$Machine" "copies" "[LMailSync$Copy;" ∈ mz_ws := mz_in1 (List.mem_of_getElem? (i := 137) rfl) rfl
theorem fk_RX2_26 : Cond.fieldLink RX2 26 "MailSync$Machine" "deeds" "LMailSync$Table;" ∈ mz_ws := mz_in1 (List.mem_of_getElem? (i := 140) rfl) rfl
theorem ly_RX2_policy : Cond.lays "MailSync$Machine" "MailSync$Machine" "policy" "I" ∈ mz_ws := mz_in1 (List.mem_of_getElem? (i := 143) rfl) rfl
theorem ly_RX2_copies : Cond.laysFinal "MailSync$Machine" "MailSync$Machine" "copies" "[LMailSync$Copy;" ∈ mz_ws := mz_in1 (List.mem_of_getElem? (i := 145) rfl) rfl
theorem ly_RX2_deeds : Cond.laysFinal "MailSync$Machine" "MailSync$Machine" "deeds" "LMailSync$Table;" ∈ mz_ws := mz_in1 (List.mem_of_getElem? (i := 147) rfl) rfl
theorem fk_RX3_11 : Cond.fieldLink RX3 11 "MailSync$State" "boxes" "[LMailSync$Box;" ∈ mz_ws := mz_in1 (List.mem_of_getElem? (i := 150) rfl) rfl
theorem fk_RX3_19 : Cond.fieldLink RX3 19 "MailSync$State" "machines" "[LMailSync$Machine;" ∈ mz_ws := mz_in1 (List.mem_of_getElem? (i := 152) rfl) rfl
theorem fk_RX3_28 : Cond.fieldLink RX3 28 "MailSync$State" "noted" "LMailSync$Table;" ∈ mz_ws := mz_in1 (List.mem_of_getElem? (i := 154) rfl) rfl
theorem fk_RX3_32 : Cond.fieldLink RX3 32 "MailSync$State" "counts" "[I" ∈ mz_ws := mz_in1 (List.mem_of_getElem? (i := 156) rfl) rfl
theorem fk_RX3_36 : Cond.fieldLink RX3 36 "MailSync$State" "nextDeed" "I" ∈ mz_ws := mz_in1 (List.mem_of_getElem? (i := 158) rfl) rfl
theorem ly_RX3_boxes : Cond.laysFinal "MailSync$State" "MailSync$State" "boxes" "[LMailSync$Box;" ∈ mz_ws := mz_in1 (List.mem_of_getElem? (i := 159) rfl) rfl
theorem ly_RX3_machines : Cond.laysFinal "MailSync$State" "MailSync$State" "machines" "[LMailSync$Machine;" ∈ mz_ws := mz_in1 (List.mem_of_getElem? (i := 161) rfl) rfl
theorem ly_RX3_noted : Cond.laysFinal "MailSync$State" "MailSync$State" "noted" "LMailSync$Table;" ∈ mz_ws := mz_in1 (List.mem_of_getElem? (i := 163) rfl) rfl
theorem ly_RX3_counts : Cond.laysFinal "MailSync$State" "MailSync$State" "counts" "[I" ∈ mz_ws := mz_in1 (List.mem_of_getElem? (i := 165) rfl) rfl
theorem ly_RX3_nextDeed : Cond.lays "MailSync$State" "MailSync$State" "nextDeed" "I" ∈ mz_ws := mz_in1 (List.mem_of_getElem? (i := 167) rfl) rfl
theorem ck_RX5_24 : Cond.classLink RX5 24 RX4 ∈ mz_ws := mz_in1 (List.mem_of_getElem? (i := 171) rfl) rfl
theorem lk_RX5_26 : Cond.methodLink RX5 26 yX4_init ∈ mz_ws := mz_in1 (List.mem_of_getElem? (i := 172) rfl) rfl
theorem fk_RX5_12 : Cond.fieldLink RX5 12 "MailSync" "now" "LMailSync$State;" ∈ mz_ws := mz_in1 (List.mem_of_getElem? (i := 173) rfl) rfl
theorem fk_RX5_16 : Cond.fieldLink RX5 16 "MailSync" "records" "[LMailSync$State;" ∈ mz_ws := mz_in1 (List.mem_of_getElem? (i := 174) rfl) rfl
theorem fk_RX5_20 : Cond.fieldLink RX5 20 "MailSync" "recordCount" "I" ∈ mz_ws := mz_in1 (List.mem_of_getElem? (i := 175) rfl) rfl
theorem fk_RX5_29 : Cond.fieldLink RX5 29 "MailSync" "viewRows" "LMailSync$Table;" ∈ mz_ws := mz_in1 (List.mem_of_getElem? (i := 176) rfl) rfl
theorem fk_RX5_33 : Cond.fieldLink RX5 33 "MailSync" "otherViewRows" "LMailSync$Table;" ∈ mz_ws := mz_in1 (List.mem_of_getElem? (i := 177) rfl) rfl
theorem ly_RX5_now : Cond.lays "MailSync" "MailSync" "now" "LMailSync$State;" ∈ mz_ws := mz_in1 (List.mem_of_getElem? (i := 178) rfl) rfl
theorem ly_RX5_records : Cond.laysFinal "MailSync" "MailSync" "records" "[LMailSync$State;" ∈ mz_ws := mz_in1 (List.mem_of_getElem? (i := 180) rfl) rfl
theorem ly_RX5_recordCount : Cond.lays "MailSync" "MailSync" "recordCount" "I" ∈ mz_ws := mz_in1 (List.mem_of_getElem? (i := 182) rfl) rfl
theorem ly_RX5_viewRows : Cond.laysFinal "MailSync" "MailSync" "viewRows" "LMailSync$Table;" ∈ mz_ws := mz_in1 (List.mem_of_getElem? (i := 184) rfl) rfl
theorem ly_RX5_otherViewRows : Cond.laysFinal "MailSync" "MailSync" "otherViewRows" "LMailSync$Table;" ∈ mz_ws := mz_in1 (List.mem_of_getElem? (i := 186) rfl) rfl
theorem lk_RL_194 : Cond.methodLink RL 194 yX5_outcome ∈ mz_ws := mz_in1 (List.mem_of_getElem? (i := 189) rfl) rfl
theorem im_X5_outcome : Cond.instanceMethod yX5_outcome ∈ mz_ws := mz_in1 (List.mem_of_getElem? (i := 190) rfl) rfl
theorem se_X5_outcome : Cond.selects RX5 yX5_outcome yX5_outcome ∈ mz_ws := mz_in1 (List.mem_of_getElem? (i := 191) rfl) rfl
theorem cd_X5_outcome : Cond.code yX5_outcome cX5_outcome 2 (some .int) ∈ mz_ws := mz_in1 (List.mem_of_getElem? (i := 192) rfl) rfl
theorem lk_RX5_178 : Cond.methodLink RX5 178 yX4_rowWith ∈ mz_ws := mz_in1 (List.mem_of_getElem? (i := 193) rfl) rfl
theorem im_X4_rowWith : Cond.instanceMethod yX4_rowWith ∈ mz_ws := mz_in1 (List.mem_of_getElem? (i := 194) rfl) rfl
theorem se_X4_rowWith : Cond.selects RX4 yX4_rowWith yX4_rowWith ∈ mz_ws := mz_in1 (List.mem_of_getElem? (i := 195) rfl) rfl
theorem cd_X4_rowWith : Cond.code yX4_rowWith cX4_rowWith 4 (some .int) ∈ mz_ws := mz_in1 (List.mem_of_getElem? (i := 196) rfl) rfl
theorem lk_RX4_31 : Cond.methodLink RX4 31 yX4_cell ∈ mz_ws := mz_in1 (List.mem_of_getElem? (i := 197) rfl) rfl
theorem im_X4_cell : Cond.instanceMethod yX4_cell ∈ mz_ws := mz_in1 (List.mem_of_getElem? (i := 198) rfl) rfl
theorem se_X4_cell : Cond.selects RX4 yX4_cell yX4_cell ∈ mz_ws := mz_in1 (List.mem_of_getElem? (i := 199) rfl) rfl
theorem cd_X4_cell : Cond.code yX4_cell cX4_cell 3 (some .int) ∈ mz_ws := mz_in1 (List.mem_of_getElem? (i := 200) rfl) rfl
theorem lk_RX5_78 : Cond.methodLink RX5 78 yX4_cell ∈ mz_ws := mz_in1 (List.mem_of_getElem? (i := 201) rfl) rfl
theorem lk_RL_198 : Cond.methodLink RL 198 yX5_nameOf ∈ mz_ws := mz_in1 (List.mem_of_getElem? (i := 202) rfl) rfl
theorem im_X5_nameOf : Cond.instanceMethod yX5_nameOf ∈ mz_ws := mz_in1 (List.mem_of_getElem? (i := 203) rfl) rfl
theorem se_X5_nameOf : Cond.selects RX5 yX5_nameOf yX5_nameOf ∈ mz_ws := mz_in1 (List.mem_of_getElem? (i := 204) rfl) rfl
theorem cd_X5_nameOf : Cond.code yX5_nameOf cX5_nameOf 2 (some .int) ∈ mz_ws := mz_in1 (List.mem_of_getElem? (i := 205) rfl) rfl
theorem lk_RL_202 : Cond.methodLink RL 202 yX5_noted ∈ mz_ws := mz_in1 (List.mem_of_getElem? (i := 206) rfl) rfl
theorem im_X5_noted : Cond.instanceMethod yX5_noted ∈ mz_ws := mz_in1 (List.mem_of_getElem? (i := 207) rfl) rfl
theorem se_X5_noted : Cond.selects RX5 yX5_noted yX5_noted ∈ mz_ws := mz_in1 (List.mem_of_getElem? (i := 208) rfl) rfl
theorem cd_X5_noted : Cond.code yX5_noted cX5_noted 2 (some .int) ∈ mz_ws := mz_in1 (List.mem_of_getElem? (i := 209) rfl) rfl
theorem lk_RL_206 : Cond.methodLink RL 206 yX5_settle ∈ mz_ws := mz_in1 (List.mem_of_getElem? (i := 210) rfl) rfl
theorem im_X5_settle : Cond.instanceMethod yX5_settle ∈ mz_ws := mz_in1 (List.mem_of_getElem? (i := 211) rfl) rfl
theorem se_X5_settle : Cond.selects RX5 yX5_settle yX5_settle ∈ mz_ws := mz_in1 (List.mem_of_getElem? (i := 212) rfl) rfl
theorem cd_X5_settle : Cond.code yX5_settle cX5_settle 4 (some .int) ∈ mz_ws := mz_in1 (List.mem_of_getElem? (i := 213) rfl) rfl
theorem lk_RX5_49 : Cond.methodLink RX5 49 yX5_keepRecord ∈ mz_ws := mz_in1 (List.mem_of_getElem? (i := 214) rfl) rfl
theorem im_X5_keepRecord : Cond.instanceMethod yX5_keepRecord ∈ mz_ws := mz_in1 (List.mem_of_getElem? (i := 216) rfl) rfl
theorem cd_X5_keepRecord : Cond.code yX5_keepRecord cX5_keepRecord 3 none ∈ mz_ws := mz_in1 (List.mem_of_getElem? (i := 217) rfl) rfl
theorem lk_RX5_270 : Cond.methodLink RX5 270 yX3_takeFrom ∈ mz_ws := mz_in1 (List.mem_of_getElem? (i := 218) rfl) rfl
theorem im_X3_takeFrom : Cond.instanceMethod yX3_takeFrom ∈ mz_ws := mz_in1 (List.mem_of_getElem? (i := 219) rfl) rfl
theorem se_X3_takeFrom : Cond.selects RX3 yX3_takeFrom yX3_takeFrom ∈ mz_ws := mz_in1 (List.mem_of_getElem? (i := 220) rfl) rfl
theorem cd_X3_takeFrom : Cond.code yX3_takeFrom cX3_takeFrom 3 none ∈ mz_ws := mz_in1 (List.mem_of_getElem? (i := 221) rfl) rfl
theorem lk_RX3_165 : Cond.methodLink RX3 165 yX0_takeFrom ∈ mz_ws := mz_in1 (List.mem_of_getElem? (i := 222) rfl) rfl
theorem im_X0_takeFrom : Cond.instanceMethod yX0_takeFrom ∈ mz_ws := mz_in1 (List.mem_of_getElem? (i := 223) rfl) rfl
theorem se_X0_takeFrom : Cond.selects RX0 yX0_takeFrom yX0_takeFrom ∈ mz_ws := mz_in1 (List.mem_of_getElem? (i := 224) rfl) rfl
theorem cd_X0_takeFrom : Cond.code yX0_takeFrom cX0_takeFrom 2 none ∈ mz_ws := mz_in1 (List.mem_of_getElem? (i := 225) rfl) rfl
theorem lk_RX0_77 : Cond.methodLink RX0 77 yX4_takeFrom ∈ mz_ws := mz_in1 (List.mem_of_getElem? (i := 226) rfl) rfl
theorem im_X4_takeFrom : Cond.instanceMethod yX4_takeFrom ∈ mz_ws := mz_in1 (List.mem_of_getElem? (i := 227) rfl) rfl
theorem se_X4_takeFrom : Cond.selects RX4 yX4_takeFrom yX4_takeFrom ∈ mz_ws := mz_in1 (List.mem_of_getElem? (i := 228) rfl) rfl
theorem cd_X4_takeFrom : Cond.code yX4_takeFrom cX4_takeFrom 2 none ∈ mz_ws := mz_in1 (List.mem_of_getElem? (i := 229) rfl) rfl
theorem lk_RX4_43 : Cond.methodLink RX4 43 ⟨"java/lang/System", "arraycopy", "(Ljava/lang/Object;ILjava/lang/Object;II)V"⟩ ∈ mz_ws := mz_in1 (List.mem_of_getElem? (i := 230) rfl) rfl
theorem sm_java_lang_System_arraycopy__Ljava_lang_Object_ILjava_lang_Object_II_V : Cond.static ⟨"java/lang/System", "arraycopy", "(Ljava/lang/Object;ILjava/lang/Object;II)V"⟩ ∈ mz_ws := mz_in1 (List.mem_of_getElem? (i := 231) rfl) rfl
theorem nv_java_lang_System_arraycopy__Ljava_lang_Object_ILjava_lang_Object_II_V : Cond.native ⟨"java/lang/System", "arraycopy", "(Ljava/lang/Object;ILjava/lang/Object;II)V"⟩ ∈ mz_ws := mz_in1 (List.mem_of_getElem? (i := 232) rfl) rfl
theorem lk_RX3_168 : Cond.methodLink RX3 168 yX2_takeFrom ∈ mz_ws := mz_in1 (List.mem_of_getElem? (i := 233) rfl) rfl
theorem im_X2_takeFrom : Cond.instanceMethod yX2_takeFrom ∈ mz_ws := mz_in1 (List.mem_of_getElem? (i := 234) rfl) rfl
theorem se_X2_takeFrom : Cond.selects RX2 yX2_takeFrom yX2_takeFrom ∈ mz_ws := mz_in1 (List.mem_of_getElem? (i := 235) rfl) rfl
theorem cd_X2_takeFrom : Cond.code yX2_takeFrom cX2_takeFrom 3 none ∈ mz_ws := mz_in1 (List.mem_of_getElem? (i := 236) rfl) rfl
theorem lk_RX2_68 : Cond.methodLink RX2 68 yX1_takeFrom ∈ mz_ws := mz_in1 (List.mem_of_getElem? (i := 237) rfl) rfl
theorem im_X1_takeFrom : Cond.instanceMethod yX1_takeFrom ∈ mz_ws := mz_in1 (List.mem_of_getElem? (i := 238) rfl) rfl
theorem se_X1_takeFrom : Cond.selects RX1 yX1_takeFrom yX1_takeFrom ∈ mz_ws := mz_in1 (List.mem_of_getElem? (i := 239) rfl) rfl
theorem cd_X1_takeFrom : Cond.code yX1_takeFrom cX1_takeFrom 2 none ∈ mz_ws := mz_in2 (List.mem_of_getElem? (i := 0) rfl) rfl
theorem lk_RX1_84 : Cond.methodLink RX1 84 yX4_takeFrom ∈ mz_ws := mz_in2 (List.mem_of_getElem? (i := 1) rfl) rfl
theorem lk_RX2_72 : Cond.methodLink RX2 72 yX4_takeFrom ∈ mz_ws := mz_in2 (List.mem_of_getElem? (i := 2) rfl) rfl
theorem lk_RX3_171 : Cond.methodLink RX3 171 yX4_takeFrom ∈ mz_ws := mz_in2 (List.mem_of_getElem? (i := 3) rfl) rfl
theorem lk_RX3_174 : Cond.methodLink RX3 174 ⟨"java/lang/System", "arraycopy", "(Ljava/lang/Object;ILjava/lang/Object;II)V"⟩ ∈ mz_ws := mz_in2 (List.mem_of_getElem? (i := 4) rfl) rfl
theorem lk_RX5_212 : Cond.methodLink RX5 212 yX3_playDeeds ∈ mz_ws := mz_in2 (List.mem_of_getElem? (i := 5) rfl) rfl
theorem im_X3_playDeeds : Cond.instanceMethod yX3_playDeeds ∈ mz_ws := mz_in2 (List.mem_of_getElem? (i := 6) rfl) rfl
theorem se_X3_playDeeds : Cond.selects RX3 yX3_playDeeds yX3_playDeeds ∈ mz_ws := mz_in2 (List.mem_of_getElem? (i := 7) rfl) rfl
theorem cd_X3_playDeeds : Cond.code yX3_playDeeds cX3_playDeeds 4 (some .int) ∈ mz_ws := mz_in2 (List.mem_of_getElem? (i := 8) rfl) rfl
theorem lk_RX3_104 : Cond.methodLink RX3 104 yX3_playDeed ∈ mz_ws := mz_in2 (List.mem_of_getElem? (i := 9) rfl) rfl
theorem im_X3_playDeed : Cond.instanceMethod yX3_playDeed ∈ mz_ws := mz_in2 (List.mem_of_getElem? (i := 11) rfl) rfl
theorem cd_X3_playDeed : Cond.code yX3_playDeed cX3_playDeed 11 (some .int) ∈ mz_ws := mz_in2 (List.mem_of_getElem? (i := 12) rfl) rfl
theorem lk_RX3_97 : Cond.methodLink RX3 97 yX4_cell ∈ mz_ws := mz_in2 (List.mem_of_getElem? (i := 13) rfl) rfl
theorem lk_RX3_122 : Cond.methodLink RX3 122 yX3_playNew ∈ mz_ws := mz_in2 (List.mem_of_getElem? (i := 14) rfl) rfl
theorem sm_X3_playNew : Cond.static yX3_playNew ∈ mz_ws := mz_in2 (List.mem_of_getElem? (i := 15) rfl) rfl
theorem cd_X3_playNew : Cond.code yX3_playNew cX3_playNew 7 (some .int) ∈ mz_ws := mz_in2 (List.mem_of_getElem? (i := 16) rfl) rfl
theorem lk_RX3_130 : Cond.methodLink RX3 130 yX0_isFull ∈ mz_ws := mz_in2 (List.mem_of_getElem? (i := 17) rfl) rfl
theorem im_X0_isFull : Cond.instanceMethod yX0_isFull ∈ mz_ws := mz_in2 (List.mem_of_getElem? (i := 18) rfl) rfl
theorem se_X0_isFull : Cond.selects RX0 yX0_isFull yX0_isFull ∈ mz_ws := mz_in2 (List.mem_of_getElem? (i := 19) rfl) rfl
theorem cd_X0_isFull : Cond.code yX0_isFull cX0_isFull 1 (some .boolean) ∈ mz_ws := mz_in2 (List.mem_of_getElem? (i := 20) rfl) rfl
theorem lk_RX3_134 : Cond.methodLink RX3 134 yX0_addMessage ∈ mz_ws := mz_in2 (List.mem_of_getElem? (i := 21) rfl) rfl
theorem im_X0_addMessage : Cond.instanceMethod yX0_addMessage ∈ mz_ws := mz_in2 (List.mem_of_getElem? (i := 22) rfl) rfl
theorem se_X0_addMessage : Cond.selects RX0 yX0_addMessage yX0_addMessage ∈ mz_ws := mz_in2 (List.mem_of_getElem? (i := 23) rfl) rfl
theorem cd_X0_addMessage : Cond.code yX0_addMessage cX0_addMessage 4 (some .int) ∈ mz_ws := mz_in2 (List.mem_of_getElem? (i := 24) rfl) rfl
theorem lk_RX0_43 : Cond.methodLink RX0 43 yX4_storeMessage ∈ mz_ws := mz_in2 (List.mem_of_getElem? (i := 25) rfl) rfl
theorem im_X4_storeMessage : Cond.instanceMethod yX4_storeMessage ∈ mz_ws := mz_in2 (List.mem_of_getElem? (i := 26) rfl) rfl
theorem se_X4_storeMessage : Cond.selects RX4 yX4_storeMessage yX4_storeMessage ∈ mz_ws := mz_in2 (List.mem_of_getElem? (i := 27) rfl) rfl
theorem cd_X4_storeMessage : Cond.code yX4_storeMessage cX4_storeMessage 7 none ∈ mz_ws := mz_in2 (List.mem_of_getElem? (i := 28) rfl) rfl
theorem lk_RX4_51 : Cond.methodLink RX4 51 yX4_open ∈ mz_ws := mz_in2 (List.mem_of_getElem? (i := 29) rfl) rfl
theorem im_X4_open : Cond.instanceMethod yX4_open ∈ mz_ws := mz_in2 (List.mem_of_getElem? (i := 30) rfl) rfl
theorem se_X4_open : Cond.selects RX4 yX4_open yX4_open ∈ mz_ws := mz_in2 (List.mem_of_getElem? (i := 31) rfl) rfl
theorem cd_X4_open : Cond.code yX4_open cX4_open 3 (some .boolean) ∈ mz_ws := mz_in2 (List.mem_of_getElem? (i := 32) rfl) rfl
theorem lk_RX4_34 : Cond.methodLink RX4 34 yJ9_min_7cf53 ∈ mz_ws := mz_in2 (List.mem_of_getElem? (i := 33) rfl) rfl
theorem sm_J9_min_7cf53 : Cond.static yJ9_min_7cf53 ∈ mz_ws := mz_in2 (List.mem_of_getElem? (i := 34) rfl) rfl
theorem cd_J9_min_7cf53 : Cond.code yJ9_min_7cf53 cJ9_min_7cf53 2 (some .int) ∈ mz_ws := mz_in2 (List.mem_of_getElem? (i := 35) rfl) rfl
theorem lk_RX4_37 : Cond.methodLink RX4 37 yJ7_copyOf_59c91 ∈ mz_ws := mz_in2 (List.mem_of_getElem? (i := 36) rfl) rfl
theorem sm_J7_copyOf_59c91 : Cond.static yJ7_copyOf_59c91 ∈ mz_ws := mz_in2 (List.mem_of_getElem? (i := 37) rfl) rfl
theorem cd_J7_copyOf_59c91 : Cond.code yJ7_copyOf_59c91 cJ7_copyOf_59c91 3 (some (.array .int)) ∈ mz_ws := mz_in2 (List.mem_of_getElem? (i := 38) rfl) rfl
theorem lk_RJ7_316 : Cond.methodLink RJ7 316 ⟨"[I", "clone", "()Ljava/lang/Object;"⟩ ∈ mz_ws := mz_in2 (List.mem_of_getElem? (i := 39) rfl) rfl
theorem nv_java_lang_Object_clone___Ljava_lang_Object_ : Cond.native ⟨"java/lang/Object", "clone", "()Ljava/lang/Object;"⟩ ∈ mz_ws := mz_in2 (List.mem_of_getElem? (i := 41) rfl) rfl
theorem im_java_lang_Object_clone___Ljava_lang_Object_ : Cond.instanceMethod ⟨"java/lang/Object", "clone", "()Ljava/lang/Object;"⟩ ∈ mz_ws := mz_in2 (List.mem_of_getElem? (i := 42) rfl) rfl
theorem ck_RJ7_317 : Cond.classLink RJ7 317 "[I" ∈ mz_ws := mz_in2 (List.mem_of_getElem? (i := 45) rfl) rfl
theorem lk_RJ7_304 : Cond.methodLink RJ7 304 yJ9_min_7cf53 ∈ mz_ws := mz_in2 (List.mem_of_getElem? (i := 46) rfl) rfl
theorem lk_RJ7_150 : Cond.methodLink RJ7 150 ⟨"java/lang/System", "arraycopy", "(Ljava/lang/Object;ILjava/lang/Object;II)V"⟩ ∈ mz_ws := mz_in2 (List.mem_of_getElem? (i := 47) rfl) rfl
theorem lk_RX4_55 : Cond.methodLink RX4 55 yX4_put ∈ mz_ws := mz_in2 (List.mem_of_getElem? (i := 48) rfl) rfl
theorem im_X4_put : Cond.instanceMethod yX4_put ∈ mz_ws := mz_in2 (List.mem_of_getElem? (i := 49) rfl) rfl
theorem se_X4_put : Cond.selects RX4 yX4_put yX4_put ∈ mz_ws := mz_in2 (List.mem_of_getElem? (i := 50) rfl) rfl
theorem cd_X4_put : Cond.code yX4_put cX4_put 4 none ∈ mz_ws := mz_in2 (List.mem_of_getElem? (i := 51) rfl) rfl
theorem lk_RX3_140 : Cond.methodLink RX3 140 yX4_storeMessage ∈ mz_ws := mz_in2 (List.mem_of_getElem? (i := 52) rfl) rfl
theorem lk_RX3_126 : Cond.methodLink RX3 126 yX3_playOnMessage ∈ mz_ws := mz_in2 (List.mem_of_getElem? (i := 53) rfl) rfl
theorem sm_X3_playOnMessage : Cond.static yX3_playOnMessage ∈ mz_ws := mz_in2 (List.mem_of_getElem? (i := 54) rfl) rfl
theorem cd_X3_playOnMessage : Cond.code yX3_playOnMessage cX3_playOnMessage 8 (some .int) ∈ mz_ws := mz_in2 (List.mem_of_getElem? (i := 55) rfl) rfl
theorem lk_RX3_145 : Cond.methodLink RX3 145 yX4_rowWith ∈ mz_ws := mz_in2 (List.mem_of_getElem? (i := 56) rfl) rfl
theorem lk_RX3_148 : Cond.methodLink RX3 148 yX1_dropMessage ∈ mz_ws := mz_in2 (List.mem_of_getElem? (i := 57) rfl) rfl
theorem im_X1_dropMessage : Cond.instanceMethod yX1_dropMessage ∈ mz_ws := mz_in2 (List.mem_of_getElem? (i := 58) rfl) rfl
theorem se_X1_dropMessage : Cond.selects RX1 yX1_dropMessage yX1_dropMessage ∈ mz_ws := mz_in2 (List.mem_of_getElem? (i := 59) rfl) rfl
theorem cd_X1_dropMessage : Cond.code yX1_dropMessage cX1_dropMessage 2 none ∈ mz_ws := mz_in2 (List.mem_of_getElem? (i := 60) rfl) rfl
theorem lk_RX1_74 : Cond.methodLink RX1 74 yX4_rowWith ∈ mz_ws := mz_in2 (List.mem_of_getElem? (i := 61) rfl) rfl
theorem lk_RX1_77 : Cond.methodLink RX1 77 yX4_erase ∈ mz_ws := mz_in2 (List.mem_of_getElem? (i := 62) rfl) rfl
theorem im_X4_erase : Cond.instanceMethod yX4_erase ∈ mz_ws := mz_in2 (List.mem_of_getElem? (i := 63) rfl) rfl
theorem se_X4_erase : Cond.selects RX4 yX4_erase yX4_erase ∈ mz_ws := mz_in2 (List.mem_of_getElem? (i := 64) rfl) rfl
theorem cd_X4_erase : Cond.code yX4_erase cX4_erase 2 none ∈ mz_ws := mz_in2 (List.mem_of_getElem? (i := 65) rfl) rfl
theorem lk_RX3_154 : Cond.methodLink RX3 154 yX0_removeMessage ∈ mz_ws := mz_in2 (List.mem_of_getElem? (i := 66) rfl) rfl
theorem im_X0_removeMessage : Cond.instanceMethod yX0_removeMessage ∈ mz_ws := mz_in2 (List.mem_of_getElem? (i := 67) rfl) rfl
theorem se_X0_removeMessage : Cond.selects RX0 yX0_removeMessage yX0_removeMessage ∈ mz_ws := mz_in2 (List.mem_of_getElem? (i := 68) rfl) rfl
theorem cd_X0_removeMessage : Cond.code yX0_removeMessage cX0_removeMessage 4 none ∈ mz_ws := mz_in2 (List.mem_of_getElem? (i := 69) rfl) rfl
theorem lk_RX0_39 : Cond.methodLink RX0 39 yX4_cell ∈ mz_ws := mz_in2 (List.mem_of_getElem? (i := 70) rfl) rfl
theorem lk_RX0_50 : Cond.methodLink RX0 50 yX4_erase ∈ mz_ws := mz_in2 (List.mem_of_getElem? (i := 71) rfl) rfl
theorem lk_RX0_54 : Cond.methodLink RX0 54 yX4_open ∈ mz_ws := mz_in2 (List.mem_of_getElem? (i := 72) rfl) rfl
theorem lk_RX0_47 : Cond.methodLink RX0 47 yX4_put ∈ mz_ws := mz_in2 (List.mem_of_getElem? (i := 73) rfl) rfl
theorem sm_X5_mixFlags : Cond.static yX5_mixFlags ∈ mz_ws := mz_in2 (List.mem_of_getElem? (i := 75) rfl) rfl
theorem cd_X5_mixFlags : Cond.code yX5_mixFlags cX5_mixFlags 3 (some .int) ∈ mz_ws := mz_in2 (List.mem_of_getElem? (i := 76) rfl) rfl
theorem lk_RX3_161 : Cond.methodLink RX3 161 yX0_changeFlags ∈ mz_ws := mz_in2 (List.mem_of_getElem? (i := 77) rfl) rfl
theorem im_X0_changeFlags : Cond.instanceMethod yX0_changeFlags ∈ mz_ws := mz_in2 (List.mem_of_getElem? (i := 78) rfl) rfl
theorem se_X0_changeFlags : Cond.selects RX0 yX0_changeFlags yX0_changeFlags ∈ mz_ws := mz_in2 (List.mem_of_getElem? (i := 79) rfl) rfl
theorem cd_X0_changeFlags : Cond.code yX0_changeFlags cX0_changeFlags 3 none ∈ mz_ws := mz_in2 (List.mem_of_getElem? (i := 80) rfl) rfl
theorem lk_RX3_52 : Cond.methodLink RX3 52 yX4_put ∈ mz_ws := mz_in2 (List.mem_of_getElem? (i := 81) rfl) rfl
theorem lk_RX3_101 : Cond.methodLink RX3 101 yX3_note ∈ mz_ws := mz_in2 (List.mem_of_getElem? (i := 82) rfl) rfl
theorem im_X3_note : Cond.instanceMethod yX3_note ∈ mz_ws := mz_in2 (List.mem_of_getElem? (i := 84) rfl) rfl
theorem cd_X3_note : Cond.code yX3_note cX3_note 5 none ∈ mz_ws := mz_in2 (List.mem_of_getElem? (i := 85) rfl) rfl
theorem lk_RX3_55 : Cond.methodLink RX3 55 yX4_erase ∈ mz_ws := mz_in2 (List.mem_of_getElem? (i := 86) rfl) rfl
theorem lk_RX3_48 : Cond.methodLink RX3 48 yX4_open ∈ mz_ws := mz_in2 (List.mem_of_getElem? (i := 87) rfl) rfl
theorem lk_RX3_108 : Cond.methodLink RX3 108 yX4_eraseAll ∈ mz_ws := mz_in2 (List.mem_of_getElem? (i := 88) rfl) rfl
theorem im_X4_eraseAll : Cond.instanceMethod yX4_eraseAll ∈ mz_ws := mz_in2 (List.mem_of_getElem? (i := 89) rfl) rfl
theorem se_X4_eraseAll : Cond.selects RX4 yX4_eraseAll yX4_eraseAll ∈ mz_ws := mz_in2 (List.mem_of_getElem? (i := 90) rfl) rfl
theorem cd_X4_eraseAll : Cond.code yX4_eraseAll cX4_eraseAll 1 none ∈ mz_ws := mz_in2 (List.mem_of_getElem? (i := 91) rfl) rfl
theorem lk_RX5_152 : Cond.methodLink RX5 152 yX3_syncBox ∈ mz_ws := mz_in2 (List.mem_of_getElem? (i := 92) rfl) rfl
theorem im_X3_syncBox : Cond.instanceMethod yX3_syncBox ∈ mz_ws := mz_in2 (List.mem_of_getElem? (i := 93) rfl) rfl
theorem se_X3_syncBox : Cond.selects RX3 yX3_syncBox yX3_syncBox ∈ mz_ws := mz_in2 (List.mem_of_getElem? (i := 94) rfl) rfl
theorem cd_X3_syncBox : Cond.code yX3_syncBox cX3_syncBox 7 (some .int) ∈ mz_ws := mz_in2 (List.mem_of_getElem? (i := 95) rfl) rfl
theorem lk_RX3_63 : Cond.methodLink RX3 63 yX1_caseOfSync ∈ mz_ws := mz_in2 (List.mem_of_getElem? (i := 96) rfl) rfl
theorem im_X1_caseOfSync : Cond.instanceMethod yX1_caseOfSync ∈ mz_ws := mz_in2 (List.mem_of_getElem? (i := 97) rfl) rfl
theorem se_X1_caseOfSync : Cond.selects RX1 yX1_caseOfSync yX1_caseOfSync ∈ mz_ws := mz_in2 (List.mem_of_getElem? (i := 98) rfl) rfl
theorem cd_X1_caseOfSync : Cond.code yX1_caseOfSync cX1_caseOfSync 2 (some .int) ∈ mz_ws := mz_in2 (List.mem_of_getElem? (i := 99) rfl) rfl
theorem lk_RX3_69 : Cond.methodLink RX3 69 yX1_messagesDue ∈ mz_ws := mz_in2 (List.mem_of_getElem? (i := 100) rfl) rfl
theorem im_X1_messagesDue : Cond.instanceMethod yX1_messagesDue ∈ mz_ws := mz_in2 (List.mem_of_getElem? (i := 101) rfl) rfl
theorem se_X1_messagesDue : Cond.selects RX1 yX1_messagesDue yX1_messagesDue ∈ mz_ws := mz_in2 (List.mem_of_getElem? (i := 102) rfl) rfl
theorem cd_X1_messagesDue : Cond.code yX1_messagesDue cX1_messagesDue 4 (some .int) ∈ mz_ws := mz_in2 (List.mem_of_getElem? (i := 103) rfl) rfl
theorem lk_RX1_41 : Cond.methodLink RX1 41 yX1_isDue ∈ mz_ws := mz_in2 (List.mem_of_getElem? (i := 104) rfl) rfl
theorem im_X1_isDue : Cond.instanceMethod yX1_isDue ∈ mz_ws := mz_in2 (List.mem_of_getElem? (i := 106) rfl) rfl
theorem cd_X1_isDue : Cond.code yX1_isDue cX1_isDue 3 (some .boolean) ∈ mz_ws := mz_in2 (List.mem_of_getElem? (i := 107) rfl) rfl
theorem lk_RX1_34 : Cond.methodLink RX1 34 yX4_cell ∈ mz_ws := mz_in2 (List.mem_of_getElem? (i := 108) rfl) rfl
theorem lk_RX3_72 : Cond.methodLink RX3 72 yX1_namesDue ∈ mz_ws := mz_in2 (List.mem_of_getElem? (i := 109) rfl) rfl
theorem im_X1_namesDue : Cond.instanceMethod yX1_namesDue ∈ mz_ws := mz_in2 (List.mem_of_getElem? (i := 110) rfl) rfl
theorem se_X1_namesDue : Cond.selects RX1 yX1_namesDue yX1_namesDue ∈ mz_ws := mz_in2 (List.mem_of_getElem? (i := 111) rfl) rfl
theorem cd_X1_namesDue : Cond.code yX1_namesDue cX1_namesDue 2 (some .int) ∈ mz_ws := mz_in2 (List.mem_of_getElem? (i := 112) rfl) rfl
theorem lk_RX1_45 : Cond.methodLink RX1 45 yX1_caseOfSync ∈ mz_ws := mz_in2 (List.mem_of_getElem? (i := 113) rfl) rfl
theorem lk_RX1_49 : Cond.methodLink RX1 49 yX1_lostSince ∈ mz_ws := mz_in2 (List.mem_of_getElem? (i := 114) rfl) rfl
theorem im_X1_lostSince : Cond.instanceMethod yX1_lostSince ∈ mz_ws := mz_in2 (List.mem_of_getElem? (i := 116) rfl) rfl
theorem cd_X1_lostSince : Cond.code yX1_lostSince cX1_lostSince 4 (some .int) ∈ mz_ws := mz_in2 (List.mem_of_getElem? (i := 117) rfl) rfl
theorem lk_RX3_75 : Cond.methodLink RX3 75 yX1_bringUpTo ∈ mz_ws := mz_in2 (List.mem_of_getElem? (i := 118) rfl) rfl
theorem im_X1_bringUpTo : Cond.instanceMethod yX1_bringUpTo ∈ mz_ws := mz_in2 (List.mem_of_getElem? (i := 119) rfl) rfl
theorem se_X1_bringUpTo : Cond.selects RX1 yX1_bringUpTo yX1_bringUpTo ∈ mz_ws := mz_in2 (List.mem_of_getElem? (i := 120) rfl) rfl
theorem cd_X1_bringUpTo : Cond.code yX1_bringUpTo cX1_bringUpTo 3 none ∈ mz_ws := mz_in2 (List.mem_of_getElem? (i := 121) rfl) rfl
theorem lk_RX1_55 : Cond.methodLink RX1 55 yX4_eraseAll ∈ mz_ws := mz_in2 (List.mem_of_getElem? (i := 122) rfl) rfl
theorem lk_RX1_58 : Cond.methodLink RX1 58 yX1_dropLost ∈ mz_ws := mz_in2 (List.mem_of_getElem? (i := 123) rfl) rfl
theorem im_X1_dropLost : Cond.instanceMethod yX1_dropLost ∈ mz_ws := mz_in2 (List.mem_of_getElem? (i := 125) rfl) rfl
theorem cd_X1_dropLost : Cond.code yX1_dropLost cX1_dropLost 3 none ∈ mz_ws := mz_in2 (List.mem_of_getElem? (i := 126) rfl) rfl
theorem lk_RX1_81 : Cond.methodLink RX1 81 yX1_dropMessage ∈ mz_ws := mz_in2 (List.mem_of_getElem? (i := 127) rfl) rfl
theorem lk_RX1_62 : Cond.methodLink RX1 62 yX1_dropAllThatBoxLacks ∈ mz_ws := mz_in2 (List.mem_of_getElem? (i := 128) rfl) rfl
theorem im_X1_dropAllThatBoxLacks : Cond.instanceMethod yX1_dropAllThatBoxLacks ∈ mz_ws := mz_in2 (List.mem_of_getElem? (i := 130) rfl) rfl
theorem cd_X1_dropAllThatBoxLacks : Cond.code yX1_dropAllThatBoxLacks cX1_dropAllThatBoxLacks 3 none ∈ mz_ws := mz_in2 (List.mem_of_getElem? (i := 131) rfl) rfl
theorem lk_RX1_65 : Cond.methodLink RX1 65 yX1_takeMessage ∈ mz_ws := mz_in2 (List.mem_of_getElem? (i := 132) rfl) rfl
theorem im_X1_takeMessage : Cond.instanceMethod yX1_takeMessage ∈ mz_ws := mz_in2 (List.mem_of_getElem? (i := 134) rfl) rfl
theorem cd_X1_takeMessage : Cond.code yX1_takeMessage cX1_takeMessage 4 none ∈ mz_ws := mz_in2 (List.mem_of_getElem? (i := 135) rfl) rfl
theorem lk_RX1_70 : Cond.methodLink RX1 70 yX4_storeMessage ∈ mz_ws := mz_in2 (List.mem_of_getElem? (i := 136) rfl) rfl
theorem lk_RX3_79 : Cond.methodLink RX3 79 yX3_dropDeedsOfOldEra ∈ mz_ws := mz_in2 (List.mem_of_getElem? (i := 137) rfl) rfl
theorem im_X3_dropDeedsOfOldEra : Cond.instanceMethod yX3_dropDeedsOfOldEra ∈ mz_ws := mz_in2 (List.mem_of_getElem? (i := 139) rfl) rfl
theorem cd_X3_dropDeedsOfOldEra : Cond.code yX3_dropDeedsOfOldEra cX3_dropDeedsOfOldEra 5 none ∈ mz_ws := mz_in2 (List.mem_of_getElem? (i := 140) rfl) rfl
theorem lk_RX3_86 : Cond.methodLink RX3 86 yX2_isForMessageOf ∈ mz_ws := mz_in2 (List.mem_of_getElem? (i := 141) rfl) rfl
theorem im_X2_isForMessageOf : Cond.instanceMethod yX2_isForMessageOf ∈ mz_ws := mz_in2 (List.mem_of_getElem? (i := 142) rfl) rfl
theorem se_X2_isForMessageOf : Cond.selects RX2 yX2_isForMessageOf yX2_isForMessageOf ∈ mz_ws := mz_in2 (List.mem_of_getElem? (i := 143) rfl) rfl
theorem cd_X2_isForMessageOf : Cond.code yX2_isForMessageOf cX2_isForMessageOf 3 (some .boolean) ∈ mz_ws := mz_in2 (List.mem_of_getElem? (i := 144) rfl) rfl
theorem lk_RX2_34 : Cond.methodLink RX2 34 yX4_cell ∈ mz_ws := mz_in2 (List.mem_of_getElem? (i := 145) rfl) rfl
theorem lk_RX3_90 : Cond.methodLink RX3 90 yX3_dropDeed ∈ mz_ws := mz_in2 (List.mem_of_getElem? (i := 146) rfl) rfl
theorem im_X3_dropDeed : Cond.instanceMethod yX3_dropDeed ∈ mz_ws := mz_in2 (List.mem_of_getElem? (i := 148) rfl) rfl
theorem cd_X3_dropDeed : Cond.code yX3_dropDeed cX3_dropDeed 4 none ∈ mz_ws := mz_in2 (List.mem_of_getElem? (i := 149) rfl) rfl
theorem lk_RX3_83 : Cond.methodLink RX3 83 yX3_dropDeedsForLost ∈ mz_ws := mz_in2 (List.mem_of_getElem? (i := 150) rfl) rfl
theorem im_X3_dropDeedsForLost : Cond.instanceMethod yX3_dropDeedsForLost ∈ mz_ws := mz_in2 (List.mem_of_getElem? (i := 152) rfl) rfl
theorem cd_X3_dropDeedsForLost : Cond.code yX3_dropDeedsForLost cX3_dropDeedsForLost 5 none ∈ mz_ws := mz_in2 (List.mem_of_getElem? (i := 153) rfl) rfl
theorem lk_RX3_94 : Cond.methodLink RX3 94 yX2_lacksMessageOf ∈ mz_ws := mz_in2 (List.mem_of_getElem? (i := 154) rfl) rfl
theorem im_X2_lacksMessageOf : Cond.instanceMethod yX2_lacksMessageOf ∈ mz_ws := mz_in2 (List.mem_of_getElem? (i := 155) rfl) rfl
theorem se_X2_lacksMessageOf : Cond.selects RX2 yX2_lacksMessageOf yX2_lacksMessageOf ∈ mz_ws := mz_in2 (List.mem_of_getElem? (i := 156) rfl) rfl
theorem cd_X2_lacksMessageOf : Cond.code yX2_lacksMessageOf cX2_lacksMessageOf 3 (some .boolean) ∈ mz_ws := mz_in2 (List.mem_of_getElem? (i := 157) rfl) rfl
theorem lk_RX2_41 : Cond.methodLink RX2 41 yX4_rowWith ∈ mz_ws := mz_in2 (List.mem_of_getElem? (i := 158) rfl) rfl
theorem lk_RL_217 : Cond.methodLink RL 217 yX5_checksum ∈ mz_ws := mz_in2 (List.mem_of_getElem? (i := 159) rfl) rfl
theorem im_X5_checksum : Cond.instanceMethod yX5_checksum ∈ mz_ws := mz_in2 (List.mem_of_getElem? (i := 160) rfl) rfl
theorem se_X5_checksum : Cond.selects RX5 yX5_checksum yX5_checksum ∈ mz_ws := mz_in2 (List.mem_of_getElem? (i := 161) rfl) rfl
theorem cd_X5_checksum : Cond.code yX5_checksum cX5_checksum 4 (some .long) ∈ mz_ws := mz_in2 (List.mem_of_getElem? (i := 162) rfl) rfl
theorem kl_RX5_225 : Cond.constantLong RX5 225 (lN 12861) ∈ mz_ws := mz_in2 (List.mem_of_getElem? (i := 163) rfl) rfl
theorem lk_RX5_227 : Cond.methodLink RX5 227 yX0_mixInto ∈ mz_ws := mz_in2 (List.mem_of_getElem? (i := 164) rfl) rfl
theorem im_X0_mixInto : Cond.instanceMethod yX0_mixInto ∈ mz_ws := mz_in2 (List.mem_of_getElem? (i := 165) rfl) rfl
theorem se_X0_mixInto : Cond.selects RX0 yX0_mixInto yX0_mixInto ∈ mz_ws := mz_in2 (List.mem_of_getElem? (i := 166) rfl) rfl
theorem cd_X0_mixInto : Cond.code yX0_mixInto cX0_mixInto 6 (some .long) ∈ mz_ws := mz_in2 (List.mem_of_getElem? (i := 167) rfl) rfl
theorem kl_RX0_67 : Cond.constantLong RX0 67 (lN 31) ∈ mz_ws := mz_in2 (List.mem_of_getElem? (i := 168) rfl) rfl
theorem lk_RX0_69 : Cond.methodLink RX0 69 yX0_number ∈ mz_ws := mz_in2 (List.mem_of_getElem? (i := 169) rfl) rfl
theorem im_X0_number : Cond.instanceMethod yX0_number ∈ mz_ws := mz_in2 (List.mem_of_getElem? (i := 170) rfl) rfl
theorem se_X0_number : Cond.selects RX0 yX0_number yX0_number ∈ mz_ws := mz_in2 (List.mem_of_getElem? (i := 171) rfl) rfl
theorem cd_X0_number : Cond.code yX0_number cX0_number 2 (some .int) ∈ mz_ws := mz_in2 (List.mem_of_getElem? (i := 172) rfl) rfl
theorem lk_RX0_73 : Cond.methodLink RX0 73 yX4_mixInto ∈ mz_ws := mz_in2 (List.mem_of_getElem? (i := 173) rfl) rfl
theorem im_X4_mixInto : Cond.instanceMethod yX4_mixInto ∈ mz_ws := mz_in2 (List.mem_of_getElem? (i := 174) rfl) rfl
theorem se_X4_mixInto : Cond.selects RX4 yX4_mixInto yX4_mixInto ∈ mz_ws := mz_in2 (List.mem_of_getElem? (i := 175) rfl) rfl
theorem cd_X4_mixInto : Cond.code yX4_mixInto cX4_mixInto 7 (some .long) ∈ mz_ws := mz_in2 (List.mem_of_getElem? (i := 176) rfl) rfl
theorem kl_RX4_49 : Cond.constantLong RX4 49 (lN 31) ∈ mz_ws := mz_in2 (List.mem_of_getElem? (i := 177) rfl) rfl
theorem lk_RX5_231 : Cond.methodLink RX5 231 yX5_mixMachine ∈ mz_ws := mz_in2 (List.mem_of_getElem? (i := 178) rfl) rfl
theorem im_X5_mixMachine : Cond.instanceMethod yX5_mixMachine ∈ mz_ws := mz_in2 (List.mem_of_getElem? (i := 180) rfl) rfl
theorem cd_X5_mixMachine : Cond.code yX5_mixMachine cX5_mixMachine 8 (some .long) ∈ mz_ws := mz_in2 (List.mem_of_getElem? (i := 181) rfl) rfl
theorem kl_RX5_235 : Cond.constantLong RX5 235 (lN 31) ∈ mz_ws := mz_in2 (List.mem_of_getElem? (i := 182) rfl) rfl
theorem lk_RX5_237 : Cond.methodLink RX5 237 yX5_copyOf ∈ mz_ws := mz_in2 (List.mem_of_getElem? (i := 183) rfl) rfl
theorem im_X5_copyOf : Cond.instanceMethod yX5_copyOf ∈ mz_ws := mz_in2 (List.mem_of_getElem? (i := 184) rfl) rfl
theorem se_X5_copyOf : Cond.selects RX5 yX5_copyOf yX5_copyOf ∈ mz_ws := mz_in2 (List.mem_of_getElem? (i := 185) rfl) rfl
theorem cd_X5_copyOf : Cond.code yX5_copyOf cX5_copyOf 5 (some .int) ∈ mz_ws := mz_in2 (List.mem_of_getElem? (i := 186) rfl) rfl
theorem lk_RX5_138 : Cond.methodLink RX5 138 yX5_needMachine ∈ mz_ws := mz_in2 (List.mem_of_getElem? (i := 187) rfl) rfl
theorem sm_X5_needMachine : Cond.static yX5_needMachine ∈ mz_ws := mz_in2 (List.mem_of_getElem? (i := 188) rfl) rfl
theorem cd_X5_needMachine : Cond.code yX5_needMachine cX5_needMachine 1 none ∈ mz_ws := mz_in2 (List.mem_of_getElem? (i := 189) rfl) rfl
theorem ck_RX5_241 : Cond.classLink RX5 241 "java/lang/IndexOutOfBoundsException" ∈ mz_ws := mz_in2 (List.mem_of_getElem? (i := 190) rfl) rfl
theorem it_java_lang_IndexOutOfBoundsException : Cond.instantiable "java/lang/IndexOutOfBoundsException" 6 ∈ mz_ws := mz_in2 (List.mem_of_getElem? (i := 191) rfl) rfl
theorem se_java_lang_Throwable_fillInStackTrace__I_Ljava_lang_Throwable_ : Cond.selects "java/lang/IndexOutOfBoundsException" ⟨"java/lang/Throwable", "fillInStackTrace", "(I)Ljava/lang/Throwable;"⟩ ⟨"java/lang/Throwable", "fillInStackTrace", "(I)Ljava/lang/Throwable;"⟩ ∈ mz_ws := mz_in2 (List.mem_of_getElem? (i := 199) rfl) rfl
theorem se_java_lang_Throwable_fillInStackTrace___Ljava_lang_Throwable_ : Cond.selects "java/lang/IndexOutOfBoundsException" ⟨"java/lang/Throwable", "fillInStackTrace", "()Ljava/lang/Throwable;"⟩ ⟨"java/lang/Throwable", "fillInStackTrace", "()Ljava/lang/Throwable;"⟩ ∈ mz_ws := mz_in2 (List.mem_of_getElem? (i := 200) rfl) rfl
theorem im_java_lang_Throwable__init____V : Cond.instanceMethod ⟨"java/lang/Throwable", "<init>", "()V"⟩ ∈ mz_ws := mz_in2 (List.mem_of_getElem? (i := 213) rfl) rfl
theorem im_java_lang_Throwable_fillInStackTrace___Ljava_lang_Throwable_ : Cond.instanceMethod ⟨"java/lang/Throwable", "fillInStackTrace", "()Ljava/lang/Throwable;"⟩ ∈ mz_ws := mz_in2 (List.mem_of_getElem? (i := 221) rfl) rfl
theorem im_java_lang_Throwable_fillInStackTrace__I_Ljava_lang_Throwable_ : Cond.instanceMethod ⟨"java/lang/Throwable", "fillInStackTrace", "(I)Ljava/lang/Throwable;"⟩ ∈ mz_ws := mz_in2 (List.mem_of_getElem? (i := 228) rfl) rfl
theorem it_java_lang_Throwable : Cond.instantiable "java/lang/Throwable" 6 ∈ mz_ws := mz_in2 (List.mem_of_getElem? (i := 229) rfl) rfl
theorem nv_java_lang_Throwable_fillInStackTrace__I_Ljava_lang_Throwable_ : Cond.native ⟨"java/lang/Throwable", "fillInStackTrace", "(I)Ljava/lang/Throwable;"⟩ ∈ mz_ws := mz_in2 (List.mem_of_getElem? (i := 230) rfl) rfl
theorem lk_RX5_245 : Cond.methodLink RX5 245 ⟨"java/lang/IndexOutOfBoundsException", "<init>", "(Ljava/lang/String;)V"⟩ ∈ mz_ws := mz_in2 (List.mem_of_getElem? (i := 232) rfl) rfl
theorem im_java_lang_IndexOutOfBoundsException__init___Ljava_lang_String__V : Cond.instanceMethod ⟨"java/lang/IndexOutOfBoundsException", "<init>", "(Ljava/lang/String;)V"⟩ ∈ mz_ws := mz_in2 (List.mem_of_getElem? (i := 233) rfl) rfl
theorem im_java_lang_RuntimeException__init___Ljava_lang_String__V : Cond.instanceMethod ⟨"java/lang/RuntimeException", "<init>", "(Ljava/lang/String;)V"⟩ ∈ mz_ws := mz_in2 (List.mem_of_getElem? (i := 236) rfl) rfl
theorem im_java_lang_Exception__init___Ljava_lang_String__V : Cond.instanceMethod ⟨"java/lang/Exception", "<init>", "(Ljava/lang/String;)V"⟩ ∈ mz_ws := mz_in2 (List.mem_of_getElem? (i := 239) rfl) rfl
theorem im_java_lang_Throwable__init___Ljava_lang_String__V : Cond.instanceMethod ⟨"java/lang/Throwable", "<init>", "(Ljava/lang/String;)V"⟩ ∈ mz_ws := mz_in3 (List.mem_of_getElem? (i := 2) rfl) rfl
theorem ac_byte : Cond.arrayClass .byte ∈ mz_ws := mz_in3 (List.mem_of_getElem? (i := 17) rfl) rfl
theorem lk_RX5_36 : Cond.methodLink RX5 36 yX5_needBox ∈ mz_ws := mz_in3 (List.mem_of_getElem? (i := 18) rfl) rfl
theorem sm_X5_needBox : Cond.static yX5_needBox ∈ mz_ws := mz_in3 (List.mem_of_getElem? (i := 19) rfl) rfl
theorem cd_X5_needBox : Cond.code yX5_needBox cX5_needBox 1 none ∈ mz_ws := mz_in3 (List.mem_of_getElem? (i := 20) rfl) rfl
theorem lk_RX5_122 : Cond.methodLink RX5 122 yX5_needWhat ∈ mz_ws := mz_in3 (List.mem_of_getElem? (i := 22) rfl) rfl
theorem sm_X5_needWhat : Cond.static yX5_needWhat ∈ mz_ws := mz_in3 (List.mem_of_getElem? (i := 23) rfl) rfl
theorem cd_X5_needWhat : Cond.code yX5_needWhat cX5_needWhat 2 none ∈ mz_ws := mz_in3 (List.mem_of_getElem? (i := 24) rfl) rfl
theorem ck_RX5_68 : Cond.classLink RX5 68 "java/lang/IllegalArgumentException" ∈ mz_ws := mz_in3 (List.mem_of_getElem? (i := 25) rfl) rfl
theorem it_java_lang_IllegalArgumentException : Cond.instantiable "java/lang/IllegalArgumentException" 6 ∈ mz_ws := mz_in3 (List.mem_of_getElem? (i := 26) rfl) rfl
theorem lk_RX5_72 : Cond.methodLink RX5 72 ⟨"java/lang/IllegalArgumentException", "<init>", "(Ljava/lang/String;)V"⟩ ∈ mz_ws := mz_in3 (List.mem_of_getElem? (i := 35) rfl) rfl
theorem im_java_lang_IllegalArgumentException__init___Ljava_lang_String__V : Cond.instanceMethod ⟨"java/lang/IllegalArgumentException", "<init>", "(Ljava/lang/String;)V"⟩ ∈ mz_ws := mz_in3 (List.mem_of_getElem? (i := 36) rfl) rfl
theorem lk_RX5_174 : Cond.methodLink RX5 174 yX2_fillView ∈ mz_ws := mz_in3 (List.mem_of_getElem? (i := 41) rfl) rfl
theorem im_X2_fillView : Cond.instanceMethod yX2_fillView ∈ mz_ws := mz_in3 (List.mem_of_getElem? (i := 42) rfl) rfl
theorem se_X2_fillView : Cond.selects RX2 yX2_fillView yX2_fillView ∈ mz_ws := mz_in3 (List.mem_of_getElem? (i := 43) rfl) rfl
theorem cd_X2_fillView : Cond.code yX2_fillView cX2_fillView 7 none ∈ mz_ws := mz_in3 (List.mem_of_getElem? (i := 44) rfl) rfl
theorem lk_RX2_51 : Cond.methodLink RX2 51 yX4_eraseAll ∈ mz_ws := mz_in3 (List.mem_of_getElem? (i := 45) rfl) rfl
theorem lk_RX2_54 : Cond.methodLink RX2 54 yX2_deedFor ∈ mz_ws := mz_in3 (List.mem_of_getElem? (i := 46) rfl) rfl
theorem im_X2_deedFor : Cond.instanceMethod yX2_deedFor ∈ mz_ws := mz_in3 (List.mem_of_getElem? (i := 47) rfl) rfl
theorem se_X2_deedFor : Cond.selects RX2 yX2_deedFor yX2_deedFor ∈ mz_ws := mz_in3 (List.mem_of_getElem? (i := 48) rfl) rfl
theorem cd_X2_deedFor : Cond.code yX2_deedFor cX2_deedFor 5 (some .int) ∈ mz_ws := mz_in3 (List.mem_of_getElem? (i := 49) rfl) rfl
theorem lk_RX2_57 : Cond.methodLink RX2 57 yX2_flagsInView ∈ mz_ws := mz_in3 (List.mem_of_getElem? (i := 50) rfl) rfl
theorem im_X2_flagsInView : Cond.instanceMethod yX2_flagsInView ∈ mz_ws := mz_in3 (List.mem_of_getElem? (i := 52) rfl) rfl
theorem cd_X2_flagsInView : Cond.code yX2_flagsInView cX2_flagsInView 5 (some .int) ∈ mz_ws := mz_in3 (List.mem_of_getElem? (i := 53) rfl) rfl
theorem lk_RX2_60 : Cond.methodLink RX2 60 yX2_appendToView ∈ mz_ws := mz_in3 (List.mem_of_getElem? (i := 55) rfl) rfl
theorem sm_X2_appendToView : Cond.static yX2_appendToView ∈ mz_ws := mz_in3 (List.mem_of_getElem? (i := 56) rfl) rfl
theorem cd_X2_appendToView : Cond.code yX2_appendToView cX2_appendToView 5 none ∈ mz_ws := mz_in3 (List.mem_of_getElem? (i := 57) rfl) rfl
theorem lk_RX2_64 : Cond.methodLink RX2 64 yX4_open ∈ mz_ws := mz_in3 (List.mem_of_getElem? (i := 58) rfl) rfl
theorem lk_RX2_48 : Cond.methodLink RX2 48 yX4_put ∈ mz_ws := mz_in3 (List.mem_of_getElem? (i := 59) rfl) rfl
theorem lk_RX5_240 : Cond.methodLink RX5 240 yX4_mixInto ∈ mz_ws := mz_in3 (List.mem_of_getElem? (i := 60) rfl) rfl
theorem lk_RL_108 : Cond.methodLink RL 108 yL_add ∈ mz_ws := mz_in3 (List.mem_of_getElem? (i := 61) rfl) rfl
theorem sm_L_add : Cond.static yL_add ∈ mz_ws := mz_in3 (List.mem_of_getElem? (i := 62) rfl) rfl
theorem cd_L_add : Cond.codeWith yL_add cL_add 6 (some .int) [(0, 12, 15, 13), (0, 12, 19, 15), (0, 12, 23, 17)] ∈ mz_ws := mz_in3 (List.mem_of_getElem? (i := 63) rfl) rfl
theorem ck_RL_13 : Cond.classLink RL 13 "java/lang/IndexOutOfBoundsException" ∈ mz_ws := mz_in3 (List.mem_of_getElem? (i := 64) rfl) rfl
theorem ck_RL_15 : Cond.classLink RL 15 "java/lang/IllegalArgumentException" ∈ mz_ws := mz_in3 (List.mem_of_getElem? (i := 65) rfl) rfl
theorem ck_RL_17 : Cond.classLink RL 17 "java/lang/IllegalStateException" ∈ mz_ws := mz_in3 (List.mem_of_getElem? (i := 66) rfl) rfl
theorem lk_RL_7 : Cond.methodLink RL 7 yX5_add ∈ mz_ws := mz_in3 (List.mem_of_getElem? (i := 67) rfl) rfl
theorem im_X5_add : Cond.instanceMethod yX5_add ∈ mz_ws := mz_in3 (List.mem_of_getElem? (i := 68) rfl) rfl
theorem se_X5_add : Cond.selects RX5 yX5_add yX5_add ∈ mz_ws := mz_in3 (List.mem_of_getElem? (i := 69) rfl) rfl
theorem cd_X5_add : Cond.code yX5_add cX5_add 4 (some .int) ∈ mz_ws := mz_in3 (List.mem_of_getElem? (i := 70) rfl) rfl
theorem lk_RX5_40 : Cond.methodLink RX5 40 yX5_needContent ∈ mz_ws := mz_in3 (List.mem_of_getElem? (i := 71) rfl) rfl
theorem sm_X5_needContent : Cond.static yX5_needContent ∈ mz_ws := mz_in3 (List.mem_of_getElem? (i := 72) rfl) rfl
theorem cd_X5_needContent : Cond.code yX5_needContent cX5_needContent 1 none ∈ mz_ws := mz_in3 (List.mem_of_getElem? (i := 73) rfl) rfl
theorem lk_RX5_43 : Cond.methodLink RX5 43 yX5_needFlags ∈ mz_ws := mz_in3 (List.mem_of_getElem? (i := 75) rfl) rfl
theorem sm_X5_needFlags : Cond.static yX5_needFlags ∈ mz_ws := mz_in3 (List.mem_of_getElem? (i := 76) rfl) rfl
theorem cd_X5_needFlags : Cond.code yX5_needFlags cX5_needFlags 1 none ∈ mz_ws := mz_in3 (List.mem_of_getElem? (i := 77) rfl) rfl
theorem lk_RX5_46 : Cond.methodLink RX5 46 yX5_needRoomIn ∈ mz_ws := mz_in3 (List.mem_of_getElem? (i := 79) rfl) rfl
theorem im_X5_needRoomIn : Cond.instanceMethod yX5_needRoomIn ∈ mz_ws := mz_in3 (List.mem_of_getElem? (i := 81) rfl) rfl
theorem cd_X5_needRoomIn : Cond.code yX5_needRoomIn cX5_needRoomIn 2 none ∈ mz_ws := mz_in3 (List.mem_of_getElem? (i := 82) rfl) rfl
theorem lk_RX5_258 : Cond.methodLink RX5 258 yX0_isFull ∈ mz_ws := mz_in3 (List.mem_of_getElem? (i := 83) rfl) rfl
theorem ck_RX5_81 : Cond.classLink RX5 81 "java/lang/IllegalStateException" ∈ mz_ws := mz_in3 (List.mem_of_getElem? (i := 84) rfl) rfl
theorem it_java_lang_IllegalStateException : Cond.instantiable "java/lang/IllegalStateException" 6 ∈ mz_ws := mz_in3 (List.mem_of_getElem? (i := 85) rfl) rfl
theorem lk_RX5_85 : Cond.methodLink RX5 85 ⟨"java/lang/IllegalStateException", "<init>", "(Ljava/lang/String;)V"⟩ ∈ mz_ws := mz_in3 (List.mem_of_getElem? (i := 94) rfl) rfl
theorem im_java_lang_IllegalStateException__init___Ljava_lang_String__V : Cond.instanceMethod ⟨"java/lang/IllegalStateException", "<init>", "(Ljava/lang/String;)V"⟩ ∈ mz_ws := mz_in3 (List.mem_of_getElem? (i := 95) rfl) rfl
theorem lk_RX5_56 : Cond.methodLink RX5 56 yX0_addMessage ∈ mz_ws := mz_in3 (List.mem_of_getElem? (i := 100) rfl) rfl
theorem lk_RL_117 : Cond.methodLink RL 117 yL_change ∈ mz_ws := mz_in3 (List.mem_of_getElem? (i := 101) rfl) rfl
theorem sm_L_change : Cond.static yL_change ∈ mz_ws := mz_in3 (List.mem_of_getElem? (i := 102) rfl) rfl
theorem cd_L_change : Cond.codeWith yL_change cL_change 8 (some .int) [(0, 16, 19, 13), (0, 16, 23, 15), (0, 16, 27, 17)] ∈ mz_ws := mz_in3 (List.mem_of_getElem? (i := 103) rfl) rfl
theorem lk_RL_19 : Cond.methodLink RL 19 yX5_change ∈ mz_ws := mz_in3 (List.mem_of_getElem? (i := 104) rfl) rfl
theorem im_X5_change : Cond.instanceMethod yX5_change ∈ mz_ws := mz_in3 (List.mem_of_getElem? (i := 105) rfl) rfl
theorem se_X5_change : Cond.selects RX5 yX5_change yX5_change ∈ mz_ws := mz_in3 (List.mem_of_getElem? (i := 106) rfl) rfl
theorem cd_X5_change : Cond.code yX5_change cX5_change 10 (some .int) ∈ mz_ws := mz_in3 (List.mem_of_getElem? (i := 107) rfl) rfl
theorem lk_RX5_62 : Cond.methodLink RX5 62 yX5_needMessage ∈ mz_ws := mz_in3 (List.mem_of_getElem? (i := 108) rfl) rfl
theorem im_X5_needMessage : Cond.instanceMethod yX5_needMessage ∈ mz_ws := mz_in3 (List.mem_of_getElem? (i := 110) rfl) rfl
theorem cd_X5_needMessage : Cond.code yX5_needMessage cX5_needMessage 4 (some .int) ∈ mz_ws := mz_in3 (List.mem_of_getElem? (i := 111) rfl) rfl
theorem lk_RX5_65 : Cond.methodLink RX5 65 yX5_needHow ∈ mz_ws := mz_in3 (List.mem_of_getElem? (i := 113) rfl) rfl
theorem sm_X5_needHow : Cond.static yX5_needHow ∈ mz_ws := mz_in3 (List.mem_of_getElem? (i := 114) rfl) rfl
theorem cd_X5_needHow : Cond.code yX5_needHow cX5_needHow 1 none ∈ mz_ws := mz_in3 (List.mem_of_getElem? (i := 115) rfl) rfl
theorem lk_RX5_86 : Cond.methodLink RX5 86 yX5_flagsAdded ∈ mz_ws := mz_in3 (List.mem_of_getElem? (i := 119) rfl) rfl
theorem sm_X5_flagsAdded : Cond.static yX5_flagsAdded ∈ mz_ws := mz_in3 (List.mem_of_getElem? (i := 120) rfl) rfl
theorem cd_X5_flagsAdded : Cond.code yX5_flagsAdded cX5_flagsAdded 2 (some .int) ∈ mz_ws := mz_in3 (List.mem_of_getElem? (i := 121) rfl) rfl
theorem lk_RX5_89 : Cond.methodLink RX5 89 yX5_flagsTaken ∈ mz_ws := mz_in3 (List.mem_of_getElem? (i := 122) rfl) rfl
theorem sm_X5_flagsTaken : Cond.static yX5_flagsTaken ∈ mz_ws := mz_in3 (List.mem_of_getElem? (i := 123) rfl) rfl
theorem cd_X5_flagsTaken : Cond.code yX5_flagsTaken cX5_flagsTaken 2 (some .int) ∈ mz_ws := mz_in3 (List.mem_of_getElem? (i := 124) rfl) rfl
theorem lk_RX5_92 : Cond.methodLink RX5 92 yX5_mixFlags ∈ mz_ws := mz_in3 (List.mem_of_getElem? (i := 125) rfl) rfl
theorem lk_RX5_96 : Cond.methodLink RX5 96 yX0_changeFlags ∈ mz_ws := mz_in3 (List.mem_of_getElem? (i := 126) rfl) rfl
theorem lk_RL_121 : Cond.methodLink RL 121 yL_remove ∈ mz_ws := mz_in3 (List.mem_of_getElem? (i := 127) rfl) rfl
theorem sm_L_remove : Cond.static yL_remove ∈ mz_ws := mz_in3 (List.mem_of_getElem? (i := 128) rfl) rfl
theorem cd_L_remove : Cond.codeWith yL_remove cL_remove 5 (some .int) [(0, 10, 13, 13), (0, 10, 17, 17)] ∈ mz_ws := mz_in3 (List.mem_of_getElem? (i := 129) rfl) rfl
theorem lk_RL_23 : Cond.methodLink RL 23 yX5_remove ∈ mz_ws := mz_in3 (List.mem_of_getElem? (i := 130) rfl) rfl
theorem im_X5_remove : Cond.instanceMethod yX5_remove ∈ mz_ws := mz_in3 (List.mem_of_getElem? (i := 131) rfl) rfl
theorem se_X5_remove : Cond.selects RX5 yX5_remove yX5_remove ∈ mz_ws := mz_in3 (List.mem_of_getElem? (i := 132) rfl) rfl
theorem cd_X5_remove : Cond.code yX5_remove cX5_remove 5 (some .int) ∈ mz_ws := mz_in3 (List.mem_of_getElem? (i := 133) rfl) rfl
theorem lk_RX5_100 : Cond.methodLink RX5 100 yX0_mayRemove ∈ mz_ws := mz_in3 (List.mem_of_getElem? (i := 134) rfl) rfl
theorem im_X0_mayRemove : Cond.instanceMethod yX0_mayRemove ∈ mz_ws := mz_in3 (List.mem_of_getElem? (i := 135) rfl) rfl
theorem se_X0_mayRemove : Cond.selects RX0 yX0_mayRemove yX0_mayRemove ∈ mz_ws := mz_in3 (List.mem_of_getElem? (i := 136) rfl) rfl
theorem cd_X0_mayRemove : Cond.code yX0_mayRemove cX0_mayRemove 2 (some .boolean) ∈ mz_ws := mz_in3 (List.mem_of_getElem? (i := 137) rfl) rfl
theorem lk_RX5_106 : Cond.methodLink RX5 106 yX0_removeMessage ∈ mz_ws := mz_in3 (List.mem_of_getElem? (i := 139) rfl) rfl
theorem lk_RL_125 : Cond.methodLink RL 125 yL_clean ∈ mz_ws := mz_in3 (List.mem_of_getElem? (i := 140) rfl) rfl
theorem sm_L_clean : Cond.static yL_clean ∈ mz_ws := mz_in3 (List.mem_of_getElem? (i := 141) rfl) rfl
theorem cd_L_clean : Cond.codeWith yL_clean cL_clean 4 (some .int) [(0, 9, 12, 13)] ∈ mz_ws := mz_in3 (List.mem_of_getElem? (i := 142) rfl) rfl
theorem lk_RL_27 : Cond.methodLink RL 27 yX5_clean ∈ mz_ws := mz_in3 (List.mem_of_getElem? (i := 143) rfl) rfl
theorem im_X5_clean : Cond.instanceMethod yX5_clean ∈ mz_ws := mz_in3 (List.mem_of_getElem? (i := 144) rfl) rfl
theorem se_X5_clean : Cond.selects RX5 yX5_clean yX5_clean ∈ mz_ws := mz_in3 (List.mem_of_getElem? (i := 145) rfl) rfl
theorem cd_X5_clean : Cond.code yX5_clean cX5_clean 2 (some .int) ∈ mz_ws := mz_in3 (List.mem_of_getElem? (i := 146) rfl) rfl
theorem lk_RX5_112 : Cond.methodLink RX5 112 yX0_removeAllThatMay ∈ mz_ws := mz_in3 (List.mem_of_getElem? (i := 147) rfl) rfl
theorem im_X0_removeAllThatMay : Cond.instanceMethod yX0_removeAllThatMay ∈ mz_ws := mz_in3 (List.mem_of_getElem? (i := 148) rfl) rfl
theorem se_X0_removeAllThatMay : Cond.selects RX0 yX0_removeAllThatMay yX0_removeAllThatMay ∈ mz_ws := mz_in3 (List.mem_of_getElem? (i := 149) rfl) rfl
theorem cd_X0_removeAllThatMay : Cond.code yX0_removeAllThatMay cX0_removeAllThatMay 4 (some .int) ∈ mz_ws := mz_in3 (List.mem_of_getElem? (i := 150) rfl) rfl
theorem lk_RX0_58 : Cond.methodLink RX0 58 yX0_mayRemove ∈ mz_ws := mz_in3 (List.mem_of_getElem? (i := 151) rfl) rfl
theorem lk_RX0_61 : Cond.methodLink RX0 61 yX0_removeMessage ∈ mz_ws := mz_in3 (List.mem_of_getElem? (i := 152) rfl) rfl
theorem lk_RL_129 : Cond.methodLink RL 129 yL_copy ∈ mz_ws := mz_in3 (List.mem_of_getElem? (i := 153) rfl) rfl
theorem sm_L_copy : Cond.static yL_copy ∈ mz_ws := mz_in3 (List.mem_of_getElem? (i := 154) rfl) rfl
theorem cd_L_copy : Cond.codeWith yL_copy cL_copy 6 (some .int) [(0, 12, 15, 13), (0, 12, 19, 17)] ∈ mz_ws := mz_in3 (List.mem_of_getElem? (i := 155) rfl) rfl
theorem lk_RL_31 : Cond.methodLink RL 31 yX5_copy ∈ mz_ws := mz_in3 (List.mem_of_getElem? (i := 156) rfl) rfl
theorem im_X5_copy : Cond.instanceMethod yX5_copy ∈ mz_ws := mz_in3 (List.mem_of_getElem? (i := 157) rfl) rfl
theorem se_X5_copy : Cond.selects RX5 yX5_copy yX5_copy ∈ mz_ws := mz_in3 (List.mem_of_getElem? (i := 158) rfl) rfl
theorem cd_X5_copy : Cond.code yX5_copy cX5_copy 6 (some .int) ∈ mz_ws := mz_in3 (List.mem_of_getElem? (i := 159) rfl) rfl
theorem lk_RL_132 : Cond.methodLink RL 132 yL_renew ∈ mz_ws := mz_in3 (List.mem_of_getElem? (i := 160) rfl) rfl
theorem sm_L_renew : Cond.static yL_renew ∈ mz_ws := mz_in3 (List.mem_of_getElem? (i := 161) rfl) rfl
theorem cd_L_renew : Cond.codeWith yL_renew cL_renew 4 (some .int) [(0, 9, 12, 13)] ∈ mz_ws := mz_in3 (List.mem_of_getElem? (i := 162) rfl) rfl
theorem lk_RL_34 : Cond.methodLink RL 34 yX5_renew ∈ mz_ws := mz_in3 (List.mem_of_getElem? (i := 163) rfl) rfl
theorem im_X5_renew : Cond.instanceMethod yX5_renew ∈ mz_ws := mz_in3 (List.mem_of_getElem? (i := 164) rfl) rfl
theorem se_X5_renew : Cond.selects RX5 yX5_renew yX5_renew ∈ mz_ws := mz_in3 (List.mem_of_getElem? (i := 165) rfl) rfl
theorem cd_X5_renew : Cond.code yX5_renew cX5_renew 2 (some .int) ∈ mz_ws := mz_in3 (List.mem_of_getElem? (i := 166) rfl) rfl
theorem lk_RX5_116 : Cond.methodLink RX5 116 yX0_beginEra ∈ mz_ws := mz_in3 (List.mem_of_getElem? (i := 167) rfl) rfl
theorem im_X0_beginEra : Cond.instanceMethod yX0_beginEra ∈ mz_ws := mz_in3 (List.mem_of_getElem? (i := 168) rfl) rfl
theorem se_X0_beginEra : Cond.selects RX0 yX0_beginEra yX0_beginEra ∈ mz_ws := mz_in3 (List.mem_of_getElem? (i := 169) rfl) rfl
theorem cd_X0_beginEra : Cond.code yX0_beginEra cX0_beginEra 2 none ∈ mz_ws := mz_in3 (List.mem_of_getElem? (i := 170) rfl) rfl
theorem lk_RX0_64 : Cond.methodLink RX0 64 yX4_eraseAll ∈ mz_ws := mz_in3 (List.mem_of_getElem? (i := 171) rfl) rfl
theorem lk_RL_135 : Cond.methodLink RL 135 yL_box ∈ mz_ws := mz_in3 (List.mem_of_getElem? (i := 172) rfl) rfl
theorem sm_L_box : Cond.static yL_box ∈ mz_ws := mz_in3 (List.mem_of_getElem? (i := 173) rfl) rfl
theorem cd_L_box : Cond.codeWith yL_box cL_box 5 (some .int) [(0, 10, 13, 13), (0, 10, 17, 15)] ∈ mz_ws := mz_in3 (List.mem_of_getElem? (i := 174) rfl) rfl
theorem lk_RL_37 : Cond.methodLink RL 37 yX5_box ∈ mz_ws := mz_in3 (List.mem_of_getElem? (i := 175) rfl) rfl
theorem im_X5_box : Cond.instanceMethod yX5_box ∈ mz_ws := mz_in3 (List.mem_of_getElem? (i := 176) rfl) rfl
theorem se_X5_box : Cond.selects RX5 yX5_box yX5_box ∈ mz_ws := mz_in3 (List.mem_of_getElem? (i := 177) rfl) rfl
theorem cd_X5_box : Cond.code yX5_box cX5_box 3 (some .int) ∈ mz_ws := mz_in3 (List.mem_of_getElem? (i := 178) rfl) rfl
theorem lk_RX5_125 : Cond.methodLink RX5 125 yX0_number ∈ mz_ws := mz_in3 (List.mem_of_getElem? (i := 179) rfl) rfl
theorem lk_RL_138 : Cond.methodLink RL 138 yL_message ∈ mz_ws := mz_in3 (List.mem_of_getElem? (i := 180) rfl) rfl
theorem sm_L_message : Cond.static yL_message ∈ mz_ws := mz_in3 (List.mem_of_getElem? (i := 181) rfl) rfl
theorem cd_L_message : Cond.codeWith yL_message cL_message 6 (some .int) [(0, 12, 15, 13), (0, 12, 19, 15)] ∈ mz_ws := mz_in3 (List.mem_of_getElem? (i := 182) rfl) rfl
theorem lk_RL_40 : Cond.methodLink RL 40 yX5_message ∈ mz_ws := mz_in3 (List.mem_of_getElem? (i := 183) rfl) rfl
theorem im_X5_message : Cond.instanceMethod yX5_message ∈ mz_ws := mz_in3 (List.mem_of_getElem? (i := 184) rfl) rfl
theorem se_X5_message : Cond.selects RX5 yX5_message yX5_message ∈ mz_ws := mz_in3 (List.mem_of_getElem? (i := 185) rfl) rfl
theorem cd_X5_message : Cond.code yX5_message cX5_message 4 (some .int) ∈ mz_ws := mz_in3 (List.mem_of_getElem? (i := 186) rfl) rfl
theorem lk_RL_141 : Cond.methodLink RL 141 yL_vanished ∈ mz_ws := mz_in3 (List.mem_of_getElem? (i := 187) rfl) rfl
theorem sm_L_vanished : Cond.static yL_vanished ∈ mz_ws := mz_in3 (List.mem_of_getElem? (i := 188) rfl) rfl
theorem cd_L_vanished : Cond.codeWith yL_vanished cL_vanished 6 (some .int) [(0, 12, 15, 13)] ∈ mz_ws := mz_in3 (List.mem_of_getElem? (i := 189) rfl) rfl
theorem lk_RL_43 : Cond.methodLink RL 43 yX5_vanished ∈ mz_ws := mz_in3 (List.mem_of_getElem? (i := 190) rfl) rfl
theorem im_X5_vanished : Cond.instanceMethod yX5_vanished ∈ mz_ws := mz_in3 (List.mem_of_getElem? (i := 191) rfl) rfl
theorem se_X5_vanished : Cond.selects RX5 yX5_vanished yX5_vanished ∈ mz_ws := mz_in3 (List.mem_of_getElem? (i := 192) rfl) rfl
theorem cd_X5_vanished : Cond.code yX5_vanished cX5_vanished 4 (some .int) ∈ mz_ws := mz_in3 (List.mem_of_getElem? (i := 193) rfl) rfl
theorem lk_RL_145 : Cond.methodLink RL 145 yL_atMost ∈ mz_ws := mz_in3 (List.mem_of_getElem? (i := 194) rfl) rfl
theorem sm_L_atMost : Cond.static yL_atMost ∈ mz_ws := mz_in3 (List.mem_of_getElem? (i := 195) rfl) rfl
theorem cd_L_atMost : Cond.codeWith yL_atMost cL_atMost 5 (some .int) [(0, 10, 13, 13)] ∈ mz_ws := mz_in3 (List.mem_of_getElem? (i := 196) rfl) rfl
theorem lk_RL_47 : Cond.methodLink RL 47 yX5_atMost ∈ mz_ws := mz_in3 (List.mem_of_getElem? (i := 197) rfl) rfl
theorem im_X5_atMost : Cond.instanceMethod yX5_atMost ∈ mz_ws := mz_in3 (List.mem_of_getElem? (i := 198) rfl) rfl
theorem se_X5_atMost : Cond.selects RX5 yX5_atMost yX5_atMost ∈ mz_ws := mz_in3 (List.mem_of_getElem? (i := 199) rfl) rfl
theorem cd_X5_atMost : Cond.code yX5_atMost cX5_atMost 3 (some .int) ∈ mz_ws := mz_in3 (List.mem_of_getElem? (i := 200) rfl) rfl
theorem lk_RX5_132 : Cond.methodLink RX5 132 yX0_nameAtMost ∈ mz_ws := mz_in3 (List.mem_of_getElem? (i := 201) rfl) rfl
theorem im_X0_nameAtMost : Cond.instanceMethod yX0_nameAtMost ∈ mz_ws := mz_in3 (List.mem_of_getElem? (i := 202) rfl) rfl
theorem se_X0_nameAtMost : Cond.selects RX0 yX0_nameAtMost yX0_nameAtMost ∈ mz_ws := mz_in3 (List.mem_of_getElem? (i := 203) rfl) rfl
theorem cd_X0_nameAtMost : Cond.code yX0_nameAtMost cX0_nameAtMost 4 (some .int) ∈ mz_ws := mz_in3 (List.mem_of_getElem? (i := 204) rfl) rfl
theorem lk_RL_148 : Cond.methodLink RL 148 yL_changedAfter ∈ mz_ws := mz_in3 (List.mem_of_getElem? (i := 205) rfl) rfl
theorem sm_L_changedAfter : Cond.static yL_changedAfter ∈ mz_ws := mz_in3 (List.mem_of_getElem? (i := 206) rfl) rfl
theorem cd_L_changedAfter : Cond.codeWith yL_changedAfter cL_changedAfter 5 (some .int) [(0, 10, 13, 13)] ∈ mz_ws := mz_in3 (List.mem_of_getElem? (i := 207) rfl) rfl
theorem lk_RL_50 : Cond.methodLink RL 50 yX5_changedAfter ∈ mz_ws := mz_in3 (List.mem_of_getElem? (i := 208) rfl) rfl
theorem im_X5_changedAfter : Cond.instanceMethod yX5_changedAfter ∈ mz_ws := mz_in3 (List.mem_of_getElem? (i := 209) rfl) rfl
theorem se_X5_changedAfter : Cond.selects RX5 yX5_changedAfter yX5_changedAfter ∈ mz_ws := mz_in3 (List.mem_of_getElem? (i := 210) rfl) rfl
theorem cd_X5_changedAfter : Cond.code yX5_changedAfter cX5_changedAfter 3 (some .int) ∈ mz_ws := mz_in3 (List.mem_of_getElem? (i := 211) rfl) rfl
theorem lk_RX5_135 : Cond.methodLink RX5 135 yX0_nameChangedAfter ∈ mz_ws := mz_in3 (List.mem_of_getElem? (i := 212) rfl) rfl
theorem im_X0_nameChangedAfter : Cond.instanceMethod yX0_nameChangedAfter ∈ mz_ws := mz_in3 (List.mem_of_getElem? (i := 213) rfl) rfl
theorem se_X0_nameChangedAfter : Cond.selects RX0 yX0_nameChangedAfter yX0_nameChangedAfter ∈ mz_ws := mz_in3 (List.mem_of_getElem? (i := 214) rfl) rfl
theorem cd_X0_nameChangedAfter : Cond.code yX0_nameChangedAfter cX0_nameChangedAfter 5 (some .int) ∈ mz_ws := mz_in3 (List.mem_of_getElem? (i := 215) rfl) rfl
theorem lk_RL_151 : Cond.methodLink RL 151 yL_setPolicy ∈ mz_ws := mz_in3 (List.mem_of_getElem? (i := 216) rfl) rfl
theorem sm_L_setPolicy : Cond.static yL_setPolicy ∈ mz_ws := mz_in3 (List.mem_of_getElem? (i := 217) rfl) rfl
theorem cd_L_setPolicy : Cond.codeWith yL_setPolicy cL_setPolicy 5 (some .int) [(0, 10, 13, 13), (0, 10, 17, 15)] ∈ mz_ws := mz_in3 (List.mem_of_getElem? (i := 218) rfl) rfl
theorem lk_RL_53 : Cond.methodLink RL 53 yX5_setPolicy ∈ mz_ws := mz_in3 (List.mem_of_getElem? (i := 219) rfl) rfl
theorem im_X5_setPolicy : Cond.instanceMethod yX5_setPolicy ∈ mz_ws := mz_in3 (List.mem_of_getElem? (i := 220) rfl) rfl
theorem se_X5_setPolicy : Cond.selects RX5 yX5_setPolicy yX5_setPolicy ∈ mz_ws := mz_in3 (List.mem_of_getElem? (i := 221) rfl) rfl
theorem cd_X5_setPolicy : Cond.code yX5_setPolicy cX5_setPolicy 4 (some .int) ∈ mz_ws := mz_in3 (List.mem_of_getElem? (i := 222) rfl) rfl
theorem lk_RL_154 : Cond.methodLink RL 154 yL_sync ∈ mz_ws := mz_in3 (List.mem_of_getElem? (i := 224) rfl) rfl
theorem sm_L_sync : Cond.static yL_sync ∈ mz_ws := mz_in3 (List.mem_of_getElem? (i := 225) rfl) rfl
theorem cd_L_sync : Cond.codeWith yL_sync cL_sync 5 (some .int) [(0, 10, 13, 13)] ∈ mz_ws := mz_in3 (List.mem_of_getElem? (i := 226) rfl) rfl
theorem lk_RL_56 : Cond.methodLink RL 56 yX5_sync ∈ mz_ws := mz_in3 (List.mem_of_getElem? (i := 227) rfl) rfl
theorem im_X5_sync : Cond.instanceMethod yX5_sync ∈ mz_ws := mz_in3 (List.mem_of_getElem? (i := 228) rfl) rfl
theorem se_X5_sync : Cond.selects RX5 yX5_sync yX5_sync ∈ mz_ws := mz_in3 (List.mem_of_getElem? (i := 229) rfl) rfl
theorem cd_X5_sync : Cond.code yX5_sync cX5_sync 3 (some .int) ∈ mz_ws := mz_in3 (List.mem_of_getElem? (i := 230) rfl) rfl
theorem lk_RL_157 : Cond.methodLink RL 157 yL_syncCost ∈ mz_ws := mz_in3 (List.mem_of_getElem? (i := 231) rfl) rfl
theorem sm_L_syncCost : Cond.static yL_syncCost ∈ mz_ws := mz_in3 (List.mem_of_getElem? (i := 232) rfl) rfl
theorem cd_L_syncCost : Cond.codeWith yL_syncCost cL_syncCost 5 (some .int) [(0, 10, 13, 13)] ∈ mz_ws := mz_in3 (List.mem_of_getElem? (i := 233) rfl) rfl
theorem lk_RL_59 : Cond.methodLink RL 59 yX5_syncCost ∈ mz_ws := mz_in3 (List.mem_of_getElem? (i := 234) rfl) rfl
theorem im_X5_syncCost : Cond.instanceMethod yX5_syncCost ∈ mz_ws := mz_in3 (List.mem_of_getElem? (i := 235) rfl) rfl
theorem se_X5_syncCost : Cond.selects RX5 yX5_syncCost yX5_syncCost ∈ mz_ws := mz_in3 (List.mem_of_getElem? (i := 236) rfl) rfl
theorem cd_X5_syncCost : Cond.code yX5_syncCost cX5_syncCost 5 (some .int) ∈ mz_ws := mz_in3 (List.mem_of_getElem? (i := 237) rfl) rfl
theorem lk_RX5_160 : Cond.methodLink RX5 160 yX1_messagesDue ∈ mz_ws := mz_in3 (List.mem_of_getElem? (i := 238) rfl) rfl
theorem lk_RX5_166 : Cond.methodLink RX5 166 yX1_namesDue ∈ mz_ws := mz_in3 (List.mem_of_getElem? (i := 239) rfl) rfl
theorem lk_RL_160 : Cond.methodLink RL 160 yL_copyOf ∈ mz_ws := mz_in4 (List.mem_of_getElem? (i := 0) rfl) rfl
theorem sm_L_copyOf : Cond.static yL_copyOf ∈ mz_ws := mz_in4 (List.mem_of_getElem? (i := 1) rfl) rfl
theorem cd_L_copyOf : Cond.codeWith yL_copyOf cL_copyOf 6 (some .int) [(0, 12, 15, 13), (0, 12, 19, 15)] ∈ mz_ws := mz_in4 (List.mem_of_getElem? (i := 2) rfl) rfl
theorem lk_RL_62 : Cond.methodLink RL 62 yX5_copyOf ∈ mz_ws := mz_in4 (List.mem_of_getElem? (i := 3) rfl) rfl
theorem lk_RL_163 : Cond.methodLink RL 163 yL_copied ∈ mz_ws := mz_in4 (List.mem_of_getElem? (i := 4) rfl) rfl
theorem sm_L_copied : Cond.static yL_copied ∈ mz_ws := mz_in4 (List.mem_of_getElem? (i := 5) rfl) rfl
theorem cd_L_copied : Cond.codeWith yL_copied cL_copied 7 (some .int) [(0, 14, 17, 13), (0, 14, 21, 15)] ∈ mz_ws := mz_in4 (List.mem_of_getElem? (i := 6) rfl) rfl
theorem lk_RL_65 : Cond.methodLink RL 65 yX5_copied ∈ mz_ws := mz_in4 (List.mem_of_getElem? (i := 7) rfl) rfl
theorem im_X5_copied : Cond.instanceMethod yX5_copied ∈ mz_ws := mz_in4 (List.mem_of_getElem? (i := 8) rfl) rfl
theorem se_X5_copied : Cond.selects RX5 yX5_copied yX5_copied ∈ mz_ws := mz_in4 (List.mem_of_getElem? (i := 9) rfl) rfl
theorem cd_X5_copied : Cond.code yX5_copied cX5_copied 5 (some .int) ∈ mz_ws := mz_in4 (List.mem_of_getElem? (i := 10) rfl) rfl
theorem lk_RL_167 : Cond.methodLink RL 167 yL_view ∈ mz_ws := mz_in4 (List.mem_of_getElem? (i := 11) rfl) rfl
theorem sm_L_view : Cond.static yL_view ∈ mz_ws := mz_in4 (List.mem_of_getElem? (i := 12) rfl) rfl
theorem cd_L_view : Cond.codeWith yL_view cL_view 7 (some .int) [(0, 14, 17, 13), (0, 14, 21, 15)] ∈ mz_ws := mz_in4 (List.mem_of_getElem? (i := 13) rfl) rfl
theorem lk_RL_69 : Cond.methodLink RL 69 yX5_view ∈ mz_ws := mz_in4 (List.mem_of_getElem? (i := 14) rfl) rfl
theorem im_X5_view : Cond.instanceMethod yX5_view ∈ mz_ws := mz_in4 (List.mem_of_getElem? (i := 15) rfl) rfl
theorem se_X5_view : Cond.selects RX5 yX5_view yX5_view ∈ mz_ws := mz_in4 (List.mem_of_getElem? (i := 16) rfl) rfl
theorem cd_X5_view : Cond.code yX5_view cX5_view 5 (some .int) ∈ mz_ws := mz_in4 (List.mem_of_getElem? (i := 17) rfl) rfl
theorem lk_RL_170 : Cond.methodLink RL 170 yL_different ∈ mz_ws := mz_in4 (List.mem_of_getElem? (i := 18) rfl) rfl
theorem sm_L_different : Cond.static yL_different ∈ mz_ws := mz_in4 (List.mem_of_getElem? (i := 19) rfl) rfl
theorem cd_L_different : Cond.codeWith yL_different cL_different 5 (some .int) [(0, 10, 13, 13)] ∈ mz_ws := mz_in4 (List.mem_of_getElem? (i := 20) rfl) rfl
theorem lk_RL_72 : Cond.methodLink RL 72 yX5_different ∈ mz_ws := mz_in4 (List.mem_of_getElem? (i := 21) rfl) rfl
theorem im_X5_different : Cond.instanceMethod yX5_different ∈ mz_ws := mz_in4 (List.mem_of_getElem? (i := 22) rfl) rfl
theorem se_X5_different : Cond.selects RX5 yX5_different yX5_different ∈ mz_ws := mz_in4 (List.mem_of_getElem? (i := 23) rfl) rfl
theorem cd_X5_different : Cond.code yX5_different cX5_different 7 (some .int) ∈ mz_ws := mz_in4 (List.mem_of_getElem? (i := 24) rfl) rfl
theorem lk_RX5_181 : Cond.methodLink RX5 181 yX5_showTheSame ∈ mz_ws := mz_in4 (List.mem_of_getElem? (i := 25) rfl) rfl
theorem sm_X5_showTheSame : Cond.static yX5_showTheSame ∈ mz_ws := mz_in4 (List.mem_of_getElem? (i := 26) rfl) rfl
theorem cd_X5_showTheSame : Cond.code yX5_showTheSame cX5_showTheSame 4 (some .boolean) ∈ mz_ws := mz_in4 (List.mem_of_getElem? (i := 27) rfl) rfl
theorem lk_RL_173 : Cond.methodLink RL 173 yL_areAlike ∈ mz_ws := mz_in4 (List.mem_of_getElem? (i := 28) rfl) rfl
theorem sm_L_areAlike : Cond.static yL_areAlike ∈ mz_ws := mz_in4 (List.mem_of_getElem? (i := 29) rfl) rfl
theorem cd_L_areAlike : Cond.codeWith yL_areAlike cL_areAlike 6 (some .int) [(0, 19, 22, 13)] ∈ mz_ws := mz_in4 (List.mem_of_getElem? (i := 30) rfl) rfl
theorem lk_RL_75 : Cond.methodLink RL 75 yX5_areAlike ∈ mz_ws := mz_in4 (List.mem_of_getElem? (i := 31) rfl) rfl
theorem im_X5_areAlike : Cond.instanceMethod yX5_areAlike ∈ mz_ws := mz_in4 (List.mem_of_getElem? (i := 32) rfl) rfl
theorem se_X5_areAlike : Cond.selects RX5 yX5_areAlike yX5_areAlike ∈ mz_ws := mz_in4 (List.mem_of_getElem? (i := 33) rfl) rfl
theorem cd_X5_areAlike : Cond.code yX5_areAlike cX5_areAlike 5 (some .boolean) ∈ mz_ws := mz_in4 (List.mem_of_getElem? (i := 34) rfl) rfl
theorem lk_RL_176 : Cond.methodLink RL 176 yL_plan ∈ mz_ws := mz_in4 (List.mem_of_getElem? (i := 35) rfl) rfl
theorem sm_L_plan : Cond.static yL_plan ∈ mz_ws := mz_in4 (List.mem_of_getElem? (i := 36) rfl) rfl
theorem cd_L_plan : Cond.codeWith yL_plan cL_plan 8 (some .int) [(0, 16, 19, 13), (0, 16, 23, 15), (0, 16, 27, 17)] ∈ mz_ws := mz_in4 (List.mem_of_getElem? (i := 37) rfl) rfl
theorem lk_RL_79 : Cond.methodLink RL 79 yX5_plan ∈ mz_ws := mz_in4 (List.mem_of_getElem? (i := 38) rfl) rfl
theorem im_X5_plan : Cond.instanceMethod yX5_plan ∈ mz_ws := mz_in4 (List.mem_of_getElem? (i := 39) rfl) rfl
theorem se_X5_plan : Cond.selects RX5 yX5_plan yX5_plan ∈ mz_ws := mz_in4 (List.mem_of_getElem? (i := 40) rfl) rfl
theorem cd_X5_plan : Cond.code yX5_plan cX5_plan 8 (some .int) ∈ mz_ws := mz_in4 (List.mem_of_getElem? (i := 41) rfl) rfl
theorem lk_RX5_185 : Cond.methodLink RX5 185 yX5_needMessageToPlanFor ∈ mz_ws := mz_in4 (List.mem_of_getElem? (i := 42) rfl) rfl
theorem im_X5_needMessageToPlanFor : Cond.instanceMethod yX5_needMessageToPlanFor ∈ mz_ws := mz_in4 (List.mem_of_getElem? (i := 44) rfl) rfl
theorem cd_X5_needMessageToPlanFor : Cond.code yX5_needMessageToPlanFor cX5_needMessageToPlanFor 5 none ∈ mz_ws := mz_in4 (List.mem_of_getElem? (i := 45) rfl) rfl
theorem lk_RX5_188 : Cond.methodLink RX5 188 yX2_deedFor ∈ mz_ws := mz_in4 (List.mem_of_getElem? (i := 47) rfl) rfl
theorem lk_RX5_191 : Cond.methodLink RX5 191 yX5_needRoomForDeed ∈ mz_ws := mz_in4 (List.mem_of_getElem? (i := 49) rfl) rfl
theorem im_X5_needRoomForDeed : Cond.instanceMethod yX5_needRoomForDeed ∈ mz_ws := mz_in4 (List.mem_of_getElem? (i := 51) rfl) rfl
theorem cd_X5_needRoomForDeed : Cond.code yX5_needRoomForDeed cX5_needRoomForDeed 2 none ∈ mz_ws := mz_in4 (List.mem_of_getElem? (i := 52) rfl) rfl
theorem lk_RX5_194 : Cond.methodLink RX5 194 yX3_appendDeed ∈ mz_ws := mz_in4 (List.mem_of_getElem? (i := 54) rfl) rfl
theorem im_X3_appendDeed : Cond.instanceMethod yX3_appendDeed ∈ mz_ws := mz_in4 (List.mem_of_getElem? (i := 55) rfl) rfl
theorem se_X3_appendDeed : Cond.selects RX3 yX3_appendDeed yX3_appendDeed ∈ mz_ws := mz_in4 (List.mem_of_getElem? (i := 56) rfl) rfl
theorem cd_X3_appendDeed : Cond.code yX3_appendDeed cX3_appendDeed 7 (some .int) ∈ mz_ws := mz_in4 (List.mem_of_getElem? (i := 57) rfl) rfl
theorem lk_RX5_198 : Cond.methodLink RX5 198 yX2_addToFlagDeed ∈ mz_ws := mz_in4 (List.mem_of_getElem? (i := 58) rfl) rfl
theorem im_X2_addToFlagDeed : Cond.instanceMethod yX2_addToFlagDeed ∈ mz_ws := mz_in4 (List.mem_of_getElem? (i := 59) rfl) rfl
theorem se_X2_addToFlagDeed : Cond.selects RX2 yX2_addToFlagDeed yX2_addToFlagDeed ∈ mz_ws := mz_in4 (List.mem_of_getElem? (i := 60) rfl) rfl
theorem cd_X2_addToFlagDeed : Cond.code yX2_addToFlagDeed cX2_addToFlagDeed 4 none ∈ mz_ws := mz_in4 (List.mem_of_getElem? (i := 61) rfl) rfl
theorem lk_RL_179 : Cond.methodLink RL 179 yL_planNew ∈ mz_ws := mz_in4 (List.mem_of_getElem? (i := 62) rfl) rfl
theorem sm_L_planNew : Cond.static yL_planNew ∈ mz_ws := mz_in4 (List.mem_of_getElem? (i := 63) rfl) rfl
theorem cd_L_planNew : Cond.codeWith yL_planNew cL_planNew 7 (some .int) [(0, 14, 17, 13), (0, 14, 21, 15), (0, 14, 25, 17)] ∈ mz_ws := mz_in4 (List.mem_of_getElem? (i := 64) rfl) rfl
theorem lk_RL_82 : Cond.methodLink RL 82 yX5_planNew ∈ mz_ws := mz_in4 (List.mem_of_getElem? (i := 65) rfl) rfl
theorem im_X5_planNew : Cond.instanceMethod yX5_planNew ∈ mz_ws := mz_in4 (List.mem_of_getElem? (i := 66) rfl) rfl
theorem se_X5_planNew : Cond.selects RX5 yX5_planNew yX5_planNew ∈ mz_ws := mz_in4 (List.mem_of_getElem? (i := 67) rfl) rfl
theorem cd_X5_planNew : Cond.code yX5_planNew cX5_planNew 7 (some .int) ∈ mz_ws := mz_in4 (List.mem_of_getElem? (i := 68) rfl) rfl
theorem lk_RX5_204 : Cond.methodLink RX5 204 yX4_put ∈ mz_ws := mz_in4 (List.mem_of_getElem? (i := 69) rfl) rfl
theorem lk_RL_182 : Cond.methodLink RL 182 yL_planRemoval ∈ mz_ws := mz_in4 (List.mem_of_getElem? (i := 70) rfl) rfl
theorem sm_L_planRemoval : Cond.static yL_planRemoval ∈ mz_ws := mz_in4 (List.mem_of_getElem? (i := 71) rfl) rfl
theorem cd_L_planRemoval : Cond.codeWith yL_planRemoval cL_planRemoval 6 (some .int) [(0, 12, 15, 13), (0, 12, 19, 17)] ∈ mz_ws := mz_in4 (List.mem_of_getElem? (i := 72) rfl) rfl
theorem lk_RL_85 : Cond.methodLink RL 85 yX5_planRemoval ∈ mz_ws := mz_in4 (List.mem_of_getElem? (i := 73) rfl) rfl
theorem im_X5_planRemoval : Cond.instanceMethod yX5_planRemoval ∈ mz_ws := mz_in4 (List.mem_of_getElem? (i := 74) rfl) rfl
theorem se_X5_planRemoval : Cond.selects RX5 yX5_planRemoval yX5_planRemoval ∈ mz_ws := mz_in4 (List.mem_of_getElem? (i := 75) rfl) rfl
theorem cd_X5_planRemoval : Cond.code yX5_planRemoval cX5_planRemoval 6 (some .int) ∈ mz_ws := mz_in4 (List.mem_of_getElem? (i := 76) rfl) rfl
theorem lk_RL_185 : Cond.methodLink RL 185 yL_takeBack ∈ mz_ws := mz_in4 (List.mem_of_getElem? (i := 77) rfl) rfl
theorem sm_L_takeBack : Cond.static yL_takeBack ∈ mz_ws := mz_in4 (List.mem_of_getElem? (i := 78) rfl) rfl
theorem cd_L_takeBack : Cond.codeWith yL_takeBack cL_takeBack 5 (some .int) [(0, 10, 13, 13), (0, 10, 17, 17)] ∈ mz_ws := mz_in4 (List.mem_of_getElem? (i := 79) rfl) rfl
theorem lk_RL_88 : Cond.methodLink RL 88 yX5_takeBack ∈ mz_ws := mz_in4 (List.mem_of_getElem? (i := 80) rfl) rfl
theorem im_X5_takeBack : Cond.instanceMethod yX5_takeBack ∈ mz_ws := mz_in4 (List.mem_of_getElem? (i := 81) rfl) rfl
theorem se_X5_takeBack : Cond.selects RX5 yX5_takeBack yX5_takeBack ∈ mz_ws := mz_in4 (List.mem_of_getElem? (i := 82) rfl) rfl
theorem cd_X5_takeBack : Cond.code yX5_takeBack cX5_takeBack 5 (some .int) ∈ mz_ws := mz_in4 (List.mem_of_getElem? (i := 83) rfl) rfl
theorem lk_RX5_209 : Cond.methodLink RX5 209 yX4_erase ∈ mz_ws := mz_in4 (List.mem_of_getElem? (i := 85) rfl) rfl
theorem lk_RL_188 : Cond.methodLink RL 188 yL_deed ∈ mz_ws := mz_in4 (List.mem_of_getElem? (i := 86) rfl) rfl
theorem sm_L_deed : Cond.static yL_deed ∈ mz_ws := mz_in4 (List.mem_of_getElem? (i := 87) rfl) rfl
theorem cd_L_deed : Cond.codeWith yL_deed cL_deed 6 (some .int) [(0, 12, 15, 13), (0, 12, 19, 15)] ∈ mz_ws := mz_in4 (List.mem_of_getElem? (i := 88) rfl) rfl
theorem lk_RL_91 : Cond.methodLink RL 91 yX5_deed ∈ mz_ws := mz_in4 (List.mem_of_getElem? (i := 89) rfl) rfl
theorem im_X5_deed : Cond.instanceMethod yX5_deed ∈ mz_ws := mz_in4 (List.mem_of_getElem? (i := 90) rfl) rfl
theorem se_X5_deed : Cond.selects RX5 yX5_deed yX5_deed ∈ mz_ws := mz_in4 (List.mem_of_getElem? (i := 91) rfl) rfl
theorem cd_X5_deed : Cond.code yX5_deed cX5_deed 4 (some .int) ∈ mz_ws := mz_in4 (List.mem_of_getElem? (i := 92) rfl) rfl
theorem lk_RL_191 : Cond.methodLink RL 191 yL_playBack ∈ mz_ws := mz_in4 (List.mem_of_getElem? (i := 93) rfl) rfl
theorem sm_L_playBack : Cond.static yL_playBack ∈ mz_ws := mz_in4 (List.mem_of_getElem? (i := 94) rfl) rfl
theorem cd_L_playBack : Cond.codeWith yL_playBack cL_playBack 4 (some .int) [(0, 9, 12, 13)] ∈ mz_ws := mz_in4 (List.mem_of_getElem? (i := 95) rfl) rfl
theorem lk_RL_94 : Cond.methodLink RL 94 yX5_playBack ∈ mz_ws := mz_in4 (List.mem_of_getElem? (i := 96) rfl) rfl
theorem im_X5_playBack : Cond.instanceMethod yX5_playBack ∈ mz_ws := mz_in4 (List.mem_of_getElem? (i := 97) rfl) rfl
theorem se_X5_playBack : Cond.selects RX5 yX5_playBack yX5_playBack ∈ mz_ws := mz_in4 (List.mem_of_getElem? (i := 98) rfl) rfl
theorem cd_X5_playBack : Cond.code yX5_playBack cX5_playBack 2 (some .int) ∈ mz_ws := mz_in4 (List.mem_of_getElem? (i := 99) rfl) rfl
theorem lk_RL_210 : Cond.methodLink RL 210 yL_told ∈ mz_ws := mz_in4 (List.mem_of_getElem? (i := 100) rfl) rfl
theorem sm_L_told : Cond.static yL_told ∈ mz_ws := mz_in4 (List.mem_of_getElem? (i := 101) rfl) rfl
theorem cd_L_told : Cond.codeWith yL_told cL_told 4 (some .int) [(0, 9, 12, 15)] ∈ mz_ws := mz_in4 (List.mem_of_getElem? (i := 102) rfl) rfl
theorem lk_RL_97 : Cond.methodLink RL 97 yX5_told ∈ mz_ws := mz_in4 (List.mem_of_getElem? (i := 103) rfl) rfl
theorem im_X5_told : Cond.instanceMethod yX5_told ∈ mz_ws := mz_in4 (List.mem_of_getElem? (i := 104) rfl) rfl
theorem se_X5_told : Cond.selects RX5 yX5_told yX5_told ∈ mz_ws := mz_in4 (List.mem_of_getElem? (i := 105) rfl) rfl
theorem cd_X5_told : Cond.code yX5_told cX5_told 2 (some .int) ∈ mz_ws := mz_in4 (List.mem_of_getElem? (i := 106) rfl) rfl
theorem lk_RL_213 : Cond.methodLink RL 213 yL_undo ∈ mz_ws := mz_in4 (List.mem_of_getElem? (i := 107) rfl) rfl
theorem sm_L_undo : Cond.static yL_undo ∈ mz_ws := mz_in4 (List.mem_of_getElem? (i := 108) rfl) rfl
theorem cd_L_undo : Cond.codeWith yL_undo cL_undo 3 (some .int) [(0, 8, 11, 17)] ∈ mz_ws := mz_in4 (List.mem_of_getElem? (i := 109) rfl) rfl
theorem lk_RL_100 : Cond.methodLink RL 100 yX5_undo ∈ mz_ws := mz_in4 (List.mem_of_getElem? (i := 110) rfl) rfl
theorem im_X5_undo : Cond.instanceMethod yX5_undo ∈ mz_ws := mz_in4 (List.mem_of_getElem? (i := 111) rfl) rfl
theorem se_X5_undo : Cond.selects RX5 yX5_undo yX5_undo ∈ mz_ws := mz_in4 (List.mem_of_getElem? (i := 112) rfl) rfl
theorem cd_X5_undo : Cond.code yX5_undo cX5_undo 2 (some .int) ∈ mz_ws := mz_in4 (List.mem_of_getElem? (i := 113) rfl) rfl
theorem ck_RL_105 : Cond.classLink RL 105 RX6 ∈ mz_ws := mz_in4 (List.mem_of_getElem? (i := 115) rfl) rfl
theorem it_RX6 : Cond.instantiable RX6 8 ∈ mz_ws := mz_in4 (List.mem_of_getElem? (i := 116) rfl) rfl
theorem lk_RL_107 : Cond.methodLink RL 107 yX6_init ∈ mz_ws := mz_in4 (List.mem_of_getElem? (i := 117) rfl) rfl
theorem im_X6_init : Cond.instanceMethod yX6_init ∈ mz_ws := mz_in4 (List.mem_of_getElem? (i := 118) rfl) rfl
theorem cd_X6_init : Cond.code yX6_init cX6_init 2 none ∈ mz_ws := mz_in4 (List.mem_of_getElem? (i := 119) rfl) rfl
theorem lk_RX6_1 : Cond.methodLink RX6 1 ⟨"java/lang/Object", "<init>", "()V"⟩ ∈ mz_ws := mz_in4 (List.mem_of_getElem? (i := 120) rfl) rfl
theorem kc_RX6_13 : Cond.constant RX6 13 (nI 117604) ∈ mz_ws := mz_in4 (List.mem_of_getElem? (i := 121) rfl) rfl
theorem fk_RX6_7 : Cond.fieldLink RX6 7 "MailSyncModel" "now" "[I" ∈ mz_ws := mz_in4 (List.mem_of_getElem? (i := 122) rfl) rfl
theorem fk_RX6_14 : Cond.fieldLink RX6 14 "MailSyncModel" "past" "[I" ∈ mz_ws := mz_in4 (List.mem_of_getElem? (i := 123) rfl) rfl
theorem fk_RX6_27 : Cond.fieldLink RX6 27 "MailSyncModel" "saved" "I" ∈ mz_ws := mz_in4 (List.mem_of_getElem? (i := 124) rfl) rfl
theorem fk_RX6_23 : Cond.fieldLink RX6 23 "MailSyncModel" "refusal" "I" ∈ mz_ws := mz_in4 (List.mem_of_getElem? (i := 125) rfl) rfl
theorem fk_RX6_136 : Cond.fieldLink RX6 136 "MailSyncModel" "viewMany" "I" ∈ mz_ws := mz_in4 (List.mem_of_getElem? (i := 126) rfl) rfl
theorem fk_RX6_17 : Cond.fieldLink RX6 17 "MailSyncModel" "viewRow" "[I" ∈ mz_ws := mz_in4 (List.mem_of_getElem? (i := 127) rfl) rfl
theorem fk_RX6_20 : Cond.fieldLink RX6 20 "MailSyncModel" "before" "[I" ∈ mz_ws := mz_in4 (List.mem_of_getElem? (i := 128) rfl) rfl
theorem fk_RX6_182 : Cond.fieldLink RX6 182 "MailSyncModel" "hash" "J" ∈ mz_ws := mz_in4 (List.mem_of_getElem? (i := 129) rfl) rfl
theorem ly_RX6_now : Cond.laysFinal "MailSyncModel" "MailSyncModel" "now" "[I" ∈ mz_ws := mz_in4 (List.mem_of_getElem? (i := 130) rfl) rfl
theorem ly_RX6_past : Cond.laysFinal "MailSyncModel" "MailSyncModel" "past" "[I" ∈ mz_ws := mz_in4 (List.mem_of_getElem? (i := 132) rfl) rfl
theorem ly_RX6_saved : Cond.lays "MailSyncModel" "MailSyncModel" "saved" "I" ∈ mz_ws := mz_in4 (List.mem_of_getElem? (i := 134) rfl) rfl
theorem ly_RX6_refusal : Cond.lays "MailSyncModel" "MailSyncModel" "refusal" "I" ∈ mz_ws := mz_in4 (List.mem_of_getElem? (i := 136) rfl) rfl
theorem ly_RX6_viewMany : Cond.lays "MailSyncModel" "MailSyncModel" "viewMany" "I" ∈ mz_ws := mz_in4 (List.mem_of_getElem? (i := 138) rfl) rfl
theorem ly_RX6_viewRow : Cond.laysFinal "MailSyncModel" "MailSyncModel" "viewRow" "[I" ∈ mz_ws := mz_in4 (List.mem_of_getElem? (i := 140) rfl) rfl
theorem ly_RX6_before : Cond.laysFinal "MailSyncModel" "MailSyncModel" "before" "[I" ∈ mz_ws := mz_in4 (List.mem_of_getElem? (i := 142) rfl) rfl
theorem ly_RX6_hash : Cond.lays "MailSyncModel" "MailSyncModel" "hash" "J" ∈ mz_ws := mz_in4 (List.mem_of_getElem? (i := 144) rfl) rfl
theorem lk_RL_114 : Cond.methodLink RL 114 yX6_thrown ∈ mz_ws := mz_in4 (List.mem_of_getElem? (i := 147) rfl) rfl
theorem im_X6_thrown : Cond.instanceMethod yX6_thrown ∈ mz_ws := mz_in4 (List.mem_of_getElem? (i := 148) rfl) rfl
theorem se_X6_thrown : Cond.selects RX6 yX6_thrown yX6_thrown ∈ mz_ws := mz_in4 (List.mem_of_getElem? (i := 149) rfl) rfl
theorem cd_X6_thrown : Cond.code yX6_thrown cX6_thrown 1 (some .int) ∈ mz_ws := mz_in4 (List.mem_of_getElem? (i := 150) rfl) rfl
theorem lk_RL_216 : Cond.methodLink RL 216 yX6_undo ∈ mz_ws := mz_in4 (List.mem_of_getElem? (i := 151) rfl) rfl
theorem im_X6_undo : Cond.instanceMethod yX6_undo ∈ mz_ws := mz_in4 (List.mem_of_getElem? (i := 152) rfl) rfl
theorem se_X6_undo : Cond.selects RX6 yX6_undo yX6_undo ∈ mz_ws := mz_in4 (List.mem_of_getElem? (i := 153) rfl) rfl
theorem cd_X6_undo : Cond.code yX6_undo cX6_undo 2 (some .int) ∈ mz_ws := mz_in4 (List.mem_of_getElem? (i := 154) rfl) rfl
theorem lk_RX6_31 : Cond.methodLink RX6 31 yX6_refused ∈ mz_ws := mz_in4 (List.mem_of_getElem? (i := 155) rfl) rfl
theorem im_X6_refused : Cond.instanceMethod yX6_refused ∈ mz_ws := mz_in4 (List.mem_of_getElem? (i := 157) rfl) rfl
theorem cd_X6_refused : Cond.code yX6_refused cX6_refused 2 (some .boolean) ∈ mz_ws := mz_in4 (List.mem_of_getElem? (i := 158) rfl) rfl
theorem lk_RL_113 : Cond.methodLink RL 113 yX6_add ∈ mz_ws := mz_in4 (List.mem_of_getElem? (i := 159) rfl) rfl
theorem im_X6_add : Cond.instanceMethod yX6_add ∈ mz_ws := mz_in4 (List.mem_of_getElem? (i := 160) rfl) rfl
theorem se_X6_add : Cond.selects RX6 yX6_add yX6_add ∈ mz_ws := mz_in4 (List.mem_of_getElem? (i := 161) rfl) rfl
theorem cd_X6_add : Cond.code yX6_add cX6_add 5 (some .int) ∈ mz_ws := mz_in4 (List.mem_of_getElem? (i := 162) rfl) rfl
theorem lk_RX6_42 : Cond.methodLink RX6 42 yX6_within ∈ mz_ws := mz_in4 (List.mem_of_getElem? (i := 163) rfl) rfl
theorem sm_X6_within : Cond.static yX6_within ∈ mz_ws := mz_in4 (List.mem_of_getElem? (i := 164) rfl) rfl
theorem cd_X6_within : Cond.code yX6_within cX6_within 3 (some .boolean) ∈ mz_ws := mz_in4 (List.mem_of_getElem? (i := 165) rfl) rfl
theorem lk_RX6_64 : Cond.methodLink RX6 64 yX6_isBox ∈ mz_ws := mz_in4 (List.mem_of_getElem? (i := 166) rfl) rfl
theorem sm_X6_isBox : Cond.static yX6_isBox ∈ mz_ws := mz_in4 (List.mem_of_getElem? (i := 167) rfl) rfl
theorem cd_X6_isBox : Cond.code yX6_isBox cX6_isBox 1 (some .boolean) ∈ mz_ws := mz_in4 (List.mem_of_getElem? (i := 168) rfl) rfl
theorem lk_RX6_67 : Cond.methodLink RX6 67 yX6_hasRoom ∈ mz_ws := mz_in4 (List.mem_of_getElem? (i := 169) rfl) rfl
theorem im_X6_hasRoom : Cond.instanceMethod yX6_hasRoom ∈ mz_ws := mz_in4 (List.mem_of_getElem? (i := 171) rfl) rfl
theorem cd_X6_hasRoom : Cond.code yX6_hasRoom cX6_hasRoom 2 (some .boolean) ∈ mz_ws := mz_in4 (List.mem_of_getElem? (i := 172) rfl) rfl
theorem lk_RX6_53 : Cond.methodLink RX6 53 yX6_listOf ∈ mz_ws := mz_in4 (List.mem_of_getElem? (i := 173) rfl) rfl
theorem sm_X6_listOf : Cond.static yX6_listOf ∈ mz_ws := mz_in4 (List.mem_of_getElem? (i := 174) rfl) rfl
theorem cd_X6_listOf : Cond.code yX6_listOf cX6_listOf 1 (some .int) ∈ mz_ws := mz_in4 (List.mem_of_getElem? (i := 175) rfl) rfl
theorem lk_RX6_70 : Cond.methodLink RX6 70 yX6_saves ∈ mz_ws := mz_in4 (List.mem_of_getElem? (i := 176) rfl) rfl
theorem im_X6_saves : Cond.instanceMethod yX6_saves ∈ mz_ws := mz_in4 (List.mem_of_getElem? (i := 178) rfl) rfl
theorem cd_X6_saves : Cond.code yX6_saves cX6_saves 2 none ∈ mz_ws := mz_in4 (List.mem_of_getElem? (i := 179) rfl) rfl
theorem kc_RX6_30 : Cond.constant RX6 30 (nI 88203) ∈ mz_ws := mz_in4 (List.mem_of_getElem? (i := 180) rfl) rfl
theorem lk_RX6_73 : Cond.methodLink RX6 73 yX6_adds ∈ mz_ws := mz_in4 (List.mem_of_getElem? (i := 181) rfl) rfl
theorem im_X6_adds : Cond.instanceMethod yX6_adds ∈ mz_ws := mz_in4 (List.mem_of_getElem? (i := 183) rfl) rfl
theorem cd_X6_adds : Cond.code yX6_adds cX6_adds 6 (some .int) ∈ mz_ws := mz_in4 (List.mem_of_getElem? (i := 184) rfl) rfl
theorem lk_RX6_46 : Cond.methodLink RX6 46 yX6_marks ∈ mz_ws := mz_in4 (List.mem_of_getElem? (i := 185) rfl) rfl
theorem im_X6_marks : Cond.instanceMethod yX6_marks ∈ mz_ws := mz_in4 (List.mem_of_getElem? (i := 187) rfl) rfl
theorem cd_X6_marks : Cond.code yX6_marks cX6_marks 2 (some .int) ∈ mz_ws := mz_in4 (List.mem_of_getElem? (i := 188) rfl) rfl
theorem lk_RX6_50 : Cond.methodLink RX6 50 yX6_of ∈ mz_ws := mz_in4 (List.mem_of_getElem? (i := 189) rfl) rfl
theorem im_X6_of : Cond.instanceMethod yX6_of ∈ mz_ws := mz_in4 (List.mem_of_getElem? (i := 191) rfl) rfl
theorem cd_X6_of : Cond.code yX6_of cX6_of 3 (some .int) ∈ mz_ws := mz_in4 (List.mem_of_getElem? (i := 192) rfl) rfl
theorem lk_RX6_56 : Cond.methodLink RX6 56 yX6_puts ∈ mz_ws := mz_in4 (List.mem_of_getElem? (i := 193) rfl) rfl
theorem im_X6_puts : Cond.instanceMethod yX6_puts ∈ mz_ws := mz_in4 (List.mem_of_getElem? (i := 195) rfl) rfl
theorem cd_X6_puts : Cond.code yX6_puts cX6_puts 8 none ∈ mz_ws := mz_in4 (List.mem_of_getElem? (i := 196) rfl) rfl
theorem lk_RX6_39 : Cond.methodLink RX6 39 yX6_find ∈ mz_ws := mz_in4 (List.mem_of_getElem? (i := 197) rfl) rfl
theorem im_X6_find : Cond.instanceMethod yX6_find ∈ mz_ws := mz_in4 (List.mem_of_getElem? (i := 199) rfl) rfl
theorem cd_X6_find : Cond.code yX6_find cX6_find 4 (some .int) ∈ mz_ws := mz_in4 (List.mem_of_getElem? (i := 200) rfl) rfl
theorem lk_RX6_35 : Cond.methodLink RX6 35 yX6_nameAt ∈ mz_ws := mz_in4 (List.mem_of_getElem? (i := 201) rfl) rfl
theorem im_X6_nameAt : Cond.instanceMethod yX6_nameAt ∈ mz_ws := mz_in4 (List.mem_of_getElem? (i := 203) rfl) rfl
theorem cd_X6_nameAt : Cond.code yX6_nameAt cX6_nameAt 3 (some .int) ∈ mz_ws := mz_in4 (List.mem_of_getElem? (i := 204) rfl) rfl
theorem lk_RL_120 : Cond.methodLink RL 120 yX6_change ∈ mz_ws := mz_in4 (List.mem_of_getElem? (i := 205) rfl) rfl
theorem im_X6_change : Cond.instanceMethod yX6_change ∈ mz_ws := mz_in4 (List.mem_of_getElem? (i := 206) rfl) rfl
theorem se_X6_change : Cond.selects RX6 yX6_change yX6_change ∈ mz_ws := mz_in4 (List.mem_of_getElem? (i := 207) rfl) rfl
theorem cd_X6_change : Cond.code yX6_change cX6_change 9 (some .int) ∈ mz_ws := mz_in4 (List.mem_of_getElem? (i := 208) rfl) rfl
theorem lk_RX6_77 : Cond.methodLink RX6 77 yX6_has ∈ mz_ws := mz_in4 (List.mem_of_getElem? (i := 209) rfl) rfl
theorem im_X6_has : Cond.instanceMethod yX6_has ∈ mz_ws := mz_in4 (List.mem_of_getElem? (i := 211) rfl) rfl
theorem cd_X6_has : Cond.code yX6_has cX6_has 3 (some .boolean) ∈ mz_ws := mz_in4 (List.mem_of_getElem? (i := 212) rfl) rfl
theorem lk_RX6_81 : Cond.methodLink RX6 81 yX6_told ∈ mz_ws := mz_in4 (List.mem_of_getElem? (i := 213) rfl) rfl
theorem im_X6_told : Cond.instanceMethod yX6_told ∈ mz_ws := mz_in4 (List.mem_of_getElem? (i := 215) rfl) rfl
theorem cd_X6_told : Cond.code yX6_told cX6_told 4 (some .int) ∈ mz_ws := mz_in4 (List.mem_of_getElem? (i := 216) rfl) rfl
theorem lk_RX6_84 : Cond.methodLink RX6 84 yX6_mixed ∈ mz_ws := mz_in4 (List.mem_of_getElem? (i := 217) rfl) rfl
theorem sm_X6_mixed : Cond.static yX6_mixed ∈ mz_ws := mz_in4 (List.mem_of_getElem? (i := 218) rfl) rfl
theorem cd_X6_mixed : Cond.code yX6_mixed cX6_mixed 3 (some .int) ∈ mz_ws := mz_in4 (List.mem_of_getElem? (i := 219) rfl) rfl
theorem lk_RX6_87 : Cond.methodLink RX6 87 yX6_changes ∈ mz_ws := mz_in4 (List.mem_of_getElem? (i := 220) rfl) rfl
theorem im_X6_changes : Cond.instanceMethod yX6_changes ∈ mz_ws := mz_in4 (List.mem_of_getElem? (i := 222) rfl) rfl
theorem cd_X6_changes : Cond.code yX6_changes cX6_changes 5 none ∈ mz_ws := mz_in4 (List.mem_of_getElem? (i := 223) rfl) rfl
theorem lk_RL_124 : Cond.methodLink RL 124 yX6_remove ∈ mz_ws := mz_in4 (List.mem_of_getElem? (i := 224) rfl) rfl
theorem im_X6_remove : Cond.instanceMethod yX6_remove ∈ mz_ws := mz_in4 (List.mem_of_getElem? (i := 225) rfl) rfl
theorem se_X6_remove : Cond.selects RX6 yX6_remove yX6_remove ∈ mz_ws := mz_in4 (List.mem_of_getElem? (i := 226) rfl) rfl
theorem cd_X6_remove : Cond.code yX6_remove cX6_remove 5 (some .int) ∈ mz_ws := mz_in4 (List.mem_of_getElem? (i := 227) rfl) rfl
theorem lk_RX6_91 : Cond.methodLink RX6 91 yX6_removes ∈ mz_ws := mz_in4 (List.mem_of_getElem? (i := 228) rfl) rfl
theorem im_X6_removes : Cond.instanceMethod yX6_removes ∈ mz_ws := mz_in4 (List.mem_of_getElem? (i := 230) rfl) rfl
theorem cd_X6_removes : Cond.code yX6_removes cX6_removes 7 none ∈ mz_ws := mz_in4 (List.mem_of_getElem? (i := 231) rfl) rfl
theorem lk_RX6_60 : Cond.methodLink RX6 60 yX6_drops ∈ mz_ws := mz_in4 (List.mem_of_getElem? (i := 232) rfl) rfl
theorem im_X6_drops : Cond.instanceMethod yX6_drops ∈ mz_ws := mz_in4 (List.mem_of_getElem? (i := 234) rfl) rfl
theorem cd_X6_drops : Cond.code yX6_drops cX6_drops 4 none ∈ mz_ws := mz_in4 (List.mem_of_getElem? (i := 235) rfl) rfl
theorem lk_RL_128 : Cond.methodLink RL 128 yX6_clean ∈ mz_ws := mz_in4 (List.mem_of_getElem? (i := 236) rfl) rfl
theorem im_X6_clean : Cond.instanceMethod yX6_clean ∈ mz_ws := mz_in4 (List.mem_of_getElem? (i := 237) rfl) rfl
theorem se_X6_clean : Cond.selects RX6 yX6_clean yX6_clean ∈ mz_ws := mz_in4 (List.mem_of_getElem? (i := 238) rfl) rfl
theorem cd_X6_clean : Cond.code yX6_clean cX6_clean 4 (some .int) ∈ mz_ws := mz_in4 (List.mem_of_getElem? (i := 239) rfl) rfl
theorem lk_RL_131 : Cond.methodLink RL 131 yX6_copy ∈ mz_ws := mz_in5 (List.mem_of_getElem? (i := 0) rfl) rfl
theorem im_X6_copy : Cond.instanceMethod yX6_copy ∈ mz_ws := mz_in5 (List.mem_of_getElem? (i := 1) rfl) rfl
theorem se_X6_copy : Cond.selects RX6 yX6_copy yX6_copy ∈ mz_ws := mz_in5 (List.mem_of_getElem? (i := 2) rfl) rfl
theorem cd_X6_copy : Cond.code yX6_copy cX6_copy 6 (some .int) ∈ mz_ws := mz_in5 (List.mem_of_getElem? (i := 3) rfl) rfl
theorem lk_RL_134 : Cond.methodLink RL 134 yX6_renew ∈ mz_ws := mz_in5 (List.mem_of_getElem? (i := 4) rfl) rfl
theorem im_X6_renew : Cond.instanceMethod yX6_renew ∈ mz_ws := mz_in5 (List.mem_of_getElem? (i := 5) rfl) rfl
theorem se_X6_renew : Cond.selects RX6 yX6_renew yX6_renew ∈ mz_ws := mz_in5 (List.mem_of_getElem? (i := 6) rfl) rfl
theorem cd_X6_renew : Cond.code yX6_renew cX6_renew 5 (some .int) ∈ mz_ws := mz_in5 (List.mem_of_getElem? (i := 7) rfl) rfl
theorem lk_RL_137 : Cond.methodLink RL 137 yX6_box ∈ mz_ws := mz_in5 (List.mem_of_getElem? (i := 8) rfl) rfl
theorem im_X6_box : Cond.instanceMethod yX6_box ∈ mz_ws := mz_in5 (List.mem_of_getElem? (i := 9) rfl) rfl
theorem se_X6_box : Cond.selects RX6 yX6_box yX6_box ∈ mz_ws := mz_in5 (List.mem_of_getElem? (i := 10) rfl) rfl
theorem cd_X6_box : Cond.code yX6_box cX6_box 3 (some .int) ∈ mz_ws := mz_in5 (List.mem_of_getElem? (i := 11) rfl) rfl
theorem lk_RX6_94 : Cond.methodLink RX6 94 yX6_boxTold ∈ mz_ws := mz_in5 (List.mem_of_getElem? (i := 12) rfl) rfl
theorem im_X6_boxTold : Cond.instanceMethod yX6_boxTold ∈ mz_ws := mz_in5 (List.mem_of_getElem? (i := 14) rfl) rfl
theorem cd_X6_boxTold : Cond.code yX6_boxTold cX6_boxTold 3 (some .int) ∈ mz_ws := mz_in5 (List.mem_of_getElem? (i := 15) rfl) rfl
theorem lk_RL_140 : Cond.methodLink RL 140 yX6_message ∈ mz_ws := mz_in5 (List.mem_of_getElem? (i := 16) rfl) rfl
theorem im_X6_message : Cond.instanceMethod yX6_message ∈ mz_ws := mz_in5 (List.mem_of_getElem? (i := 17) rfl) rfl
theorem se_X6_message : Cond.selects RX6 yX6_message yX6_message ∈ mz_ws := mz_in5 (List.mem_of_getElem? (i := 18) rfl) rfl
theorem cd_X6_message : Cond.code yX6_message cX6_message 4 (some .int) ∈ mz_ws := mz_in5 (List.mem_of_getElem? (i := 19) rfl) rfl
theorem lk_RL_144 : Cond.methodLink RL 144 yX6_vanished ∈ mz_ws := mz_in5 (List.mem_of_getElem? (i := 20) rfl) rfl
theorem im_X6_vanished : Cond.instanceMethod yX6_vanished ∈ mz_ws := mz_in5 (List.mem_of_getElem? (i := 21) rfl) rfl
theorem se_X6_vanished : Cond.selects RX6 yX6_vanished yX6_vanished ∈ mz_ws := mz_in5 (List.mem_of_getElem? (i := 22) rfl) rfl
theorem cd_X6_vanished : Cond.code yX6_vanished cX6_vanished 4 (some .int) ∈ mz_ws := mz_in5 (List.mem_of_getElem? (i := 23) rfl) rfl
theorem lk_RL_147 : Cond.methodLink RL 147 yX6_atMost ∈ mz_ws := mz_in5 (List.mem_of_getElem? (i := 24) rfl) rfl
theorem im_X6_atMost : Cond.instanceMethod yX6_atMost ∈ mz_ws := mz_in5 (List.mem_of_getElem? (i := 25) rfl) rfl
theorem se_X6_atMost : Cond.selects RX6 yX6_atMost yX6_atMost ∈ mz_ws := mz_in5 (List.mem_of_getElem? (i := 26) rfl) rfl
theorem cd_X6_atMost : Cond.code yX6_atMost cX6_atMost 5 (some .int) ∈ mz_ws := mz_in5 (List.mem_of_getElem? (i := 27) rfl) rfl
theorem lk_RL_150 : Cond.methodLink RL 150 yX6_changedAfter ∈ mz_ws := mz_in5 (List.mem_of_getElem? (i := 28) rfl) rfl
theorem im_X6_changedAfter : Cond.instanceMethod yX6_changedAfter ∈ mz_ws := mz_in5 (List.mem_of_getElem? (i := 29) rfl) rfl
theorem se_X6_changedAfter : Cond.selects RX6 yX6_changedAfter yX6_changedAfter ∈ mz_ws := mz_in5 (List.mem_of_getElem? (i := 30) rfl) rfl
theorem cd_X6_changedAfter : Cond.code yX6_changedAfter cX6_changedAfter 6 (some .int) ∈ mz_ws := mz_in5 (List.mem_of_getElem? (i := 31) rfl) rfl
theorem lk_RL_153 : Cond.methodLink RL 153 yX6_setPolicy ∈ mz_ws := mz_in5 (List.mem_of_getElem? (i := 32) rfl) rfl
theorem im_X6_setPolicy : Cond.instanceMethod yX6_setPolicy ∈ mz_ws := mz_in5 (List.mem_of_getElem? (i := 33) rfl) rfl
theorem se_X6_setPolicy : Cond.selects RX6 yX6_setPolicy yX6_setPolicy ∈ mz_ws := mz_in5 (List.mem_of_getElem? (i := 34) rfl) rfl
theorem cd_X6_setPolicy : Cond.code yX6_setPolicy cX6_setPolicy 4 (some .int) ∈ mz_ws := mz_in5 (List.mem_of_getElem? (i := 35) rfl) rfl
theorem lk_RL_156 : Cond.methodLink RL 156 yX6_sync ∈ mz_ws := mz_in5 (List.mem_of_getElem? (i := 36) rfl) rfl
theorem im_X6_sync : Cond.instanceMethod yX6_sync ∈ mz_ws := mz_in5 (List.mem_of_getElem? (i := 37) rfl) rfl
theorem se_X6_sync : Cond.selects RX6 yX6_sync yX6_sync ∈ mz_ws := mz_in5 (List.mem_of_getElem? (i := 38) rfl) rfl
theorem cd_X6_sync : Cond.code yX6_sync cX6_sync 3 (some .int) ∈ mz_ws := mz_in5 (List.mem_of_getElem? (i := 39) rfl) rfl
theorem lk_RX6_130 : Cond.methodLink RX6 130 yX6_areThere ∈ mz_ws := mz_in5 (List.mem_of_getElem? (i := 40) rfl) rfl
theorem sm_X6_areThere : Cond.static yX6_areThere ∈ mz_ws := mz_in5 (List.mem_of_getElem? (i := 41) rfl) rfl
theorem cd_X6_areThere : Cond.code yX6_areThere cX6_areThere 2 (some .boolean) ∈ mz_ws := mz_in5 (List.mem_of_getElem? (i := 42) rfl) rfl
theorem lk_RX6_133 : Cond.methodLink RX6 133 yX6_syncs ∈ mz_ws := mz_in5 (List.mem_of_getElem? (i := 43) rfl) rfl
theorem im_X6_syncs : Cond.instanceMethod yX6_syncs ∈ mz_ws := mz_in5 (List.mem_of_getElem? (i := 45) rfl) rfl
theorem cd_X6_syncs : Cond.code yX6_syncs cX6_syncs 11 (some .int) ∈ mz_ws := mz_in5 (List.mem_of_getElem? (i := 46) rfl) rfl
theorem lk_RX6_106 : Cond.methodLink RX6 106 yX6_caseOf ∈ mz_ws := mz_in5 (List.mem_of_getElem? (i := 47) rfl) rfl
theorem im_X6_caseOf : Cond.instanceMethod yX6_caseOf ∈ mz_ws := mz_in5 (List.mem_of_getElem? (i := 49) rfl) rfl
theorem cd_X6_caseOf : Cond.code yX6_caseOf cX6_caseOf 4 (some .int) ∈ mz_ws := mz_in5 (List.mem_of_getElem? (i := 50) rfl) rfl
theorem lk_RX6_97 : Cond.methodLink RX6 97 yX6_copyAt ∈ mz_ws := mz_in5 (List.mem_of_getElem? (i := 51) rfl) rfl
theorem sm_X6_copyAt : Cond.static yX6_copyAt ∈ mz_ws := mz_in5 (List.mem_of_getElem? (i := 52) rfl) rfl
theorem cd_X6_copyAt : Cond.code yX6_copyAt cX6_copyAt 2 (some .int) ∈ mz_ws := mz_in5 (List.mem_of_getElem? (i := 53) rfl) rfl
theorem lk_RX6_118 : Cond.methodLink RX6 118 yX6_messagesSent ∈ mz_ws := mz_in5 (List.mem_of_getElem? (i := 54) rfl) rfl
theorem im_X6_messagesSent : Cond.instanceMethod yX6_messagesSent ∈ mz_ws := mz_in5 (List.mem_of_getElem? (i := 56) rfl) rfl
theorem cd_X6_messagesSent : Cond.code yX6_messagesSent cX6_messagesSent 5 (some .int) ∈ mz_ws := mz_in5 (List.mem_of_getElem? (i := 57) rfl) rfl
theorem lk_RX6_121 : Cond.methodLink RX6 121 yX6_namesSent ∈ mz_ws := mz_in5 (List.mem_of_getElem? (i := 58) rfl) rfl
theorem im_X6_namesSent : Cond.instanceMethod yX6_namesSent ∈ mz_ws := mz_in5 (List.mem_of_getElem? (i := 60) rfl) rfl
theorem cd_X6_namesSent : Cond.code yX6_namesSent cX6_namesSent 5 (some .int) ∈ mz_ws := mz_in5 (List.mem_of_getElem? (i := 61) rfl) rfl
theorem lk_RX6_109 : Cond.methodLink RX6 109 yX6_copyList ∈ mz_ws := mz_in5 (List.mem_of_getElem? (i := 62) rfl) rfl
theorem sm_X6_copyList : Cond.static yX6_copyList ∈ mz_ws := mz_in5 (List.mem_of_getElem? (i := 63) rfl) rfl
theorem cd_X6_copyList : Cond.code yX6_copyList cX6_copyList 2 (some .int) ∈ mz_ws := mz_in5 (List.mem_of_getElem? (i := 64) rfl) rfl
theorem lk_RX6_124 : Cond.methodLink RX6 124 yX6_dropsDeeds ∈ mz_ws := mz_in5 (List.mem_of_getElem? (i := 65) rfl) rfl
theorem im_X6_dropsDeeds : Cond.instanceMethod yX6_dropsDeeds ∈ mz_ws := mz_in5 (List.mem_of_getElem? (i := 67) rfl) rfl
theorem cd_X6_dropsDeeds : Cond.code yX6_dropsDeeds cX6_dropsDeeds 7 none ∈ mz_ws := mz_in5 (List.mem_of_getElem? (i := 68) rfl) rfl
theorem lk_RX6_103 : Cond.methodLink RX6 103 yX6_deedMany ∈ mz_ws := mz_in5 (List.mem_of_getElem? (i := 69) rfl) rfl
theorem im_X6_deedMany : Cond.instanceMethod yX6_deedMany ∈ mz_ws := mz_in5 (List.mem_of_getElem? (i := 71) rfl) rfl
theorem cd_X6_deedMany : Cond.code yX6_deedMany cX6_deedMany 2 (some .int) ∈ mz_ws := mz_in5 (List.mem_of_getElem? (i := 72) rfl) rfl
theorem lk_RX6_100 : Cond.methodLink RX6 100 yX6_deedAt ∈ mz_ws := mz_in5 (List.mem_of_getElem? (i := 73) rfl) rfl
theorem sm_X6_deedAt : Cond.static yX6_deedAt ∈ mz_ws := mz_in5 (List.mem_of_getElem? (i := 74) rfl) rfl
theorem cd_X6_deedAt : Cond.code yX6_deedAt cX6_deedAt 2 (some .int) ∈ mz_ws := mz_in5 (List.mem_of_getElem? (i := 75) rfl) rfl
theorem lk_RX6_112 : Cond.methodLink RX6 112 yX6_notes ∈ mz_ws := mz_in5 (List.mem_of_getElem? (i := 76) rfl) rfl
theorem im_X6_notes : Cond.instanceMethod yX6_notes ∈ mz_ws := mz_in5 (List.mem_of_getElem? (i := 78) rfl) rfl
theorem cd_X6_notes : Cond.code yX6_notes cX6_notes 5 none ∈ mz_ws := mz_in5 (List.mem_of_getElem? (i := 79) rfl) rfl
theorem lk_RX6_115 : Cond.methodLink RX6 115 yX6_dropsDeed ∈ mz_ws := mz_in5 (List.mem_of_getElem? (i := 80) rfl) rfl
theorem im_X6_dropsDeed : Cond.instanceMethod yX6_dropsDeed ∈ mz_ws := mz_in5 (List.mem_of_getElem? (i := 82) rfl) rfl
theorem cd_X6_dropsDeed : Cond.code yX6_dropsDeed cX6_dropsDeed 4 none ∈ mz_ws := mz_in5 (List.mem_of_getElem? (i := 83) rfl) rfl
theorem lk_RX6_127 : Cond.methodLink RX6 127 yX6_hasVanished ∈ mz_ws := mz_in5 (List.mem_of_getElem? (i := 84) rfl) rfl
theorem im_X6_hasVanished : Cond.instanceMethod yX6_hasVanished ∈ mz_ws := mz_in5 (List.mem_of_getElem? (i := 86) rfl) rfl
theorem cd_X6_hasVanished : Cond.code yX6_hasVanished cX6_hasVanished 6 (some .boolean) ∈ mz_ws := mz_in5 (List.mem_of_getElem? (i := 87) rfl) rfl
theorem lk_RL_159 : Cond.methodLink RL 159 yX6_syncCost ∈ mz_ws := mz_in5 (List.mem_of_getElem? (i := 88) rfl) rfl
theorem im_X6_syncCost : Cond.instanceMethod yX6_syncCost ∈ mz_ws := mz_in5 (List.mem_of_getElem? (i := 89) rfl) rfl
theorem se_X6_syncCost : Cond.selects RX6 yX6_syncCost yX6_syncCost ∈ mz_ws := mz_in5 (List.mem_of_getElem? (i := 90) rfl) rfl
theorem cd_X6_syncCost : Cond.code yX6_syncCost cX6_syncCost 3 (some .int) ∈ mz_ws := mz_in5 (List.mem_of_getElem? (i := 91) rfl) rfl
theorem lk_RL_162 : Cond.methodLink RL 162 yX6_copyOf ∈ mz_ws := mz_in5 (List.mem_of_getElem? (i := 92) rfl) rfl
theorem im_X6_copyOf : Cond.instanceMethod yX6_copyOf ∈ mz_ws := mz_in5 (List.mem_of_getElem? (i := 93) rfl) rfl
theorem se_X6_copyOf : Cond.selects RX6 yX6_copyOf yX6_copyOf ∈ mz_ws := mz_in5 (List.mem_of_getElem? (i := 94) rfl) rfl
theorem cd_X6_copyOf : Cond.code yX6_copyOf cX6_copyOf 4 (some .int) ∈ mz_ws := mz_in5 (List.mem_of_getElem? (i := 95) rfl) rfl
theorem lk_RX6_149 : Cond.methodLink RX6 149 yX6_copyTold ∈ mz_ws := mz_in5 (List.mem_of_getElem? (i := 96) rfl) rfl
theorem im_X6_copyTold : Cond.instanceMethod yX6_copyTold ∈ mz_ws := mz_in5 (List.mem_of_getElem? (i := 98) rfl) rfl
theorem cd_X6_copyTold : Cond.code yX6_copyTold cX6_copyTold 4 (some .int) ∈ mz_ws := mz_in5 (List.mem_of_getElem? (i := 99) rfl) rfl
theorem lk_RX6_146 : Cond.methodLink RX6 146 yX6_laysView ∈ mz_ws := mz_in5 (List.mem_of_getElem? (i := 100) rfl) rfl
theorem im_X6_laysView : Cond.instanceMethod yX6_laysView ∈ mz_ws := mz_in5 (List.mem_of_getElem? (i := 102) rfl) rfl
theorem cd_X6_laysView : Cond.code yX6_laysView cX6_laysView 7 none ∈ mz_ws := mz_in5 (List.mem_of_getElem? (i := 103) rfl) rfl
theorem lk_RX6_139 : Cond.methodLink RX6 139 yX6_deedFor ∈ mz_ws := mz_in5 (List.mem_of_getElem? (i := 104) rfl) rfl
theorem im_X6_deedFor : Cond.instanceMethod yX6_deedFor ∈ mz_ws := mz_in5 (List.mem_of_getElem? (i := 106) rfl) rfl
theorem cd_X6_deedFor : Cond.code yX6_deedFor cX6_deedFor 7 (some .int) ∈ mz_ws := mz_in5 (List.mem_of_getElem? (i := 107) rfl) rfl
theorem lk_RX6_143 : Cond.methodLink RX6 143 yX6_shows ∈ mz_ws := mz_in5 (List.mem_of_getElem? (i := 108) rfl) rfl
theorem im_X6_shows : Cond.instanceMethod yX6_shows ∈ mz_ws := mz_in5 (List.mem_of_getElem? (i := 110) rfl) rfl
theorem cd_X6_shows : Cond.code yX6_shows cX6_shows 4 none ∈ mz_ws := mz_in5 (List.mem_of_getElem? (i := 111) rfl) rfl
theorem lk_RL_166 : Cond.methodLink RL 166 yX6_copied ∈ mz_ws := mz_in5 (List.mem_of_getElem? (i := 112) rfl) rfl
theorem im_X6_copied : Cond.instanceMethod yX6_copied ∈ mz_ws := mz_in5 (List.mem_of_getElem? (i := 113) rfl) rfl
theorem se_X6_copied : Cond.selects RX6 yX6_copied yX6_copied ∈ mz_ws := mz_in5 (List.mem_of_getElem? (i := 114) rfl) rfl
theorem cd_X6_copied : Cond.code yX6_copied cX6_copied 5 (some .int) ∈ mz_ws := mz_in5 (List.mem_of_getElem? (i := 115) rfl) rfl
theorem lk_RL_169 : Cond.methodLink RL 169 yX6_view ∈ mz_ws := mz_in5 (List.mem_of_getElem? (i := 116) rfl) rfl
theorem im_X6_view : Cond.instanceMethod yX6_view ∈ mz_ws := mz_in5 (List.mem_of_getElem? (i := 117) rfl) rfl
theorem se_X6_view : Cond.selects RX6 yX6_view yX6_view ∈ mz_ws := mz_in5 (List.mem_of_getElem? (i := 118) rfl) rfl
theorem cd_X6_view : Cond.code yX6_view cX6_view 5 (some .int) ∈ mz_ws := mz_in5 (List.mem_of_getElem? (i := 119) rfl) rfl
theorem lk_RL_172 : Cond.methodLink RL 172 yX6_different ∈ mz_ws := mz_in5 (List.mem_of_getElem? (i := 120) rfl) rfl
theorem im_X6_different : Cond.instanceMethod yX6_different ∈ mz_ws := mz_in5 (List.mem_of_getElem? (i := 121) rfl) rfl
theorem se_X6_different : Cond.selects RX6 yX6_different yX6_different ∈ mz_ws := mz_in5 (List.mem_of_getElem? (i := 122) rfl) rfl
theorem cd_X6_different : Cond.code yX6_different cX6_different 8 (some .int) ∈ mz_ws := mz_in5 (List.mem_of_getElem? (i := 123) rfl) rfl
theorem lk_RL_175 : Cond.methodLink RL 175 yX6_areAlike ∈ mz_ws := mz_in5 (List.mem_of_getElem? (i := 124) rfl) rfl
theorem im_X6_areAlike : Cond.instanceMethod yX6_areAlike ∈ mz_ws := mz_in5 (List.mem_of_getElem? (i := 125) rfl) rfl
theorem se_X6_areAlike : Cond.selects RX6 yX6_areAlike yX6_areAlike ∈ mz_ws := mz_in5 (List.mem_of_getElem? (i := 126) rfl) rfl
theorem cd_X6_areAlike : Cond.code yX6_areAlike cX6_areAlike 6 (some .boolean) ∈ mz_ws := mz_in5 (List.mem_of_getElem? (i := 127) rfl) rfl
theorem lk_RX6_152 : Cond.methodLink RX6 152 yX6_isSameView ∈ mz_ws := mz_in5 (List.mem_of_getElem? (i := 128) rfl) rfl
theorem im_X6_isSameView : Cond.instanceMethod yX6_isSameView ∈ mz_ws := mz_in5 (List.mem_of_getElem? (i := 130) rfl) rfl
theorem cd_X6_isSameView : Cond.code yX6_isSameView cX6_isSameView 6 (some .boolean) ∈ mz_ws := mz_in5 (List.mem_of_getElem? (i := 131) rfl) rfl
theorem lk_RL_178 : Cond.methodLink RL 178 yX6_plan ∈ mz_ws := mz_in5 (List.mem_of_getElem? (i := 132) rfl) rfl
theorem im_X6_plan : Cond.instanceMethod yX6_plan ∈ mz_ws := mz_in5 (List.mem_of_getElem? (i := 133) rfl) rfl
theorem se_X6_plan : Cond.selects RX6 yX6_plan yX6_plan ∈ mz_ws := mz_in5 (List.mem_of_getElem? (i := 134) rfl) rfl
theorem cd_X6_plan : Cond.code yX6_plan cX6_plan 12 (some .int) ∈ mz_ws := mz_in5 (List.mem_of_getElem? (i := 135) rfl) rfl
theorem lk_RX6_158 : Cond.methodLink RX6 158 yX6_canPlan ∈ mz_ws := mz_in5 (List.mem_of_getElem? (i := 136) rfl) rfl
theorem im_X6_canPlan : Cond.instanceMethod yX6_canPlan ∈ mz_ws := mz_in5 (List.mem_of_getElem? (i := 138) rfl) rfl
theorem cd_X6_canPlan : Cond.code yX6_canPlan cX6_canPlan 4 (some .boolean) ∈ mz_ws := mz_in5 (List.mem_of_getElem? (i := 139) rfl) rfl
theorem lk_RX6_155 : Cond.methodLink RX6 155 yX6_isCopied ∈ mz_ws := mz_in5 (List.mem_of_getElem? (i := 140) rfl) rfl
theorem im_X6_isCopied : Cond.instanceMethod yX6_isCopied ∈ mz_ws := mz_in5 (List.mem_of_getElem? (i := 142) rfl) rfl
theorem cd_X6_isCopied : Cond.code yX6_isCopied cX6_isCopied 4 (some .boolean) ∈ mz_ws := mz_in5 (List.mem_of_getElem? (i := 143) rfl) rfl
theorem lk_RX6_161 : Cond.methodLink RX6 161 yX6_begins ∈ mz_ws := mz_in5 (List.mem_of_getElem? (i := 144) rfl) rfl
theorem im_X6_begins : Cond.instanceMethod yX6_begins ∈ mz_ws := mz_in5 (List.mem_of_getElem? (i := 146) rfl) rfl
theorem cd_X6_begins : Cond.code yX6_begins cX6_begins 9 (some .int) ∈ mz_ws := mz_in5 (List.mem_of_getElem? (i := 147) rfl) rfl
theorem lk_RL_181 : Cond.methodLink RL 181 yX6_planNew ∈ mz_ws := mz_in5 (List.mem_of_getElem? (i := 148) rfl) rfl
theorem im_X6_planNew : Cond.instanceMethod yX6_planNew ∈ mz_ws := mz_in5 (List.mem_of_getElem? (i := 149) rfl) rfl
theorem se_X6_planNew : Cond.selects RX6 yX6_planNew yX6_planNew ∈ mz_ws := mz_in5 (List.mem_of_getElem? (i := 150) rfl) rfl
theorem cd_X6_planNew : Cond.code yX6_planNew cX6_planNew 7 (some .int) ∈ mz_ws := mz_in5 (List.mem_of_getElem? (i := 151) rfl) rfl
theorem lk_RL_184 : Cond.methodLink RL 184 yX6_planRemoval ∈ mz_ws := mz_in5 (List.mem_of_getElem? (i := 152) rfl) rfl
theorem im_X6_planRemoval : Cond.instanceMethod yX6_planRemoval ∈ mz_ws := mz_in5 (List.mem_of_getElem? (i := 153) rfl) rfl
theorem se_X6_planRemoval : Cond.selects RX6 yX6_planRemoval yX6_planRemoval ∈ mz_ws := mz_in5 (List.mem_of_getElem? (i := 154) rfl) rfl
theorem cd_X6_planRemoval : Cond.code yX6_planRemoval cX6_planRemoval 6 (some .int) ∈ mz_ws := mz_in5 (List.mem_of_getElem? (i := 155) rfl) rfl
theorem lk_RL_187 : Cond.methodLink RL 187 yX6_takeBack ∈ mz_ws := mz_in5 (List.mem_of_getElem? (i := 156) rfl) rfl
theorem im_X6_takeBack : Cond.instanceMethod yX6_takeBack ∈ mz_ws := mz_in5 (List.mem_of_getElem? (i := 157) rfl) rfl
theorem se_X6_takeBack : Cond.selects RX6 yX6_takeBack yX6_takeBack ∈ mz_ws := mz_in5 (List.mem_of_getElem? (i := 158) rfl) rfl
theorem cd_X6_takeBack : Cond.code yX6_takeBack cX6_takeBack 5 (some .int) ∈ mz_ws := mz_in5 (List.mem_of_getElem? (i := 159) rfl) rfl
theorem lk_RL_190 : Cond.methodLink RL 190 yX6_deed ∈ mz_ws := mz_in5 (List.mem_of_getElem? (i := 160) rfl) rfl
theorem im_X6_deed : Cond.instanceMethod yX6_deed ∈ mz_ws := mz_in5 (List.mem_of_getElem? (i := 161) rfl) rfl
theorem se_X6_deed : Cond.selects RX6 yX6_deed yX6_deed ∈ mz_ws := mz_in5 (List.mem_of_getElem? (i := 162) rfl) rfl
theorem cd_X6_deed : Cond.code yX6_deed cX6_deed 4 (some .int) ∈ mz_ws := mz_in5 (List.mem_of_getElem? (i := 163) rfl) rfl
theorem lk_RX6_165 : Cond.methodLink RX6 165 yX6_deedTold ∈ mz_ws := mz_in5 (List.mem_of_getElem? (i := 164) rfl) rfl
theorem im_X6_deedTold : Cond.instanceMethod yX6_deedTold ∈ mz_ws := mz_in5 (List.mem_of_getElem? (i := 166) rfl) rfl
theorem cd_X6_deedTold : Cond.code yX6_deedTold cX6_deedTold 4 (some .int) ∈ mz_ws := mz_in5 (List.mem_of_getElem? (i := 167) rfl) rfl
theorem lk_RL_193 : Cond.methodLink RL 193 yX6_playBack ∈ mz_ws := mz_in5 (List.mem_of_getElem? (i := 168) rfl) rfl
theorem im_X6_playBack : Cond.instanceMethod yX6_playBack ∈ mz_ws := mz_in5 (List.mem_of_getElem? (i := 169) rfl) rfl
theorem se_X6_playBack : Cond.selects RX6 yX6_playBack yX6_playBack ∈ mz_ws := mz_in5 (List.mem_of_getElem? (i := 170) rfl) rfl
theorem cd_X6_playBack : Cond.code yX6_playBack cX6_playBack 2 (some .int) ∈ mz_ws := mz_in5 (List.mem_of_getElem? (i := 171) rfl) rfl
theorem lk_RX6_174 : Cond.methodLink RX6 174 yX6_playsBack ∈ mz_ws := mz_in5 (List.mem_of_getElem? (i := 172) rfl) rfl
theorem im_X6_playsBack : Cond.instanceMethod yX6_playsBack ∈ mz_ws := mz_in5 (List.mem_of_getElem? (i := 174) rfl) rfl
theorem cd_X6_playsBack : Cond.code yX6_playsBack cX6_playsBack 4 (some .int) ∈ mz_ws := mz_in5 (List.mem_of_getElem? (i := 175) rfl) rfl
theorem lk_RX6_171 : Cond.methodLink RX6 171 yX6_goes ∈ mz_ws := mz_in5 (List.mem_of_getElem? (i := 176) rfl) rfl
theorem im_X6_goes : Cond.instanceMethod yX6_goes ∈ mz_ws := mz_in5 (List.mem_of_getElem? (i := 178) rfl) rfl
theorem cd_X6_goes : Cond.code yX6_goes cX6_goes 8 (some .int) ∈ mz_ws := mz_in5 (List.mem_of_getElem? (i := 179) rfl) rfl
theorem lk_RX6_168 : Cond.methodLink RX6 168 yX6_does ∈ mz_ws := mz_in5 (List.mem_of_getElem? (i := 180) rfl) rfl
theorem im_X6_does : Cond.instanceMethod yX6_does ∈ mz_ws := mz_in5 (List.mem_of_getElem? (i := 182) rfl) rfl
theorem cd_X6_does : Cond.code yX6_does cX6_does 9 (some .int) ∈ mz_ws := mz_in5 (List.mem_of_getElem? (i := 183) rfl) rfl
theorem lk_RL_197 : Cond.methodLink RL 197 yX6_outcome ∈ mz_ws := mz_in5 (List.mem_of_getElem? (i := 184) rfl) rfl
theorem im_X6_outcome : Cond.instanceMethod yX6_outcome ∈ mz_ws := mz_in5 (List.mem_of_getElem? (i := 185) rfl) rfl
theorem se_X6_outcome : Cond.selects RX6 yX6_outcome yX6_outcome ∈ mz_ws := mz_in5 (List.mem_of_getElem? (i := 186) rfl) rfl
theorem cd_X6_outcome : Cond.code yX6_outcome cX6_outcome 2 (some .int) ∈ mz_ws := mz_in5 (List.mem_of_getElem? (i := 187) rfl) rfl
theorem lk_RX6_177 : Cond.methodLink RX6 177 yX6_notedAt ∈ mz_ws := mz_in5 (List.mem_of_getElem? (i := 188) rfl) rfl
theorem im_X6_notedAt : Cond.instanceMethod yX6_notedAt ∈ mz_ws := mz_in5 (List.mem_of_getElem? (i := 190) rfl) rfl
theorem cd_X6_notedAt : Cond.code yX6_notedAt cX6_notedAt 3 (some .int) ∈ mz_ws := mz_in5 (List.mem_of_getElem? (i := 191) rfl) rfl
theorem lk_RL_201 : Cond.methodLink RL 201 yX6_nameOf ∈ mz_ws := mz_in5 (List.mem_of_getElem? (i := 192) rfl) rfl
theorem im_X6_nameOf : Cond.instanceMethod yX6_nameOf ∈ mz_ws := mz_in5 (List.mem_of_getElem? (i := 193) rfl) rfl
theorem se_X6_nameOf : Cond.selects RX6 yX6_nameOf yX6_nameOf ∈ mz_ws := mz_in5 (List.mem_of_getElem? (i := 194) rfl) rfl
theorem cd_X6_nameOf : Cond.code yX6_nameOf cX6_nameOf 2 (some .int) ∈ mz_ws := mz_in5 (List.mem_of_getElem? (i := 195) rfl) rfl
theorem lk_RL_205 : Cond.methodLink RL 205 yX6_noted ∈ mz_ws := mz_in5 (List.mem_of_getElem? (i := 196) rfl) rfl
theorem im_X6_noted : Cond.instanceMethod yX6_noted ∈ mz_ws := mz_in5 (List.mem_of_getElem? (i := 197) rfl) rfl
theorem se_X6_noted : Cond.selects RX6 yX6_noted yX6_noted ∈ mz_ws := mz_in5 (List.mem_of_getElem? (i := 198) rfl) rfl
theorem cd_X6_noted : Cond.code yX6_noted cX6_noted 2 (some .int) ∈ mz_ws := mz_in5 (List.mem_of_getElem? (i := 199) rfl) rfl
theorem lk_RL_209 : Cond.methodLink RL 209 yX6_settle ∈ mz_ws := mz_in5 (List.mem_of_getElem? (i := 200) rfl) rfl
theorem im_X6_settle : Cond.instanceMethod yX6_settle ∈ mz_ws := mz_in5 (List.mem_of_getElem? (i := 201) rfl) rfl
theorem se_X6_settle : Cond.selects RX6 yX6_settle yX6_settle ∈ mz_ws := mz_in5 (List.mem_of_getElem? (i := 202) rfl) rfl
theorem cd_X6_settle : Cond.code yX6_settle cX6_settle 4 (some .int) ∈ mz_ws := mz_in5 (List.mem_of_getElem? (i := 203) rfl) rfl
theorem lk_RL_212 : Cond.methodLink RL 212 yX6_told_ ∈ mz_ws := mz_in5 (List.mem_of_getElem? (i := 204) rfl) rfl
theorem im_X6_told_ : Cond.instanceMethod yX6_told_ ∈ mz_ws := mz_in5 (List.mem_of_getElem? (i := 205) rfl) rfl
theorem se_X6_told_ : Cond.selects RX6 yX6_told_ yX6_told_ ∈ mz_ws := mz_in5 (List.mem_of_getElem? (i := 206) rfl) rfl
theorem cd_X6_told_ : Cond.code yX6_told_ cX6_told_ 2 (some .int) ∈ mz_ws := mz_in5 (List.mem_of_getElem? (i := 207) rfl) rfl
theorem lk_RL_221 : Cond.methodLink RL 221 yX6_checksum ∈ mz_ws := mz_in5 (List.mem_of_getElem? (i := 208) rfl) rfl
theorem im_X6_checksum : Cond.instanceMethod yX6_checksum ∈ mz_ws := mz_in5 (List.mem_of_getElem? (i := 209) rfl) rfl
theorem se_X6_checksum : Cond.selects RX6 yX6_checksum yX6_checksum ∈ mz_ws := mz_in5 (List.mem_of_getElem? (i := 210) rfl) rfl
theorem cd_X6_checksum : Cond.code yX6_checksum cX6_checksum 3 (some .long) ∈ mz_ws := mz_in5 (List.mem_of_getElem? (i := 211) rfl) rfl
theorem kl_RX6_194 : Cond.constantLong RX6 194 (lN 12861) ∈ mz_ws := mz_in5 (List.mem_of_getElem? (i := 212) rfl) rfl
theorem lk_RX6_186 : Cond.methodLink RX6 186 yX6_mix ∈ mz_ws := mz_in5 (List.mem_of_getElem? (i := 213) rfl) rfl
theorem im_X6_mix : Cond.instanceMethod yX6_mix ∈ mz_ws := mz_in5 (List.mem_of_getElem? (i := 215) rfl) rfl
theorem cd_X6_mix : Cond.code yX6_mix cX6_mix 3 none ∈ mz_ws := mz_in5 (List.mem_of_getElem? (i := 216) rfl) rfl
theorem kl_RX6_180 : Cond.constantLong RX6 180 (lN 31) ∈ mz_ws := mz_in5 (List.mem_of_getElem? (i := 217) rfl) rfl
theorem lk_RX6_190 : Cond.methodLink RX6 190 yX6_mixList ∈ mz_ws := mz_in5 (List.mem_of_getElem? (i := 218) rfl) rfl
theorem im_X6_mixList : Cond.instanceMethod yX6_mixList ∈ mz_ws := mz_in5 (List.mem_of_getElem? (i := 220) rfl) rfl
theorem cd_X6_mixList : Cond.code yX6_mixList cX6_mixList 3 none ∈ mz_ws := mz_in5 (List.mem_of_getElem? (i := 221) rfl) rfl
theorem lk_RX6_196 : Cond.methodLink RX6 196 yX6_mixMachine ∈ mz_ws := mz_in5 (List.mem_of_getElem? (i := 222) rfl) rfl
theorem im_X6_mixMachine : Cond.instanceMethod yX6_mixMachine ∈ mz_ws := mz_in5 (List.mem_of_getElem? (i := 224) rfl) rfl
theorem cd_X6_mixMachine : Cond.code yX6_mixMachine cX6_mixMachine 4 none ∈ mz_ws := mz_in5 (List.mem_of_getElem? (i := 225) rfl) rfl
theorem ac_long : Cond.arrayClass .long ∈ mz_ws := mz_in5 (List.mem_of_getElem? (i := 226) rfl) rfl
theorem se_X5_keepRecord : Cond.selects RX5 yX5_keepRecord yX5_keepRecord ∈ mz_ws := mz_ip (y := yX5_keepRecord) (n := 5) ((fun h => List.mem_append_left _ h) (List.mem_of_getElem? (l := lw_privs_1) (i := 0) rfl))
theorem se_X3_playDeed : Cond.selects RX3 yX3_playDeed yX3_playDeed ∈ mz_ws := mz_ip (y := yX3_playDeed) (n := 5) ((fun h => List.mem_append_left _ h) (List.mem_of_getElem? (l := lw_privs_1) (i := 1) rfl))
theorem se_X3_note : Cond.selects RX3 yX3_note yX3_note ∈ mz_ws := mz_ip (y := yX3_note) (n := 5) ((fun h => List.mem_append_left _ h) (List.mem_of_getElem? (l := lw_privs_1) (i := 2) rfl))
theorem se_X1_isDue : Cond.selects RX1 yX1_isDue yX1_isDue ∈ mz_ws := mz_ip (y := yX1_isDue) (n := 3) ((fun h => List.mem_append_left _ h) (List.mem_of_getElem? (l := lw_privs_1) (i := 3) rfl))
theorem se_X1_lostSince : Cond.selects RX1 yX1_lostSince yX1_lostSince ∈ mz_ws := mz_ip (y := yX1_lostSince) (n := 3) ((fun h => List.mem_append_left _ h) (List.mem_of_getElem? (l := lw_privs_1) (i := 4) rfl))
theorem se_X1_dropLost : Cond.selects RX1 yX1_dropLost yX1_dropLost ∈ mz_ws := mz_ip (y := yX1_dropLost) (n := 3) ((fun h => List.mem_append_left _ h) (List.mem_of_getElem? (l := lw_privs_1) (i := 5) rfl))
theorem se_X1_dropAllThatBoxLacks : Cond.selects RX1 yX1_dropAllThatBoxLacks yX1_dropAllThatBoxLacks ∈ mz_ws := mz_ip (y := yX1_dropAllThatBoxLacks) (n := 3) ((fun h => List.mem_append_left _ h) (List.mem_of_getElem? (l := lw_privs_1) (i := 6) rfl))
theorem se_X1_takeMessage : Cond.selects RX1 yX1_takeMessage yX1_takeMessage ∈ mz_ws := mz_ip (y := yX1_takeMessage) (n := 3) ((fun h => List.mem_append_left _ h) (List.mem_of_getElem? (l := lw_privs_1) (i := 7) rfl))
theorem se_X3_dropDeedsOfOldEra : Cond.selects RX3 yX3_dropDeedsOfOldEra yX3_dropDeedsOfOldEra ∈ mz_ws := mz_ip (y := yX3_dropDeedsOfOldEra) (n := 5) ((fun h => List.mem_append_left _ h) (List.mem_of_getElem? (l := lw_privs_1) (i := 8) rfl))
theorem se_X3_dropDeed : Cond.selects RX3 yX3_dropDeed yX3_dropDeed ∈ mz_ws := mz_ip (y := yX3_dropDeed) (n := 5) ((fun h => List.mem_append_left _ h) (List.mem_of_getElem? (l := lw_privs_1) (i := 9) rfl))
theorem se_X3_dropDeedsForLost : Cond.selects RX3 yX3_dropDeedsForLost yX3_dropDeedsForLost ∈ mz_ws := mz_ip (y := yX3_dropDeedsForLost) (n := 5) ((fun h => List.mem_append_left _ h) (List.mem_of_getElem? (l := lw_privs_1) (i := 10) rfl))
theorem se_X5_mixMachine : Cond.selects RX5 yX5_mixMachine yX5_mixMachine ∈ mz_ws := mz_ip (y := yX5_mixMachine) (n := 5) ((fun h => List.mem_append_left _ h) (List.mem_of_getElem? (l := lw_privs_1) (i := 11) rfl))
theorem se_X2_flagsInView : Cond.selects RX2 yX2_flagsInView yX2_flagsInView ∈ mz_ws := mz_ip (y := yX2_flagsInView) (n := 3) ((fun h => List.mem_append_left _ h) (List.mem_of_getElem? (l := lw_privs_1) (i := 13) rfl))
theorem se_X5_needRoomIn : Cond.selects RX5 yX5_needRoomIn yX5_needRoomIn ∈ mz_ws := mz_ip (y := yX5_needRoomIn) (n := 5) ((fun h => List.mem_append_left _ h) (List.mem_of_getElem? (l := lw_privs_1) (i := 14) rfl))
theorem se_X5_needMessage : Cond.selects RX5 yX5_needMessage yX5_needMessage ∈ mz_ws := mz_ip (y := yX5_needMessage) (n := 5) ((fun h => List.mem_append_left _ h) (List.mem_of_getElem? (l := lw_privs_1) (i := 15) rfl))
theorem se_X5_needMessageToPlanFor : Cond.selects RX5 yX5_needMessageToPlanFor yX5_needMessageToPlanFor ∈ mz_ws := mz_ip (y := yX5_needMessageToPlanFor) (n := 5) ((fun h => List.mem_append_right _ (List.mem_append_left _ h)) (List.mem_of_getElem? (l := lw_privs_2) (i := 0) rfl))
theorem se_X5_needRoomForDeed : Cond.selects RX5 yX5_needRoomForDeed yX5_needRoomForDeed ∈ mz_ws := mz_ip (y := yX5_needRoomForDeed) (n := 5) ((fun h => List.mem_append_right _ (List.mem_append_left _ h)) (List.mem_of_getElem? (l := lw_privs_2) (i := 1) rfl))
theorem se_X6_refused : Cond.selects RX6 yX6_refused yX6_refused ∈ mz_ws := mz_ip (y := yX6_refused) (n := 8) ((fun h => List.mem_append_right _ (List.mem_append_left _ h)) (List.mem_of_getElem? (l := lw_privs_2) (i := 2) rfl))
theorem se_X6_hasRoom : Cond.selects RX6 yX6_hasRoom yX6_hasRoom ∈ mz_ws := mz_ip (y := yX6_hasRoom) (n := 8) ((fun h => List.mem_append_right _ (List.mem_append_left _ h)) (List.mem_of_getElem? (l := lw_privs_2) (i := 3) rfl))
theorem se_X6_saves : Cond.selects RX6 yX6_saves yX6_saves ∈ mz_ws := mz_ip (y := yX6_saves) (n := 8) ((fun h => List.mem_append_right _ (List.mem_append_left _ h)) (List.mem_of_getElem? (l := lw_privs_2) (i := 4) rfl))
theorem se_X6_adds : Cond.selects RX6 yX6_adds yX6_adds ∈ mz_ws := mz_ip (y := yX6_adds) (n := 8) ((fun h => List.mem_append_right _ (List.mem_append_left _ h)) (List.mem_of_getElem? (l := lw_privs_2) (i := 5) rfl))
theorem se_X6_marks : Cond.selects RX6 yX6_marks yX6_marks ∈ mz_ws := mz_ip (y := yX6_marks) (n := 8) ((fun h => List.mem_append_right _ (List.mem_append_left _ h)) (List.mem_of_getElem? (l := lw_privs_2) (i := 6) rfl))
theorem se_X6_of : Cond.selects RX6 yX6_of yX6_of ∈ mz_ws := mz_ip (y := yX6_of) (n := 8) ((fun h => List.mem_append_right _ (List.mem_append_left _ h)) (List.mem_of_getElem? (l := lw_privs_2) (i := 7) rfl))
theorem se_X6_puts : Cond.selects RX6 yX6_puts yX6_puts ∈ mz_ws := mz_ip (y := yX6_puts) (n := 8) ((fun h => List.mem_append_right _ (List.mem_append_left _ h)) (List.mem_of_getElem? (l := lw_privs_2) (i := 8) rfl))
theorem se_X6_find : Cond.selects RX6 yX6_find yX6_find ∈ mz_ws := mz_ip (y := yX6_find) (n := 8) ((fun h => List.mem_append_right _ (List.mem_append_left _ h)) (List.mem_of_getElem? (l := lw_privs_2) (i := 9) rfl))
theorem se_X6_nameAt : Cond.selects RX6 yX6_nameAt yX6_nameAt ∈ mz_ws := mz_ip (y := yX6_nameAt) (n := 8) ((fun h => List.mem_append_right _ (List.mem_append_left _ h)) (List.mem_of_getElem? (l := lw_privs_2) (i := 10) rfl))
theorem se_X6_has : Cond.selects RX6 yX6_has yX6_has ∈ mz_ws := mz_ip (y := yX6_has) (n := 8) ((fun h => List.mem_append_right _ (List.mem_append_left _ h)) (List.mem_of_getElem? (l := lw_privs_2) (i := 11) rfl))
theorem se_X6_told : Cond.selects RX6 yX6_told yX6_told ∈ mz_ws := mz_ip (y := yX6_told) (n := 8) ((fun h => List.mem_append_right _ (List.mem_append_left _ h)) (List.mem_of_getElem? (l := lw_privs_2) (i := 12) rfl))
theorem se_X6_changes : Cond.selects RX6 yX6_changes yX6_changes ∈ mz_ws := mz_ip (y := yX6_changes) (n := 8) ((fun h => List.mem_append_right _ (List.mem_append_left _ h)) (List.mem_of_getElem? (l := lw_privs_2) (i := 13) rfl))
theorem se_X6_removes : Cond.selects RX6 yX6_removes yX6_removes ∈ mz_ws := mz_ip (y := yX6_removes) (n := 8) ((fun h => List.mem_append_right _ (List.mem_append_left _ h)) (List.mem_of_getElem? (l := lw_privs_2) (i := 14) rfl))
theorem se_X6_drops : Cond.selects RX6 yX6_drops yX6_drops ∈ mz_ws := mz_ip (y := yX6_drops) (n := 8) ((fun h => List.mem_append_right _ (List.mem_append_left _ h)) (List.mem_of_getElem? (l := lw_privs_2) (i := 15) rfl))
theorem se_X6_boxTold : Cond.selects RX6 yX6_boxTold yX6_boxTold ∈ mz_ws := mz_ip (y := yX6_boxTold) (n := 8) ((fun h => List.mem_append_right _ (List.mem_append_right _ (List.mem_append_left _ h))) (List.mem_of_getElem? (l := lw_privs_3) (i := 0) rfl))
theorem se_X6_syncs : Cond.selects RX6 yX6_syncs yX6_syncs ∈ mz_ws := mz_ip (y := yX6_syncs) (n := 8) ((fun h => List.mem_append_right _ (List.mem_append_right _ (List.mem_append_left _ h))) (List.mem_of_getElem? (l := lw_privs_3) (i := 1) rfl))
theorem se_X6_caseOf : Cond.selects RX6 yX6_caseOf yX6_caseOf ∈ mz_ws := mz_ip (y := yX6_caseOf) (n := 8) ((fun h => List.mem_append_right _ (List.mem_append_right _ (List.mem_append_left _ h))) (List.mem_of_getElem? (l := lw_privs_3) (i := 2) rfl))
theorem se_X6_messagesSent : Cond.selects RX6 yX6_messagesSent yX6_messagesSent ∈ mz_ws := mz_ip (y := yX6_messagesSent) (n := 8) ((fun h => List.mem_append_right _ (List.mem_append_right _ (List.mem_append_left _ h))) (List.mem_of_getElem? (l := lw_privs_3) (i := 3) rfl))
theorem se_X6_namesSent : Cond.selects RX6 yX6_namesSent yX6_namesSent ∈ mz_ws := mz_ip (y := yX6_namesSent) (n := 8) ((fun h => List.mem_append_right _ (List.mem_append_right _ (List.mem_append_left _ h))) (List.mem_of_getElem? (l := lw_privs_3) (i := 4) rfl))
theorem se_X6_dropsDeeds : Cond.selects RX6 yX6_dropsDeeds yX6_dropsDeeds ∈ mz_ws := mz_ip (y := yX6_dropsDeeds) (n := 8) ((fun h => List.mem_append_right _ (List.mem_append_right _ (List.mem_append_left _ h))) (List.mem_of_getElem? (l := lw_privs_3) (i := 5) rfl))
theorem se_X6_deedMany : Cond.selects RX6 yX6_deedMany yX6_deedMany ∈ mz_ws := mz_ip (y := yX6_deedMany) (n := 8) ((fun h => List.mem_append_right _ (List.mem_append_right _ (List.mem_append_left _ h))) (List.mem_of_getElem? (l := lw_privs_3) (i := 6) rfl))
theorem se_X6_notes : Cond.selects RX6 yX6_notes yX6_notes ∈ mz_ws := mz_ip (y := yX6_notes) (n := 8) ((fun h => List.mem_append_right _ (List.mem_append_right _ (List.mem_append_left _ h))) (List.mem_of_getElem? (l := lw_privs_3) (i := 7) rfl))
theorem se_X6_dropsDeed : Cond.selects RX6 yX6_dropsDeed yX6_dropsDeed ∈ mz_ws := mz_ip (y := yX6_dropsDeed) (n := 8) ((fun h => List.mem_append_right _ (List.mem_append_right _ (List.mem_append_left _ h))) (List.mem_of_getElem? (l := lw_privs_3) (i := 8) rfl))
theorem se_X6_hasVanished : Cond.selects RX6 yX6_hasVanished yX6_hasVanished ∈ mz_ws := mz_ip (y := yX6_hasVanished) (n := 8) ((fun h => List.mem_append_right _ (List.mem_append_right _ (List.mem_append_left _ h))) (List.mem_of_getElem? (l := lw_privs_3) (i := 9) rfl))
theorem se_X6_copyTold : Cond.selects RX6 yX6_copyTold yX6_copyTold ∈ mz_ws := mz_ip (y := yX6_copyTold) (n := 8) ((fun h => List.mem_append_right _ (List.mem_append_right _ (List.mem_append_left _ h))) (List.mem_of_getElem? (l := lw_privs_3) (i := 10) rfl))
theorem se_X6_laysView : Cond.selects RX6 yX6_laysView yX6_laysView ∈ mz_ws := mz_ip (y := yX6_laysView) (n := 8) ((fun h => List.mem_append_right _ (List.mem_append_right _ (List.mem_append_left _ h))) (List.mem_of_getElem? (l := lw_privs_3) (i := 11) rfl))
theorem se_X6_deedFor : Cond.selects RX6 yX6_deedFor yX6_deedFor ∈ mz_ws := mz_ip (y := yX6_deedFor) (n := 8) ((fun h => List.mem_append_right _ (List.mem_append_right _ (List.mem_append_left _ h))) (List.mem_of_getElem? (l := lw_privs_3) (i := 12) rfl))
theorem se_X6_shows : Cond.selects RX6 yX6_shows yX6_shows ∈ mz_ws := mz_ip (y := yX6_shows) (n := 8) ((fun h => List.mem_append_right _ (List.mem_append_right _ (List.mem_append_left _ h))) (List.mem_of_getElem? (l := lw_privs_3) (i := 13) rfl))
theorem se_X6_isSameView : Cond.selects RX6 yX6_isSameView yX6_isSameView ∈ mz_ws := mz_ip (y := yX6_isSameView) (n := 8) ((fun h => List.mem_append_right _ (List.mem_append_right _ (List.mem_append_left _ h))) (List.mem_of_getElem? (l := lw_privs_3) (i := 14) rfl))
theorem se_X6_canPlan : Cond.selects RX6 yX6_canPlan yX6_canPlan ∈ mz_ws := mz_ip (y := yX6_canPlan) (n := 8) ((fun h => List.mem_append_right _ (List.mem_append_right _ (List.mem_append_left _ h))) (List.mem_of_getElem? (l := lw_privs_3) (i := 15) rfl))
theorem se_X6_isCopied : Cond.selects RX6 yX6_isCopied yX6_isCopied ∈ mz_ws := mz_ip (y := yX6_isCopied) (n := 8) ((fun h => List.mem_append_right _ (List.mem_append_right _ (List.mem_append_right _ h))) (List.mem_of_getElem? (l := lw_privs_4) (i := 0) rfl))
theorem se_X6_begins : Cond.selects RX6 yX6_begins yX6_begins ∈ mz_ws := mz_ip (y := yX6_begins) (n := 8) ((fun h => List.mem_append_right _ (List.mem_append_right _ (List.mem_append_right _ h))) (List.mem_of_getElem? (l := lw_privs_4) (i := 1) rfl))
theorem se_X6_deedTold : Cond.selects RX6 yX6_deedTold yX6_deedTold ∈ mz_ws := mz_ip (y := yX6_deedTold) (n := 8) ((fun h => List.mem_append_right _ (List.mem_append_right _ (List.mem_append_right _ h))) (List.mem_of_getElem? (l := lw_privs_4) (i := 2) rfl))
theorem se_X6_playsBack : Cond.selects RX6 yX6_playsBack yX6_playsBack ∈ mz_ws := mz_ip (y := yX6_playsBack) (n := 8) ((fun h => List.mem_append_right _ (List.mem_append_right _ (List.mem_append_right _ h))) (List.mem_of_getElem? (l := lw_privs_4) (i := 3) rfl))
theorem se_X6_goes : Cond.selects RX6 yX6_goes yX6_goes ∈ mz_ws := mz_ip (y := yX6_goes) (n := 8) ((fun h => List.mem_append_right _ (List.mem_append_right _ (List.mem_append_right _ h))) (List.mem_of_getElem? (l := lw_privs_4) (i := 4) rfl))
theorem se_X6_does : Cond.selects RX6 yX6_does yX6_does ∈ mz_ws := mz_ip (y := yX6_does) (n := 8) ((fun h => List.mem_append_right _ (List.mem_append_right _ (List.mem_append_right _ h))) (List.mem_of_getElem? (l := lw_privs_4) (i := 5) rfl))
theorem se_X6_notedAt : Cond.selects RX6 yX6_notedAt yX6_notedAt ∈ mz_ws := mz_ip (y := yX6_notedAt) (n := 8) ((fun h => List.mem_append_right _ (List.mem_append_right _ (List.mem_append_right _ h))) (List.mem_of_getElem? (l := lw_privs_4) (i := 6) rfl))
theorem se_X6_mix : Cond.selects RX6 yX6_mix yX6_mix ∈ mz_ws := mz_ip (y := yX6_mix) (n := 8) ((fun h => List.mem_append_right _ (List.mem_append_right _ (List.mem_append_right _ h))) (List.mem_of_getElem? (l := lw_privs_4) (i := 7) rfl))
theorem se_X6_mixList : Cond.selects RX6 yX6_mixList yX6_mixList ∈ mz_ws := mz_ip (y := yX6_mixList) (n := 8) ((fun h => List.mem_append_right _ (List.mem_append_right _ (List.mem_append_right _ h))) (List.mem_of_getElem? (l := lw_privs_4) (i := 8) rfl))
theorem se_X6_mixMachine : Cond.selects RX6 yX6_mixMachine yX6_mixMachine ∈ mz_ws := mz_ip (y := yX6_mixMachine) (n := 8) ((fun h => List.mem_append_right _ (List.mem_append_right _ (List.mem_append_right _ h))) (List.mem_of_getElem? (l := lw_privs_4) (i := 9) rfl))
