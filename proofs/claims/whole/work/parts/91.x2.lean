/-! ===== the words of the three exceptions ===== -/
theorem tw_io : mz_tw 241 245 "java/lang/IndexOutOfBoundsException" := ⟨by decide +kernel, ck_RX5_241, in_java_lang_IndexOutOfBoundsException, List.mem_of_getElem? (i := 0) rfl, by decide +kernel, by decide +kernel⟩
theorem tw_ia : mz_tw 68 72 "java/lang/IllegalArgumentException" := ⟨by decide +kernel, ck_RX5_68, in_java_lang_IllegalArgumentException, List.mem_of_getElem? (i := 1) rfl, by decide +kernel, by decide +kernel⟩
theorem tw_is : mz_tw 81 85 "java/lang/IllegalStateException" := ⟨by decide +kernel, ck_RX5_81, in_java_lang_IllegalStateException, List.mem_of_getElem? (i := 2) rfl, by decide +kernel, by decide +kernel⟩

