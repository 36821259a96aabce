/-! Word.find at the machine: words of the tables, instructions -/
theorem fw_ini_RX9 : Cond.initialized RX9 ∈ p_G := inC_1 18 rfl rfl
theorem fw_ini_RJ0 : Cond.initialized RJ0 ∈ p_G := inC_1 19 rfl rfl
theorem fw_ini_RJ1 : Cond.initialized RJ1 ∈ p_G := inC_1 20 rfl rfl
theorem fw_ini_RJ3 : Cond.initialized RJ3 ∈ p_G := inC_1 21 rfl rfl
theorem fw_find_c : Cond.code yX9_find cX9_find 4 (some (.object "DriverHost$Word")) ∈ p_G := inC_3 172 rfl rfl
theorem fw_stands_c : Cond.code yX9_stands cX9_stands 5 (some .boolean) ∈ p_G := inC_3 179 rfl rfl
theorem fw_len_c : Cond.code yJ0_length_8abf5 cJ0_length_8abf5 1 (some .int) ∈ p_G := inC_3 183 rfl rfl
theorem fw_cod_c : Cond.code yJ0_coder_7d493 cJ0_coder_7d493 1 (some .byte) ∈ p_G := inC_3 187 rfl rfl
theorem fw_cha_c : Cond.code yJ0_charAt_5068e cJ0_charAt_5068e 2 (some .char) ∈ p_G := inC_3 193 rfl rfl
theorem fw_lat_c : Cond.code yJ0_isLatin1_aae02 cJ0_isLatin1_aae02 1 (some .boolean) ∈ p_G := inC_3 197 rfl rfl
theorem fw_chl_c : Cond.code yJ1_charAt_3b067 cJ1_charAt_3b067 2 (some .char) ∈ p_G := inC_3 200 rfl rfl
theorem fw_chk_c : Cond.code yJ0_checkIndex_df160 cJ0_checkIndex_df160 2 none ∈ p_G := inC_3 203 rfl rfl
theorem fw_pre_c : Cond.code yJ3_checkIndex_8e157 cJ3_checkIndex_8e157 3 (some .int) ∈ p_G := inC_3 208 rfl rfl
theorem fw_stands_i : Cond.instanceMethod yX9_stands ∈ p_G := inC_3 177 rfl rfl
theorem fw_stands_s : Cond.selects RX9 yX9_stands yX9_stands ∈ p_G := inG_s 4 rfl rfl
theorem fw_len_i : Cond.instanceMethod yJ0_length_8abf5 ∈ p_G := inC_3 181 rfl rfl
theorem fw_len_s : Cond.selects RJ0 yJ0_length_8abf5 yJ0_length_8abf5 ∈ p_G := inC_3 182 rfl rfl
theorem fw_cod_i : Cond.instanceMethod yJ0_coder_7d493 ∈ p_G := inC_3 185 rfl rfl
theorem fw_cod_s : Cond.selects RJ0 yJ0_coder_7d493 yJ0_coder_7d493 ∈ p_G := inC_3 186 rfl rfl
theorem fw_cha_i : Cond.instanceMethod yJ0_charAt_5068e ∈ p_G := inC_3 191 rfl rfl
theorem fw_cha_s : Cond.selects RJ0 yJ0_charAt_5068e yJ0_charAt_5068e ∈ p_G := inC_3 192 rfl rfl
theorem fw_lat_i : Cond.instanceMethod yJ0_isLatin1_aae02 ∈ p_G := inC_3 195 rfl rfl
theorem fw_lat_s : Cond.selects RJ0 yJ0_isLatin1_aae02 yJ0_isLatin1_aae02 ∈ p_G := inC_3 196 rfl rfl
theorem fw_find_t : Cond.static yX9_find ∈ p_G := inC_3 171 rfl rfl
theorem fw_chl_t : Cond.static yJ1_charAt_3b067 ∈ p_G := inC_3 199 rfl rfl
theorem fw_chk_t : Cond.static yJ0_checkIndex_df160 ∈ p_G := inC_3 202 rfl rfl
theorem fw_pre_t : Cond.static yJ3_checkIndex_8e157 ∈ p_G := inC_3 207 rfl rfl
theorem fw_l151 : Cond.methodLink RX9 151 yX9_stands ∈ p_G := inC_3 175 rfl rfl
theorem fw_l155 : Cond.methodLink RX9 155 yJ0_length_8abf5 ∈ p_G := inC_3 180 rfl rfl
theorem fw_l161 : Cond.methodLink RX9 161 yJ0_charAt_5068e ∈ p_G := inC_3 190 rfl rfl
theorem fw_l335 : Cond.methodLink RJ0 335 yJ0_coder_7d493 ∈ p_G := inC_3 184 rfl rfl
theorem fw_l492 : Cond.methodLink RJ0 492 yJ0_isLatin1_aae02 ∈ p_G := inC_3 194 rfl rfl
theorem fw_l495 : Cond.methodLink RJ0 495 yJ1_charAt_3b067 ∈ p_G := inC_3 198 rfl rfl
theorem fw_l9 : Cond.methodLink RJ1 9 yJ0_checkIndex_df160 ∈ p_G := inC_3 201 rfl rfl
theorem fw_l1059 : Cond.methodLink RJ0 1059 yJ3_checkIndex_8e157 ∈ p_G := inC_3 206 rfl rfl
theorem fw_f148 : Cond.fieldLink RX9 148 "DriverHost$Word" "ALL" "[LDriverHost$Word;" ∈ p_G := inC_3 173 rfl rfl
theorem fw_f133 : Cond.fieldLink RX9 133 "DriverHost$Word" "letters" "Ljava/lang/String;" ∈ p_G := inC_9 167 rfl rfl
theorem fw_f38 : Cond.fieldLink RJ0 38 "java/lang/String" "COMPACT_STRINGS" "Z" ∈ p_G := inC_3 188 rfl rfl
theorem fw_f15 : Cond.fieldLink RJ0 15 "java/lang/String" "coder" "B" ∈ p_G := inC_9 169 rfl rfl
theorem fw_f9 : Cond.fieldLink RJ0 9 "java/lang/String" "value" "[B" ∈ p_G := inC_9 168 rfl rfl
theorem fw_f1053 : Cond.fieldLink RJ0 1053 "jdk/internal/util/Preconditions" "SIOOBE_FORMATTER" "Ljava/util/function/BiFunction;" ∈ p_G := inC_3 204 rfl rfl
theorem fdX9_find_0 : decode cX9_find 0 = .ok (.iconst 0, 1) := by decide +kernel
theorem fdX9_find_1 : decode cX9_find 1 = .ok (.istore_n 3, 1) := by decide +kernel
theorem fdX9_find_2 : decode cX9_find 2 = .ok (.iload_n 3, 1) := by decide +kernel
theorem fdX9_find_3 : decode cX9_find 3 = .ok (.getstatic 148, 3) := by decide +kernel
theorem fdX9_find_6 : decode cX9_find 6 = .ok (.arraylength, 1) := by decide +kernel
theorem fdX9_find_7 : decode cX9_find 7 = .ok (.if_icmp .ge 29, 3) := by decide +kernel
theorem fdX9_find_10 : decode cX9_find 10 = .ok (.getstatic 148, 3) := by decide +kernel
theorem fdX9_find_13 : decode cX9_find 13 = .ok (.iload_n 3, 1) := by decide +kernel
theorem fdX9_find_14 : decode cX9_find 14 = .ok (.aaload, 1) := by decide +kernel
theorem fdX9_find_15 : decode cX9_find 15 = .ok (.aload_n 0, 1) := by decide +kernel
theorem fdX9_find_16 : decode cX9_find 16 = .ok (.iload_n 1, 1) := by decide +kernel
theorem fdX9_find_17 : decode cX9_find 17 = .ok (.iload_n 2, 1) := by decide +kernel
theorem fdX9_find_18 : decode cX9_find 18 = .ok (.invokevirtual 151, 3) := by decide +kernel
theorem fdX9_find_21 : decode cX9_find 21 = .ok (.ifCond .eq 9, 3) := by decide +kernel
theorem fdX9_find_24 : decode cX9_find 24 = .ok (.getstatic 148, 3) := by decide +kernel
theorem fdX9_find_27 : decode cX9_find 27 = .ok (.iload_n 3, 1) := by decide +kernel
theorem fdX9_find_28 : decode cX9_find 28 = .ok (.aaload, 1) := by decide +kernel
theorem fdX9_find_29 : decode cX9_find 29 = .ok (.areturn, 1) := by decide +kernel
theorem fdX9_find_30 : decode cX9_find 30 = .ok (.iinc 3 1, 3) := by decide +kernel
theorem fdX9_find_33 : decode cX9_find 33 = .ok (.goto (-31), 3) := by decide +kernel
theorem fdX9_find_36 : decode cX9_find 36 = .ok (.aconst_null, 1) := by decide +kernel
theorem fdX9_find_37 : decode cX9_find 37 = .ok (.areturn, 1) := by decide +kernel
theorem fdX9_stands_0 : decode cX9_stands 0 = .ok (.iload_n 2, 1) := by decide +kernel
theorem fdX9_stands_1 : decode cX9_stands 1 = .ok (.ifCond .lt 22, 3) := by decide +kernel
theorem fdX9_stands_4 : decode cX9_stands 4 = .ok (.iload_n 3, 1) := by decide +kernel
theorem fdX9_stands_5 : decode cX9_stands 5 = .ok (.aload_n 1, 1) := by decide +kernel
theorem fdX9_stands_6 : decode cX9_stands 6 = .ok (.arraylength, 1) := by decide +kernel
theorem fdX9_stands_7 : decode cX9_stands 7 = .ok (.if_icmp .gt 16, 3) := by decide +kernel
theorem fdX9_stands_10 : decode cX9_stands 10 = .ok (.iload_n 3, 1) := by decide +kernel
theorem fdX9_stands_11 : decode cX9_stands 11 = .ok (.iload_n 2, 1) := by decide +kernel
theorem fdX9_stands_12 : decode cX9_stands 12 = .ok (.isub, 1) := by decide +kernel
theorem fdX9_stands_13 : decode cX9_stands 13 = .ok (.aload_n 0, 1) := by decide +kernel
theorem fdX9_stands_14 : decode cX9_stands 14 = .ok (.getfield 133, 3) := by decide +kernel
theorem fdX9_stands_17 : decode cX9_stands 17 = .ok (.invokevirtual 155, 3) := by decide +kernel
theorem fdX9_stands_20 : decode cX9_stands 20 = .ok (.if_icmp .eq 5, 3) := by decide +kernel
theorem fdX9_stands_23 : decode cX9_stands 23 = .ok (.iconst 0, 1) := by decide +kernel
theorem fdX9_stands_24 : decode cX9_stands 24 = .ok (.ireturn, 1) := by decide +kernel
theorem fdX9_stands_25 : decode cX9_stands 25 = .ok (.iconst 0, 1) := by decide +kernel
theorem fdX9_stands_26 : decode cX9_stands 26 = .ok (.istore 4, 2) := by decide +kernel
theorem fdX9_stands_28 : decode cX9_stands 28 = .ok (.iload 4, 2) := by decide +kernel
theorem fdX9_stands_30 : decode cX9_stands 30 = .ok (.aload_n 0, 1) := by decide +kernel
theorem fdX9_stands_31 : decode cX9_stands 31 = .ok (.getfield 133, 3) := by decide +kernel
theorem fdX9_stands_34 : decode cX9_stands 34 = .ok (.invokevirtual 155, 3) := by decide +kernel
theorem fdX9_stands_37 : decode cX9_stands 37 = .ok (.if_icmp .ge 29, 3) := by decide +kernel
theorem fdX9_stands_40 : decode cX9_stands 40 = .ok (.aload_n 1, 1) := by decide +kernel
theorem fdX9_stands_41 : decode cX9_stands 41 = .ok (.iload_n 2, 1) := by decide +kernel
theorem fdX9_stands_42 : decode cX9_stands 42 = .ok (.iload 4, 2) := by decide +kernel
theorem fdX9_stands_44 : decode cX9_stands 44 = .ok (.iadd, 1) := by decide +kernel
theorem fdX9_stands_45 : decode cX9_stands 45 = .ok (.baload, 1) := by decide +kernel
theorem fdX9_stands_46 : decode cX9_stands 46 = .ok (.aload_n 0, 1) := by decide +kernel
theorem fdX9_stands_47 : decode cX9_stands 47 = .ok (.getfield 133, 3) := by decide +kernel
theorem fdX9_stands_50 : decode cX9_stands 50 = .ok (.iload 4, 2) := by decide +kernel
theorem fdX9_stands_52 : decode cX9_stands 52 = .ok (.invokevirtual 161, 3) := by decide +kernel
theorem fdX9_stands_55 : decode cX9_stands 55 = .ok (.if_icmp .eq 5, 3) := by decide +kernel
theorem fdX9_stands_58 : decode cX9_stands 58 = .ok (.iconst 0, 1) := by decide +kernel
theorem fdX9_stands_59 : decode cX9_stands 59 = .ok (.ireturn, 1) := by decide +kernel
theorem fdX9_stands_60 : decode cX9_stands 60 = .ok (.iinc 4 1, 3) := by decide +kernel
theorem fdX9_stands_63 : decode cX9_stands 63 = .ok (.goto (-35), 3) := by decide +kernel
theorem fdX9_stands_66 : decode cX9_stands 66 = .ok (.iconst 1, 1) := by decide +kernel
theorem fdX9_stands_67 : decode cX9_stands 67 = .ok (.ireturn, 1) := by decide +kernel
theorem fdJ0_length_8abf5_0 : decode cJ0_length_8abf5 0 = .ok (.aload_n 0, 1) := by decide +kernel
theorem fdJ0_length_8abf5_1 : decode cJ0_length_8abf5 1 = .ok (.getfield 9, 3) := by decide +kernel
theorem fdJ0_length_8abf5_4 : decode cJ0_length_8abf5 4 = .ok (.arraylength, 1) := by decide +kernel
theorem fdJ0_length_8abf5_5 : decode cJ0_length_8abf5 5 = .ok (.aload_n 0, 1) := by decide +kernel
theorem fdJ0_length_8abf5_6 : decode cJ0_length_8abf5 6 = .ok (.invokevirtual 335, 3) := by decide +kernel
theorem fdJ0_length_8abf5_9 : decode cJ0_length_8abf5 9 = .ok (.ishr, 1) := by decide +kernel
theorem fdJ0_length_8abf5_10 : decode cJ0_length_8abf5 10 = .ok (.ireturn, 1) := by decide +kernel
theorem fdJ0_charAt_5068e_0 : decode cJ0_charAt_5068e 0 = .ok (.aload_n 0, 1) := by decide +kernel
theorem fdJ0_charAt_5068e_1 : decode cJ0_charAt_5068e 1 = .ok (.invokevirtual 492, 3) := by decide +kernel
theorem fdJ0_charAt_5068e_4 : decode cJ0_charAt_5068e 4 = .ok (.ifCond .eq 12, 3) := by decide +kernel
theorem fdJ0_charAt_5068e_7 : decode cJ0_charAt_5068e 7 = .ok (.aload_n 0, 1) := by decide +kernel
theorem fdJ0_charAt_5068e_8 : decode cJ0_charAt_5068e 8 = .ok (.getfield 9, 3) := by decide +kernel
theorem fdJ0_charAt_5068e_11 : decode cJ0_charAt_5068e 11 = .ok (.iload_n 1, 1) := by decide +kernel
theorem fdJ0_charAt_5068e_12 : decode cJ0_charAt_5068e 12 = .ok (.invokestatic 495, 3) := by decide +kernel
theorem fdJ0_charAt_5068e_15 : decode cJ0_charAt_5068e 15 = .ok (.ireturn, 1) := by decide +kernel
theorem fdJ0_coder_7d493_0 : decode cJ0_coder_7d493 0 = .ok (.getstatic 38, 3) := by decide +kernel
theorem fdJ0_coder_7d493_3 : decode cJ0_coder_7d493 3 = .ok (.ifCond .eq 10, 3) := by decide +kernel
theorem fdJ0_coder_7d493_6 : decode cJ0_coder_7d493 6 = .ok (.aload_n 0, 1) := by decide +kernel
theorem fdJ0_coder_7d493_7 : decode cJ0_coder_7d493 7 = .ok (.getfield 15, 3) := by decide +kernel
theorem fdJ0_coder_7d493_10 : decode cJ0_coder_7d493 10 = .ok (.goto 4, 3) := by decide +kernel
theorem fdJ0_coder_7d493_13 : decode cJ0_coder_7d493 13 = .ok (.iconst 1, 1) := by decide +kernel
theorem fdJ0_coder_7d493_14 : decode cJ0_coder_7d493 14 = .ok (.ireturn, 1) := by decide +kernel
theorem fdJ0_isLatin1_aae02_0 : decode cJ0_isLatin1_aae02 0 = .ok (.getstatic 38, 3) := by decide +kernel
theorem fdJ0_isLatin1_aae02_3 : decode cJ0_isLatin1_aae02 3 = .ok (.ifCond .eq 14, 3) := by decide +kernel
theorem fdJ0_isLatin1_aae02_6 : decode cJ0_isLatin1_aae02 6 = .ok (.aload_n 0, 1) := by decide +kernel
theorem fdJ0_isLatin1_aae02_7 : decode cJ0_isLatin1_aae02 7 = .ok (.getfield 15, 3) := by decide +kernel
theorem fdJ0_isLatin1_aae02_10 : decode cJ0_isLatin1_aae02 10 = .ok (.ifCond .ne 7, 3) := by decide +kernel
theorem fdJ0_isLatin1_aae02_13 : decode cJ0_isLatin1_aae02 13 = .ok (.iconst 1, 1) := by decide +kernel
theorem fdJ0_isLatin1_aae02_14 : decode cJ0_isLatin1_aae02 14 = .ok (.goto 4, 3) := by decide +kernel
theorem fdJ0_isLatin1_aae02_17 : decode cJ0_isLatin1_aae02 17 = .ok (.iconst 0, 1) := by decide +kernel
theorem fdJ0_isLatin1_aae02_18 : decode cJ0_isLatin1_aae02 18 = .ok (.ireturn, 1) := by decide +kernel
theorem fdJ0_checkIndex_df160_0 : decode cJ0_checkIndex_df160 0 = .ok (.iload_n 0, 1) := by decide +kernel
theorem fdJ0_checkIndex_df160_1 : decode cJ0_checkIndex_df160 1 = .ok (.iload_n 1, 1) := by decide +kernel
theorem fdJ0_checkIndex_df160_2 : decode cJ0_checkIndex_df160 2 = .ok (.getstatic 1053, 3) := by decide +kernel
theorem fdJ0_checkIndex_df160_5 : decode cJ0_checkIndex_df160 5 = .ok (.invokestatic 1059, 3) := by decide +kernel
theorem fdJ0_checkIndex_df160_8 : decode cJ0_checkIndex_df160 8 = .ok (.pop, 1) := by decide +kernel
theorem fdJ0_checkIndex_df160_9 : decode cJ0_checkIndex_df160 9 = .ok (.return_, 1) := by decide +kernel
theorem fdJ1_charAt_3b067_0 : decode cJ1_charAt_3b067 0 = .ok (.iload_n 1, 1) := by decide +kernel
theorem fdJ1_charAt_3b067_1 : decode cJ1_charAt_3b067 1 = .ok (.aload_n 0, 1) := by decide +kernel
theorem fdJ1_charAt_3b067_2 : decode cJ1_charAt_3b067 2 = .ok (.arraylength, 1) := by decide +kernel
theorem fdJ1_charAt_3b067_3 : decode cJ1_charAt_3b067 3 = .ok (.invokestatic 9, 3) := by decide +kernel
theorem fdJ1_charAt_3b067_6 : decode cJ1_charAt_3b067 6 = .ok (.aload_n 0, 1) := by decide +kernel
theorem fdJ1_charAt_3b067_7 : decode cJ1_charAt_3b067 7 = .ok (.iload_n 1, 1) := by decide +kernel
theorem fdJ1_charAt_3b067_8 : decode cJ1_charAt_3b067 8 = .ok (.baload, 1) := by decide +kernel
theorem fdJ1_charAt_3b067_9 : decode cJ1_charAt_3b067 9 = .ok (.sipush 255, 3) := by decide +kernel
theorem fdJ1_charAt_3b067_12 : decode cJ1_charAt_3b067 12 = .ok (.iand, 1) := by decide +kernel
theorem fdJ1_charAt_3b067_13 : decode cJ1_charAt_3b067 13 = .ok (.i2c, 1) := by decide +kernel
theorem fdJ1_charAt_3b067_14 : decode cJ1_charAt_3b067 14 = .ok (.ireturn, 1) := by decide +kernel
theorem fdJ3_checkIndex_8e157_0 : decode cJ3_checkIndex_8e157 0 = .ok (.iload_n 0, 1) := by decide +kernel
theorem fdJ3_checkIndex_8e157_1 : decode cJ3_checkIndex_8e157 1 = .ok (.ifCond .lt 8, 3) := by decide +kernel
theorem fdJ3_checkIndex_8e157_4 : decode cJ3_checkIndex_8e157 4 = .ok (.iload_n 0, 1) := by decide +kernel
theorem fdJ3_checkIndex_8e157_5 : decode cJ3_checkIndex_8e157 5 = .ok (.iload_n 1, 1) := by decide +kernel
theorem fdJ3_checkIndex_8e157_6 : decode cJ3_checkIndex_8e157 6 = .ok (.if_icmp .lt 10, 3) := by decide +kernel
theorem fdJ3_checkIndex_8e157_16 : decode cJ3_checkIndex_8e157 16 = .ok (.iload_n 0, 1) := by decide +kernel
theorem fdJ3_checkIndex_8e157_17 : decode cJ3_checkIndex_8e157 17 = .ok (.ireturn, 1) := by decide +kernel
theorem f_gV {own C : String} {idx n : Nat} {y : MethodName} {b : ByteArray} {r : Option FieldType} (h1 : Cond.methodLink own idx y ∈ p_G) (h2 : Cond.instanceMethod y ∈ p_G) (h3 : Cond.selects C y y ∈ p_G) (h4 : Cond.initialized C ∈ p_G) (hc : Cond.code y b n r ∈ p_G) : GoodIn p_G (wsV own idx C y (Cond.code y b n r :: p_G)) := by
  unfold wsV
  exact m_good p_good hc (List.forall_mem_cons.mpr ⟨h1, List.forall_mem_cons.mpr ⟨h2, List.forall_mem_cons.mpr ⟨h3, List.forall_mem_cons.mpr ⟨h4, fun _ h => absurd h List.not_mem_nil⟩⟩⟩⟩)
theorem f_gS {own : String} {idx n : Nat} {y : MethodName} {b : ByteArray} {r : Option FieldType} (h1 : Cond.methodLink own idx y ∈ p_G) (h2 : Cond.static y ∈ p_G) (h4 : Cond.initialized y.cls ∈ p_G) (hc : Cond.code y b n r ∈ p_G) : GoodIn p_G (va_wsS own idx y (Cond.code y b n r :: p_G)) := by
  unfold va_wsS
  exact m_good p_good hc (List.forall_mem_cons.mpr ⟨h1, List.forall_mem_cons.mpr ⟨h2, List.forall_mem_cons.mpr ⟨h4, fun _ h => absurd h List.not_mem_nil⟩⟩⟩)
