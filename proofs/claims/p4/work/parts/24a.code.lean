/-! the small code of methods 0 to 78 is the machine's -/
set_option maxRecDepth 100000 in
theorem ck_0 : m_ckS lkf_0 (p_TT 0) (p_INI 0) false (m_tgb s_0) p_rab (fun _ => false) (p_B 0) s_0 = true := by decide +kernel
set_option maxRecDepth 100000 in
theorem ck_1 : m_ckS lkf_0 (p_TT 1) (p_INI 1) false (m_tgb s_1) p_rab (fun _ => false) (p_B 1) s_1 = true := by decide +kernel
set_option maxRecDepth 100000 in
theorem ck_2 : m_ckS lkf_0 (p_TT 2) (p_INI 2) false (m_tgb s_2) p_rab (fun _ => false) (p_B 2) s_2 = true := by decide +kernel
set_option maxRecDepth 100000 in
theorem ck_3 : m_ckS lkf_0 (p_TT 3) (p_INI 3) false (m_tgb s_3) p_rab (fun _ => false) (p_B 3) s_3 = true := by decide +kernel
set_option maxRecDepth 100000 in
theorem ck_4 : m_ckS lkf_0 (p_TT 4) (p_INI 4) false (m_tgb s_4) p_rab (fun _ => false) (p_B 4) s_4 = true := by decide +kernel
set_option maxRecDepth 100000 in
theorem ck_5 : m_ckS lkf_1 (p_TT 5) (p_INI 5) false (m_tgb s_5) p_rab (fun _ => false) (p_B 5) s_5 = true := by decide +kernel
set_option maxRecDepth 100000 in
theorem ck_6 : m_ckS lkf_2 (p_TT 6) (p_INI 6) false (m_tgb s_6) p_rab (fun _ => false) (p_B 6) s_6 = true := by decide +kernel
set_option maxRecDepth 100000 in
theorem ck_7 : m_ckS lkf_2 (p_TT 7) (p_INI 7) false (m_tgb s_7) p_rab (fun _ => false) (p_B 7) s_7 = true := by decide +kernel
set_option maxRecDepth 100000 in
theorem ck_8 : m_ckS lkf_2 (p_TT 8) (p_INI 8) false (m_tgb s_8) p_rab (fun _ => false) (p_B 8) s_8 = true := by decide +kernel
set_option maxRecDepth 100000 in
theorem ck_9 : m_ckS lkf_2 (p_TT 9) (p_INI 9) false (m_tgb s_9) p_rab (fun _ => false) (p_B 9) s_9 = true := by decide +kernel
set_option maxRecDepth 100000 in
theorem ck_10 : m_ckS lkf_2 (p_TT 10) (p_INI 10) false (m_tgb s_10) p_rab (fun _ => false) (p_B 10) s_10 = true := by decide +kernel
set_option maxRecDepth 100000 in
theorem ck_11 : m_ckS lkf_2 (p_TT 11) (p_INI 11) false (m_tgb s_11) p_rab (fun _ => false) (p_B 11) s_11 = true := by decide +kernel
set_option maxRecDepth 100000 in
theorem ck_12 : m_ckS lkf_2 (p_TT 12) (p_INI 12) false (m_tgb s_12) p_rab (fun _ => false) (p_B 12) s_12 = true := by decide +kernel
set_option maxRecDepth 100000 in
theorem ck_13 : m_ckS lkf_2 (p_TT 13) (p_INI 13) false (m_tgb s_13) p_rab (fun _ => false) (p_B 13) s_13 = true := by decide +kernel
set_option maxRecDepth 100000 in
theorem ck_14 : m_ckS lkf_2 (p_TT 14) (p_INI 14) false (m_tgb s_14) p_rab (fun _ => false) (p_B 14) s_14 = true := by decide +kernel
set_option maxRecDepth 100000 in
theorem ck_15 : m_ckS lkf_2 (p_TT 15) (p_INI 15) false (m_tgb s_15) p_rab (fun _ => false) (p_B 15) s_15 = true := by decide +kernel
set_option maxRecDepth 100000 in
theorem ck_16 : m_ckS lkf_2 (p_TT 16) (p_INI 16) false (m_tgb s_16) p_rab (fun _ => false) (p_B 16) s_16 = true := by decide +kernel
set_option maxRecDepth 100000 in
theorem ck_17 : m_ckS lkf_2 (p_TT 17) (p_INI 17) false (m_tgb s_17) p_rab (fun _ => false) (p_B 17) s_17 = true := by decide +kernel
set_option maxRecDepth 100000 in
theorem ck_18 : m_ckS lkf_2 (p_TT 18) (p_INI 18) false (m_tgb s_18) p_rab (fun _ => false) (p_B 18) s_18 = true := by decide +kernel
set_option maxRecDepth 100000 in
theorem ck_19 : m_ckS lkf_3 (p_TT 19) (p_INI 19) false (m_tgb s_19) p_rab (fun _ => false) (p_B 19) s_19 = true := by decide +kernel
set_option maxRecDepth 100000 in
theorem ck_20 : m_ckS lkf_3 (p_TT 20) (p_INI 20) false (m_tgb s_20) p_rab (fun _ => false) (p_B 20) s_20 = true := by decide +kernel
set_option maxRecDepth 100000 in
theorem ck_21 : m_ckS lkf_3 (p_TT 21) (p_INI 21) false (m_tgb s_21) p_rab (fun _ => false) (p_B 21) s_21 = true := by decide +kernel
set_option maxRecDepth 100000 in
theorem ck_22 : m_ckS lkf_3 (p_TT 22) (p_INI 22) false (m_tgb s_22) p_rab (fun _ => false) (p_B 22) s_22 = true := by decide +kernel
set_option maxRecDepth 100000 in
theorem ck_23 : m_ckS lkf_4 (p_TT 23) (p_INI 23) false (m_tgb s_23) p_rab (fun _ => false) (p_B 23) s_23 = true := by decide +kernel
set_option maxRecDepth 100000 in
theorem ck_24 : m_ckS lkf_4 (p_TT 24) (p_INI 24) false (m_tgb s_24) p_rab (fun _ => false) (p_B 24) s_24 = true := by decide +kernel
set_option maxRecDepth 100000 in
theorem ck_25 : m_ckS lkf_4 (p_TT 25) (p_INI 25) false (m_tgb s_25) p_rab (fun _ => false) (p_B 25) s_25 = true := by decide +kernel
set_option maxRecDepth 100000 in
theorem ck_26 : m_ckS lkf_4 (p_TT 26) (p_INI 26) false (m_tgb s_26) p_rab (fun _ => false) (p_B 26) s_26 = true := by decide +kernel
set_option maxRecDepth 100000 in
theorem ck_27 : m_ckS lkf_4 (p_TT 27) (p_INI 27) false (m_tgb s_27) p_rab (fun _ => false) (p_B 27) s_27 = true := by decide +kernel
set_option maxRecDepth 100000 in
theorem ck_28 : m_ckS lkf_5 (p_TT 28) (p_INI 28) false (m_tgb s_28) p_rab (fun _ => false) (p_B 28) s_28 = true := by decide +kernel
set_option maxRecDepth 100000 in
theorem ck_29 : m_ckS lkf_5 (p_TT 29) (p_INI 29) false (m_tgb s_29) p_rab (fun _ => false) (p_B 29) s_29 = true := by decide +kernel
set_option maxRecDepth 100000 in
theorem ck_30 : m_ckS lkf_5 (p_TT 30) (p_INI 30) false (m_tgb s_30) p_rab (fun _ => false) (p_B 30) s_30 = true := by decide +kernel
set_option maxRecDepth 100000 in
theorem ck_31 : m_ckS lkf_6 (p_TT 31) (p_INI 31) false (m_tgb s_31) p_rab (fun _ => false) (p_B 31) s_31 = true := by decide +kernel
set_option maxRecDepth 100000 in
theorem ck_32 : m_ckS lkf_6 (p_TT 32) (p_INI 32) false (m_tgb s_32) p_rab (fun _ => false) (p_B 32) s_32 = true := by decide +kernel
set_option maxRecDepth 100000 in
theorem ck_33 : m_ckS lkf_6 (p_TT 33) (p_INI 33) false (m_tgb s_33) p_rab (fun _ => false) (p_B 33) s_33 = true := by decide +kernel
set_option maxRecDepth 100000 in
theorem ck_34 : m_ckS lkf_6 (p_TT 34) (p_INI 34) false (m_tgb s_34) p_rab (fun _ => false) (p_B 34) s_34 = true := by decide +kernel
set_option maxRecDepth 100000 in
theorem ck_35 : m_ckS lkf_6 (p_TT 35) (p_INI 35) false (m_tgb s_35) p_rab (fun _ => false) (p_B 35) s_35 = true := by decide +kernel
set_option maxRecDepth 100000 in
theorem ck_36 : m_ckS lkf_6 (p_TT 36) (p_INI 36) false (m_tgb s_36) p_rab (fun _ => false) (p_B 36) s_36 = true := by decide +kernel
set_option maxRecDepth 100000 in
theorem ck_37 : m_ckS lkf_6 (p_TT 37) (p_INI 37) false (m_tgb s_37) p_rab (fun _ => false) (p_B 37) s_37 = true := by decide +kernel
set_option maxRecDepth 100000 in
theorem ck_38 : m_ckS lkf_6 (p_TT 38) (p_INI 38) false (m_tgb s_38) p_rab (fun _ => false) (p_B 38) s_38 = true := by decide +kernel
set_option maxRecDepth 100000 in
theorem ck_39 : m_ckS lkf_6 (p_TT 39) (p_INI 39) false (m_tgb s_39) p_rab (fun _ => false) (p_B 39) s_39 = true := by decide +kernel
set_option maxRecDepth 100000 in
theorem ck_40 : m_ckS lkf_6 (p_TT 40) (p_INI 40) false (m_tgb s_40) p_rab (fun _ => false) (p_B 40) s_40 = true := by decide +kernel
set_option maxRecDepth 100000 in
theorem ck_41 : m_ckS lkf_6 (p_TT 41) (p_INI 41) false (m_tgb s_41) p_rab (fun _ => false) (p_B 41) s_41 = true := by decide +kernel
set_option maxRecDepth 100000 in
theorem ck_42 : m_ckS lkf_6 (p_TT 42) (p_INI 42) false (m_tgb s_42) p_rab (fun _ => false) (p_B 42) s_42 = true := by decide +kernel
set_option maxRecDepth 100000 in
theorem ck_43 : m_ckS lkf_6 (p_TT 43) (p_INI 43) false (m_tgb s_43) p_rab (fun _ => false) (p_B 43) s_43 = true := by decide +kernel
set_option maxRecDepth 100000 in
theorem ck_44 : m_ckS lkf_6 (p_TT 44) (p_INI 44) false (m_tgb s_44) p_rab (fun _ => false) (p_B 44) s_44 = true := by decide +kernel
set_option maxRecDepth 100000 in
theorem ck_45 : m_ckS lkf_6 (p_TT 45) (p_INI 45) false (m_tgb s_45) p_rab (fun _ => false) (p_B 45) s_45 = true := by decide +kernel
set_option maxRecDepth 100000 in
theorem ck_46 : m_ckS lkf_6 (p_TT 46) (p_INI 46) false (m_tgb s_46) p_rab (fun _ => false) (p_B 46) s_46 = true := by decide +kernel
set_option maxRecDepth 100000 in
theorem ck_47 : m_ckS lkf_6 (p_TT 47) (p_INI 47) false (m_tgb s_47) p_rab (fun _ => false) (p_B 47) s_47 = true := by decide +kernel
set_option maxRecDepth 100000 in
theorem ck_48 : m_ckS lkf_6 (p_TT 48) (p_INI 48) false (m_tgb s_48) p_rab (fun _ => false) (p_B 48) s_48 = true := by decide +kernel
set_option maxRecDepth 100000 in
theorem ck_49 : m_ckS lkf_6 (p_TT 49) (p_INI 49) false (m_tgb s_49) p_rab (fun _ => false) (p_B 49) s_49 = true := by decide +kernel
set_option maxRecDepth 100000 in
theorem ck_50 : m_ckS lkf_6 (p_TT 50) (p_INI 50) false (m_tgb s_50) p_rab (fun _ => false) (p_B 50) s_50 = true := by decide +kernel
set_option maxRecDepth 100000 in
theorem ck_51 : m_ckS lkf_7 (p_TT 51) (p_INI 51) false (m_tgb s_51) p_rab (fun _ => false) (p_B 51) s_51 = true := by decide +kernel
set_option maxRecDepth 100000 in
theorem ck_52 : m_ckS lkf_7 (p_TT 52) (p_INI 52) false (m_tgb s_52) p_rab (fun _ => false) (p_B 52) s_52 = true := by decide +kernel
set_option maxRecDepth 100000 in
theorem ck_53 : m_ckS lkf_7 (p_TT 53) (p_INI 53) false (m_tgb s_53) p_rab (fun _ => false) (p_B 53) s_53 = true := by decide +kernel
set_option maxRecDepth 100000 in
theorem ck_54 : m_ckS lkf_7 (p_TT 54) (p_INI 54) false (m_tgb s_54) p_rab (fun _ => false) (p_B 54) s_54 = true := by decide +kernel
set_option maxRecDepth 100000 in
theorem ck_55 : m_ckS lkf_7 (p_TT 55) (p_INI 55) false (m_tgb s_55) p_rab (fun _ => false) (p_B 55) s_55 = true := by decide +kernel
set_option maxRecDepth 100000 in
theorem ck_56 : m_ckS lkf_7 (p_TT 56) (p_INI 56) false (m_tgb s_56) p_rab (fun _ => false) (p_B 56) s_56 = true := by decide +kernel
set_option maxRecDepth 100000 in
theorem ck_57 : m_ckS lkf_7 (p_TT 57) (p_INI 57) false (m_tgb s_57) p_rab (fun _ => false) (p_B 57) s_57 = true := by decide +kernel
set_option maxRecDepth 100000 in
theorem ck_58 : m_ckS lkf_7 (p_TT 58) (p_INI 58) false (m_tgb s_58) p_rab (fun _ => false) (p_B 58) s_58 = true := by decide +kernel
set_option maxRecDepth 100000 in
theorem ck_59 : m_ckS lkf_7 (p_TT 59) (p_INI 59) false (m_tgb s_59) p_rab (fun _ => false) (p_B 59) s_59 = true := by decide +kernel
set_option maxRecDepth 100000 in
theorem ck_60 : m_ckS lkf_8 (p_TT 60) (p_INI 60) false (m_tgb s_60) p_rab (fun _ => false) (p_B 60) s_60 = true := by decide +kernel
set_option maxRecDepth 100000 in
theorem ck_61 : m_ckS lkf_8 (p_TT 61) (p_INI 61) false (m_tgb s_61) p_rab (fun _ => false) (p_B 61) s_61 = true := by decide +kernel
set_option maxRecDepth 100000 in
theorem ck_62 : m_ckS lkf_8 (p_TT 62) (p_INI 62) false (m_tgb s_62) p_rab (fun _ => false) (p_B 62) s_62 = true := by decide +kernel
set_option maxRecDepth 100000 in
theorem ck_63 : m_ckS lkf_8 (p_TT 63) (p_INI 63) false (m_tgb s_63) p_rab (fun _ => false) (p_B 63) s_63 = true := by decide +kernel
set_option maxRecDepth 100000 in
theorem ck_64 : m_ckS lkf_8 (p_TT 64) (p_INI 64) false (m_tgb s_64) p_rab (fun _ => false) (p_B 64) s_64 = true := by decide +kernel
set_option maxRecDepth 100000 in
theorem ck_65 : m_ckS lkf_8 (p_TT 65) (p_INI 65) false (m_tgb s_65) p_rab (fun _ => false) (p_B 65) s_65 = true := by decide +kernel
set_option maxRecDepth 100000 in
theorem ck_66 : m_ckS lkf_8 (p_TT 66) (p_INI 66) false (m_tgb s_66) p_rab (fun _ => false) (p_B 66) s_66 = true := by decide +kernel
set_option maxRecDepth 100000 in
theorem ck_67 : m_ckS lkf_8 (p_TT 67) (p_INI 67) false (m_tgb s_67) p_rab (fun _ => false) (p_B 67) s_67 = true := by decide +kernel
set_option maxRecDepth 100000 in
theorem ck_68 : m_ckS lkf_8 (p_TT 68) (p_INI 68) false (m_tgb s_68) p_rab (fun _ => false) (p_B 68) s_68 = true := by decide +kernel
set_option maxRecDepth 100000 in
theorem ck_69 : m_ckS lkf_8 (p_TT 69) (p_INI 69) false (m_tgb s_69) p_rab (fun _ => false) (p_B 69) s_69 = true := by decide +kernel
set_option maxRecDepth 100000 in
theorem ck_70 : m_ckS lkf_8 (p_TT 70) (p_INI 70) false (m_tgb s_70) p_rab (fun _ => false) (p_B 70) s_70 = true := by decide +kernel
set_option maxRecDepth 100000 in
theorem ck_71 : m_ckS lkf_8 (p_TT 71) (p_INI 71) false (m_tgb s_71) p_rab (fun _ => false) (p_B 71) s_71 = true := by decide +kernel
set_option maxRecDepth 100000 in
theorem ck_72 : m_ckS lkf_8 (p_TT 72) (p_INI 72) false (m_tgb s_72) p_rab (fun _ => false) (p_B 72) s_72 = true := by decide +kernel
set_option maxRecDepth 100000 in
theorem ck_73 : m_ckS lkf_8 (p_TT 73) (p_INI 73) false (m_tgb s_73) p_rab (fun _ => false) (p_B 73) s_73 = true := by decide +kernel
set_option maxRecDepth 100000 in
theorem ck_74 : m_ckS lkf_8 (p_TT 74) (p_INI 74) false (m_tgb s_74) p_rab (fun _ => false) (p_B 74) s_74 = true := by decide +kernel
set_option maxRecDepth 100000 in
theorem ck_75 : m_ckS lkf_8 (p_TT 75) (p_INI 75) false (m_tgb s_75) p_rab (fun _ => false) (p_B 75) s_75 = true := by decide +kernel
set_option maxRecDepth 100000 in
theorem ck_76 : m_ckS lkf_8 (p_TT 76) (p_INI 76) false (m_tgb s_76) p_rab (fun _ => false) (p_B 76) s_76 = true := by decide +kernel
set_option maxRecDepth 100000 in
theorem ck_77 : m_ckS lkf_10 (p_TT 77) (p_INI 77) false (m_tgb s_77) p_rab (fun _ => false) (p_B 77) s_77 = true := by decide +kernel
set_option maxRecDepth 100000 in
theorem ck_78 : m_ckS lkf_10 (p_TT 78) (p_INI 78) false (m_tgb s_78) p_rab (fun _ => false) (p_B 78) s_78 = true := by decide +kernel
