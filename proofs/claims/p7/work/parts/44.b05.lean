theorem d_206_0 : decode prog_14_method_68_code 0 = .ok (.iconst 0, 1) := by decide +kernel
theorem d_206_1 : decode prog_14_method_68_code 1 = .ok (.istore_n 2, 1) := by decide +kernel
theorem d_206_2 : decode prog_14_method_68_code 2 = .ok (.iconst 0, 1) := by decide +kernel
theorem d_206_3 : decode prog_14_method_68_code 3 = .ok (.istore_n 3, 1) := by decide +kernel
theorem d_206_4 : decode prog_14_method_68_code 4 = .ok (.iload_n 3, 1) := by decide +kernel
theorem d_206_5 : decode prog_14_method_68_code 5 = .ok (.aload_n 0, 1) := by decide +kernel
theorem d_206_6 : decode prog_14_method_68_code 6 = .ok (.getfield 25, 3) := by decide +kernel
theorem d_206_9 : decode prog_14_method_68_code 9 = .ok (.if_icmp .ge 42, 3) := by decide +kernel
theorem d_206_12 : decode prog_14_method_68_code 12 = .ok (.iload_n 2, 1) := by decide +kernel
theorem d_206_13 : decode prog_14_method_68_code 13 = .ok (.aload_n 0, 1) := by decide +kernel
theorem d_206_14 : decode prog_14_method_68_code 14 = .ok (.getfield 16, 3) := by decide +kernel
theorem d_206_17 : decode prog_14_method_68_code 17 = .ok (.iload_n 3, 1) := by decide +kernel
theorem d_206_18 : decode prog_14_method_68_code 18 = .ok (.iaload, 1) := by decide +kernel
theorem d_206_19 : decode prog_14_method_68_code 19 = .ok (.iconst (-1), 1) := by decide +kernel
theorem d_206_20 : decode prog_14_method_68_code 20 = .ok (.if_icmp .eq 22, 3) := by decide +kernel
theorem d_206_23 : decode prog_14_method_68_code 23 = .ok (.aload_n 0, 1) := by decide +kernel
theorem d_206_24 : decode prog_14_method_68_code 24 = .ok (.iload_n 1, 1) := by decide +kernel
theorem d_206_25 : decode prog_14_method_68_code 25 = .ok (.iload_n 3, 1) := by decide +kernel
theorem d_206_26 : decode prog_14_method_68_code 26 = .ok (.invokevirtual 237, 3) := by decide +kernel
theorem d_206_29 : decode prog_14_method_68_code 29 = .ok (.aload_n 0, 1) := by decide +kernel
theorem d_206_30 : decode prog_14_method_68_code 30 = .ok (.getfield 16, 3) := by decide +kernel
theorem d_206_33 : decode prog_14_method_68_code 33 = .ok (.iload_n 3, 1) := by decide +kernel
theorem d_206_34 : decode prog_14_method_68_code 34 = .ok (.iaload, 1) := by decide +kernel
theorem d_206_35 : decode prog_14_method_68_code 35 = .ok (.if_icmp .ne 7, 3) := by decide +kernel
theorem d_206_38 : decode prog_14_method_68_code 38 = .ok (.iconst 1, 1) := by decide +kernel
theorem d_206_39 : decode prog_14_method_68_code 39 = .ok (.goto 4, 3) := by decide +kernel
theorem d_206_42 : decode prog_14_method_68_code 42 = .ok (.iconst 0, 1) := by decide +kernel
theorem d_206_43 : decode prog_14_method_68_code 43 = .ok (.iadd, 1) := by decide +kernel
theorem d_206_44 : decode prog_14_method_68_code 44 = .ok (.istore_n 2, 1) := by decide +kernel
theorem d_206_45 : decode prog_14_method_68_code 45 = .ok (.iinc 3 1, 3) := by decide +kernel
theorem d_206_48 : decode prog_14_method_68_code 48 = .ok (.goto (-44), 3) := by decide +kernel
theorem d_206_51 : decode prog_14_method_68_code 51 = .ok (.iload_n 2, 1) := by decide +kernel
theorem d_206_52 : decode prog_14_method_68_code 52 = .ok (.ireturn, 1) := by decide +kernel
theorem s_206_51 {Γ : m_G} : m_ok Γ m_tab 206 M_206 51 (g_206_51) := ok_il_n (pc := 51) d_206_51 rfl (ok_ri (pc := 52) d_206_52 rfl)
theorem s_206_43 {Γ : m_G} : m_ok Γ m_tab 206 M_206 43 (g_206_43) := ok_add (pc := 43) d_206_43 (ok_is_n (pc := 44) d_206_44 rfl (by decide) (ok_inc (pc := 45) d_206_45 rfl (by decide) (ok_go (pc := 48) (t := 4) d_206_48 rfl (by decide) rfl)))
theorem s_206_42 {Γ : m_G} : m_ok Γ m_tab 206 M_206 42 (g_206_42) := ok_ic (pc := 42) d_206_42 rfl (s_206_43)
theorem s_206_4 {Γ : m_G} : m_ok Γ m_tab 206 M_206 4 (g_206_4) := ok_il_n (pc := 4) d_206_4 rfl (ok_al_n (pc := 5) d_206_5 rfl (ok_getf (pc := 6) d_206_6 w_918 (hc1 fo_74) (ok_cige (pc := 9) (t := 51) d_206_9 rfl (by decide) rfl (ok_il_n (pc := 12) d_206_12 rfl (ok_al_n (pc := 13) d_206_13 rfl (ok_getf (pc := 14) d_206_14 w_915 (hc1 fo_71) (ok_il_n (pc := 17) d_206_17 rfl (ok_iald (pc := 18) d_206_18 (ok_ic (pc := 19) d_206_19 rfl (ok_cieq (pc := 20) (t := 42) d_206_20 rfl (by decide) rfl (ok_al_n (pc := 23) d_206_23 rfl (ok_il_n (pc := 24) d_206_24 rfl (ok_il_n (pc := 25) d_206_25 rfl (ok_cai (pc := 26) (k2 := 185) rfl rfl tb_185 (by decide) (by decide) rfl (go_V d_206_26 w_1178 w_1180 ws_60 w_11 w_1181 nn_185 (by decide) cl_12 rfl) (ok_al_n (pc := 29) d_206_29 rfl (ok_getf (pc := 30) d_206_30 w_915 (hc1 fo_71) (ok_il_n (pc := 33) d_206_33 rfl (ok_iald (pc := 34) d_206_34 (ok_cine (pc := 35) (t := 42) d_206_35 rfl (by decide) rfl (ok_ic (pc := 38) d_206_38 rfl (ok_go (pc := 39) (t := 43) d_206_39 rfl (by decide) rfl)))))))))))))))))))))
theorem s_206_0 {Γ : m_G} : m_ok Γ m_tab 206 M_206 0 (g_206_0) := ok_ic (pc := 0) d_206_0 rfl (ok_is_n (pc := 1) d_206_1 rfl (by decide) (ok_ic (pc := 2) d_206_2 rfl (ok_is_n (pc := 3) d_206_3 rfl (by decide) (s_206_4))))
theorem tst_206 {Γ : m_G} (q : Nat) : m_ts Γ (t_206 q) q := ts_n (ts_n (ts_l (k := 206) (pc := 0) tb_206 rfl (by decide) s_206_0) (ts_l (k := 206) (pc := 4) tb_206 rfl (by decide) s_206_4)) (ts_n (ts_l (k := 206) (pc := 42) tb_206 rfl (by decide) s_206_42) (ts_n (ts_l (k := 206) (pc := 43) tb_206 rfl (by decide) s_206_43) (ts_l (k := 206) (pc := 51) tb_206 rfl (by decide) s_206_51)))
theorem d_207_0 : decode prog_14_method_69_code 0 = .ok (.iload_n 1, 1) := by decide +kernel
theorem d_207_1 : decode prog_14_method_69_code 1 = .ok (.iconst 0, 1) := by decide +kernel
theorem d_207_2 : decode prog_14_method_69_code 2 = .ok (.iconst 1, 1) := by decide +kernel
theorem d_207_3 : decode prog_14_method_69_code 3 = .ok (.invokestatic 112, 3) := by decide +kernel
theorem d_207_6 : decode prog_14_method_69_code 6 = .ok (.ifCond .ne 6, 3) := by decide +kernel
theorem d_207_9 : decode prog_14_method_69_code 9 = .ok (.bipush (-2), 2) := by decide +kernel
theorem d_207_11 : decode prog_14_method_69_code 11 = .ok (.ireturn, 1) := by decide +kernel
theorem d_207_12 : decode prog_14_method_69_code 12 = .ok (.aload_n 0, 1) := by decide +kernel
theorem d_207_13 : decode prog_14_method_69_code 13 = .ok (.invokevirtual 273, 3) := by decide +kernel
theorem d_207_16 : decode prog_14_method_69_code 16 = .ok (.pop, 1) := by decide +kernel
theorem d_207_17 : decode prog_14_method_69_code 17 = .ok (.aload_n 0, 1) := by decide +kernel
theorem d_207_18 : decode prog_14_method_69_code 18 = .ok (.invokevirtual 243, 3) := by decide +kernel
theorem d_207_21 : decode prog_14_method_69_code 21 = .ok (.istore_n 2, 1) := by decide +kernel
theorem d_207_22 : decode prog_14_method_69_code 22 = .ok (.iconst 0, 1) := by decide +kernel
theorem d_207_23 : decode prog_14_method_69_code 23 = .ok (.istore_n 3, 1) := by decide +kernel
theorem d_207_24 : decode prog_14_method_69_code 24 = .ok (.iload_n 3, 1) := by decide +kernel
theorem d_207_25 : decode prog_14_method_69_code 25 = .ok (.aload_n 0, 1) := by decide +kernel
theorem d_207_26 : decode prog_14_method_69_code 26 = .ok (.getfield 58, 3) := by decide +kernel
theorem d_207_29 : decode prog_14_method_69_code 29 = .ok (.aload_n 0, 1) := by decide +kernel
theorem d_207_30 : decode prog_14_method_69_code 30 = .ok (.getfield 25, 3) := by decide +kernel
theorem d_207_33 : decode prog_14_method_69_code 33 = .ok (.iaload, 1) := by decide +kernel
theorem d_207_34 : decode prog_14_method_69_code 34 = .ok (.if_icmp .ge 81, 3) := by decide +kernel
theorem d_207_37 : decode prog_14_method_69_code 37 = .ok (.aload_n 0, 1) := by decide +kernel
theorem d_207_38 : decode prog_14_method_69_code 38 = .ok (.getfield 61, 3) := by decide +kernel
theorem d_207_41 : decode prog_14_method_69_code 41 = .ok (.iload_n 3, 1) := by decide +kernel
theorem d_207_42 : decode prog_14_method_69_code 42 = .ok (.iaload, 1) := by decide +kernel
theorem d_207_43 : decode prog_14_method_69_code 43 = .ok (.ifCond .ge 6, 3) := by decide +kernel
theorem d_207_46 : decode prog_14_method_69_code 46 = .ok (.goto 63, 3) := by decide +kernel
theorem d_207_49 : decode prog_14_method_69_code 49 = .ok (.aload_n 0, 1) := by decide +kernel
theorem d_207_50 : decode prog_14_method_69_code 50 = .ok (.iload_n 3, 1) := by decide +kernel
theorem d_207_51 : decode prog_14_method_69_code 51 = .ok (.invokevirtual 292, 3) := by decide +kernel
theorem d_207_54 : decode prog_14_method_69_code 54 = .ok (.aload_n 0, 1) := by decide +kernel
theorem d_207_55 : decode prog_14_method_69_code 55 = .ok (.iload_n 2, 1) := by decide +kernel
theorem d_207_56 : decode prog_14_method_69_code 56 = .ok (.invokevirtual 292, 3) := by decide +kernel
theorem d_207_59 : decode prog_14_method_69_code 59 = .ok (.isub, 1) := by decide +kernel
theorem d_207_60 : decode prog_14_method_69_code 60 = .ok (.istore 4, 2) := by decide +kernel
theorem d_207_62 : decode prog_14_method_69_code 62 = .ok (.iload 4, 2) := by decide +kernel
theorem d_207_64 : decode prog_14_method_69_code 64 = .ok (.ifCond .gt 43, 3) := by decide +kernel
theorem d_207_67 : decode prog_14_method_69_code 67 = .ok (.iload 4, 2) := by decide +kernel
theorem d_207_69 : decode prog_14_method_69_code 69 = .ok (.ifCond .ne 40, 3) := by decide +kernel
theorem d_207_72 : decode prog_14_method_69_code 72 = .ok (.aload_n 0, 1) := by decide +kernel
theorem d_207_73 : decode prog_14_method_69_code 73 = .ok (.getfield 61, 3) := by decide +kernel
theorem d_207_76 : decode prog_14_method_69_code 76 = .ok (.iload_n 3, 1) := by decide +kernel
theorem d_207_77 : decode prog_14_method_69_code 77 = .ok (.iaload, 1) := by decide +kernel
theorem d_207_78 : decode prog_14_method_69_code 78 = .ok (.aload_n 0, 1) := by decide +kernel
theorem d_207_79 : decode prog_14_method_69_code 79 = .ok (.getfield 61, 3) := by decide +kernel
theorem d_207_82 : decode prog_14_method_69_code 82 = .ok (.iload_n 2, 1) := by decide +kernel
theorem d_207_83 : decode prog_14_method_69_code 83 = .ok (.iaload, 1) := by decide +kernel
theorem d_207_84 : decode prog_14_method_69_code 84 = .ok (.if_icmp .lt 23, 3) := by decide +kernel
theorem d_207_87 : decode prog_14_method_69_code 87 = .ok (.aload_n 0, 1) := by decide +kernel
theorem d_207_88 : decode prog_14_method_69_code 88 = .ok (.getfield 61, 3) := by decide +kernel
theorem d_207_91 : decode prog_14_method_69_code 91 = .ok (.iload_n 3, 1) := by decide +kernel
theorem d_207_92 : decode prog_14_method_69_code 92 = .ok (.iaload, 1) := by decide +kernel
theorem d_207_93 : decode prog_14_method_69_code 93 = .ok (.aload_n 0, 1) := by decide +kernel
theorem d_207_94 : decode prog_14_method_69_code 94 = .ok (.getfield 61, 3) := by decide +kernel
theorem d_207_97 : decode prog_14_method_69_code 97 = .ok (.iload_n 2, 1) := by decide +kernel
theorem d_207_98 : decode prog_14_method_69_code 98 = .ok (.iaload, 1) := by decide +kernel
theorem d_207_99 : decode prog_14_method_69_code 99 = .ok (.if_icmp .ne 10, 3) := by decide +kernel
theorem d_207_102 : decode prog_14_method_69_code 102 = .ok (.iload_n 3, 1) := by decide +kernel
theorem d_207_103 : decode prog_14_method_69_code 103 = .ok (.iload_n 2, 1) := by decide +kernel
theorem d_207_104 : decode prog_14_method_69_code 104 = .ok (.if_icmp .ge 5, 3) := by decide +kernel
theorem d_207_107 : decode prog_14_method_69_code 107 = .ok (.iload_n 3, 1) := by decide +kernel
theorem d_207_108 : decode prog_14_method_69_code 108 = .ok (.istore_n 2, 1) := by decide +kernel
theorem d_207_109 : decode prog_14_method_69_code 109 = .ok (.iinc 3 1, 3) := by decide +kernel
theorem d_207_112 : decode prog_14_method_69_code 112 = .ok (.goto (-88), 3) := by decide +kernel
theorem d_207_115 : decode prog_14_method_69_code 115 = .ok (.iload_n 1, 1) := by decide +kernel
theorem d_207_116 : decode prog_14_method_69_code 116 = .ok (.ifCond .ne 7, 3) := by decide +kernel
theorem d_207_119 : decode prog_14_method_69_code 119 = .ok (.iload_n 2, 1) := by decide +kernel
theorem d_207_120 : decode prog_14_method_69_code 120 = .ok (.goto 8, 3) := by decide +kernel
theorem d_207_123 : decode prog_14_method_69_code 123 = .ok (.aload_n 0, 1) := by decide +kernel
theorem d_207_124 : decode prog_14_method_69_code 124 = .ok (.iload_n 2, 1) := by decide +kernel
theorem d_207_125 : decode prog_14_method_69_code 125 = .ok (.invokevirtual 292, 3) := by decide +kernel
theorem d_207_128 : decode prog_14_method_69_code 128 = .ok (.ireturn, 1) := by decide +kernel
theorem s_207_128 {Γ : m_G} : m_ok Γ m_tab 207 M_207 128 (g_207_128) := ok_ri (pc := 128) d_207_128 rfl
theorem s_207_123 {Γ : m_G} : m_ok Γ m_tab 207 M_207 123 (g_207_123) := ok_al_n (pc := 123) d_207_123 rfl (ok_il_n (pc := 124) d_207_124 rfl (ok_cai (pc := 125) (k2 := 206) rfl rfl tb_206 (by decide) (by decide) rfl (go_V d_207_125 w_1288 w_1290 ws_78 w_11 w_1291 nn_206 (by decide) cl_12 rfl) (s_207_128)))
theorem s_207_115 {Γ : m_G} : m_ok Γ m_tab 207 M_207 115 (g_207_115) := ok_il_n (pc := 115) d_207_115 rfl (ok_czne (pc := 116) (t := 123) d_207_116 rfl (by decide) rfl (ok_il_n (pc := 119) d_207_119 rfl (ok_go (pc := 120) (t := 128) d_207_120 rfl (by decide) rfl)))
theorem s_207_109 {Γ : m_G} : m_ok Γ m_tab 207 M_207 109 (g_207_109) := ok_inc (pc := 109) d_207_109 rfl (by decide) (ok_go (pc := 112) (t := 24) d_207_112 rfl (by decide) rfl)
theorem s_207_107 {Γ : m_G} : m_ok Γ m_tab 207 M_207 107 (g_207_107) := ok_il_n (pc := 107) d_207_107 rfl (ok_is_n (pc := 108) d_207_108 rfl (by decide) (s_207_109))
theorem s_207_49 {Γ : m_G} : m_ok Γ m_tab 207 M_207 49 (g_207_49) := ok_al_n (pc := 49) d_207_49 rfl (ok_il_n (pc := 50) d_207_50 rfl (ok_cai (pc := 51) (k2 := 206) rfl rfl tb_206 (by decide) (by decide) rfl (go_V d_207_51 w_1288 w_1290 ws_78 w_11 w_1291 nn_206 (by decide) cl_12 rfl) (ok_al_n (pc := 54) d_207_54 rfl (ok_il_n (pc := 55) d_207_55 rfl (ok_cai (pc := 56) (k2 := 206) rfl rfl tb_206 (by decide) (by decide) rfl (go_V d_207_56 w_1288 w_1290 ws_78 w_11 w_1291 nn_206 (by decide) cl_12 rfl) (ok_sub (pc := 59) d_207_59 (ok_is (pc := 60) d_207_60 (by decide) (ok_il (pc := 62) d_207_62 (ok_czgt (pc := 64) (t := 107) d_207_64 rfl (by decide) rfl (ok_il (pc := 67) d_207_67 (ok_czne (pc := 69) (t := 109) d_207_69 rfl (by decide) rfl (ok_al_n (pc := 72) d_207_72 rfl (ok_getf (pc := 73) d_207_73 w_942 (hc1 fo_100) (ok_il_n (pc := 76) d_207_76 rfl (ok_iald (pc := 77) d_207_77 (ok_al_n (pc := 78) d_207_78 rfl (ok_getf (pc := 79) d_207_79 w_942 (hc1 fo_100) (ok_il_n (pc := 82) d_207_82 rfl (ok_iald (pc := 83) d_207_83 (ok_cilt (pc := 84) (t := 107) d_207_84 rfl (by decide) rfl (ok_al_n (pc := 87) d_207_87 rfl (ok_getf (pc := 88) d_207_88 w_942 (hc1 fo_100) (ok_il_n (pc := 91) d_207_91 rfl (ok_iald (pc := 92) d_207_92 (ok_al_n (pc := 93) d_207_93 rfl (ok_getf (pc := 94) d_207_94 w_942 (hc1 fo_100) (ok_il_n (pc := 97) d_207_97 rfl (ok_iald (pc := 98) d_207_98 (ok_cine (pc := 99) (t := 109) d_207_99 rfl (by decide) rfl (ok_il_n (pc := 102) d_207_102 rfl (ok_il_n (pc := 103) d_207_103 rfl (ok_cige (pc := 104) (t := 109) d_207_104 rfl (by decide) rfl (s_207_107)))))))))))))))))))))))))))))))))
theorem s_207_24 {Γ : m_G} : m_ok Γ m_tab 207 M_207 24 (g_207_24) := ok_il_n (pc := 24) d_207_24 rfl (ok_al_n (pc := 25) d_207_25 rfl (ok_getf (pc := 26) d_207_26 w_941 (hc1 fo_98) (ok_al_n (pc := 29) d_207_29 rfl (ok_getf (pc := 30) d_207_30 w_918 (hc1 fo_74) (ok_iald (pc := 33) d_207_33 (ok_cige (pc := 34) (t := 115) d_207_34 rfl (by decide) rfl (ok_al_n (pc := 37) d_207_37 rfl (ok_getf (pc := 38) d_207_38 w_942 (hc1 fo_100) (ok_il_n (pc := 41) d_207_41 rfl (ok_iald (pc := 42) d_207_42 (ok_czge (pc := 43) (t := 49) d_207_43 rfl (by decide) rfl (ok_go (pc := 46) (t := 109) d_207_46 rfl (by decide) rfl))))))))))))
theorem s_207_12 {Γ : m_G} : m_ok Γ m_tab 207 M_207 12 (g_207_12) := ok_al_n (pc := 12) d_207_12 rfl (ok_cai (pc := 13) (k2 := 196) rfl rfl tb_196 (by decide) (by decide) rfl (go_V d_207_13 w_1235 w_1237 ws_69 w_11 w_1238 nn_196 (by decide) cl_12 rfl) (ok_pop (pc := 16) d_207_16 (ok_al_n (pc := 17) d_207_17 rfl (ok_cai (pc := 18) (k2 := 145) rfl rfl tb_145 (by decide) (by decide) rfl (go_V d_207_18 w_1170 w_1172 ws_58 w_11 w_1173 nn_145 (by decide) cl_12 rfl) (ok_is_n (pc := 21) d_207_21 rfl (by decide) (ok_ic (pc := 22) d_207_22 rfl (ok_is_n (pc := 23) d_207_23 rfl (by decide) (s_207_24))))))))
theorem s_207_0 {Γ : m_G} : m_ok Γ m_tab 207 M_207 0 (g_207_0) := ok_il_n (pc := 0) d_207_0 rfl (ok_ic (pc := 1) d_207_1 rfl (ok_ic (pc := 2) d_207_2 rfl (ok_cat (pc := 3) (k2 := 140) rfl tb_140 (by decide) (by decide) rfl (go_S d_207_3 w_1044 w_1045 w_11 w_1046 nn_140 (by decide)) (ok_czne (pc := 6) (t := 12) d_207_6 rfl (by decide) rfl (ok_bi (pc := 9) d_207_9 rfl (ok_ri (pc := 11) d_207_11 rfl))))))
theorem tst_207 {Γ : m_G} (q : Nat) : m_ts Γ (t_207 q) q := ts_n (ts_n (ts_n (ts_l (k := 207) (pc := 0) tb_207 rfl (by decide) s_207_0) (ts_l (k := 207) (pc := 12) tb_207 rfl (by decide) s_207_12)) (ts_n (ts_l (k := 207) (pc := 24) tb_207 rfl (by decide) s_207_24) (ts_l (k := 207) (pc := 49) tb_207 rfl (by decide) s_207_49))) (ts_n (ts_n (ts_l (k := 207) (pc := 107) tb_207 rfl (by decide) s_207_107) (ts_l (k := 207) (pc := 109) tb_207 rfl (by decide) s_207_109)) (ts_n (ts_l (k := 207) (pc := 115) tb_207 rfl (by decide) s_207_115) (ts_n (ts_l (k := 207) (pc := 123) tb_207 rfl (by decide) s_207_123) (ts_l (k := 207) (pc := 128) tb_207 rfl (by decide) s_207_128))))
theorem d_208_0 : decode prog_14_method_70_code 0 = .ok (.aload_n 0, 1) := by decide +kernel
theorem d_208_1 : decode prog_14_method_70_code 1 = .ok (.iload_n 1, 1) := by decide +kernel
theorem d_208_2 : decode prog_14_method_70_code 2 = .ok (.iload_n 2, 1) := by decide +kernel
theorem d_208_3 : decode prog_14_method_70_code 3 = .ok (.invokevirtual 120, 3) := by decide +kernel
theorem d_208_6 : decode prog_14_method_70_code 6 = .ok (.ifCond .ne 6, 3) := by decide +kernel
theorem d_208_9 : decode prog_14_method_70_code 9 = .ok (.bipush (-2), 2) := by decide +kernel
theorem d_208_11 : decode prog_14_method_70_code 11 = .ok (.ireturn, 1) := by decide +kernel
theorem d_208_12 : decode prog_14_method_70_code 12 = .ok (.aload_n 0, 1) := by decide +kernel
theorem d_208_13 : decode prog_14_method_70_code 13 = .ok (.invokevirtual 255, 3) := by decide +kernel
theorem d_208_16 : decode prog_14_method_70_code 16 = .ok (.aload_n 0, 1) := by decide +kernel
theorem d_208_17 : decode prog_14_method_70_code 17 = .ok (.invokevirtual 243, 3) := by decide +kernel
theorem d_208_20 : decode prog_14_method_70_code 20 = .ok (.istore_n 3, 1) := by decide +kernel
theorem d_208_21 : decode prog_14_method_70_code 21 = .ok (.iload_n 3, 1) := by decide +kernel
theorem d_208_22 : decode prog_14_method_70_code 22 = .ok (.aload_n 0, 1) := by decide +kernel
theorem d_208_23 : decode prog_14_method_70_code 23 = .ok (.getfield 58, 3) := by decide +kernel
theorem d_208_26 : decode prog_14_method_70_code 26 = .ok (.iload_n 1, 1) := by decide +kernel
theorem d_208_27 : decode prog_14_method_70_code 27 = .ok (.iaload, 1) := by decide +kernel
theorem d_208_28 : decode prog_14_method_70_code 28 = .ok (.aload_n 0, 1) := by decide +kernel
theorem d_208_29 : decode prog_14_method_70_code 29 = .ok (.getfield 13, 3) := by decide +kernel
theorem d_208_32 : decode prog_14_method_70_code 32 = .ok (.iload_n 2, 1) := by decide +kernel
theorem d_208_33 : decode prog_14_method_70_code 33 = .ok (.iaload, 1) := by decide +kernel
theorem d_208_34 : decode prog_14_method_70_code 34 = .ok (.aload_n 0, 1) := by decide +kernel
theorem d_208_35 : decode prog_14_method_70_code 35 = .ok (.getfield 13, 3) := by decide +kernel
theorem d_208_38 : decode prog_14_method_70_code 38 = .ok (.iload_n 1, 1) := by decide +kernel
theorem d_208_39 : decode prog_14_method_70_code 39 = .ok (.iaload, 1) := by decide +kernel
theorem d_208_40 : decode prog_14_method_70_code 40 = .ok (.isub, 1) := by decide +kernel
theorem d_208_41 : decode prog_14_method_70_code 41 = .ok (.imul, 1) := by decide +kernel
theorem d_208_42 : decode prog_14_method_70_code 42 = .ok (.iadd, 1) := by decide +kernel
theorem d_208_43 : decode prog_14_method_70_code 43 = .ok (.aload_n 0, 1) := by decide +kernel
theorem d_208_44 : decode prog_14_method_70_code 44 = .ok (.getfield 58, 3) := by decide +kernel
theorem d_208_47 : decode prog_14_method_70_code 47 = .ok (.iload_n 2, 1) := by decide +kernel
theorem d_208_48 : decode prog_14_method_70_code 48 = .ok (.iaload, 1) := by decide +kernel
theorem d_208_49 : decode prog_14_method_70_code 49 = .ok (.aload_n 0, 1) := by decide +kernel
theorem d_208_50 : decode prog_14_method_70_code 50 = .ok (.getfield 13, 3) := by decide +kernel
theorem d_208_53 : decode prog_14_method_70_code 53 = .ok (.iload_n 1, 1) := by decide +kernel
theorem d_208_54 : decode prog_14_method_70_code 54 = .ok (.iaload, 1) := by decide +kernel
theorem d_208_55 : decode prog_14_method_70_code 55 = .ok (.aload_n 0, 1) := by decide +kernel
theorem d_208_56 : decode prog_14_method_70_code 56 = .ok (.getfield 13, 3) := by decide +kernel
theorem d_208_59 : decode prog_14_method_70_code 59 = .ok (.iload_n 2, 1) := by decide +kernel
theorem d_208_60 : decode prog_14_method_70_code 60 = .ok (.iaload, 1) := by decide +kernel
theorem d_208_61 : decode prog_14_method_70_code 61 = .ok (.isub, 1) := by decide +kernel
theorem d_208_62 : decode prog_14_method_70_code 62 = .ok (.imul, 1) := by decide +kernel
theorem d_208_63 : decode prog_14_method_70_code 63 = .ok (.iadd, 1) := by decide +kernel
theorem d_208_64 : decode prog_14_method_70_code 64 = .ok (.istore 4, 2) := by decide +kernel
theorem d_208_66 : decode prog_14_method_70_code 66 = .ok (.aload_n 0, 1) := by decide +kernel
theorem d_208_67 : decode prog_14_method_70_code 67 = .ok (.getfield 101, 3) := by decide +kernel
theorem d_208_70 : decode prog_14_method_70_code 70 = .ok (.iload_n 1, 1) := by decide +kernel
theorem d_208_71 : decode prog_14_method_70_code 71 = .ok (.ishr, 1) := by decide +kernel
theorem d_208_72 : decode prog_14_method_70_code 72 = .ok (.iconst 1, 1) := by decide +kernel
theorem d_208_73 : decode prog_14_method_70_code 73 = .ok (.iand, 1) := by decide +kernel
theorem d_208_74 : decode prog_14_method_70_code 74 = .ok (.iconst 1, 1) := by decide +kernel
theorem d_208_75 : decode prog_14_method_70_code 75 = .ok (.if_icmp .eq 24, 3) := by decide +kernel
theorem d_208_78 : decode prog_14_method_70_code 78 = .ok (.aload_n 0, 1) := by decide +kernel
theorem d_208_79 : decode prog_14_method_70_code 79 = .ok (.getfield 101, 3) := by decide +kernel
theorem d_208_82 : decode prog_14_method_70_code 82 = .ok (.iload_n 2, 1) := by decide +kernel
theorem d_208_83 : decode prog_14_method_70_code 83 = .ok (.ishr, 1) := by decide +kernel
theorem d_208_84 : decode prog_14_method_70_code 84 = .ok (.iconst 1, 1) := by decide +kernel
theorem d_208_85 : decode prog_14_method_70_code 85 = .ok (.iand, 1) := by decide +kernel
theorem d_208_86 : decode prog_14_method_70_code 86 = .ok (.iconst 1, 1) := by decide +kernel
theorem d_208_87 : decode prog_14_method_70_code 87 = .ok (.if_icmp .eq 12, 3) := by decide +kernel
theorem d_208_90 : decode prog_14_method_70_code 90 = .ok (.aload_n 0, 1) := by decide +kernel
theorem d_208_91 : decode prog_14_method_70_code 91 = .ok (.iload 4, 2) := by decide +kernel
theorem d_208_93 : decode prog_14_method_70_code 93 = .ok (.invokevirtual 246, 3) := by decide +kernel
theorem d_208_96 : decode prog_14_method_70_code 96 = .ok (.ifCond .ne 6, 3) := by decide +kernel
theorem d_208_99 : decode prog_14_method_70_code 99 = .ok (.bipush (-5), 2) := by decide +kernel
theorem d_208_101 : decode prog_14_method_70_code 101 = .ok (.ireturn, 1) := by decide +kernel
theorem d_208_102 : decode prog_14_method_70_code 102 = .ok (.aload_n 0, 1) := by decide +kernel
theorem d_208_103 : decode prog_14_method_70_code 103 = .ok (.iload 4, 2) := by decide +kernel
theorem d_208_105 : decode prog_14_method_70_code 105 = .ok (.invokevirtual 267, 3) := by decide +kernel
theorem d_208_108 : decode prog_14_method_70_code 108 = .ok (.ireturn, 1) := by decide +kernel
theorem s_208_102 {Γ : m_G} : m_ok Γ m_tab 208 M_208 102 (g_208_102) := ok_al_n (pc := 102) d_208_102 rfl (ok_il (pc := 103) d_208_103 (ok_cai (pc := 105) (k2 := 195) rfl rfl tb_195 (by decide) (by decide) rfl (go_V d_208_105 w_1239 w_1241 ws_70 w_11 w_1242 nn_195 (by decide) cl_12 rfl) (ok_ri (pc := 108) d_208_108 rfl)))
theorem s_208_99 {Γ : m_G} : m_ok Γ m_tab 208 M_208 99 (g_208_99) := ok_bi (pc := 99) d_208_99 rfl (ok_ri (pc := 101) d_208_101 rfl)
theorem s_208_71 {Γ : m_G} : m_ok Γ m_tab 208 M_208 71 (g_208_71) := ok_shr (pc := 71) d_208_71 (ok_ic (pc := 72) d_208_72 rfl (ok_and (pc := 73) d_208_73 (ok_ic (pc := 74) d_208_74 rfl (ok_cieq (pc := 75) (t := 99) d_208_75 rfl (by decide) rfl (ok_al_n (pc := 78) d_208_78 rfl (ok_getf (pc := 79) d_208_79 w_921 (hc1 fo_76) (ok_il_n (pc := 82) d_208_82 rfl (ok_shr (pc := 83) d_208_83 (ok_ic (pc := 84) d_208_84 rfl (ok_and (pc := 85) d_208_85 (ok_ic (pc := 86) d_208_86 rfl (ok_cieq (pc := 87) (t := 99) d_208_87 rfl (by decide) rfl (ok_al_n (pc := 90) d_208_90 rfl (ok_il (pc := 91) d_208_91 (ok_cai (pc := 93) (k2 := 188) rfl rfl tb_188 (by decide) (by decide) rfl (go_V d_208_93 w_1174 w_1176 ws_59 w_11 w_1177 nn_188 (by decide) cl_12 rfl) (ok_czne (pc := 96) (t := 102) d_208_96 rfl (by decide) rfl (s_208_99)))))))))))))))))
theorem s_208_12 {Γ : m_G} : m_ok Γ m_tab 208 M_208 12 (g_208_12) := ok_al_n (pc := 12) d_208_12 rfl (ok_cvi (pc := 13) (k2 := 190) rfl rfl tb_190 (by decide) (by decide) rfl (go_V d_208_13 w_1190 w_1192 ws_62 w_11 w_1193 nn_190 (by decide) cl_12 rfl) (ok_al_n (pc := 16) d_208_16 rfl (ok_cai (pc := 17) (k2 := 145) rfl rfl tb_145 (by decide) (by decide) rfl (go_V d_208_17 w_1170 w_1172 ws_58 w_11 w_1173 nn_145 (by decide) cl_12 rfl) (ok_is_n (pc := 20) d_208_20 rfl (by decide) (ok_il_n (pc := 21) d_208_21 rfl (ok_al_n (pc := 22) d_208_22 rfl (ok_getf (pc := 23) d_208_23 w_941 (hc1 fo_98) (ok_il_n (pc := 26) d_208_26 rfl (ok_iald (pc := 27) d_208_27 (ok_al_n (pc := 28) d_208_28 rfl (ok_getf (pc := 29) d_208_29 w_914 (hc1 fo_72) (ok_il_n (pc := 32) d_208_32 rfl (ok_iald (pc := 33) d_208_33 (ok_al_n (pc := 34) d_208_34 rfl (ok_getf (pc := 35) d_208_35 w_914 (hc1 fo_72) (ok_il_n (pc := 38) d_208_38 rfl (ok_iald (pc := 39) d_208_39 (ok_sub (pc := 40) d_208_40 (ok_mul (pc := 41) d_208_41 (ok_add (pc := 42) d_208_42 (ok_al_n (pc := 43) d_208_43 rfl (ok_getf (pc := 44) d_208_44 w_941 (hc1 fo_98) (ok_il_n (pc := 47) d_208_47 rfl (ok_iald (pc := 48) d_208_48 (ok_al_n (pc := 49) d_208_49 rfl (ok_getf (pc := 50) d_208_50 w_914 (hc1 fo_72) (ok_il_n (pc := 53) d_208_53 rfl (ok_iald (pc := 54) d_208_54 (ok_al_n (pc := 55) d_208_55 rfl (ok_getf (pc := 56) d_208_56 w_914 (hc1 fo_72) (ok_il_n (pc := 59) d_208_59 rfl (ok_iald (pc := 60) d_208_60 (ok_sub (pc := 61) d_208_61 (ok_mul (pc := 62) d_208_62 (ok_add (pc := 63) d_208_63 (ok_is (pc := 64) d_208_64 (by decide) (ok_al_n (pc := 66) d_208_66 rfl (ok_getf (pc := 67) d_208_67 w_921 (hc1 fo_76) (ok_il_n (pc := 70) d_208_70 rfl (s_208_71))))))))))))))))))))))))))))))))))))))))
theorem s_208_0 {Γ : m_G} : m_ok Γ m_tab 208 M_208 0 (g_208_0) := ok_al_n (pc := 0) d_208_0 rfl (ok_il_n (pc := 1) d_208_1 rfl (ok_il_n (pc := 2) d_208_2 rfl (ok_cai (pc := 3) (k2 := 148) rfl rfl tb_148 (by decide) (by decide) rfl (go_V d_208_3 w_1054 w_1056 ws_41 w_11 w_1057 nn_148 (by decide) cl_12 rfl) (ok_czne (pc := 6) (t := 12) d_208_6 rfl (by decide) rfl (ok_bi (pc := 9) d_208_9 rfl (ok_ri (pc := 11) d_208_11 rfl))))))
theorem tst_208 {Γ : m_G} (q : Nat) : m_ts Γ (t_208 q) q := ts_n (ts_n (ts_l (k := 208) (pc := 0) tb_208 rfl (by decide) s_208_0) (ts_l (k := 208) (pc := 12) tb_208 rfl (by decide) s_208_12)) (ts_n (ts_l (k := 208) (pc := 99) tb_208 rfl (by decide) s_208_99) (ts_l (k := 208) (pc := 102) tb_208 rfl (by decide) s_208_102))
theorem d_209_0 : decode prog_14_method_71_code 0 = .ok (.iload_n 1, 1) := by decide +kernel
theorem d_209_1 : decode prog_14_method_71_code 1 = .ok (.ifCond .lt 12, 3) := by decide +kernel
theorem d_209_4 : decode prog_14_method_71_code 4 = .ok (.iload_n 1, 1) := by decide +kernel
theorem d_209_5 : decode prog_14_method_71_code 5 = .ok (.aload_n 0, 1) := by decide +kernel
theorem d_209_6 : decode prog_14_method_71_code 6 = .ok (.getfield 25, 3) := by decide +kernel
theorem d_209_9 : decode prog_14_method_71_code 9 = .ok (.ishr, 1) := by decide +kernel
theorem d_209_10 : decode prog_14_method_71_code 10 = .ok (.ifCond .eq 6, 3) := by decide +kernel
theorem d_209_13 : decode prog_14_method_71_code 13 = .ok (.bipush (-2), 2) := by decide +kernel
theorem d_209_15 : decode prog_14_method_71_code 15 = .ok (.ireturn, 1) := by decide +kernel
theorem d_209_16 : decode prog_14_method_71_code 16 = .ok (.iconst 1, 1) := by decide +kernel
theorem d_209_17 : decode prog_14_method_71_code 17 = .ok (.aload_n 0, 1) := by decide +kernel
theorem d_209_18 : decode prog_14_method_71_code 18 = .ok (.getfield 29, 3) := by decide +kernel
theorem d_209_21 : decode prog_14_method_71_code 21 = .ok (.ishl, 1) := by decide +kernel
theorem d_209_22 : decode prog_14_method_71_code 22 = .ok (.iconst 1, 1) := by decide +kernel
theorem d_209_23 : decode prog_14_method_71_code 23 = .ok (.isub, 1) := by decide +kernel
theorem d_209_24 : decode prog_14_method_71_code 24 = .ok (.istore_n 2, 1) := by decide +kernel
theorem d_209_25 : decode prog_14_method_71_code 25 = .ok (.iconst 0, 1) := by decide +kernel
theorem d_209_26 : decode prog_14_method_71_code 26 = .ok (.istore_n 3, 1) := by decide +kernel
theorem d_209_27 : decode prog_14_method_71_code 27 = .ok (.iload_n 3, 1) := by decide +kernel
theorem d_209_28 : decode prog_14_method_71_code 28 = .ok (.aload_n 0, 1) := by decide +kernel
theorem d_209_29 : decode prog_14_method_71_code 29 = .ok (.getfield 25, 3) := by decide +kernel
theorem d_209_32 : decode prog_14_method_71_code 32 = .ok (.if_icmp .ge 35, 3) := by decide +kernel
theorem d_209_35 : decode prog_14_method_71_code 35 = .ok (.iload_n 2, 1) := by decide +kernel
theorem d_209_36 : decode prog_14_method_71_code 36 = .ok (.iload_n 1, 1) := by decide +kernel
theorem d_209_37 : decode prog_14_method_71_code 37 = .ok (.iload_n 3, 1) := by decide +kernel
theorem d_209_38 : decode prog_14_method_71_code 38 = .ok (.ishr, 1) := by decide +kernel
theorem d_209_39 : decode prog_14_method_71_code 39 = .ok (.iconst 1, 1) := by decide +kernel
theorem d_209_40 : decode prog_14_method_71_code 40 = .ok (.iand, 1) := by decide +kernel
theorem d_209_41 : decode prog_14_method_71_code 41 = .ok (.iconst 1, 1) := by decide +kernel
theorem d_209_42 : decode prog_14_method_71_code 42 = .ok (.if_icmp .ne 16, 3) := by decide +kernel
theorem d_209_45 : decode prog_14_method_71_code 45 = .ok (.iconst 1, 1) := by decide +kernel
theorem d_209_46 : decode prog_14_method_71_code 46 = .ok (.aload_n 0, 1) := by decide +kernel
theorem d_209_47 : decode prog_14_method_71_code 47 = .ok (.getfield 13, 3) := by decide +kernel
theorem d_209_50 : decode prog_14_method_71_code 50 = .ok (.iload_n 3, 1) := by decide +kernel
theorem d_209_51 : decode prog_14_method_71_code 51 = .ok (.iaload, 1) := by decide +kernel
theorem d_209_52 : decode prog_14_method_71_code 52 = .ok (.ishl, 1) := by decide +kernel
theorem d_209_53 : decode prog_14_method_71_code 53 = .ok (.iconst (-1), 1) := by decide +kernel
theorem d_209_54 : decode prog_14_method_71_code 54 = .ok (.ixor, 1) := by decide +kernel
theorem d_209_55 : decode prog_14_method_71_code 55 = .ok (.goto 4, 3) := by decide +kernel
theorem d_209_58 : decode prog_14_method_71_code 58 = .ok (.iconst (-1), 1) := by decide +kernel
theorem d_209_59 : decode prog_14_method_71_code 59 = .ok (.iand, 1) := by decide +kernel
theorem d_209_60 : decode prog_14_method_71_code 60 = .ok (.istore_n 2, 1) := by decide +kernel
theorem d_209_61 : decode prog_14_method_71_code 61 = .ok (.iinc 3 1, 3) := by decide +kernel
theorem d_209_64 : decode prog_14_method_71_code 64 = .ok (.goto (-37), 3) := by decide +kernel
theorem d_209_67 : decode prog_14_method_71_code 67 = .ok (.iload_n 2, 1) := by decide +kernel
theorem d_209_68 : decode prog_14_method_71_code 68 = .ok (.ireturn, 1) := by decide +kernel
theorem s_209_67 {Γ : m_G} : m_ok Γ m_tab 209 M_209 67 (g_209_67) := ok_il_n (pc := 67) d_209_67 rfl (ok_ri (pc := 68) d_209_68 rfl)
theorem s_209_59 {Γ : m_G} : m_ok Γ m_tab 209 M_209 59 (g_209_59) := ok_and (pc := 59) d_209_59 (ok_is_n (pc := 60) d_209_60 rfl (by decide) (ok_inc (pc := 61) d_209_61 rfl (by decide) (ok_go (pc := 64) (t := 27) d_209_64 rfl (by decide) rfl)))
theorem s_209_58 {Γ : m_G} : m_ok Γ m_tab 209 M_209 58 (g_209_58) := ok_ic (pc := 58) d_209_58 rfl (s_209_59)
theorem s_209_27 {Γ : m_G} : m_ok Γ m_tab 209 M_209 27 (g_209_27) := ok_il_n (pc := 27) d_209_27 rfl (ok_al_n (pc := 28) d_209_28 rfl (ok_getf (pc := 29) d_209_29 w_918 (hc1 fo_74) (ok_cige (pc := 32) (t := 67) d_209_32 rfl (by decide) rfl (ok_il_n (pc := 35) d_209_35 rfl (ok_il_n (pc := 36) d_209_36 rfl (ok_il_n (pc := 37) d_209_37 rfl (ok_shr (pc := 38) d_209_38 (ok_ic (pc := 39) d_209_39 rfl (ok_and (pc := 40) d_209_40 (ok_ic (pc := 41) d_209_41 rfl (ok_cine (pc := 42) (t := 58) d_209_42 rfl (by decide) rfl (ok_ic (pc := 45) d_209_45 rfl (ok_al_n (pc := 46) d_209_46 rfl (ok_getf (pc := 47) d_209_47 w_914 (hc1 fo_72) (ok_il_n (pc := 50) d_209_50 rfl (ok_iald (pc := 51) d_209_51 (ok_shl (pc := 52) d_209_52 (ok_ic (pc := 53) d_209_53 rfl (ok_xor (pc := 54) d_209_54 (ok_go (pc := 55) (t := 59) d_209_55 rfl (by decide) rfl))))))))))))))))))))
theorem s_209_16 {Γ : m_G} : m_ok Γ m_tab 209 M_209 16 (g_209_16) := ok_ic (pc := 16) d_209_16 rfl (ok_al_n (pc := 17) d_209_17 rfl (ok_getf (pc := 18) d_209_18 w_919 (hc1 fo_75) (ok_shl (pc := 21) d_209_21 (ok_ic (pc := 22) d_209_22 rfl (ok_sub (pc := 23) d_209_23 (ok_is_n (pc := 24) d_209_24 rfl (by decide) (ok_ic (pc := 25) d_209_25 rfl (ok_is_n (pc := 26) d_209_26 rfl (by decide) (s_209_27)))))))))
theorem s_209_13 {Γ : m_G} : m_ok Γ m_tab 209 M_209 13 (g_209_13) := ok_bi (pc := 13) d_209_13 rfl (ok_ri (pc := 15) d_209_15 rfl)
theorem s_209_0 {Γ : m_G} : m_ok Γ m_tab 209 M_209 0 (g_209_0) := ok_il_n (pc := 0) d_209_0 rfl (ok_czlt (pc := 1) (t := 13) d_209_1 rfl (by decide) rfl (ok_il_n (pc := 4) d_209_4 rfl (ok_al_n (pc := 5) d_209_5 rfl (ok_getf (pc := 6) d_209_6 w_918 (hc1 fo_74) (ok_shr (pc := 9) d_209_9 (ok_czeq (pc := 10) (t := 16) d_209_10 rfl (by decide) rfl (s_209_13)))))))
theorem tst_209 {Γ : m_G} (q : Nat) : m_ts Γ (t_209 q) q := ts_n (ts_n (ts_l (k := 209) (pc := 0) tb_209 rfl (by decide) s_209_0) (ts_n (ts_l (k := 209) (pc := 13) tb_209 rfl (by decide) s_209_13) (ts_l (k := 209) (pc := 16) tb_209 rfl (by decide) s_209_16))) (ts_n (ts_n (ts_l (k := 209) (pc := 27) tb_209 rfl (by decide) s_209_27) (ts_l (k := 209) (pc := 58) tb_209 rfl (by decide) s_209_58)) (ts_n (ts_l (k := 209) (pc := 59) tb_209 rfl (by decide) s_209_59) (ts_l (k := 209) (pc := 67) tb_209 rfl (by decide) s_209_67)))
theorem d_210_0 : decode prog_14_method_72_code 0 = .ok (.aload_n 0, 1) := by decide +kernel
theorem d_210_1 : decode prog_14_method_72_code 1 = .ok (.invokevirtual 273, 3) := by decide +kernel
theorem d_210_4 : decode prog_14_method_72_code 4 = .ok (.pop, 1) := by decide +kernel
theorem d_210_5 : decode prog_14_method_72_code 5 = .ok (.iconst 0, 1) := by decide +kernel
theorem d_210_6 : decode prog_14_method_72_code 6 = .ok (.istore_n 1, 1) := by decide +kernel
theorem d_210_7 : decode prog_14_method_72_code 7 = .ok (.iconst 0, 1) := by decide +kernel
theorem d_210_8 : decode prog_14_method_72_code 8 = .ok (.istore_n 2, 1) := by decide +kernel
theorem d_210_9 : decode prog_14_method_72_code 9 = .ok (.iload_n 2, 1) := by decide +kernel
theorem d_210_10 : decode prog_14_method_72_code 10 = .ok (.aload_n 0, 1) := by decide +kernel
theorem d_210_11 : decode prog_14_method_72_code 11 = .ok (.getfield 25, 3) := by decide +kernel
theorem d_210_14 : decode prog_14_method_72_code 14 = .ok (.if_icmp .ge 32, 3) := by decide +kernel
theorem d_210_17 : decode prog_14_method_72_code 17 = .ok (.iload_n 1, 1) := by decide +kernel
theorem d_210_18 : decode prog_14_method_72_code 18 = .ok (.aload_n 0, 1) := by decide +kernel
theorem d_210_19 : decode prog_14_method_72_code 19 = .ok (.getfield 58, 3) := by decide +kernel
theorem d_210_22 : decode prog_14_method_72_code 22 = .ok (.iload_n 2, 1) := by decide +kernel
theorem d_210_23 : decode prog_14_method_72_code 23 = .ok (.iaload, 1) := by decide +kernel
theorem d_210_24 : decode prog_14_method_72_code 24 = .ok (.aload_n 0, 1) := by decide +kernel
theorem d_210_25 : decode prog_14_method_72_code 25 = .ok (.getfield 13, 3) := by decide +kernel
theorem d_210_28 : decode prog_14_method_72_code 28 = .ok (.iload_n 2, 1) := by decide +kernel
theorem d_210_29 : decode prog_14_method_72_code 29 = .ok (.iaload, 1) := by decide +kernel
theorem d_210_30 : decode prog_14_method_72_code 30 = .ok (.iconst 1, 1) := by decide +kernel
theorem d_210_31 : decode prog_14_method_72_code 31 = .ok (.iadd, 1) := by decide +kernel
theorem d_210_32 : decode prog_14_method_72_code 32 = .ok (.aload_n 0, 1) := by decide +kernel
theorem d_210_33 : decode prog_14_method_72_code 33 = .ok (.getfield 29, 3) := by decide +kernel
theorem d_210_36 : decode prog_14_method_72_code 36 = .ok (.irem, 1) := by decide +kernel
theorem d_210_37 : decode prog_14_method_72_code 37 = .ok (.imul, 1) := by decide +kernel
theorem d_210_38 : decode prog_14_method_72_code 38 = .ok (.iadd, 1) := by decide +kernel
theorem d_210_39 : decode prog_14_method_72_code 39 = .ok (.istore_n 1, 1) := by decide +kernel
theorem d_210_40 : decode prog_14_method_72_code 40 = .ok (.iinc 2 1, 3) := by decide +kernel
theorem d_210_43 : decode prog_14_method_72_code 43 = .ok (.goto (-34), 3) := by decide +kernel
theorem d_210_46 : decode prog_14_method_72_code 46 = .ok (.aload_n 0, 1) := by decide +kernel
theorem d_210_47 : decode prog_14_method_72_code 47 = .ok (.getfield 61, 3) := by decide +kernel
theorem d_210_50 : decode prog_14_method_72_code 50 = .ok (.iload_n 1, 1) := by decide +kernel
theorem d_210_51 : decode prog_14_method_72_code 51 = .ok (.iaload, 1) := by decide +kernel
theorem d_210_52 : decode prog_14_method_72_code 52 = .ok (.ireturn, 1) := by decide +kernel
theorem s_210_46 {Γ : m_G} : m_ok Γ m_tab 210 M_210 46 (g_210_46) := ok_al_n (pc := 46) d_210_46 rfl (ok_getf (pc := 47) d_210_47 w_942 (hc1 fo_100) (ok_il_n (pc := 50) d_210_50 rfl (ok_iald (pc := 51) d_210_51 (ok_ri (pc := 52) d_210_52 rfl))))
theorem s_210_9 {Γ : m_G} : m_ok Γ m_tab 210 M_210 9 (g_210_9) := ok_il_n (pc := 9) d_210_9 rfl (ok_al_n (pc := 10) d_210_10 rfl (ok_getf (pc := 11) d_210_11 w_918 (hc1 fo_74) (ok_cige (pc := 14) (t := 46) d_210_14 rfl (by decide) rfl (ok_il_n (pc := 17) d_210_17 rfl (ok_al_n (pc := 18) d_210_18 rfl (ok_getf (pc := 19) d_210_19 w_941 (hc1 fo_98) (ok_il_n (pc := 22) d_210_22 rfl (ok_iald (pc := 23) d_210_23 (ok_al_n (pc := 24) d_210_24 rfl (ok_getf (pc := 25) d_210_25 w_914 (hc1 fo_72) (ok_il_n (pc := 28) d_210_28 rfl (ok_iald (pc := 29) d_210_29 (ok_ic (pc := 30) d_210_30 rfl (ok_add (pc := 31) d_210_31 (ok_al_n (pc := 32) d_210_32 rfl (ok_getf (pc := 33) d_210_33 w_919 (hc1 fo_75) (ok_rem (pc := 36) d_210_36 (ok_mul (pc := 37) d_210_37 (ok_add (pc := 38) d_210_38 (ok_is_n (pc := 39) d_210_39 rfl (by decide) (ok_inc (pc := 40) d_210_40 rfl (by decide) (ok_go (pc := 43) (t := 9) d_210_43 rfl (by decide) rfl))))))))))))))))))))))
theorem s_210_0 {Γ : m_G} : m_ok Γ m_tab 210 M_210 0 (g_210_0) := ok_al_n (pc := 0) d_210_0 rfl (ok_cai (pc := 1) (k2 := 196) rfl rfl tb_196 (by decide) (by decide) rfl (go_V d_210_1 w_1235 w_1237 ws_69 w_11 w_1238 nn_196 (by decide) cl_12 rfl) (ok_pop (pc := 4) d_210_4 (ok_ic (pc := 5) d_210_5 rfl (ok_is_n (pc := 6) d_210_6 rfl (by decide) (ok_ic (pc := 7) d_210_7 rfl (ok_is_n (pc := 8) d_210_8 rfl (by decide) (s_210_9)))))))
theorem tst_210 {Γ : m_G} (q : Nat) : m_ts Γ (t_210 q) q := ts_n (ts_l (k := 210) (pc := 0) tb_210 rfl (by decide) s_210_0) (ts_n (ts_l (k := 210) (pc := 9) tb_210 rfl (by decide) s_210_9) (ts_l (k := 210) (pc := 46) tb_210 rfl (by decide) s_210_46))
theorem d_211_0 : decode prog_14_method_73_code 0 = .ok (.aload_n 0, 1) := by decide +kernel
theorem d_211_1 : decode prog_14_method_73_code 1 = .ok (.iload_n 1, 1) := by decide +kernel
theorem d_211_2 : decode prog_14_method_73_code 2 = .ok (.invokevirtual 282, 3) := by decide +kernel
theorem d_211_5 : decode prog_14_method_73_code 5 = .ok (.ifCond .ne 6, 3) := by decide +kernel
theorem d_211_8 : decode prog_14_method_73_code 8 = .ok (.bipush (-2), 2) := by decide +kernel
theorem d_211_10 : decode prog_14_method_73_code 10 = .ok (.ireturn, 1) := by decide +kernel
theorem d_211_11 : decode prog_14_method_73_code 11 = .ok (.aload_n 0, 1) := by decide +kernel
theorem d_211_12 : decode prog_14_method_73_code 12 = .ok (.invokevirtual 273, 3) := by decide +kernel
theorem d_211_15 : decode prog_14_method_73_code 15 = .ok (.pop, 1) := by decide +kernel
theorem d_211_16 : decode prog_14_method_73_code 16 = .ok (.aload_n 0, 1) := by decide +kernel
theorem d_211_17 : decode prog_14_method_73_code 17 = .ok (.getfield 61, 3) := by decide +kernel
theorem d_211_20 : decode prog_14_method_73_code 20 = .ok (.iload_n 1, 1) := by decide +kernel
theorem d_211_21 : decode prog_14_method_73_code 21 = .ok (.iaload, 1) := by decide +kernel
theorem d_211_22 : decode prog_14_method_73_code 22 = .ok (.ifCond .ge 5, 3) := by decide +kernel
theorem d_211_25 : decode prog_14_method_73_code 25 = .ok (.iconst (-1), 1) := by decide +kernel
theorem d_211_26 : decode prog_14_method_73_code 26 = .ok (.ireturn, 1) := by decide +kernel
theorem d_211_27 : decode prog_14_method_73_code 27 = .ok (.iconst 0, 1) := by decide +kernel
theorem d_211_28 : decode prog_14_method_73_code 28 = .ok (.istore_n 2, 1) := by decide +kernel
theorem d_211_29 : decode prog_14_method_73_code 29 = .ok (.iconst 0, 1) := by decide +kernel
theorem d_211_30 : decode prog_14_method_73_code 30 = .ok (.istore_n 3, 1) := by decide +kernel
theorem d_211_31 : decode prog_14_method_73_code 31 = .ok (.iload_n 3, 1) := by decide +kernel
theorem d_211_32 : decode prog_14_method_73_code 32 = .ok (.aload_n 0, 1) := by decide +kernel
theorem d_211_33 : decode prog_14_method_73_code 33 = .ok (.getfield 25, 3) := by decide +kernel
theorem d_211_36 : decode prog_14_method_73_code 36 = .ok (.if_icmp .ge 32, 3) := by decide +kernel
theorem d_211_39 : decode prog_14_method_73_code 39 = .ok (.iload_n 2, 1) := by decide +kernel
theorem d_211_40 : decode prog_14_method_73_code 40 = .ok (.aload_n 0, 1) := by decide +kernel
theorem d_211_41 : decode prog_14_method_73_code 41 = .ok (.iload_n 1, 1) := by decide +kernel
theorem d_211_42 : decode prog_14_method_73_code 42 = .ok (.iload_n 3, 1) := by decide +kernel
theorem d_211_43 : decode prog_14_method_73_code 43 = .ok (.invokevirtual 237, 3) := by decide +kernel
theorem d_211_46 : decode prog_14_method_73_code 46 = .ok (.aload_n 0, 1) := by decide +kernel
theorem d_211_47 : decode prog_14_method_73_code 47 = .ok (.getfield 13, 3) := by decide +kernel
theorem d_211_50 : decode prog_14_method_73_code 50 = .ok (.iload_n 3, 1) := by decide +kernel
theorem d_211_51 : decode prog_14_method_73_code 51 = .ok (.iaload, 1) := by decide +kernel
theorem d_211_52 : decode prog_14_method_73_code 52 = .ok (.if_icmp .eq 7, 3) := by decide +kernel
theorem d_211_55 : decode prog_14_method_73_code 55 = .ok (.iconst 1, 1) := by decide +kernel
theorem d_211_56 : decode prog_14_method_73_code 56 = .ok (.goto 4, 3) := by decide +kernel
theorem d_211_59 : decode prog_14_method_73_code 59 = .ok (.iconst 0, 1) := by decide +kernel
theorem d_211_60 : decode prog_14_method_73_code 60 = .ok (.iadd, 1) := by decide +kernel
theorem d_211_61 : decode prog_14_method_73_code 61 = .ok (.istore_n 2, 1) := by decide +kernel
theorem d_211_62 : decode prog_14_method_73_code 62 = .ok (.iinc 3 1, 3) := by decide +kernel
theorem d_211_65 : decode prog_14_method_73_code 65 = .ok (.goto (-34), 3) := by decide +kernel
theorem d_211_68 : decode prog_14_method_73_code 68 = .ok (.iload_n 2, 1) := by decide +kernel
theorem d_211_69 : decode prog_14_method_73_code 69 = .ok (.ireturn, 1) := by decide +kernel
theorem s_211_68 {Γ : m_G} : m_ok Γ m_tab 211 M_211 68 (g_211_68) := ok_il_n (pc := 68) d_211_68 rfl (ok_ri (pc := 69) d_211_69 rfl)
theorem s_211_60 {Γ : m_G} : m_ok Γ m_tab 211 M_211 60 (g_211_60) := ok_add (pc := 60) d_211_60 (ok_is_n (pc := 61) d_211_61 rfl (by decide) (ok_inc (pc := 62) d_211_62 rfl (by decide) (ok_go (pc := 65) (t := 31) d_211_65 rfl (by decide) rfl)))
theorem s_211_59 {Γ : m_G} : m_ok Γ m_tab 211 M_211 59 (g_211_59) := ok_ic (pc := 59) d_211_59 rfl (s_211_60)
theorem s_211_31 {Γ : m_G} : m_ok Γ m_tab 211 M_211 31 (g_211_31) := ok_il_n (pc := 31) d_211_31 rfl (ok_al_n (pc := 32) d_211_32 rfl (ok_getf (pc := 33) d_211_33 w_918 (hc1 fo_74) (ok_cige (pc := 36) (t := 68) d_211_36 rfl (by decide) rfl (ok_il_n (pc := 39) d_211_39 rfl (ok_al_n (pc := 40) d_211_40 rfl (ok_il_n (pc := 41) d_211_41 rfl (ok_il_n (pc := 42) d_211_42 rfl (ok_cai (pc := 43) (k2 := 185) rfl rfl tb_185 (by decide) (by decide) rfl (go_V d_211_43 w_1178 w_1180 ws_60 w_11 w_1181 nn_185 (by decide) cl_12 rfl) (ok_al_n (pc := 46) d_211_46 rfl (ok_getf (pc := 47) d_211_47 w_914 (hc1 fo_72) (ok_il_n (pc := 50) d_211_50 rfl (ok_iald (pc := 51) d_211_51 (ok_cieq (pc := 52) (t := 59) d_211_52 rfl (by decide) rfl (ok_ic (pc := 55) d_211_55 rfl (ok_go (pc := 56) (t := 60) d_211_56 rfl (by decide) rfl)))))))))))))))
theorem s_211_27 {Γ : m_G} : m_ok Γ m_tab 211 M_211 27 (g_211_27) := ok_ic (pc := 27) d_211_27 rfl (ok_is_n (pc := 28) d_211_28 rfl (by decide) (ok_ic (pc := 29) d_211_29 rfl (ok_is_n (pc := 30) d_211_30 rfl (by decide) (s_211_31))))
theorem s_211_11 {Γ : m_G} : m_ok Γ m_tab 211 M_211 11 (g_211_11) := ok_al_n (pc := 11) d_211_11 rfl (ok_cai (pc := 12) (k2 := 196) rfl rfl tb_196 (by decide) (by decide) rfl (go_V d_211_12 w_1235 w_1237 ws_69 w_11 w_1238 nn_196 (by decide) cl_12 rfl) (ok_pop (pc := 15) d_211_15 (ok_al_n (pc := 16) d_211_16 rfl (ok_getf (pc := 17) d_211_17 w_942 (hc1 fo_100) (ok_il_n (pc := 20) d_211_20 rfl (ok_iald (pc := 21) d_211_21 (ok_czge (pc := 22) (t := 27) d_211_22 rfl (by decide) rfl (ok_ic (pc := 25) d_211_25 rfl (ok_ri (pc := 26) d_211_26 rfl)))))))))
theorem s_211_0 {Γ : m_G} : m_ok Γ m_tab 211 M_211 0 (g_211_0) := ok_al_n (pc := 0) d_211_0 rfl (ok_il_n (pc := 1) d_211_1 rfl (ok_cai (pc := 2) (k2 := 146) rfl rfl tb_146 (by decide) (by decide) rfl (go_V d_211_2 w_1263 w_1265 ws_75 w_11 w_1266 nn_146 (by decide) cl_12 rfl) (ok_czne (pc := 5) (t := 11) d_211_5 rfl (by decide) rfl (ok_bi (pc := 8) d_211_8 rfl (ok_ri (pc := 10) d_211_10 rfl)))))
theorem tst_211 {Γ : m_G} (q : Nat) : m_ts Γ (t_211 q) q := ts_n (ts_n (ts_l (k := 211) (pc := 0) tb_211 rfl (by decide) s_211_0) (ts_n (ts_l (k := 211) (pc := 11) tb_211 rfl (by decide) s_211_11) (ts_l (k := 211) (pc := 27) tb_211 rfl (by decide) s_211_27))) (ts_n (ts_n (ts_l (k := 211) (pc := 31) tb_211 rfl (by decide) s_211_31) (ts_l (k := 211) (pc := 59) tb_211 rfl (by decide) s_211_59)) (ts_n (ts_l (k := 211) (pc := 60) tb_211 rfl (by decide) s_211_60) (ts_l (k := 211) (pc := 68) tb_211 rfl (by decide) s_211_68)))
theorem d_212_0 : decode prog_14_method_74_code 0 = .ok (.iconst 0, 1) := by decide +kernel
theorem d_212_1 : decode prog_14_method_74_code 1 = .ok (.istore_n 2, 1) := by decide +kernel
theorem d_212_2 : decode prog_14_method_74_code 2 = .ok (.iconst 0, 1) := by decide +kernel
theorem d_212_3 : decode prog_14_method_74_code 3 = .ok (.istore_n 3, 1) := by decide +kernel
theorem d_212_4 : decode prog_14_method_74_code 4 = .ok (.iload_n 3, 1) := by decide +kernel
theorem d_212_5 : decode prog_14_method_74_code 5 = .ok (.aload_n 0, 1) := by decide +kernel
theorem d_212_6 : decode prog_14_method_74_code 6 = .ok (.getfield 25, 3) := by decide +kernel
theorem d_212_9 : decode prog_14_method_74_code 9 = .ok (.if_icmp .ge 60, 3) := by decide +kernel
theorem d_212_12 : decode prog_14_method_74_code 12 = .ok (.aload_n 0, 1) := by decide +kernel
theorem d_212_13 : decode prog_14_method_74_code 13 = .ok (.getfield 16, 3) := by decide +kernel
theorem d_212_16 : decode prog_14_method_74_code 16 = .ok (.iload_n 3, 1) := by decide +kernel
theorem d_212_17 : decode prog_14_method_74_code 17 = .ok (.iaload, 1) := by decide +kernel
theorem d_212_18 : decode prog_14_method_74_code 18 = .ok (.iconst (-1), 1) := by decide +kernel
theorem d_212_19 : decode prog_14_method_74_code 19 = .ok (.if_icmp .eq 44, 3) := by decide +kernel
theorem d_212_22 : decode prog_14_method_74_code 22 = .ok (.aload_n 0, 1) := by decide +kernel
theorem d_212_23 : decode prog_14_method_74_code 23 = .ok (.iload_n 1, 1) := by decide +kernel
theorem d_212_24 : decode prog_14_method_74_code 24 = .ok (.iload_n 3, 1) := by decide +kernel
theorem d_212_25 : decode prog_14_method_74_code 25 = .ok (.invokevirtual 237, 3) := by decide +kernel
theorem d_212_28 : decode prog_14_method_74_code 28 = .ok (.aload_n 0, 1) := by decide +kernel
theorem d_212_29 : decode prog_14_method_74_code 29 = .ok (.getfield 16, 3) := by decide +kernel
theorem d_212_32 : decode prog_14_method_74_code 32 = .ok (.iload_n 3, 1) := by decide +kernel
theorem d_212_33 : decode prog_14_method_74_code 33 = .ok (.iaload, 1) := by decide +kernel
theorem d_212_34 : decode prog_14_method_74_code 34 = .ok (.if_icmp .ne 29, 3) := by decide +kernel
theorem d_212_37 : decode prog_14_method_74_code 37 = .ok (.iload_n 2, 1) := by decide +kernel
theorem d_212_38 : decode prog_14_method_74_code 38 = .ok (.aload_n 0, 1) := by decide +kernel
theorem d_212_39 : decode prog_14_method_74_code 39 = .ok (.iconst 2, 1) := by decide +kernel
theorem d_212_40 : decode prog_14_method_74_code 40 = .ok (.iload_n 3, 1) := by decide +kernel
theorem d_212_41 : decode prog_14_method_74_code 41 = .ok (.aload_n 0, 1) := by decide +kernel
theorem d_212_42 : decode prog_14_method_74_code 42 = .ok (.getfield 13, 3) := by decide +kernel
theorem d_212_45 : decode prog_14_method_74_code 45 = .ok (.iload_n 3, 1) := by decide +kernel
theorem d_212_46 : decode prog_14_method_74_code 46 = .ok (.iaload, 1) := by decide +kernel
theorem d_212_47 : decode prog_14_method_74_code 47 = .ok (.aload_n 0, 1) := by decide +kernel
theorem d_212_48 : decode prog_14_method_74_code 48 = .ok (.getfield 16, 3) := by decide +kernel
theorem d_212_51 : decode prog_14_method_74_code 51 = .ok (.iload_n 3, 1) := by decide +kernel
theorem d_212_52 : decode prog_14_method_74_code 52 = .ok (.iaload, 1) := by decide +kernel
theorem d_212_53 : decode prog_14_method_74_code 53 = .ok (.invokevirtual 228, 3) := by decide +kernel
theorem d_212_56 : decode prog_14_method_74_code 56 = .ok (.bipush 99, 2) := by decide +kernel
theorem d_212_58 : decode prog_14_method_74_code 58 = .ok (.invokestatic 231, 3) := by decide +kernel
theorem d_212_61 : decode prog_14_method_74_code 61 = .ok (.iadd, 1) := by decide +kernel
theorem d_212_62 : decode prog_14_method_74_code 62 = .ok (.istore_n 2, 1) := by decide +kernel
theorem d_212_63 : decode prog_14_method_74_code 63 = .ok (.iinc 3 1, 3) := by decide +kernel
theorem d_212_66 : decode prog_14_method_74_code 66 = .ok (.goto (-62), 3) := by decide +kernel
theorem d_212_69 : decode prog_14_method_74_code 69 = .ok (.iload_n 2, 1) := by decide +kernel
theorem d_212_70 : decode prog_14_method_74_code 70 = .ok (.ireturn, 1) := by decide +kernel
theorem s_212_69 {Γ : m_G} : m_ok Γ m_tab 212 M_212 69 (g_212_69) := ok_il_n (pc := 69) d_212_69 rfl (ok_ri (pc := 70) d_212_70 rfl)
theorem s_212_63 {Γ : m_G} : m_ok Γ m_tab 212 M_212 63 (g_212_63) := ok_inc (pc := 63) d_212_63 rfl (by decide) (ok_go (pc := 66) (t := 4) d_212_66 rfl (by decide) rfl)
theorem s_212_4 {Γ : m_G} : m_ok Γ m_tab 212 M_212 4 (g_212_4) := ok_il_n (pc := 4) d_212_4 rfl (ok_al_n (pc := 5) d_212_5 rfl (ok_getf (pc := 6) d_212_6 w_918 (hc1 fo_74) (ok_cige (pc := 9) (t := 69) d_212_9 rfl (by decide) rfl (ok_al_n (pc := 12) d_212_12 rfl (ok_getf (pc := 13) d_212_13 w_915 (hc1 fo_71) (ok_il_n (pc := 16) d_212_16 rfl (ok_iald (pc := 17) d_212_17 (ok_ic (pc := 18) d_212_18 rfl (ok_cieq (pc := 19) (t := 63) d_212_19 rfl (by decide) rfl (ok_al_n (pc := 22) d_212_22 rfl (ok_il_n (pc := 23) d_212_23 rfl (ok_il_n (pc := 24) d_212_24 rfl (ok_cai (pc := 25) (k2 := 185) rfl rfl tb_185 (by decide) (by decide) rfl (go_V d_212_25 w_1178 w_1180 ws_60 w_11 w_1181 nn_185 (by decide) cl_12 rfl) (ok_al_n (pc := 28) d_212_28 rfl (ok_getf (pc := 29) d_212_29 w_915 (hc1 fo_71) (ok_il_n (pc := 32) d_212_32 rfl (ok_iald (pc := 33) d_212_33 (ok_cine (pc := 34) (t := 63) d_212_34 rfl (by decide) rfl (ok_il_n (pc := 37) d_212_37 rfl (ok_al_n (pc := 38) d_212_38 rfl (ok_ic (pc := 39) d_212_39 rfl (ok_il_n (pc := 40) d_212_40 rfl (ok_al_n (pc := 41) d_212_41 rfl (ok_getf (pc := 42) d_212_42 w_914 (hc1 fo_72) (ok_il_n (pc := 45) d_212_45 rfl (ok_iald (pc := 46) d_212_46 (ok_al_n (pc := 47) d_212_47 rfl (ok_getf (pc := 48) d_212_48 w_915 (hc1 fo_71) (ok_il_n (pc := 51) d_212_51 rfl (ok_iald (pc := 52) d_212_52 (ok_cai (pc := 53) (k2 := 180) rfl rfl tb_180 (by decide) (by decide) rfl (go_V d_212_53 w_1202 w_1204 ws_65 w_11 w_1205 nn_180 (by decide) cl_12 rfl) (ok_bi (pc := 56) d_212_56 rfl (ok_cat (pc := 58) (k2 := 181) rfl tb_181 (by decide) (by decide) rfl (go_S d_212_58 w_1216 w_1217 w_11 w_1218 nn_181 (by decide)) (ok_add (pc := 61) d_212_61 (ok_is_n (pc := 62) d_212_62 rfl (by decide) (s_212_63))))))))))))))))))))))))))))))))))))
theorem s_212_0 {Γ : m_G} : m_ok Γ m_tab 212 M_212 0 (g_212_0) := ok_ic (pc := 0) d_212_0 rfl (ok_is_n (pc := 1) d_212_1 rfl (by decide) (ok_ic (pc := 2) d_212_2 rfl (ok_is_n (pc := 3) d_212_3 rfl (by decide) (s_212_4))))
theorem tst_212 {Γ : m_G} (q : Nat) : m_ts Γ (t_212 q) q := ts_n (ts_n (ts_l (k := 212) (pc := 0) tb_212 rfl (by decide) s_212_0) (ts_l (k := 212) (pc := 4) tb_212 rfl (by decide) s_212_4)) (ts_n (ts_l (k := 212) (pc := 63) tb_212 rfl (by decide) s_212_63) (ts_l (k := 212) (pc := 69) tb_212 rfl (by decide) s_212_69))
theorem d_213_0 : decode prog_14_method_75_code 0 = .ok (.iload_n 1, 1) := by decide +kernel
theorem d_213_1 : decode prog_14_method_75_code 1 = .ok (.iconst 0, 1) := by decide +kernel
theorem d_213_2 : decode prog_14_method_75_code 2 = .ok (.iconst 1, 1) := by decide +kernel
theorem d_213_3 : decode prog_14_method_75_code 3 = .ok (.invokestatic 112, 3) := by decide +kernel
theorem d_213_6 : decode prog_14_method_75_code 6 = .ok (.ifCond .ne 7, 3) := by decide +kernel
theorem d_213_9 : decode prog_14_method_75_code 9 = .ok (.ldc2_w 295, 3) := by decide +kernel
theorem d_213_12 : decode prog_14_method_75_code 12 = .ok (.lreturn, 1) := by decide +kernel
theorem d_213_13 : decode prog_14_method_75_code 13 = .ok (.aload_n 0, 1) := by decide +kernel
theorem d_213_14 : decode prog_14_method_75_code 14 = .ok (.invokevirtual 289, 3) := by decide +kernel
theorem d_213_17 : decode prog_14_method_75_code 17 = .ok (.iconst (-1), 1) := by decide +kernel
theorem d_213_18 : decode prog_14_method_75_code 18 = .ok (.istore_n 2, 1) := by decide +kernel
theorem d_213_19 : decode prog_14_method_75_code 19 = .ok (.iconst 0, 1) := by decide +kernel
theorem d_213_20 : decode prog_14_method_75_code 20 = .ok (.istore_n 3, 1) := by decide +kernel
theorem d_213_21 : decode prog_14_method_75_code 21 = .ok (.iconst 0, 1) := by decide +kernel
theorem d_213_22 : decode prog_14_method_75_code 22 = .ok (.istore 4, 2) := by decide +kernel
theorem d_213_24 : decode prog_14_method_75_code 24 = .ok (.iload 4, 2) := by decide +kernel
theorem d_213_26 : decode prog_14_method_75_code 26 = .ok (.aload_n 0, 1) := by decide +kernel
theorem d_213_27 : decode prog_14_method_75_code 27 = .ok (.getfield 58, 3) := by decide +kernel
theorem d_213_30 : decode prog_14_method_75_code 30 = .ok (.aload_n 0, 1) := by decide +kernel
theorem d_213_31 : decode prog_14_method_75_code 31 = .ok (.getfield 25, 3) := by decide +kernel
theorem d_213_34 : decode prog_14_method_75_code 34 = .ok (.iaload, 1) := by decide +kernel
theorem d_213_35 : decode prog_14_method_75_code 35 = .ok (.if_icmp .ge 60, 3) := by decide +kernel
theorem d_213_38 : decode prog_14_method_75_code 38 = .ok (.aload_n 0, 1) := by decide +kernel
theorem d_213_39 : decode prog_14_method_75_code 39 = .ok (.getfield 64, 3) := by decide +kernel
theorem d_213_42 : decode prog_14_method_75_code 42 = .ok (.iload 4, 2) := by decide +kernel
theorem d_213_44 : decode prog_14_method_75_code 44 = .ok (.iaload, 1) := by decide +kernel
theorem d_213_45 : decode prog_14_method_75_code 45 = .ok (.ldc_w 288, 3) := by decide +kernel
theorem d_213_48 : decode prog_14_method_75_code 48 = .ok (.if_icmp .ne 6, 3) := by decide +kernel
theorem d_213_51 : decode prog_14_method_75_code 51 = .ok (.goto 38, 3) := by decide +kernel
theorem d_213_54 : decode prog_14_method_75_code 54 = .ok (.aload_n 0, 1) := by decide +kernel
theorem d_213_55 : decode prog_14_method_75_code 55 = .ok (.iload 4, 2) := by decide +kernel
theorem d_213_57 : decode prog_14_method_75_code 57 = .ok (.invokevirtual 297, 3) := by decide +kernel
theorem d_213_60 : decode prog_14_method_75_code 60 = .ok (.aload_n 0, 1) := by decide +kernel
theorem d_213_61 : decode prog_14_method_75_code 61 = .ok (.getfield 64, 3) := by decide +kernel
theorem d_213_64 : decode prog_14_method_75_code 64 = .ok (.iload 4, 2) := by decide +kernel
theorem d_213_66 : decode prog_14_method_75_code 66 = .ok (.iaload, 1) := by decide +kernel
theorem d_213_67 : decode prog_14_method_75_code 67 = .ok (.isub, 1) := by decide +kernel
theorem d_213_68 : decode prog_14_method_75_code 68 = .ok (.istore 5, 2) := by decide +kernel
theorem d_213_70 : decode prog_14_method_75_code 70 = .ok (.iload_n 2, 1) := by decide +kernel
theorem d_213_71 : decode prog_14_method_75_code 71 = .ok (.ifCond .lt 12, 3) := by decide +kernel
theorem d_213_74 : decode prog_14_method_75_code 74 = .ok (.iload 5, 2) := by decide +kernel
theorem d_213_76 : decode prog_14_method_75_code 76 = .ok (.iload_n 3, 1) := by decide +kernel
theorem d_213_77 : decode prog_14_method_75_code 77 = .ok (.if_icmp .gt 6, 3) := by decide +kernel
theorem d_213_80 : decode prog_14_method_75_code 80 = .ok (.goto 9, 3) := by decide +kernel
theorem d_213_83 : decode prog_14_method_75_code 83 = .ok (.iload 4, 2) := by decide +kernel
theorem d_213_85 : decode prog_14_method_75_code 85 = .ok (.istore_n 2, 1) := by decide +kernel
theorem d_213_86 : decode prog_14_method_75_code 86 = .ok (.iload 5, 2) := by decide +kernel
theorem d_213_88 : decode prog_14_method_75_code 88 = .ok (.istore_n 3, 1) := by decide +kernel
theorem d_213_89 : decode prog_14_method_75_code 89 = .ok (.iinc 4 1, 3) := by decide +kernel
theorem d_213_92 : decode prog_14_method_75_code 92 = .ok (.goto (-68), 3) := by decide +kernel
theorem d_213_95 : decode prog_14_method_75_code 95 = .ok (.iload_n 1, 1) := by decide +kernel
theorem d_213_96 : decode prog_14_method_75_code 96 = .ok (.ifCond .ne 8, 3) := by decide +kernel
theorem d_213_99 : decode prog_14_method_75_code 99 = .ok (.iload_n 3, 1) := by decide +kernel
theorem d_213_100 : decode prog_14_method_75_code 100 = .ok (.i2l, 1) := by decide +kernel
theorem d_213_101 : decode prog_14_method_75_code 101 = .ok (.goto 5, 3) := by decide +kernel
theorem d_213_104 : decode prog_14_method_75_code 104 = .ok (.iload_n 2, 1) := by decide +kernel
theorem d_213_105 : decode prog_14_method_75_code 105 = .ok (.i2l, 1) := by decide +kernel
theorem d_213_106 : decode prog_14_method_75_code 106 = .ok (.lreturn, 1) := by decide +kernel
theorem s_213_106 {Γ : m_G} : m_ok Γ m_tab 213 M_213 106 (g_213_106) := ok_rl (pc := 106) d_213_106 rfl
theorem s_213_104 {Γ : m_G} : m_ok Γ m_tab 213 M_213 104 (g_213_104) := ok_il_n (pc := 104) d_213_104 rfl (ok_i2l (pc := 105) d_213_105 (s_213_106))
theorem s_213_95 {Γ : m_G} : m_ok Γ m_tab 213 M_213 95 (g_213_95) := ok_il_n (pc := 95) d_213_95 rfl (ok_czne (pc := 96) (t := 104) d_213_96 rfl (by decide) rfl (ok_il_n (pc := 99) d_213_99 rfl (ok_i2l (pc := 100) d_213_100 (ok_go (pc := 101) (t := 106) d_213_101 rfl (by decide) rfl))))
theorem s_213_89 {Γ : m_G} : m_ok Γ m_tab 213 M_213 89 (g_213_89) := ok_inc (pc := 89) d_213_89 rfl (by decide) (ok_go (pc := 92) (t := 24) d_213_92 rfl (by decide) rfl)
theorem s_213_83 {Γ : m_G} : m_ok Γ m_tab 213 M_213 83 (g_213_83) := ok_il (pc := 83) d_213_83 (ok_is_n (pc := 85) d_213_85 rfl (by decide) (ok_il (pc := 86) d_213_86 (ok_is_n (pc := 88) d_213_88 rfl (by decide) (s_213_89))))
theorem s_213_54 {Γ : m_G} : m_ok Γ m_tab 213 M_213 54 (g_213_54) := ok_al_n (pc := 54) d_213_54 rfl (ok_il (pc := 55) d_213_55 (ok_cai (pc := 57) (k2 := 212) rfl rfl tb_212 (by decide) (by decide) rfl (go_V d_213_57 w_1313 w_1315 ws_79 w_11 w_1316 nn_212 (by decide) cl_12 rfl) (ok_al_n (pc := 60) d_213_60 rfl (ok_getf (pc := 61) d_213_61 w_943 (hc1 fo_102) (ok_il (pc := 64) d_213_64 (ok_iald (pc := 66) d_213_66 (ok_sub (pc := 67) d_213_67 (ok_is (pc := 68) d_213_68 (by decide) (ok_il_n (pc := 70) d_213_70 rfl (ok_czlt (pc := 71) (t := 83) d_213_71 rfl (by decide) rfl (ok_il (pc := 74) d_213_74 (ok_il_n (pc := 76) d_213_76 rfl (ok_cigt (pc := 77) (t := 83) d_213_77 rfl (by decide) rfl (ok_go (pc := 80) (t := 89) d_213_80 rfl (by decide) rfl))))))))))))))
theorem s_213_24 {Γ : m_G} : m_ok Γ m_tab 213 M_213 24 (g_213_24) := ok_il (pc := 24) d_213_24 (ok_al_n (pc := 26) d_213_26 rfl (ok_getf (pc := 27) d_213_27 w_941 (hc1 fo_98) (ok_al_n (pc := 30) d_213_30 rfl (ok_getf (pc := 31) d_213_31 w_918 (hc1 fo_74) (ok_iald (pc := 34) d_213_34 (ok_cige (pc := 35) (t := 95) d_213_35 rfl (by decide) rfl (ok_al_n (pc := 38) d_213_38 rfl (ok_getf (pc := 39) d_213_39 w_943 (hc1 fo_102) (ok_il (pc := 42) d_213_42 (ok_iald (pc := 44) d_213_44 (ok_ldcw (pc := 45) d_213_45 w_1283 rfl (ok_cine (pc := 48) (t := 54) d_213_48 rfl (by decide) rfl (ok_go (pc := 51) (t := 89) d_213_51 rfl (by decide) rfl)))))))))))))
theorem s_213_13 {Γ : m_G} : m_ok Γ m_tab 213 M_213 13 (g_213_13) := ok_al_n (pc := 13) d_213_13 rfl (ok_cvi (pc := 14) (k2 := 204) rfl rfl tb_204 (by decide) (by decide) rfl (go_V d_213_14 w_1279 w_1281 ws_77 w_11 w_1282 nn_204 (by decide) cl_12 rfl) (ok_ic (pc := 17) d_213_17 rfl (ok_is_n (pc := 18) d_213_18 rfl (by decide) (ok_ic (pc := 19) d_213_19 rfl (ok_is_n (pc := 20) d_213_20 rfl (by decide) (ok_ic (pc := 21) d_213_21 rfl (ok_is (pc := 22) d_213_22 (by decide) (s_213_24))))))))
theorem s_213_0 {Γ : m_G} : m_ok Γ m_tab 213 M_213 0 (g_213_0) := ok_il_n (pc := 0) d_213_0 rfl (ok_ic (pc := 1) d_213_1 rfl (ok_ic (pc := 2) d_213_2 rfl (ok_cat (pc := 3) (k2 := 140) rfl tb_140 (by decide) (by decide) rfl (go_S d_213_3 w_1044 w_1045 w_11 w_1046 nn_140 (by decide)) (ok_czne (pc := 6) (t := 13) d_213_6 rfl (by decide) rfl (ok_ldc2 (pc := 9) d_213_9 w_1312 rfl (ok_rl (pc := 12) d_213_12 rfl))))))
theorem tst_213 {Γ : m_G} (q : Nat) : m_ts Γ (t_213 q) q := ts_n (ts_n (ts_n (ts_l (k := 213) (pc := 0) tb_213 rfl (by decide) s_213_0) (ts_l (k := 213) (pc := 13) tb_213 rfl (by decide) s_213_13)) (ts_n (ts_l (k := 213) (pc := 24) tb_213 rfl (by decide) s_213_24) (ts_l (k := 213) (pc := 54) tb_213 rfl (by decide) s_213_54))) (ts_n (ts_n (ts_l (k := 213) (pc := 83) tb_213 rfl (by decide) s_213_83) (ts_l (k := 213) (pc := 89) tb_213 rfl (by decide) s_213_89)) (ts_n (ts_l (k := 213) (pc := 95) tb_213 rfl (by decide) s_213_95) (ts_n (ts_l (k := 213) (pc := 104) tb_213 rfl (by decide) s_213_104) (ts_l (k := 213) (pc := 106) tb_213 rfl (by decide) s_213_106))))
theorem d_214_0 : decode prog_14_method_76_code 0 = .ok (.iload_n 1, 1) := by decide +kernel
theorem d_214_1 : decode prog_14_method_76_code 1 = .ok (.invokestatic 300, 3) := by decide +kernel
theorem d_214_4 : decode prog_14_method_76_code 4 = .ok (.ifCond .eq 12, 3) := by decide +kernel
theorem d_214_7 : decode prog_14_method_76_code 7 = .ok (.iload_n 2, 1) := by decide +kernel
theorem d_214_8 : decode prog_14_method_76_code 8 = .ok (.iconst 0, 1) := by decide +kernel
theorem d_214_9 : decode prog_14_method_76_code 9 = .ok (.iconst 1, 1) := by decide +kernel
theorem d_214_10 : decode prog_14_method_76_code 10 = .ok (.invokestatic 112, 3) := by decide +kernel
theorem d_214_13 : decode prog_14_method_76_code 13 = .ok (.ifCond .ne 6, 3) := by decide +kernel
theorem d_214_16 : decode prog_14_method_76_code 16 = .ok (.bipush (-2), 2) := by decide +kernel
theorem d_214_18 : decode prog_14_method_76_code 18 = .ok (.ireturn, 1) := by decide +kernel
theorem d_214_19 : decode prog_14_method_76_code 19 = .ok (.aload_n 0, 1) := by decide +kernel
theorem d_214_20 : decode prog_14_method_76_code 20 = .ok (.getfield 79, 3) := by decide +kernel
theorem d_214_23 : decode prog_14_method_76_code 23 = .ok (.iload_n 1, 1) := by decide +kernel
theorem d_214_24 : decode prog_14_method_76_code 24 = .ok (.iaload, 1) := by decide +kernel
theorem d_214_25 : decode prog_14_method_76_code 25 = .ok (.ifCond .ge 6, 3) := by decide +kernel
theorem d_214_28 : decode prog_14_method_76_code 28 = .ok (.bipush (-11), 2) := by decide +kernel
theorem d_214_30 : decode prog_14_method_76_code 30 = .ok (.ireturn, 1) := by decide +kernel
theorem d_214_31 : decode prog_14_method_76_code 31 = .ok (.aload_n 0, 1) := by decide +kernel
theorem d_214_32 : decode prog_14_method_76_code 32 = .ok (.invokevirtual 255, 3) := by decide +kernel
theorem d_214_35 : decode prog_14_method_76_code 35 = .ok (.aload_n 0, 1) := by decide +kernel
theorem d_214_36 : decode prog_14_method_76_code 36 = .ok (.invokevirtual 243, 3) := by decide +kernel
theorem d_214_39 : decode prog_14_method_76_code 39 = .ok (.istore_n 3, 1) := by decide +kernel
theorem d_214_40 : decode prog_14_method_76_code 40 = .ok (.iconst 0, 1) := by decide +kernel
theorem d_214_41 : decode prog_14_method_76_code 41 = .ok (.istore 4, 2) := by decide +kernel
theorem d_214_43 : decode prog_14_method_76_code 43 = .ok (.iconst (-1), 1) := by decide +kernel
theorem d_214_44 : decode prog_14_method_76_code 44 = .ok (.istore 5, 2) := by decide +kernel
theorem d_214_46 : decode prog_14_method_76_code 46 = .ok (.iconst 0, 1) := by decide +kernel
theorem d_214_47 : decode prog_14_method_76_code 47 = .ok (.istore 6, 2) := by decide +kernel
theorem d_214_49 : decode prog_14_method_76_code 49 = .ok (.iload 6, 2) := by decide +kernel
theorem d_214_51 : decode prog_14_method_76_code 51 = .ok (.aload_n 0, 1) := by decide +kernel
theorem d_214_52 : decode prog_14_method_76_code 52 = .ok (.getfield 82, 3) := by decide +kernel
theorem d_214_55 : decode prog_14_method_76_code 55 = .ok (.iload_n 1, 1) := by decide +kernel
theorem d_214_56 : decode prog_14_method_76_code 56 = .ok (.iaload, 1) := by decide +kernel
theorem d_214_57 : decode prog_14_method_76_code 57 = .ok (.if_icmp .ge 108, 3) := by decide +kernel
theorem d_214_60 : decode prog_14_method_76_code 60 = .ok (.iload 5, 2) := by decide +kernel
theorem d_214_62 : decode prog_14_method_76_code 62 = .ok (.ifCond .ge 103, 3) := by decide +kernel
theorem d_214_65 : decode prog_14_method_76_code 65 = .ok (.aload_n 0, 1) := by decide +kernel
theorem d_214_66 : decode prog_14_method_76_code 66 = .ok (.getfield 85, 3) := by decide +kernel
theorem d_214_69 : decode prog_14_method_76_code 69 = .ok (.bipush 40, 2) := by decide +kernel
theorem d_214_71 : decode prog_14_method_76_code 71 = .ok (.iload_n 1, 1) := by decide +kernel
theorem d_214_72 : decode prog_14_method_76_code 72 = .ok (.imul, 1) := by decide +kernel
theorem d_214_73 : decode prog_14_method_76_code 73 = .ok (.iload 6, 2) := by decide +kernel
theorem d_214_75 : decode prog_14_method_76_code 75 = .ok (.iadd, 1) := by decide +kernel
theorem d_214_76 : decode prog_14_method_76_code 76 = .ok (.iaload, 1) := by decide +kernel
theorem d_214_77 : decode prog_14_method_76_code 77 = .ok (.istore 7, 2) := by decide +kernel
theorem d_214_79 : decode prog_14_method_76_code 79 = .ok (.iload 7, 2) := by decide +kernel
theorem d_214_81 : decode prog_14_method_76_code 81 = .ok (.ifCond .lt 41, 3) := by decide +kernel
theorem d_214_84 : decode prog_14_method_76_code 84 = .ok (.aload_n 0, 1) := by decide +kernel
theorem d_214_85 : decode prog_14_method_76_code 85 = .ok (.iload 7, 2) := by decide +kernel
theorem d_214_87 : decode prog_14_method_76_code 87 = .ok (.iconst 5, 1) := by decide +kernel
theorem d_214_88 : decode prog_14_method_76_code 88 = .ok (.idiv, 1) := by decide +kernel
theorem d_214_89 : decode prog_14_method_76_code 89 = .ok (.invokevirtual 116, 3) := by decide +kernel
theorem d_214_92 : decode prog_14_method_76_code 92 = .ok (.ifCond .eq 30, 3) := by decide +kernel
theorem d_214_95 : decode prog_14_method_76_code 95 = .ok (.aload_n 0, 1) := by decide +kernel
theorem d_214_96 : decode prog_14_method_76_code 96 = .ok (.iload 7, 2) := by decide +kernel
theorem d_214_98 : decode prog_14_method_76_code 98 = .ok (.iconst 5, 1) := by decide +kernel
theorem d_214_99 : decode prog_14_method_76_code 99 = .ok (.irem, 1) := by decide +kernel
theorem d_214_100 : decode prog_14_method_76_code 100 = .ok (.invokevirtual 124, 3) := by decide +kernel
theorem d_214_103 : decode prog_14_method_76_code 103 = .ok (.ifCond .eq 19, 3) := by decide +kernel
theorem d_214_106 : decode prog_14_method_76_code 106 = .ok (.aload_n 0, 1) := by decide +kernel
theorem d_214_107 : decode prog_14_method_76_code 107 = .ok (.iload_n 3, 1) := by decide +kernel
theorem d_214_108 : decode prog_14_method_76_code 108 = .ok (.iload 7, 2) := by decide +kernel
theorem d_214_110 : decode prog_14_method_76_code 110 = .ok (.iconst 5, 1) := by decide +kernel
theorem d_214_111 : decode prog_14_method_76_code 111 = .ok (.idiv, 1) := by decide +kernel
theorem d_214_112 : decode prog_14_method_76_code 112 = .ok (.iload 7, 2) := by decide +kernel
theorem d_214_114 : decode prog_14_method_76_code 114 = .ok (.iconst 5, 1) := by decide +kernel
theorem d_214_115 : decode prog_14_method_76_code 115 = .ok (.irem, 1) := by decide +kernel
theorem d_214_116 : decode prog_14_method_76_code 116 = .ok (.invokevirtual 258, 3) := by decide +kernel
theorem d_214_119 : decode prog_14_method_76_code 119 = .ok (.goto 5, 3) := by decide +kernel
theorem d_214_122 : decode prog_14_method_76_code 122 = .ok (.bipush (-5), 2) := by decide +kernel
theorem d_214_124 : decode prog_14_method_76_code 124 = .ok (.istore 8, 2) := by decide +kernel
theorem d_214_126 : decode prog_14_method_76_code 126 = .ok (.iload 8, 2) := by decide +kernel
theorem d_214_128 : decode prog_14_method_76_code 128 = .ok (.ifCond .ge 10, 3) := by decide +kernel
theorem d_214_131 : decode prog_14_method_76_code 131 = .ok (.iload 6, 2) := by decide +kernel
theorem d_214_133 : decode prog_14_method_76_code 133 = .ok (.istore 5, 2) := by decide +kernel
theorem d_214_135 : decode prog_14_method_76_code 135 = .ok (.goto 24, 3) := by decide +kernel
theorem d_214_138 : decode prog_14_method_76_code 138 = .ok (.iload 4, 2) := by decide +kernel
theorem d_214_140 : decode prog_14_method_76_code 140 = .ok (.iload 8, 2) := by decide +kernel
theorem d_214_142 : decode prog_14_method_76_code 142 = .ok (.iadd, 1) := by decide +kernel
theorem d_214_143 : decode prog_14_method_76_code 143 = .ok (.istore 4, 2) := by decide +kernel
theorem d_214_145 : decode prog_14_method_76_code 145 = .ok (.aload_n 0, 1) := by decide +kernel
theorem d_214_146 : decode prog_14_method_76_code 146 = .ok (.iload_n 3, 1) := by decide +kernel
theorem d_214_147 : decode prog_14_method_76_code 147 = .ok (.iload 7, 2) := by decide +kernel
theorem d_214_149 : decode prog_14_method_76_code 149 = .ok (.iconst 5, 1) := by decide +kernel
theorem d_214_150 : decode prog_14_method_76_code 150 = .ok (.idiv, 1) := by decide +kernel
theorem d_214_151 : decode prog_14_method_76_code 151 = .ok (.iload 7, 2) := by decide +kernel
theorem d_214_153 : decode prog_14_method_76_code 153 = .ok (.iconst 5, 1) := by decide +kernel
theorem d_214_154 : decode prog_14_method_76_code 154 = .ok (.irem, 1) := by decide +kernel
theorem d_214_155 : decode prog_14_method_76_code 155 = .ok (.invokevirtual 264, 3) := by decide +kernel
theorem d_214_158 : decode prog_14_method_76_code 158 = .ok (.istore_n 3, 1) := by decide +kernel
theorem d_214_159 : decode prog_14_method_76_code 159 = .ok (.iinc 6 1, 3) := by decide +kernel
theorem d_214_162 : decode prog_14_method_76_code 162 = .ok (.goto (-113), 3) := by decide +kernel
theorem d_214_165 : decode prog_14_method_76_code 165 = .ok (.iload_n 2, 1) := by decide +kernel
theorem d_214_166 : decode prog_14_method_76_code 166 = .ok (.ifCond .ne 8, 3) := by decide +kernel
theorem d_214_169 : decode prog_14_method_76_code 169 = .ok (.iload 5, 2) := by decide +kernel
theorem d_214_171 : decode prog_14_method_76_code 171 = .ok (.goto 5, 3) := by decide +kernel
theorem d_214_174 : decode prog_14_method_76_code 174 = .ok (.iload 4, 2) := by decide +kernel
theorem d_214_176 : decode prog_14_method_76_code 176 = .ok (.ireturn, 1) := by decide +kernel
theorem s_214_176 {Γ : m_G} : m_ok Γ m_tab 214 M_214 176 (g_214_176) := ok_ri (pc := 176) d_214_176 rfl
theorem s_214_174 {Γ : m_G} : m_ok Γ m_tab 214 M_214 174 (g_214_174) := ok_il (pc := 174) d_214_174 (s_214_176)
theorem s_214_165 {Γ : m_G} : m_ok Γ m_tab 214 M_214 165 (g_214_165) := ok_il_n (pc := 165) d_214_165 rfl (ok_czne (pc := 166) (t := 174) d_214_166 rfl (by decide) rfl (ok_il (pc := 169) d_214_169 (ok_go (pc := 171) (t := 176) d_214_171 rfl (by decide) rfl)))
theorem s_214_159 {Γ : m_G} : m_ok Γ m_tab 214 M_214 159 (g_214_159) := ok_inc (pc := 159) d_214_159 rfl (by decide) (ok_go (pc := 162) (t := 49) d_214_162 rfl (by decide) rfl)
theorem s_214_138 {Γ : m_G} : m_ok Γ m_tab 214 M_214 138 (g_214_138) := ok_il (pc := 138) d_214_138 (ok_il (pc := 140) d_214_140 (ok_add (pc := 142) d_214_142 (ok_is (pc := 143) d_214_143 (by decide) (ok_al_n (pc := 145) d_214_145 rfl (ok_il_n (pc := 146) d_214_146 rfl (ok_il (pc := 147) d_214_147 (ok_ic (pc := 149) d_214_149 rfl (ok_div (pc := 150) d_214_150 (ok_il (pc := 151) d_214_151 (ok_ic (pc := 153) d_214_153 rfl (ok_rem (pc := 154) d_214_154 (ok_cai (pc := 155) (k2 := 187) rfl rfl tb_187 (by decide) (by decide) rfl (go_V d_214_155 w_1243 w_1245 ws_71 w_11 w_1246 nn_187 (by decide) cl_12 rfl) (ok_is_n (pc := 158) d_214_158 rfl (by decide) (s_214_159))))))))))))))
theorem s_214_124 {Γ : m_G} : m_ok Γ m_tab 214 M_214 124 (g_214_124) := ok_is (pc := 124) d_214_124 (by decide) (ok_il (pc := 126) d_214_126 (ok_czge (pc := 128) (t := 138) d_214_128 rfl (by decide) rfl (ok_il (pc := 131) d_214_131 (ok_is (pc := 133) d_214_133 (by decide) (ok_go (pc := 135) (t := 159) d_214_135 rfl (by decide) rfl)))))
theorem s_214_122 {Γ : m_G} : m_ok Γ m_tab 214 M_214 122 (g_214_122) := ok_bi (pc := 122) d_214_122 rfl (s_214_124)
theorem s_214_119 {Γ : m_G} : m_ok Γ m_tab 214 M_214 119 (g_214_119) := ok_go (pc := 119) (t := 124) d_214_119 rfl (by decide) rfl
theorem s_214_49 {Γ : m_G} : m_ok Γ m_tab 214 M_214 49 (g_214_49) := ok_il (pc := 49) d_214_49 (ok_al_n (pc := 51) d_214_51 rfl (ok_getf (pc := 52) d_214_52 w_952 (hc1 fo_104) (ok_il_n (pc := 55) d_214_55 rfl (ok_iald (pc := 56) d_214_56 (ok_cige (pc := 57) (t := 165) d_214_57 rfl (by decide) rfl (ok_il (pc := 60) d_214_60 (ok_czge (pc := 62) (t := 165) d_214_62 rfl (by decide) rfl (ok_al_n (pc := 65) d_214_65 rfl (ok_getf (pc := 66) d_214_66 w_953 (hc1 fo_103) (ok_bi (pc := 69) d_214_69 rfl (ok_il_n (pc := 71) d_214_71 rfl (ok_mul (pc := 72) d_214_72 (ok_il (pc := 73) d_214_73 (ok_add (pc := 75) d_214_75 (ok_iald (pc := 76) d_214_76 (ok_is (pc := 77) d_214_77 (by decide) (ok_il (pc := 79) d_214_79 (ok_czlt (pc := 81) (t := 122) d_214_81 rfl (by decide) rfl (ok_al_n (pc := 84) d_214_84 rfl (ok_il (pc := 85) d_214_85 (ok_ic (pc := 87) d_214_87 rfl (ok_div (pc := 88) d_214_88 (ok_cai (pc := 89) (k2 := 142) rfl rfl tb_142 (by decide) (by decide) rfl (go_V d_214_89 w_1058 w_1060 ws_42 w_11 w_1061 nn_142 (by decide) cl_12 rfl) (ok_czeq (pc := 92) (t := 122) d_214_92 rfl (by decide) rfl (ok_al_n (pc := 95) d_214_95 rfl (ok_il (pc := 96) d_214_96 (ok_ic (pc := 98) d_214_98 rfl (ok_rem (pc := 99) d_214_99 (ok_cai (pc := 100) (k2 := 143) rfl rfl tb_143 (by decide) (by decide) rfl (go_V d_214_100 w_1066 w_1068 ws_43 w_11 w_1069 nn_143 (by decide) cl_12 rfl) (ok_czeq (pc := 103) (t := 122) d_214_103 rfl (by decide) rfl (ok_al_n (pc := 106) d_214_106 rfl (ok_il_n (pc := 107) d_214_107 rfl (ok_il (pc := 108) d_214_108 (ok_ic (pc := 110) d_214_110 rfl (ok_div (pc := 111) d_214_111 (ok_il (pc := 112) d_214_112 (ok_ic (pc := 114) d_214_114 rfl (ok_rem (pc := 115) d_214_115 (ok_cai (pc := 116) (k2 := 186) rfl rfl tb_186 (by decide) (by decide) rfl (go_V d_214_116 w_1219 w_1221 ws_67 w_11 w_1222 nn_186 (by decide) cl_12 rfl) (s_214_119))))))))))))))))))))))))))))))))))))))))
theorem s_214_31 {Γ : m_G} : m_ok Γ m_tab 214 M_214 31 (g_214_31) := ok_al_n (pc := 31) d_214_31 rfl (ok_cvi (pc := 32) (k2 := 190) rfl rfl tb_190 (by decide) (by decide) rfl (go_V d_214_32 w_1190 w_1192 ws_62 w_11 w_1193 nn_190 (by decide) cl_12 rfl) (ok_al_n (pc := 35) d_214_35 rfl (ok_cai (pc := 36) (k2 := 145) rfl rfl tb_145 (by decide) (by decide) rfl (go_V d_214_36 w_1170 w_1172 ws_58 w_11 w_1173 nn_145 (by decide) cl_12 rfl) (ok_is_n (pc := 39) d_214_39 rfl (by decide) (ok_ic (pc := 40) d_214_40 rfl (ok_is (pc := 41) d_214_41 (by decide) (ok_ic (pc := 43) d_214_43 rfl (ok_is (pc := 44) d_214_44 (by decide) (ok_ic (pc := 46) d_214_46 rfl (ok_is (pc := 47) d_214_47 (by decide) (s_214_49)))))))))))
theorem s_214_19 {Γ : m_G} : m_ok Γ m_tab 214 M_214 19 (g_214_19) := ok_al_n (pc := 19) d_214_19 rfl (ok_getf (pc := 20) d_214_20 w_951 (hc1 fo_70) (ok_il_n (pc := 23) d_214_23 rfl (ok_iald (pc := 24) d_214_24 (ok_czge (pc := 25) (t := 31) d_214_25 rfl (by decide) rfl (ok_bi (pc := 28) d_214_28 rfl (ok_ri (pc := 30) d_214_30 rfl))))))
theorem s_214_16 {Γ : m_G} : m_ok Γ m_tab 214 M_214 16 (g_214_16) := ok_bi (pc := 16) d_214_16 rfl (ok_ri (pc := 18) d_214_18 rfl)
theorem s_214_0 {Γ : m_G} : m_ok Γ m_tab 214 M_214 0 (g_214_0) := ok_il_n (pc := 0) d_214_0 rfl (ok_cat (pc := 1) (k2 := 219) rfl tb_219 (by decide) (by decide) rfl (go_S d_214_1 w_1321 w_1322 w_11 w_1323 nn_219 (by decide)) (ok_czeq (pc := 4) (t := 16) d_214_4 rfl (by decide) rfl (ok_il_n (pc := 7) d_214_7 rfl (ok_ic (pc := 8) d_214_8 rfl (ok_ic (pc := 9) d_214_9 rfl (ok_cat (pc := 10) (k2 := 140) rfl tb_140 (by decide) (by decide) rfl (go_S d_214_10 w_1044 w_1045 w_11 w_1046 nn_140 (by decide)) (ok_czne (pc := 13) (t := 19) d_214_13 rfl (by decide) rfl (s_214_16))))))))
theorem tst_214 {Γ : m_G} (q : Nat) : m_ts Γ (t_214 q) q := ts_n (ts_n (ts_n (ts_l (k := 214) (pc := 0) tb_214 rfl (by decide) s_214_0) (ts_n (ts_l (k := 214) (pc := 16) tb_214 rfl (by decide) s_214_16) (ts_l (k := 214) (pc := 19) tb_214 rfl (by decide) s_214_19))) (ts_n (ts_l (k := 214) (pc := 31) tb_214 rfl (by decide) s_214_31) (ts_n (ts_l (k := 214) (pc := 49) tb_214 rfl (by decide) s_214_49) (ts_l (k := 214) (pc := 122) tb_214 rfl (by decide) s_214_122)))) (ts_n (ts_n (ts_l (k := 214) (pc := 124) tb_214 rfl (by decide) s_214_124) (ts_n (ts_l (k := 214) (pc := 138) tb_214 rfl (by decide) s_214_138) (ts_l (k := 214) (pc := 159) tb_214 rfl (by decide) s_214_159))) (ts_n (ts_l (k := 214) (pc := 165) tb_214 rfl (by decide) s_214_165) (ts_n (ts_l (k := 214) (pc := 174) tb_214 rfl (by decide) s_214_174) (ts_l (k := 214) (pc := 176) tb_214 rfl (by decide) s_214_176))))
theorem d_215_0 : decode prog_14_method_77_code 0 = .ok (.iload_n 2, 1) := by decide +kernel
theorem d_215_1 : decode prog_14_method_77_code 1 = .ok (.iconst 0, 1) := by decide +kernel
theorem d_215_2 : decode prog_14_method_77_code 2 = .ok (.sipush 200, 3) := by decide +kernel
theorem d_215_5 : decode prog_14_method_77_code 5 = .ok (.invokestatic 112, 3) := by decide +kernel
theorem d_215_8 : decode prog_14_method_77_code 8 = .ok (.ifCond .ne 6, 3) := by decide +kernel
theorem d_215_11 : decode prog_14_method_77_code 11 = .ok (.bipush (-2), 2) := by decide +kernel
theorem d_215_13 : decode prog_14_method_77_code 13 = .ok (.ireturn, 1) := by decide +kernel
theorem d_215_14 : decode prog_14_method_77_code 14 = .ok (.aload_n 0, 1) := by decide +kernel
theorem d_215_15 : decode prog_14_method_77_code 15 = .ok (.invokevirtual 255, 3) := by decide +kernel
theorem d_215_18 : decode prog_14_method_77_code 18 = .ok (.aload_n 0, 1) := by decide +kernel
theorem d_215_19 : decode prog_14_method_77_code 19 = .ok (.invokevirtual 243, 3) := by decide +kernel
theorem d_215_22 : decode prog_14_method_77_code 22 = .ok (.istore_n 3, 1) := by decide +kernel
theorem d_215_23 : decode prog_14_method_77_code 23 = .ok (.iload_n 1, 1) := by decide +kernel
theorem d_215_24 : decode prog_14_method_77_code 24 = .ok (.istore 4, 2) := by decide +kernel
theorem d_215_26 : decode prog_14_method_77_code 26 = .ok (.iconst 0, 1) := by decide +kernel
theorem d_215_27 : decode prog_14_method_77_code 27 = .ok (.istore 5, 2) := by decide +kernel
theorem d_215_29 : decode prog_14_method_77_code 29 = .ok (.iload 5, 2) := by decide +kernel
theorem d_215_31 : decode prog_14_method_77_code 31 = .ok (.iload_n 2, 1) := by decide +kernel
theorem d_215_32 : decode prog_14_method_77_code 32 = .ok (.if_icmp .ge 67, 3) := by decide +kernel
theorem d_215_35 : decode prog_14_method_77_code 35 = .ok (.iload 4, 2) := by decide +kernel
theorem d_215_37 : decode prog_14_method_77_code 37 = .ok (.ldc_w 303, 3) := by decide +kernel
theorem d_215_40 : decode prog_14_method_77_code 40 = .ok (.imul, 1) := by decide +kernel
theorem d_215_41 : decode prog_14_method_77_code 41 = .ok (.sipush 12345, 3) := by decide +kernel
theorem d_215_44 : decode prog_14_method_77_code 44 = .ok (.iadd, 1) := by decide +kernel
theorem d_215_45 : decode prog_14_method_77_code 45 = .ok (.istore 4, 2) := by decide +kernel
theorem d_215_47 : decode prog_14_method_77_code 47 = .ok (.iload 4, 2) := by decide +kernel
theorem d_215_49 : decode prog_14_method_77_code 49 = .ok (.bipush 8, 2) := by decide +kernel
theorem d_215_51 : decode prog_14_method_77_code 51 = .ok (.iushr, 1) := by decide +kernel
theorem d_215_52 : decode prog_14_method_77_code 52 = .ok (.aload_n 0, 1) := by decide +kernel
theorem d_215_53 : decode prog_14_method_77_code 53 = .ok (.getfield 25, 3) := by decide +kernel
theorem d_215_56 : decode prog_14_method_77_code 56 = .ok (.irem, 1) := by decide +kernel
theorem d_215_57 : decode prog_14_method_77_code 57 = .ok (.istore 6, 2) := by decide +kernel
theorem d_215_59 : decode prog_14_method_77_code 59 = .ok (.iload 4, 2) := by decide +kernel
theorem d_215_61 : decode prog_14_method_77_code 61 = .ok (.bipush 16, 2) := by decide +kernel
theorem d_215_63 : decode prog_14_method_77_code 63 = .ok (.iushr, 1) := by decide +kernel
theorem d_215_64 : decode prog_14_method_77_code 64 = .ok (.aload_n 0, 1) := by decide +kernel
theorem d_215_65 : decode prog_14_method_77_code 65 = .ok (.getfield 29, 3) := by decide +kernel
theorem d_215_68 : decode prog_14_method_77_code 68 = .ok (.irem, 1) := by decide +kernel
theorem d_215_69 : decode prog_14_method_77_code 69 = .ok (.istore 7, 2) := by decide +kernel
theorem d_215_71 : decode prog_14_method_77_code 71 = .ok (.aload_n 0, 1) := by decide +kernel
theorem d_215_72 : decode prog_14_method_77_code 72 = .ok (.iload_n 3, 1) := by decide +kernel
theorem d_215_73 : decode prog_14_method_77_code 73 = .ok (.iload 6, 2) := by decide +kernel
theorem d_215_75 : decode prog_14_method_77_code 75 = .ok (.iload 7, 2) := by decide +kernel
theorem d_215_77 : decode prog_14_method_77_code 77 = .ok (.invokevirtual 258, 3) := by decide +kernel
theorem d_215_80 : decode prog_14_method_77_code 80 = .ok (.ifCond .lt 13, 3) := by decide +kernel
theorem d_215_83 : decode prog_14_method_77_code 83 = .ok (.aload_n 0, 1) := by decide +kernel
theorem d_215_84 : decode prog_14_method_77_code 84 = .ok (.iload_n 3, 1) := by decide +kernel
theorem d_215_85 : decode prog_14_method_77_code 85 = .ok (.iload 6, 2) := by decide +kernel
theorem d_215_87 : decode prog_14_method_77_code 87 = .ok (.iload 7, 2) := by decide +kernel
theorem d_215_89 : decode prog_14_method_77_code 89 = .ok (.invokevirtual 264, 3) := by decide +kernel
theorem d_215_92 : decode prog_14_method_77_code 92 = .ok (.istore_n 3, 1) := by decide +kernel
theorem d_215_93 : decode prog_14_method_77_code 93 = .ok (.iinc 5 1, 3) := by decide +kernel
theorem d_215_96 : decode prog_14_method_77_code 96 = .ok (.goto (-67), 3) := by decide +kernel
theorem d_215_99 : decode prog_14_method_77_code 99 = .ok (.iload_n 3, 1) := by decide +kernel
theorem d_215_100 : decode prog_14_method_77_code 100 = .ok (.ireturn, 1) := by decide +kernel
theorem s_215_99 {Γ : m_G} : m_ok Γ m_tab 215 M_215 99 (g_215_99) := ok_il_n (pc := 99) d_215_99 rfl (ok_ri (pc := 100) d_215_100 rfl)
theorem s_215_93 {Γ : m_G} : m_ok Γ m_tab 215 M_215 93 (g_215_93) := ok_inc (pc := 93) d_215_93 rfl (by decide) (ok_go (pc := 96) (t := 29) d_215_96 rfl (by decide) rfl)
theorem s_215_29 {Γ : m_G} : m_ok Γ m_tab 215 M_215 29 (g_215_29) := ok_il (pc := 29) d_215_29 (ok_il_n (pc := 31) d_215_31 rfl (ok_cige (pc := 32) (t := 99) d_215_32 rfl (by decide) rfl (ok_il (pc := 35) d_215_35 (ok_ldcw (pc := 37) d_215_37 w_1328 rfl (ok_mul (pc := 40) d_215_40 (ok_si (pc := 41) d_215_41 rfl (ok_add (pc := 44) d_215_44 (ok_is (pc := 45) d_215_45 (by decide) (ok_il (pc := 47) d_215_47 (ok_bi (pc := 49) d_215_49 rfl (ok_ushr (pc := 51) d_215_51 (ok_al_n (pc := 52) d_215_52 rfl (ok_getf (pc := 53) d_215_53 w_918 (hc1 fo_74) (ok_rem (pc := 56) d_215_56 (ok_is (pc := 57) d_215_57 (by decide) (ok_il (pc := 59) d_215_59 (ok_bi (pc := 61) d_215_61 rfl (ok_ushr (pc := 63) d_215_63 (ok_al_n (pc := 64) d_215_64 rfl (ok_getf (pc := 65) d_215_65 w_919 (hc1 fo_75) (ok_rem (pc := 68) d_215_68 (ok_is (pc := 69) d_215_69 (by decide) (ok_al_n (pc := 71) d_215_71 rfl (ok_il_n (pc := 72) d_215_72 rfl (ok_il (pc := 73) d_215_73 (ok_il (pc := 75) d_215_75 (ok_cai (pc := 77) (k2 := 186) rfl rfl tb_186 (by decide) (by decide) rfl (go_V d_215_77 w_1219 w_1221 ws_67 w_11 w_1222 nn_186 (by decide) cl_12 rfl) (ok_czlt (pc := 80) (t := 93) d_215_80 rfl (by decide) rfl (ok_al_n (pc := 83) d_215_83 rfl (ok_il_n (pc := 84) d_215_84 rfl (ok_il (pc := 85) d_215_85 (ok_il (pc := 87) d_215_87 (ok_cai (pc := 89) (k2 := 187) rfl rfl tb_187 (by decide) (by decide) rfl (go_V d_215_89 w_1243 w_1245 ws_71 w_11 w_1246 nn_187 (by decide) cl_12 rfl) (ok_is_n (pc := 92) d_215_92 rfl (by decide) (s_215_93)))))))))))))))))))))))))))))))))))
theorem s_215_14 {Γ : m_G} : m_ok Γ m_tab 215 M_215 14 (g_215_14) := ok_al_n (pc := 14) d_215_14 rfl (ok_cvi (pc := 15) (k2 := 190) rfl rfl tb_190 (by decide) (by decide) rfl (go_V d_215_15 w_1190 w_1192 ws_62 w_11 w_1193 nn_190 (by decide) cl_12 rfl) (ok_al_n (pc := 18) d_215_18 rfl (ok_cai (pc := 19) (k2 := 145) rfl rfl tb_145 (by decide) (by decide) rfl (go_V d_215_19 w_1170 w_1172 ws_58 w_11 w_1173 nn_145 (by decide) cl_12 rfl) (ok_is_n (pc := 22) d_215_22 rfl (by decide) (ok_il_n (pc := 23) d_215_23 rfl (ok_is (pc := 24) d_215_24 (by decide) (ok_ic (pc := 26) d_215_26 rfl (ok_is (pc := 27) d_215_27 (by decide) (s_215_29)))))))))
theorem s_215_0 {Γ : m_G} : m_ok Γ m_tab 215 M_215 0 (g_215_0) := ok_il_n (pc := 0) d_215_0 rfl (ok_ic (pc := 1) d_215_1 rfl (ok_si (pc := 2) d_215_2 rfl (ok_cat (pc := 5) (k2 := 140) rfl tb_140 (by decide) (by decide) rfl (go_S d_215_5 w_1044 w_1045 w_11 w_1046 nn_140 (by decide)) (ok_czne (pc := 8) (t := 14) d_215_8 rfl (by decide) rfl (ok_bi (pc := 11) d_215_11 rfl (ok_ri (pc := 13) d_215_13 rfl))))))
theorem tst_215 {Γ : m_G} (q : Nat) : m_ts Γ (t_215 q) q := ts_n (ts_n (ts_l (k := 215) (pc := 0) tb_215 rfl (by decide) s_215_0) (ts_l (k := 215) (pc := 14) tb_215 rfl (by decide) s_215_14)) (ts_n (ts_l (k := 215) (pc := 29) tb_215 rfl (by decide) s_215_29) (ts_n (ts_l (k := 215) (pc := 93) tb_215 rfl (by decide) s_215_93) (ts_l (k := 215) (pc := 99) tb_215 rfl (by decide) s_215_99)))
theorem d_216_0 : decode prog_14_method_78_code 0 = .ok (.aload_n 0, 1) := by decide +kernel
theorem d_216_1 : decode prog_14_method_78_code 1 = .ok (.iconst 1, 1) := by decide +kernel
theorem d_216_2 : decode prog_14_method_78_code 2 = .ok (.putfield 104, 3) := by decide +kernel
theorem d_216_5 : decode prog_14_method_78_code 5 = .ok (.iconst 0, 1) := by decide +kernel
theorem d_216_6 : decode prog_14_method_78_code 6 = .ok (.istore_n 1, 1) := by decide +kernel
theorem d_216_7 : decode prog_14_method_78_code 7 = .ok (.iload_n 1, 1) := by decide +kernel
theorem d_216_8 : decode prog_14_method_78_code 8 = .ok (.bipush 6, 2) := by decide +kernel
theorem d_216_10 : decode prog_14_method_78_code 10 = .ok (.if_icmp .ge 33, 3) := by decide +kernel
theorem d_216_13 : decode prog_14_method_78_code 13 = .ok (.aload_n 0, 1) := by decide +kernel
theorem d_216_14 : decode prog_14_method_78_code 14 = .ok (.getfield 73, 3) := by decide +kernel
theorem d_216_17 : decode prog_14_method_78_code 17 = .ok (.iload_n 1, 1) := by decide +kernel
theorem d_216_18 : decode prog_14_method_78_code 18 = .ok (.aload_n 0, 1) := by decide +kernel
theorem d_216_19 : decode prog_14_method_78_code 19 = .ok (.getfield 13, 3) := by decide +kernel
theorem d_216_22 : decode prog_14_method_78_code 22 = .ok (.iload_n 1, 1) := by decide +kernel
theorem d_216_23 : decode prog_14_method_78_code 23 = .ok (.iaload, 1) := by decide +kernel
theorem d_216_24 : decode prog_14_method_78_code 24 = .ok (.iastore, 1) := by decide +kernel
theorem d_216_25 : decode prog_14_method_78_code 25 = .ok (.aload_n 0, 1) := by decide +kernel
theorem d_216_26 : decode prog_14_method_78_code 26 = .ok (.getfield 76, 3) := by decide +kernel
theorem d_216_29 : decode prog_14_method_78_code 29 = .ok (.iload_n 1, 1) := by decide +kernel
theorem d_216_30 : decode prog_14_method_78_code 30 = .ok (.aload_n 0, 1) := by decide +kernel
theorem d_216_31 : decode prog_14_method_78_code 31 = .ok (.getfield 16, 3) := by decide +kernel
theorem d_216_34 : decode prog_14_method_78_code 34 = .ok (.iload_n 1, 1) := by decide +kernel
theorem d_216_35 : decode prog_14_method_78_code 35 = .ok (.iaload, 1) := by decide +kernel
theorem d_216_36 : decode prog_14_method_78_code 36 = .ok (.iastore, 1) := by decide +kernel
theorem d_216_37 : decode prog_14_method_78_code 37 = .ok (.iinc 1 1, 3) := by decide +kernel
theorem d_216_40 : decode prog_14_method_78_code 40 = .ok (.goto (-33), 3) := by decide +kernel
theorem d_216_43 : decode prog_14_method_78_code 43 = .ok (.aload_n 0, 1) := by decide +kernel
theorem d_216_44 : decode prog_14_method_78_code 44 = .ok (.aload_n 0, 1) := by decide +kernel
theorem d_216_45 : decode prog_14_method_78_code 45 = .ok (.getfield 98, 3) := by decide +kernel
theorem d_216_48 : decode prog_14_method_78_code 48 = .ok (.putfield 304, 3) := by decide +kernel
theorem d_216_51 : decode prog_14_method_78_code 51 = .ok (.aload_n 0, 1) := by decide +kernel
theorem d_216_52 : decode prog_14_method_78_code 52 = .ok (.aload_n 0, 1) := by decide +kernel
theorem d_216_53 : decode prog_14_method_78_code 53 = .ok (.getfield 101, 3) := by decide +kernel
theorem d_216_56 : decode prog_14_method_78_code 56 = .ok (.putfield 307, 3) := by decide +kernel
theorem d_216_59 : decode prog_14_method_78_code 59 = .ok (.aload_n 0, 1) := by decide +kernel
theorem d_216_60 : decode prog_14_method_78_code 60 = .ok (.aload_n 0, 1) := by decide +kernel
theorem d_216_61 : decode prog_14_method_78_code 61 = .ok (.getfield 215, 3) := by decide +kernel
theorem d_216_64 : decode prog_14_method_78_code 64 = .ok (.putfield 310, 3) := by decide +kernel
theorem d_216_67 : decode prog_14_method_78_code 67 = .ok (.aload_n 0, 1) := by decide +kernel
theorem d_216_68 : decode prog_14_method_78_code 68 = .ok (.invokevirtual 243, 3) := by decide +kernel
theorem d_216_71 : decode prog_14_method_78_code 71 = .ok (.ireturn, 1) := by decide +kernel
theorem s_216_43 {Γ : m_G} : m_ok Γ m_tab 216 M_216 43 (g_216_43) := ok_al_n (pc := 43) d_216_43 rfl (ok_al_n (pc := 44) d_216_44 rfl (ok_getf (pc := 45) d_216_45 w_920 (hc1 fo_77) (ok_putf (pc := 48) d_216_48 w_948 (hc1 ⟨_, _, _, tyX12, cl_12, in_12, by decide, rfl, rfl, rfl, tyX12_ok, nmX12, Or.inl rfl⟩) pd_0 vt_I (ok_al_n (pc := 51) d_216_51 rfl (ok_al_n (pc := 52) d_216_52 rfl (ok_getf (pc := 53) d_216_53 w_921 (hc1 fo_76) (ok_putf (pc := 56) d_216_56 w_949 (hc1 ⟨_, _, _, tyX12, cl_12, in_12, by decide, rfl, rfl, rfl, tyX12_ok, nmX12, Or.inl rfl⟩) pd_0 vt_I (ok_al_n (pc := 59) d_216_59 rfl (ok_al_n (pc := 60) d_216_60 rfl (ok_getf (pc := 61) d_216_61 w_923 (hc1 fo_95) (ok_putf (pc := 64) d_216_64 w_950 (hc1 ⟨_, _, _, tyX12, cl_12, in_12, by decide, rfl, rfl, rfl, tyX12_ok, nmX12, Or.inl rfl⟩) pd_0 vt_I (ok_al_n (pc := 67) d_216_67 rfl (ok_cai (pc := 68) (k2 := 145) rfl rfl tb_145 (by decide) (by decide) rfl (go_V d_216_68 w_1170 w_1172 ws_58 w_11 w_1173 nn_145 (by decide) cl_12 rfl) (ok_ri (pc := 71) d_216_71 rfl))))))))))))))
theorem s_216_7 {Γ : m_G} : m_ok Γ m_tab 216 M_216 7 (g_216_7) := ok_il_n (pc := 7) d_216_7 rfl (ok_bi (pc := 8) d_216_8 rfl (ok_cige (pc := 10) (t := 43) d_216_10 rfl (by decide) rfl (ok_al_n (pc := 13) d_216_13 rfl (ok_getf (pc := 14) d_216_14 w_946 (hc1 fo_106) (ok_il_n (pc := 17) d_216_17 rfl (ok_al_n (pc := 18) d_216_18 rfl (ok_getf (pc := 19) d_216_19 w_914 (hc1 fo_72) (ok_il_n (pc := 22) d_216_22 rfl (ok_iald (pc := 23) d_216_23 (ok_iast (pc := 24) d_216_24 (ok_al_n (pc := 25) d_216_25 rfl (ok_getf (pc := 26) d_216_26 w_947 (hc1 fo_105) (ok_il_n (pc := 29) d_216_29 rfl (ok_al_n (pc := 30) d_216_30 rfl (ok_getf (pc := 31) d_216_31 w_915 (hc1 fo_71) (ok_il_n (pc := 34) d_216_34 rfl (ok_iald (pc := 35) d_216_35 (ok_iast (pc := 36) d_216_36 (ok_inc (pc := 37) d_216_37 rfl (by decide) (ok_go (pc := 40) (t := 7) d_216_40 rfl (by decide) rfl))))))))))))))))))))
theorem s_216_0 {Γ : m_G} : m_ok Γ m_tab 216 M_216 0 (g_216_0) := ok_al_n (pc := 0) d_216_0 rfl (ok_ic (pc := 1) d_216_1 rfl (ok_putf (pc := 2) d_216_2 w_924 (hc1 ⟨_, _, _, tyX12, cl_12, in_12, by decide, rfl, rfl, rfl, tyX12_ok, nmX12, Or.inl rfl⟩) pd_4 vt_Z (ok_ic (pc := 5) d_216_5 rfl (ok_is_n (pc := 6) d_216_6 rfl (by decide) (s_216_7)))))
theorem tst_216 {Γ : m_G} (q : Nat) : m_ts Γ (t_216 q) q := ts_n (ts_l (k := 216) (pc := 0) tb_216 rfl (by decide) s_216_0) (ts_n (ts_l (k := 216) (pc := 7) tb_216 rfl (by decide) s_216_7) (ts_l (k := 216) (pc := 43) tb_216 rfl (by decide) s_216_43))
theorem d_217_0 : decode prog_14_method_79_code 0 = .ok (.aload_n 0, 1) := by decide +kernel
theorem d_217_1 : decode prog_14_method_79_code 1 = .ok (.getfield 104, 3) := by decide +kernel
theorem d_217_4 : decode prog_14_method_79_code 4 = .ok (.ifCond .ne 6, 3) := by decide +kernel
theorem d_217_7 : decode prog_14_method_79_code 7 = .ok (.bipush (-3), 2) := by decide +kernel
theorem d_217_9 : decode prog_14_method_79_code 9 = .ok (.ireturn, 1) := by decide +kernel
theorem d_217_10 : decode prog_14_method_79_code 10 = .ok (.iconst 0, 1) := by decide +kernel
theorem d_217_11 : decode prog_14_method_79_code 11 = .ok (.istore_n 1, 1) := by decide +kernel
theorem d_217_12 : decode prog_14_method_79_code 12 = .ok (.iload_n 1, 1) := by decide +kernel
theorem d_217_13 : decode prog_14_method_79_code 13 = .ok (.bipush 6, 2) := by decide +kernel
theorem d_217_15 : decode prog_14_method_79_code 15 = .ok (.if_icmp .ge 33, 3) := by decide +kernel
theorem d_217_18 : decode prog_14_method_79_code 18 = .ok (.aload_n 0, 1) := by decide +kernel
theorem d_217_19 : decode prog_14_method_79_code 19 = .ok (.getfield 13, 3) := by decide +kernel
theorem d_217_22 : decode prog_14_method_79_code 22 = .ok (.iload_n 1, 1) := by decide +kernel
theorem d_217_23 : decode prog_14_method_79_code 23 = .ok (.aload_n 0, 1) := by decide +kernel
theorem d_217_24 : decode prog_14_method_79_code 24 = .ok (.getfield 73, 3) := by decide +kernel
theorem d_217_27 : decode prog_14_method_79_code 27 = .ok (.iload_n 1, 1) := by decide +kernel
theorem d_217_28 : decode prog_14_method_79_code 28 = .ok (.iaload, 1) := by decide +kernel
theorem d_217_29 : decode prog_14_method_79_code 29 = .ok (.iastore, 1) := by decide +kernel
theorem d_217_30 : decode prog_14_method_79_code 30 = .ok (.aload_n 0, 1) := by decide +kernel
theorem d_217_31 : decode prog_14_method_79_code 31 = .ok (.getfield 16, 3) := by decide +kernel
theorem d_217_34 : decode prog_14_method_79_code 34 = .ok (.iload_n 1, 1) := by decide +kernel
theorem d_217_35 : decode prog_14_method_79_code 35 = .ok (.aload_n 0, 1) := by decide +kernel
theorem d_217_36 : decode prog_14_method_79_code 36 = .ok (.getfield 76, 3) := by decide +kernel
theorem d_217_39 : decode prog_14_method_79_code 39 = .ok (.iload_n 1, 1) := by decide +kernel
theorem d_217_40 : decode prog_14_method_79_code 40 = .ok (.iaload, 1) := by decide +kernel
theorem d_217_41 : decode prog_14_method_79_code 41 = .ok (.iastore, 1) := by decide +kernel
theorem d_217_42 : decode prog_14_method_79_code 42 = .ok (.iinc 1 1, 3) := by decide +kernel
theorem d_217_45 : decode prog_14_method_79_code 45 = .ok (.goto (-33), 3) := by decide +kernel
theorem d_217_48 : decode prog_14_method_79_code 48 = .ok (.aload_n 0, 1) := by decide +kernel
theorem d_217_49 : decode prog_14_method_79_code 49 = .ok (.aload_n 0, 1) := by decide +kernel
theorem d_217_50 : decode prog_14_method_79_code 50 = .ok (.getfield 304, 3) := by decide +kernel
theorem d_217_53 : decode prog_14_method_79_code 53 = .ok (.putfield 98, 3) := by decide +kernel
theorem d_217_56 : decode prog_14_method_79_code 56 = .ok (.aload_n 0, 1) := by decide +kernel
theorem d_217_57 : decode prog_14_method_79_code 57 = .ok (.aload_n 0, 1) := by decide +kernel
theorem d_217_58 : decode prog_14_method_79_code 58 = .ok (.getfield 307, 3) := by decide +kernel
theorem d_217_61 : decode prog_14_method_79_code 61 = .ok (.putfield 101, 3) := by decide +kernel
theorem d_217_64 : decode prog_14_method_79_code 64 = .ok (.aload_n 0, 1) := by decide +kernel
theorem d_217_65 : decode prog_14_method_79_code 65 = .ok (.aload_n 0, 1) := by decide +kernel
theorem d_217_66 : decode prog_14_method_79_code 66 = .ok (.getfield 310, 3) := by decide +kernel
theorem d_217_69 : decode prog_14_method_79_code 69 = .ok (.putfield 215, 3) := by decide +kernel
theorem d_217_72 : decode prog_14_method_79_code 72 = .ok (.aload_n 0, 1) := by decide +kernel
theorem d_217_73 : decode prog_14_method_79_code 73 = .ok (.invokevirtual 243, 3) := by decide +kernel
theorem d_217_76 : decode prog_14_method_79_code 76 = .ok (.ireturn, 1) := by decide +kernel
theorem s_217_48 {Γ : m_G} : m_ok Γ m_tab 217 M_217 48 (g_217_48) := ok_al_n (pc := 48) d_217_48 rfl (ok_al_n (pc := 49) d_217_49 rfl (ok_getf (pc := 50) d_217_50 w_948 (hc1 fo_109) (ok_putf (pc := 53) d_217_53 w_920 (hc1 ⟨_, _, _, tyX12, cl_12, in_12, by decide, rfl, rfl, rfl, tyX12_ok, nmX12, Or.inl rfl⟩) pd_0 vt_I (ok_al_n (pc := 56) d_217_56 rfl (ok_al_n (pc := 57) d_217_57 rfl (ok_getf (pc := 58) d_217_58 w_949 (hc1 fo_108) (ok_putf (pc := 61) d_217_61 w_921 (hc1 ⟨_, _, _, tyX12, cl_12, in_12, by decide, rfl, rfl, rfl, tyX12_ok, nmX12, Or.inl rfl⟩) pd_0 vt_I (ok_al_n (pc := 64) d_217_64 rfl (ok_al_n (pc := 65) d_217_65 rfl (ok_getf (pc := 66) d_217_66 w_950 (hc1 fo_107) (ok_putf (pc := 69) d_217_69 w_923 (hc1 ⟨_, _, _, tyX12, cl_12, in_12, by decide, rfl, rfl, rfl, tyX12_ok, nmX12, Or.inl rfl⟩) pd_0 vt_I (ok_al_n (pc := 72) d_217_72 rfl (ok_cai (pc := 73) (k2 := 145) rfl rfl tb_145 (by decide) (by decide) rfl (go_V d_217_73 w_1170 w_1172 ws_58 w_11 w_1173 nn_145 (by decide) cl_12 rfl) (ok_ri (pc := 76) d_217_76 rfl))))))))))))))
theorem s_217_12 {Γ : m_G} : m_ok Γ m_tab 217 M_217 12 (g_217_12) := ok_il_n (pc := 12) d_217_12 rfl (ok_bi (pc := 13) d_217_13 rfl (ok_cige (pc := 15) (t := 48) d_217_15 rfl (by decide) rfl (ok_al_n (pc := 18) d_217_18 rfl (ok_getf (pc := 19) d_217_19 w_914 (hc1 fo_72) (ok_il_n (pc := 22) d_217_22 rfl (ok_al_n (pc := 23) d_217_23 rfl (ok_getf (pc := 24) d_217_24 w_946 (hc1 fo_106) (ok_il_n (pc := 27) d_217_27 rfl (ok_iald (pc := 28) d_217_28 (ok_iast (pc := 29) d_217_29 (ok_al_n (pc := 30) d_217_30 rfl (ok_getf (pc := 31) d_217_31 w_915 (hc1 fo_71) (ok_il_n (pc := 34) d_217_34 rfl (ok_al_n (pc := 35) d_217_35 rfl (ok_getf (pc := 36) d_217_36 w_947 (hc1 fo_105) (ok_il_n (pc := 39) d_217_39 rfl (ok_iald (pc := 40) d_217_40 (ok_iast (pc := 41) d_217_41 (ok_inc (pc := 42) d_217_42 rfl (by decide) (ok_go (pc := 45) (t := 12) d_217_45 rfl (by decide) rfl))))))))))))))))))))
theorem s_217_10 {Γ : m_G} : m_ok Γ m_tab 217 M_217 10 (g_217_10) := ok_ic (pc := 10) d_217_10 rfl (ok_is_n (pc := 11) d_217_11 rfl (by decide) (s_217_12))
theorem s_217_0 {Γ : m_G} : m_ok Γ m_tab 217 M_217 0 (g_217_0) := ok_al_n (pc := 0) d_217_0 rfl (ok_getf (pc := 1) d_217_1 w_924 (hc1 fo_110) (ok_czne (pc := 4) (t := 10) d_217_4 rfl (by decide) rfl (ok_bi (pc := 7) d_217_7 rfl (ok_ri (pc := 9) d_217_9 rfl))))
theorem tst_217 {Γ : m_G} (q : Nat) : m_ts Γ (t_217 q) q := ts_n (ts_n (ts_l (k := 217) (pc := 0) tb_217 rfl (by decide) s_217_0) (ts_l (k := 217) (pc := 10) tb_217 rfl (by decide) s_217_10)) (ts_n (ts_l (k := 217) (pc := 12) tb_217 rfl (by decide) s_217_12) (ts_l (k := 217) (pc := 48) tb_217 rfl (by decide) s_217_48))
theorem d_218_0 : decode prog_14_method_80_code 0 = .ok (.iload_n 1, 1) := by decide +kernel
theorem d_218_1 : decode prog_14_method_80_code 1 = .ok (.tableswitch 87 0 7 #[47, 52, 57, 62, 67, 72, 77, 82], 47) := by decide +kernel
theorem d_218_48 : decode prog_14_method_80_code 48 = .ok (.aload_n 0, 1) := by decide +kernel
theorem d_218_49 : decode prog_14_method_80_code 49 = .ok (.getfield 25, 3) := by decide +kernel
theorem d_218_52 : decode prog_14_method_80_code 52 = .ok (.ireturn, 1) := by decide +kernel
theorem d_218_53 : decode prog_14_method_80_code 53 = .ok (.aload_n 0, 1) := by decide +kernel
theorem d_218_54 : decode prog_14_method_80_code 54 = .ok (.getfield 29, 3) := by decide +kernel
theorem d_218_57 : decode prog_14_method_80_code 57 = .ok (.ireturn, 1) := by decide +kernel
theorem d_218_58 : decode prog_14_method_80_code 58 = .ok (.aload_n 0, 1) := by decide +kernel
theorem d_218_59 : decode prog_14_method_80_code 59 = .ok (.getfield 127, 3) := by decide +kernel
theorem d_218_62 : decode prog_14_method_80_code 62 = .ok (.ireturn, 1) := by decide +kernel
theorem d_218_63 : decode prog_14_method_80_code 63 = .ok (.aload_n 0, 1) := by decide +kernel
theorem d_218_64 : decode prog_14_method_80_code 64 = .ok (.getfield 98, 3) := by decide +kernel
theorem d_218_67 : decode prog_14_method_80_code 67 = .ok (.ireturn, 1) := by decide +kernel
theorem d_218_68 : decode prog_14_method_80_code 68 = .ok (.aload_n 0, 1) := by decide +kernel
theorem d_218_69 : decode prog_14_method_80_code 69 = .ok (.invokevirtual 243, 3) := by decide +kernel
theorem d_218_72 : decode prog_14_method_80_code 72 = .ok (.ireturn, 1) := by decide +kernel
theorem d_218_73 : decode prog_14_method_80_code 73 = .ok (.aload_n 0, 1) := by decide +kernel
theorem d_218_74 : decode prog_14_method_80_code 74 = .ok (.getfield 52, 3) := by decide +kernel
theorem d_218_77 : decode prog_14_method_80_code 77 = .ok (.ireturn, 1) := by decide +kernel
theorem d_218_78 : decode prog_14_method_80_code 78 = .ok (.aload_n 0, 1) := by decide +kernel
theorem d_218_79 : decode prog_14_method_80_code 79 = .ok (.getfield 148, 3) := by decide +kernel
theorem d_218_82 : decode prog_14_method_80_code 82 = .ok (.ireturn, 1) := by decide +kernel
theorem d_218_83 : decode prog_14_method_80_code 83 = .ok (.aload_n 0, 1) := by decide +kernel
theorem d_218_84 : decode prog_14_method_80_code 84 = .ok (.getfield 215, 3) := by decide +kernel
theorem d_218_87 : decode prog_14_method_80_code 87 = .ok (.ireturn, 1) := by decide +kernel
theorem d_218_88 : decode prog_14_method_80_code 88 = .ok (.bipush (-2), 2) := by decide +kernel
theorem d_218_90 : decode prog_14_method_80_code 90 = .ok (.ireturn, 1) := by decide +kernel
theorem s_218_88 {Γ : m_G} : m_ok Γ m_tab 218 M_218 88 (g_218_88) := ok_bi (pc := 88) d_218_88 rfl (ok_ri (pc := 90) d_218_90 rfl)
theorem s_218_83 {Γ : m_G} : m_ok Γ m_tab 218 M_218 83 (g_218_83) := ok_al_n (pc := 83) d_218_83 rfl (ok_getf (pc := 84) d_218_84 w_923 (hc1 fo_95) (ok_ri (pc := 87) d_218_87 rfl))
theorem s_218_78 {Γ : m_G} : m_ok Γ m_tab 218 M_218 78 (g_218_78) := ok_al_n (pc := 78) d_218_78 rfl (ok_getf (pc := 79) d_218_79 w_931 (hc1 fo_84) (ok_ri (pc := 82) d_218_82 rfl))
theorem s_218_73 {Γ : m_G} : m_ok Γ m_tab 218 M_218 73 (g_218_73) := ok_al_n (pc := 73) d_218_73 rfl (ok_getf (pc := 74) d_218_74 w_932 (hc1 fo_94) (ok_ri (pc := 77) d_218_77 rfl))
theorem s_218_68 {Γ : m_G} : m_ok Γ m_tab 218 M_218 68 (g_218_68) := ok_al_n (pc := 68) d_218_68 rfl (ok_cai (pc := 69) (k2 := 145) rfl rfl tb_145 (by decide) (by decide) rfl (go_V d_218_69 w_1170 w_1172 ws_58 w_11 w_1173 nn_145 (by decide) cl_12 rfl) (ok_ri (pc := 72) d_218_72 rfl))
theorem s_218_63 {Γ : m_G} : m_ok Γ m_tab 218 M_218 63 (g_218_63) := ok_al_n (pc := 63) d_218_63 rfl (ok_getf (pc := 64) d_218_64 w_920 (hc1 fo_77) (ok_ri (pc := 67) d_218_67 rfl))
theorem s_218_58 {Γ : m_G} : m_ok Γ m_tab 218 M_218 58 (g_218_58) := ok_al_n (pc := 58) d_218_58 rfl (ok_getf (pc := 59) d_218_59 w_922 (hc1 fo_78) (ok_ri (pc := 62) d_218_62 rfl))
theorem s_218_53 {Γ : m_G} : m_ok Γ m_tab 218 M_218 53 (g_218_53) := ok_al_n (pc := 53) d_218_53 rfl (ok_getf (pc := 54) d_218_54 w_919 (hc1 fo_75) (ok_ri (pc := 57) d_218_57 rfl))
theorem s_218_48 {Γ : m_G} : m_ok Γ m_tab 218 M_218 48 (g_218_48) := ok_al_n (pc := 48) d_218_48 rfl (ok_getf (pc := 49) d_218_49 w_918 (hc1 fo_74) (ok_ri (pc := 52) d_218_52 rfl))
theorem s_218_0 {Γ : m_G} : m_ok Γ m_tab 218 M_218 0 (g_218_0) := ok_il_n (pc := 0) d_218_0 rfl (ok_tsw (pc := 1) d_218_1 rfl rfl (by decide +kernel) (by decide +kernel) (by decide) (by decide) (by decide +kernel) (by decide))
theorem tst_218 {Γ : m_G} (q : Nat) : m_ts Γ (t_218 q) q := ts_n (ts_n (ts_n (ts_l (k := 218) (pc := 0) tb_218 rfl (by decide) s_218_0) (ts_l (k := 218) (pc := 48) tb_218 rfl (by decide) s_218_48)) (ts_n (ts_l (k := 218) (pc := 53) tb_218 rfl (by decide) s_218_53) (ts_n (ts_l (k := 218) (pc := 58) tb_218 rfl (by decide) s_218_58) (ts_l (k := 218) (pc := 63) tb_218 rfl (by decide) s_218_63)))) (ts_n (ts_n (ts_l (k := 218) (pc := 68) tb_218 rfl (by decide) s_218_68) (ts_l (k := 218) (pc := 73) tb_218 rfl (by decide) s_218_73)) (ts_n (ts_l (k := 218) (pc := 78) tb_218 rfl (by decide) s_218_78) (ts_n (ts_l (k := 218) (pc := 83) tb_218 rfl (by decide) s_218_83) (ts_l (k := 218) (pc := 88) tb_218 rfl (by decide) s_218_88))))
theorem d_219_0 : decode prog_14_method_81_code 0 = .ok (.iload_n 0, 1) := by decide +kernel
theorem d_219_1 : decode prog_14_method_81_code 1 = .ok (.ifCond .lt 12, 3) := by decide +kernel
theorem d_219_4 : decode prog_14_method_81_code 4 = .ok (.iload_n 0, 1) := by decide +kernel
theorem d_219_5 : decode prog_14_method_81_code 5 = .ok (.iconst 4, 1) := by decide +kernel
theorem d_219_6 : decode prog_14_method_81_code 6 = .ok (.if_icmp .ge 7, 3) := by decide +kernel
theorem d_219_9 : decode prog_14_method_81_code 9 = .ok (.iconst 1, 1) := by decide +kernel
theorem d_219_10 : decode prog_14_method_81_code 10 = .ok (.goto 4, 3) := by decide +kernel
theorem d_219_13 : decode prog_14_method_81_code 13 = .ok (.iconst 0, 1) := by decide +kernel
theorem d_219_14 : decode prog_14_method_81_code 14 = .ok (.ireturn, 1) := by decide +kernel
theorem s_219_14 {Γ : m_G} : m_ok Γ m_tab 219 M_219 14 (g_219_14) := ok_rz (pc := 14) d_219_14 rfl
theorem s_219_13 {Γ : m_G} : m_ok Γ m_tab 219 M_219 13 (g_219_13) := ok_ic (pc := 13) d_219_13 rfl (s_219_14)
theorem s_219_0 {Γ : m_G} : m_ok Γ m_tab 219 M_219 0 (g_219_0) := ok_il_n (pc := 0) d_219_0 rfl (ok_czlt (pc := 1) (t := 13) d_219_1 rfl (by decide) rfl (ok_il_n (pc := 4) d_219_4 rfl (ok_ic (pc := 5) d_219_5 rfl (ok_cige (pc := 6) (t := 13) d_219_6 rfl (by decide) rfl (ok_ic (pc := 9) d_219_9 rfl (ok_go (pc := 10) (t := 14) d_219_10 rfl (by decide) rfl))))))
theorem tst_219 {Γ : m_G} (q : Nat) : m_ts Γ (t_219 q) q := ts_n (ts_l (k := 219) (pc := 0) tb_219 rfl (by decide) s_219_0) (ts_n (ts_l (k := 219) (pc := 13) tb_219 rfl (by decide) s_219_13) (ts_l (k := 219) (pc := 14) tb_219 rfl (by decide) s_219_14))
theorem d_220_0 : decode prog_14_method_82_code 0 = .ok (.iload_n 1, 1) := by decide +kernel
theorem d_220_1 : decode prog_14_method_82_code 1 = .ok (.invokestatic 300, 3) := by decide +kernel
theorem d_220_4 : decode prog_14_method_82_code 4 = .ok (.ifCond .eq 12, 3) := by decide +kernel
theorem d_220_7 : decode prog_14_method_82_code 7 = .ok (.iload_n 2, 1) := by decide +kernel
theorem d_220_8 : decode prog_14_method_82_code 8 = .ok (.iconst (-1), 1) := by decide +kernel
theorem d_220_9 : decode prog_14_method_82_code 9 = .ok (.iconst 2, 1) := by decide +kernel
theorem d_220_10 : decode prog_14_method_82_code 10 = .ok (.invokestatic 112, 3) := by decide +kernel
theorem d_220_13 : decode prog_14_method_82_code 13 = .ok (.ifCond .ne 6, 3) := by decide +kernel
theorem d_220_16 : decode prog_14_method_82_code 16 = .ok (.bipush (-2), 2) := by decide +kernel
theorem d_220_18 : decode prog_14_method_82_code 18 = .ok (.ireturn, 1) := by decide +kernel
theorem d_220_19 : decode prog_14_method_82_code 19 = .ok (.iload_n 2, 1) := by decide +kernel
theorem d_220_20 : decode prog_14_method_82_code 20 = .ok (.ifCond .lt 12, 3) := by decide +kernel
theorem d_220_23 : decode prog_14_method_82_code 23 = .ok (.iload_n 3, 1) := by decide +kernel
theorem d_220_24 : decode prog_14_method_82_code 24 = .ok (.bipush 40, 2) := by decide +kernel
theorem d_220_26 : decode prog_14_method_82_code 26 = .ok (.if_icmp .le 6, 3) := by decide +kernel
theorem d_220_29 : decode prog_14_method_82_code 29 = .ok (.bipush (-2), 2) := by decide +kernel
theorem d_220_31 : decode prog_14_method_82_code 31 = .ok (.ireturn, 1) := by decide +kernel
theorem d_220_32 : decode prog_14_method_82_code 32 = .ok (.iload_n 2, 1) := by decide +kernel
theorem d_220_33 : decode prog_14_method_82_code 33 = .ok (.ifCond .lt 10, 3) := by decide +kernel
theorem d_220_36 : decode prog_14_method_82_code 36 = .ok (.iload_n 3, 1) := by decide +kernel
theorem d_220_37 : decode prog_14_method_82_code 37 = .ok (.ifCond .ge 6, 3) := by decide +kernel
theorem d_220_40 : decode prog_14_method_82_code 40 = .ok (.bipush (-14), 2) := by decide +kernel
theorem d_220_42 : decode prog_14_method_82_code 42 = .ok (.ireturn, 1) := by decide +kernel
theorem d_220_43 : decode prog_14_method_82_code 43 = .ok (.aload_n 0, 1) := by decide +kernel
theorem d_220_44 : decode prog_14_method_82_code 44 = .ok (.getfield 79, 3) := by decide +kernel
theorem d_220_47 : decode prog_14_method_82_code 47 = .ok (.iload_n 1, 1) := by decide +kernel
theorem d_220_48 : decode prog_14_method_82_code 48 = .ok (.iload_n 2, 1) := by decide +kernel
theorem d_220_49 : decode prog_14_method_82_code 49 = .ok (.iastore, 1) := by decide +kernel
theorem d_220_50 : decode prog_14_method_82_code 50 = .ok (.aload_n 0, 1) := by decide +kernel
theorem d_220_51 : decode prog_14_method_82_code 51 = .ok (.getfield 82, 3) := by decide +kernel
theorem d_220_54 : decode prog_14_method_82_code 54 = .ok (.iload_n 1, 1) := by decide +kernel
theorem d_220_55 : decode prog_14_method_82_code 55 = .ok (.iload_n 2, 1) := by decide +kernel
theorem d_220_56 : decode prog_14_method_82_code 56 = .ok (.ifCond .ge 7, 3) := by decide +kernel
theorem d_220_59 : decode prog_14_method_82_code 59 = .ok (.iconst 0, 1) := by decide +kernel
theorem d_220_60 : decode prog_14_method_82_code 60 = .ok (.goto 4, 3) := by decide +kernel
theorem d_220_63 : decode prog_14_method_82_code 63 = .ok (.iload_n 3, 1) := by decide +kernel
theorem d_220_64 : decode prog_14_method_82_code 64 = .ok (.iastore, 1) := by decide +kernel
theorem d_220_65 : decode prog_14_method_82_code 65 = .ok (.iconst 0, 1) := by decide +kernel
theorem d_220_66 : decode prog_14_method_82_code 66 = .ok (.istore 4, 2) := by decide +kernel
theorem d_220_68 : decode prog_14_method_82_code 68 = .ok (.iload 4, 2) := by decide +kernel
theorem d_220_70 : decode prog_14_method_82_code 70 = .ok (.aload_n 0, 1) := by decide +kernel
theorem d_220_71 : decode prog_14_method_82_code 71 = .ok (.getfield 82, 3) := by decide +kernel
theorem d_220_74 : decode prog_14_method_82_code 74 = .ok (.iload_n 1, 1) := by decide +kernel
theorem d_220_75 : decode prog_14_method_82_code 75 = .ok (.iaload, 1) := by decide +kernel
theorem d_220_76 : decode prog_14_method_82_code 76 = .ok (.if_icmp .ge 22, 3) := by decide +kernel
theorem d_220_79 : decode prog_14_method_82_code 79 = .ok (.aload_n 0, 1) := by decide +kernel
theorem d_220_80 : decode prog_14_method_82_code 80 = .ok (.getfield 85, 3) := by decide +kernel
theorem d_220_83 : decode prog_14_method_82_code 83 = .ok (.bipush 40, 2) := by decide +kernel
theorem d_220_85 : decode prog_14_method_82_code 85 = .ok (.iload_n 1, 1) := by decide +kernel
theorem d_220_86 : decode prog_14_method_82_code 86 = .ok (.imul, 1) := by decide +kernel
theorem d_220_87 : decode prog_14_method_82_code 87 = .ok (.iload 4, 2) := by decide +kernel
theorem d_220_89 : decode prog_14_method_82_code 89 = .ok (.iadd, 1) := by decide +kernel
theorem d_220_90 : decode prog_14_method_82_code 90 = .ok (.iconst 0, 1) := by decide +kernel
theorem d_220_91 : decode prog_14_method_82_code 91 = .ok (.iastore, 1) := by decide +kernel
theorem d_220_92 : decode prog_14_method_82_code 92 = .ok (.iinc 4 1, 3) := by decide +kernel
theorem d_220_95 : decode prog_14_method_82_code 95 = .ok (.goto (-27), 3) := by decide +kernel
theorem d_220_98 : decode prog_14_method_82_code 98 = .ok (.iconst 1, 1) := by decide +kernel
theorem d_220_99 : decode prog_14_method_82_code 99 = .ok (.ireturn, 1) := by decide +kernel
theorem s_220_98 {Γ : m_G} : m_ok Γ m_tab 220 M_220 98 (g_220_98) := ok_ic (pc := 98) d_220_98 rfl (ok_ri (pc := 99) d_220_99 rfl)
theorem s_220_68 {Γ : m_G} : m_ok Γ m_tab 220 M_220 68 (g_220_68) := ok_il (pc := 68) d_220_68 (ok_al_n (pc := 70) d_220_70 rfl (ok_getf (pc := 71) d_220_71 w_952 (hc1 fo_104) (ok_il_n (pc := 74) d_220_74 rfl (ok_iald (pc := 75) d_220_75 (ok_cige (pc := 76) (t := 98) d_220_76 rfl (by decide) rfl (ok_al_n (pc := 79) d_220_79 rfl (ok_getf (pc := 80) d_220_80 w_953 (hc1 fo_103) (ok_bi (pc := 83) d_220_83 rfl (ok_il_n (pc := 85) d_220_85 rfl (ok_mul (pc := 86) d_220_86 (ok_il (pc := 87) d_220_87 (ok_add (pc := 89) d_220_89 (ok_ic (pc := 90) d_220_90 rfl (ok_iast (pc := 91) d_220_91 (ok_inc (pc := 92) d_220_92 rfl (by decide) (ok_go (pc := 95) (t := 68) d_220_95 rfl (by decide) rfl))))))))))))))))
theorem s_220_64 {Γ : m_G} : m_ok Γ m_tab 220 M_220 64 (g_220_64) := ok_iast (pc := 64) d_220_64 (ok_ic (pc := 65) d_220_65 rfl (ok_is (pc := 66) d_220_66 (by decide) (s_220_68)))
theorem s_220_63 {Γ : m_G} : m_ok Γ m_tab 220 M_220 63 (g_220_63) := ok_il_n (pc := 63) d_220_63 rfl (s_220_64)
theorem s_220_43 {Γ : m_G} : m_ok Γ m_tab 220 M_220 43 (g_220_43) := ok_al_n (pc := 43) d_220_43 rfl (ok_getf (pc := 44) d_220_44 w_951 (hc1 fo_70) (ok_il_n (pc := 47) d_220_47 rfl (ok_il_n (pc := 48) d_220_48 rfl (ok_iast (pc := 49) d_220_49 (ok_al_n (pc := 50) d_220_50 rfl (ok_getf (pc := 51) d_220_51 w_952 (hc1 fo_104) (ok_il_n (pc := 54) d_220_54 rfl (ok_il_n (pc := 55) d_220_55 rfl (ok_czge (pc := 56) (t := 63) d_220_56 rfl (by decide) rfl (ok_ic (pc := 59) d_220_59 rfl (ok_go (pc := 60) (t := 64) d_220_60 rfl (by decide) rfl)))))))))))
theorem s_220_32 {Γ : m_G} : m_ok Γ m_tab 220 M_220 32 (g_220_32) := ok_il_n (pc := 32) d_220_32 rfl (ok_czlt (pc := 33) (t := 43) d_220_33 rfl (by decide) rfl (ok_il_n (pc := 36) d_220_36 rfl (ok_czge (pc := 37) (t := 43) d_220_37 rfl (by decide) rfl (ok_bi (pc := 40) d_220_40 rfl (ok_ri (pc := 42) d_220_42 rfl)))))
theorem s_220_19 {Γ : m_G} : m_ok Γ m_tab 220 M_220 19 (g_220_19) := ok_il_n (pc := 19) d_220_19 rfl (ok_czlt (pc := 20) (t := 32) d_220_20 rfl (by decide) rfl (ok_il_n (pc := 23) d_220_23 rfl (ok_bi (pc := 24) d_220_24 rfl (ok_cile (pc := 26) (t := 32) d_220_26 rfl (by decide) rfl (ok_bi (pc := 29) d_220_29 rfl (ok_ri (pc := 31) d_220_31 rfl))))))
theorem s_220_16 {Γ : m_G} : m_ok Γ m_tab 220 M_220 16 (g_220_16) := ok_bi (pc := 16) d_220_16 rfl (ok_ri (pc := 18) d_220_18 rfl)
theorem s_220_0 {Γ : m_G} : m_ok Γ m_tab 220 M_220 0 (g_220_0) := ok_il_n (pc := 0) d_220_0 rfl (ok_cat (pc := 1) (k2 := 219) rfl tb_219 (by decide) (by decide) rfl (go_S d_220_1 w_1321 w_1322 w_11 w_1323 nn_219 (by decide)) (ok_czeq (pc := 4) (t := 16) d_220_4 rfl (by decide) rfl (ok_il_n (pc := 7) d_220_7 rfl (ok_ic (pc := 8) d_220_8 rfl (ok_ic (pc := 9) d_220_9 rfl (ok_cat (pc := 10) (k2 := 140) rfl tb_140 (by decide) (by decide) rfl (go_S d_220_10 w_1044 w_1045 w_11 w_1046 nn_140 (by decide)) (ok_czne (pc := 13) (t := 19) d_220_13 rfl (by decide) rfl (s_220_16))))))))
theorem tst_220 {Γ : m_G} (q : Nat) : m_ts Γ (t_220 q) q := ts_n (ts_n (ts_n (ts_l (k := 220) (pc := 0) tb_220 rfl (by decide) s_220_0) (ts_l (k := 220) (pc := 16) tb_220 rfl (by decide) s_220_16)) (ts_n (ts_l (k := 220) (pc := 19) tb_220 rfl (by decide) s_220_19) (ts_l (k := 220) (pc := 32) tb_220 rfl (by decide) s_220_32))) (ts_n (ts_n (ts_l (k := 220) (pc := 43) tb_220 rfl (by decide) s_220_43) (ts_l (k := 220) (pc := 63) tb_220 rfl (by decide) s_220_63)) (ts_n (ts_l (k := 220) (pc := 64) tb_220 rfl (by decide) s_220_64) (ts_n (ts_l (k := 220) (pc := 68) tb_220 rfl (by decide) s_220_68) (ts_l (k := 220) (pc := 98) tb_220 rfl (by decide) s_220_98))))
theorem d_221_0 : decode prog_14_method_83_code 0 = .ok (.iload_n 1, 1) := by decide +kernel
theorem d_221_1 : decode prog_14_method_83_code 1 = .ok (.invokestatic 300, 3) := by decide +kernel
theorem d_221_4 : decode prog_14_method_83_code 4 = .ok (.ifCond .ne 6, 3) := by decide +kernel
theorem d_221_7 : decode prog_14_method_83_code 7 = .ok (.bipush (-2), 2) := by decide +kernel
theorem d_221_9 : decode prog_14_method_83_code 9 = .ok (.ireturn, 1) := by decide +kernel
theorem d_221_10 : decode prog_14_method_83_code 10 = .ok (.aload_n 0, 1) := by decide +kernel
theorem d_221_11 : decode prog_14_method_83_code 11 = .ok (.getfield 79, 3) := by decide +kernel
theorem d_221_14 : decode prog_14_method_83_code 14 = .ok (.iload_n 1, 1) := by decide +kernel
theorem d_221_15 : decode prog_14_method_83_code 15 = .ok (.iaload, 1) := by decide +kernel
theorem d_221_16 : decode prog_14_method_83_code 16 = .ok (.ifCond .ge 6, 3) := by decide +kernel
theorem d_221_19 : decode prog_14_method_83_code 19 = .ok (.bipush (-11), 2) := by decide +kernel
theorem d_221_21 : decode prog_14_method_83_code 21 = .ok (.ireturn, 1) := by decide +kernel
theorem d_221_22 : decode prog_14_method_83_code 22 = .ok (.iload_n 2, 1) := by decide +kernel
theorem d_221_23 : decode prog_14_method_83_code 23 = .ok (.iconst 0, 1) := by decide +kernel
theorem d_221_24 : decode prog_14_method_83_code 24 = .ok (.aload_n 0, 1) := by decide +kernel
theorem d_221_25 : decode prog_14_method_83_code 25 = .ok (.getfield 82, 3) := by decide +kernel
theorem d_221_28 : decode prog_14_method_83_code 28 = .ok (.iload_n 1, 1) := by decide +kernel
theorem d_221_29 : decode prog_14_method_83_code 29 = .ok (.iaload, 1) := by decide +kernel
theorem d_221_30 : decode prog_14_method_83_code 30 = .ok (.iconst 1, 1) := by decide +kernel
theorem d_221_31 : decode prog_14_method_83_code 31 = .ok (.isub, 1) := by decide +kernel
theorem d_221_32 : decode prog_14_method_83_code 32 = .ok (.invokestatic 112, 3) := by decide +kernel
theorem d_221_35 : decode prog_14_method_83_code 35 = .ok (.ifCond .ne 6, 3) := by decide +kernel
theorem d_221_38 : decode prog_14_method_83_code 38 = .ok (.bipush (-12), 2) := by decide +kernel
theorem d_221_40 : decode prog_14_method_83_code 40 = .ok (.ireturn, 1) := by decide +kernel
theorem d_221_41 : decode prog_14_method_83_code 41 = .ok (.aload_n 0, 1) := by decide +kernel
theorem d_221_42 : decode prog_14_method_83_code 42 = .ok (.getfield 85, 3) := by decide +kernel
theorem d_221_45 : decode prog_14_method_83_code 45 = .ok (.bipush 40, 2) := by decide +kernel
theorem d_221_47 : decode prog_14_method_83_code 47 = .ok (.iload_n 1, 1) := by decide +kernel
theorem d_221_48 : decode prog_14_method_83_code 48 = .ok (.imul, 1) := by decide +kernel
theorem d_221_49 : decode prog_14_method_83_code 49 = .ok (.iload_n 2, 1) := by decide +kernel
theorem d_221_50 : decode prog_14_method_83_code 50 = .ok (.iadd, 1) := by decide +kernel
theorem d_221_51 : decode prog_14_method_83_code 51 = .ok (.aload_n 0, 1) := by decide +kernel
theorem d_221_52 : decode prog_14_method_83_code 52 = .ok (.getfield 79, 3) := by decide +kernel
theorem d_221_55 : decode prog_14_method_83_code 55 = .ok (.iload_n 1, 1) := by decide +kernel
theorem d_221_56 : decode prog_14_method_83_code 56 = .ok (.iaload, 1) := by decide +kernel
theorem d_221_57 : decode prog_14_method_83_code 57 = .ok (.ifCond .ne 8, 3) := by decide +kernel
theorem d_221_60 : decode prog_14_method_83_code 60 = .ok (.iload_n 3, 1) := by decide +kernel
theorem d_221_61 : decode prog_14_method_83_code 61 = .ok (.i2b, 1) := by decide +kernel
theorem d_221_62 : decode prog_14_method_83_code 62 = .ok (.goto 19, 3) := by decide +kernel
theorem d_221_65 : decode prog_14_method_83_code 65 = .ok (.aload_n 0, 1) := by decide +kernel
theorem d_221_66 : decode prog_14_method_83_code 66 = .ok (.getfield 79, 3) := by decide +kernel
theorem d_221_69 : decode prog_14_method_83_code 69 = .ok (.iload_n 1, 1) := by decide +kernel
theorem d_221_70 : decode prog_14_method_83_code 70 = .ok (.iaload, 1) := by decide +kernel
theorem d_221_71 : decode prog_14_method_83_code 71 = .ok (.iconst 1, 1) := by decide +kernel
theorem d_221_72 : decode prog_14_method_83_code 72 = .ok (.if_icmp .ne 8, 3) := by decide +kernel
theorem d_221_75 : decode prog_14_method_83_code 75 = .ok (.iload_n 3, 1) := by decide +kernel
theorem d_221_76 : decode prog_14_method_83_code 76 = .ok (.i2s, 1) := by decide +kernel
theorem d_221_77 : decode prog_14_method_83_code 77 = .ok (.goto 4, 3) := by decide +kernel
theorem d_221_80 : decode prog_14_method_83_code 80 = .ok (.iload_n 3, 1) := by decide +kernel
theorem d_221_81 : decode prog_14_method_83_code 81 = .ok (.iastore, 1) := by decide +kernel
theorem d_221_82 : decode prog_14_method_83_code 82 = .ok (.iconst 1, 1) := by decide +kernel
theorem d_221_83 : decode prog_14_method_83_code 83 = .ok (.ireturn, 1) := by decide +kernel
theorem s_221_81 {Γ : m_G} : m_ok Γ m_tab 221 M_221 81 (g_221_81) := ok_iast (pc := 81) d_221_81 (ok_ic (pc := 82) d_221_82 rfl (ok_ri (pc := 83) d_221_83 rfl))
theorem s_221_80 {Γ : m_G} : m_ok Γ m_tab 221 M_221 80 (g_221_80) := ok_il_n (pc := 80) d_221_80 rfl (s_221_81)
theorem s_221_65 {Γ : m_G} : m_ok Γ m_tab 221 M_221 65 (g_221_65) := ok_al_n (pc := 65) d_221_65 rfl (ok_getf (pc := 66) d_221_66 w_951 (hc1 fo_70) (ok_il_n (pc := 69) d_221_69 rfl (ok_iald (pc := 70) d_221_70 (ok_ic (pc := 71) d_221_71 rfl (ok_cine (pc := 72) (t := 80) d_221_72 rfl (by decide) rfl (ok_il_n (pc := 75) d_221_75 rfl (ok_i2s (pc := 76) d_221_76 (ok_go (pc := 77) (t := 81) d_221_77 rfl (by decide) rfl))))))))
theorem s_221_41 {Γ : m_G} : m_ok Γ m_tab 221 M_221 41 (g_221_41) := ok_al_n (pc := 41) d_221_41 rfl (ok_getf (pc := 42) d_221_42 w_953 (hc1 fo_103) (ok_bi (pc := 45) d_221_45 rfl (ok_il_n (pc := 47) d_221_47 rfl (ok_mul (pc := 48) d_221_48 (ok_il_n (pc := 49) d_221_49 rfl (ok_add (pc := 50) d_221_50 (ok_al_n (pc := 51) d_221_51 rfl (ok_getf (pc := 52) d_221_52 w_951 (hc1 fo_70) (ok_il_n (pc := 55) d_221_55 rfl (ok_iald (pc := 56) d_221_56 (ok_czne (pc := 57) (t := 65) d_221_57 rfl (by decide) rfl (ok_il_n (pc := 60) d_221_60 rfl (ok_i2b (pc := 61) d_221_61 (ok_go (pc := 62) (t := 81) d_221_62 rfl (by decide) rfl))))))))))))))
theorem s_221_22 {Γ : m_G} : m_ok Γ m_tab 221 M_221 22 (g_221_22) := ok_il_n (pc := 22) d_221_22 rfl (ok_ic (pc := 23) d_221_23 rfl (ok_al_n (pc := 24) d_221_24 rfl (ok_getf (pc := 25) d_221_25 w_952 (hc1 fo_104) (ok_il_n (pc := 28) d_221_28 rfl (ok_iald (pc := 29) d_221_29 (ok_ic (pc := 30) d_221_30 rfl (ok_sub (pc := 31) d_221_31 (ok_cat (pc := 32) (k2 := 140) rfl tb_140 (by decide) (by decide) rfl (go_S d_221_32 w_1044 w_1045 w_11 w_1046 nn_140 (by decide)) (ok_czne (pc := 35) (t := 41) d_221_35 rfl (by decide) rfl (ok_bi (pc := 38) d_221_38 rfl (ok_ri (pc := 40) d_221_40 rfl)))))))))))
theorem s_221_10 {Γ : m_G} : m_ok Γ m_tab 221 M_221 10 (g_221_10) := ok_al_n (pc := 10) d_221_10 rfl (ok_getf (pc := 11) d_221_11 w_951 (hc1 fo_70) (ok_il_n (pc := 14) d_221_14 rfl (ok_iald (pc := 15) d_221_15 (ok_czge (pc := 16) (t := 22) d_221_16 rfl (by decide) rfl (ok_bi (pc := 19) d_221_19 rfl (ok_ri (pc := 21) d_221_21 rfl))))))
theorem s_221_0 {Γ : m_G} : m_ok Γ m_tab 221 M_221 0 (g_221_0) := ok_il_n (pc := 0) d_221_0 rfl (ok_cat (pc := 1) (k2 := 219) rfl tb_219 (by decide) (by decide) rfl (go_S d_221_1 w_1321 w_1322 w_11 w_1323 nn_219 (by decide)) (ok_czne (pc := 4) (t := 10) d_221_4 rfl (by decide) rfl (ok_bi (pc := 7) d_221_7 rfl (ok_ri (pc := 9) d_221_9 rfl))))
theorem tst_221 {Γ : m_G} (q : Nat) : m_ts Γ (t_221 q) q := ts_n (ts_n (ts_l (k := 221) (pc := 0) tb_221 rfl (by decide) s_221_0) (ts_n (ts_l (k := 221) (pc := 10) tb_221 rfl (by decide) s_221_10) (ts_l (k := 221) (pc := 22) tb_221 rfl (by decide) s_221_22))) (ts_n (ts_n (ts_l (k := 221) (pc := 41) tb_221 rfl (by decide) s_221_41) (ts_l (k := 221) (pc := 65) tb_221 rfl (by decide) s_221_65)) (ts_n (ts_l (k := 221) (pc := 80) tb_221 rfl (by decide) s_221_80) (ts_l (k := 221) (pc := 81) tb_221 rfl (by decide) s_221_81)))
theorem d_222_0 : decode prog_14_method_84_code 0 = .ok (.iload_n 2, 1) := by decide +kernel
theorem d_222_1 : decode prog_14_method_84_code 1 = .ok (.ifCond .lt 29, 3) := by decide +kernel
theorem d_222_4 : decode prog_14_method_84_code 4 = .ok (.iload_n 2, 1) := by decide +kernel
theorem d_222_5 : decode prog_14_method_84_code 5 = .ok (.aload_n 0, 1) := by decide +kernel
theorem d_222_6 : decode prog_14_method_84_code 6 = .ok (.getfield 82, 3) := by decide +kernel
theorem d_222_9 : decode prog_14_method_84_code 9 = .ok (.iload_n 1, 1) := by decide +kernel
theorem d_222_10 : decode prog_14_method_84_code 10 = .ok (.iaload, 1) := by decide +kernel
theorem d_222_11 : decode prog_14_method_84_code 11 = .ok (.if_icmp .gt 19, 3) := by decide +kernel
theorem d_222_14 : decode prog_14_method_84_code 14 = .ok (.iload_n 3, 1) := by decide +kernel
theorem d_222_15 : decode prog_14_method_84_code 15 = .ok (.aload_n 0, 1) := by decide +kernel
theorem d_222_16 : decode prog_14_method_84_code 16 = .ok (.getfield 82, 3) := by decide +kernel
theorem d_222_19 : decode prog_14_method_84_code 19 = .ok (.iload_n 1, 1) := by decide +kernel
theorem d_222_20 : decode prog_14_method_84_code 20 = .ok (.iaload, 1) := by decide +kernel
theorem d_222_21 : decode prog_14_method_84_code 21 = .ok (.iload_n 2, 1) := by decide +kernel
theorem d_222_22 : decode prog_14_method_84_code 22 = .ok (.isub, 1) := by decide +kernel
theorem d_222_23 : decode prog_14_method_84_code 23 = .ok (.if_icmp .gt 7, 3) := by decide +kernel
theorem d_222_26 : decode prog_14_method_84_code 26 = .ok (.iconst 1, 1) := by decide +kernel
theorem d_222_27 : decode prog_14_method_84_code 27 = .ok (.goto 4, 3) := by decide +kernel
theorem d_222_30 : decode prog_14_method_84_code 30 = .ok (.iconst 0, 1) := by decide +kernel
theorem d_222_31 : decode prog_14_method_84_code 31 = .ok (.ireturn, 1) := by decide +kernel
theorem s_222_31 {Γ : m_G} : m_ok Γ m_tab 222 M_222 31 (g_222_31) := ok_rz (pc := 31) d_222_31 rfl
theorem s_222_30 {Γ : m_G} : m_ok Γ m_tab 222 M_222 30 (g_222_30) := ok_ic (pc := 30) d_222_30 rfl (s_222_31)
theorem s_222_0 {Γ : m_G} : m_ok Γ m_tab 222 M_222 0 (g_222_0) := ok_il_n (pc := 0) d_222_0 rfl (ok_czlt (pc := 1) (t := 30) d_222_1 rfl (by decide) rfl (ok_il_n (pc := 4) d_222_4 rfl (ok_al_n (pc := 5) d_222_5 rfl (ok_getf (pc := 6) d_222_6 w_952 (hc1 fo_104) (ok_il_n (pc := 9) d_222_9 rfl (ok_iald (pc := 10) d_222_10 (ok_cigt (pc := 11) (t := 30) d_222_11 rfl (by decide) rfl (ok_il_n (pc := 14) d_222_14 rfl (ok_al_n (pc := 15) d_222_15 rfl (ok_getf (pc := 16) d_222_16 w_952 (hc1 fo_104) (ok_il_n (pc := 19) d_222_19 rfl (ok_iald (pc := 20) d_222_20 (ok_il_n (pc := 21) d_222_21 rfl (ok_sub (pc := 22) d_222_22 (ok_cigt (pc := 23) (t := 30) d_222_23 rfl (by decide) rfl (ok_ic (pc := 26) d_222_26 rfl (ok_go (pc := 27) (t := 31) d_222_27 rfl (by decide) rfl)))))))))))))))))
theorem tst_222 {Γ : m_G} (q : Nat) : m_ts Γ (t_222 q) q := ts_n (ts_l (k := 222) (pc := 0) tb_222 rfl (by decide) s_222_0) (ts_n (ts_l (k := 222) (pc := 30) tb_222 rfl (by decide) s_222_30) (ts_l (k := 222) (pc := 31) tb_222 rfl (by decide) s_222_31))
theorem d_223_0 : decode prog_14_method_85_code 0 = .ok (.iload_n 1, 1) := by decide +kernel
theorem d_223_1 : decode prog_14_method_85_code 1 = .ok (.invokestatic 300, 3) := by decide +kernel
theorem d_223_4 : decode prog_14_method_85_code 4 = .ok (.ifCond .eq 10, 3) := by decide +kernel
theorem d_223_7 : decode prog_14_method_85_code 7 = .ok (.iload_n 3, 1) := by decide +kernel
theorem d_223_8 : decode prog_14_method_85_code 8 = .ok (.invokestatic 300, 3) := by decide +kernel
theorem d_223_11 : decode prog_14_method_85_code 11 = .ok (.ifCond .ne 6, 3) := by decide +kernel
theorem d_223_14 : decode prog_14_method_85_code 14 = .ok (.bipush (-2), 2) := by decide +kernel
theorem d_223_16 : decode prog_14_method_85_code 16 = .ok (.ireturn, 1) := by decide +kernel
theorem d_223_17 : decode prog_14_method_85_code 17 = .ok (.aload_n 0, 1) := by decide +kernel
theorem d_223_18 : decode prog_14_method_85_code 18 = .ok (.getfield 79, 3) := by decide +kernel
theorem d_223_21 : decode prog_14_method_85_code 21 = .ok (.iload_n 1, 1) := by decide +kernel
theorem d_223_22 : decode prog_14_method_85_code 22 = .ok (.iaload, 1) := by decide +kernel
theorem d_223_23 : decode prog_14_method_85_code 23 = .ok (.ifCond .lt 12, 3) := by decide +kernel
theorem d_223_26 : decode prog_14_method_85_code 26 = .ok (.aload_n 0, 1) := by decide +kernel
theorem d_223_27 : decode prog_14_method_85_code 27 = .ok (.getfield 79, 3) := by decide +kernel
theorem d_223_30 : decode prog_14_method_85_code 30 = .ok (.iload_n 3, 1) := by decide +kernel
theorem d_223_31 : decode prog_14_method_85_code 31 = .ok (.iaload, 1) := by decide +kernel
theorem d_223_32 : decode prog_14_method_85_code 32 = .ok (.ifCond .ge 6, 3) := by decide +kernel
theorem d_223_35 : decode prog_14_method_85_code 35 = .ok (.bipush (-11), 2) := by decide +kernel
theorem d_223_37 : decode prog_14_method_85_code 37 = .ok (.ireturn, 1) := by decide +kernel
theorem d_223_38 : decode prog_14_method_85_code 38 = .ok (.aload_n 0, 1) := by decide +kernel
theorem d_223_39 : decode prog_14_method_85_code 39 = .ok (.getfield 79, 3) := by decide +kernel
theorem d_223_42 : decode prog_14_method_85_code 42 = .ok (.iload_n 1, 1) := by decide +kernel
theorem d_223_43 : decode prog_14_method_85_code 43 = .ok (.iaload, 1) := by decide +kernel
theorem d_223_44 : decode prog_14_method_85_code 44 = .ok (.aload_n 0, 1) := by decide +kernel
theorem d_223_45 : decode prog_14_method_85_code 45 = .ok (.getfield 79, 3) := by decide +kernel
theorem d_223_48 : decode prog_14_method_85_code 48 = .ok (.iload_n 3, 1) := by decide +kernel
theorem d_223_49 : decode prog_14_method_85_code 49 = .ok (.iaload, 1) := by decide +kernel
theorem d_223_50 : decode prog_14_method_85_code 50 = .ok (.if_icmp .eq 6, 3) := by decide +kernel
theorem d_223_53 : decode prog_14_method_85_code 53 = .ok (.bipush (-13), 2) := by decide +kernel
theorem d_223_55 : decode prog_14_method_85_code 55 = .ok (.ireturn, 1) := by decide +kernel
theorem d_223_56 : decode prog_14_method_85_code 56 = .ok (.iload 5, 2) := by decide +kernel
theorem d_223_58 : decode prog_14_method_85_code 58 = .ok (.ifCond .lt 26, 3) := by decide +kernel
theorem d_223_61 : decode prog_14_method_85_code 61 = .ok (.aload_n 0, 1) := by decide +kernel
theorem d_223_62 : decode prog_14_method_85_code 62 = .ok (.iload_n 1, 1) := by decide +kernel
theorem d_223_63 : decode prog_14_method_85_code 63 = .ok (.iload_n 2, 1) := by decide +kernel
theorem d_223_64 : decode prog_14_method_85_code 64 = .ok (.iload 5, 2) := by decide +kernel
theorem d_223_66 : decode prog_14_method_85_code 66 = .ok (.invokevirtual 313, 3) := by decide +kernel
theorem d_223_69 : decode prog_14_method_85_code 69 = .ok (.ifCond .eq 15, 3) := by decide +kernel
theorem d_223_72 : decode prog_14_method_85_code 72 = .ok (.aload_n 0, 1) := by decide +kernel
theorem d_223_73 : decode prog_14_method_85_code 73 = .ok (.iload_n 3, 1) := by decide +kernel
theorem d_223_74 : decode prog_14_method_85_code 74 = .ok (.iload 4, 2) := by decide +kernel
theorem d_223_76 : decode prog_14_method_85_code 76 = .ok (.iload 5, 2) := by decide +kernel
theorem d_223_78 : decode prog_14_method_85_code 78 = .ok (.invokevirtual 313, 3) := by decide +kernel
theorem d_223_81 : decode prog_14_method_85_code 81 = .ok (.ifCond .ne 6, 3) := by decide +kernel
theorem d_223_84 : decode prog_14_method_85_code 84 = .ok (.bipush (-12), 2) := by decide +kernel
theorem d_223_86 : decode prog_14_method_85_code 86 = .ok (.ireturn, 1) := by decide +kernel
theorem d_223_87 : decode prog_14_method_85_code 87 = .ok (.iconst 0, 1) := by decide +kernel
theorem d_223_88 : decode prog_14_method_85_code 88 = .ok (.istore 6, 2) := by decide +kernel
theorem d_223_90 : decode prog_14_method_85_code 90 = .ok (.iload 6, 2) := by decide +kernel
theorem d_223_92 : decode prog_14_method_85_code 92 = .ok (.iload 5, 2) := by decide +kernel
theorem d_223_94 : decode prog_14_method_85_code 94 = .ok (.if_icmp .ge 30, 3) := by decide +kernel
theorem d_223_97 : decode prog_14_method_85_code 97 = .ok (.aload_n 0, 1) := by decide +kernel
theorem d_223_98 : decode prog_14_method_85_code 98 = .ok (.getfield 88, 3) := by decide +kernel
theorem d_223_101 : decode prog_14_method_85_code 101 = .ok (.iload 6, 2) := by decide +kernel
theorem d_223_103 : decode prog_14_method_85_code 103 = .ok (.aload_n 0, 1) := by decide +kernel
theorem d_223_104 : decode prog_14_method_85_code 104 = .ok (.getfield 85, 3) := by decide +kernel
theorem d_223_107 : decode prog_14_method_85_code 107 = .ok (.bipush 40, 2) := by decide +kernel
theorem d_223_109 : decode prog_14_method_85_code 109 = .ok (.iload_n 1, 1) := by decide +kernel
theorem d_223_110 : decode prog_14_method_85_code 110 = .ok (.imul, 1) := by decide +kernel
theorem d_223_111 : decode prog_14_method_85_code 111 = .ok (.iload_n 2, 1) := by decide +kernel
theorem d_223_112 : decode prog_14_method_85_code 112 = .ok (.iadd, 1) := by decide +kernel
theorem d_223_113 : decode prog_14_method_85_code 113 = .ok (.iload 6, 2) := by decide +kernel
theorem d_223_115 : decode prog_14_method_85_code 115 = .ok (.iadd, 1) := by decide +kernel
theorem d_223_116 : decode prog_14_method_85_code 116 = .ok (.iaload, 1) := by decide +kernel
theorem d_223_117 : decode prog_14_method_85_code 117 = .ok (.iastore, 1) := by decide +kernel
theorem d_223_118 : decode prog_14_method_85_code 118 = .ok (.iinc 6 1, 3) := by decide +kernel
theorem d_223_121 : decode prog_14_method_85_code 121 = .ok (.goto (-31), 3) := by decide +kernel
theorem d_223_124 : decode prog_14_method_85_code 124 = .ok (.iconst 0, 1) := by decide +kernel
theorem d_223_125 : decode prog_14_method_85_code 125 = .ok (.istore 6, 2) := by decide +kernel
theorem d_223_127 : decode prog_14_method_85_code 127 = .ok (.iload 6, 2) := by decide +kernel
theorem d_223_129 : decode prog_14_method_85_code 129 = .ok (.iload 5, 2) := by decide +kernel
theorem d_223_131 : decode prog_14_method_85_code 131 = .ok (.if_icmp .ge 31, 3) := by decide +kernel
theorem d_223_134 : decode prog_14_method_85_code 134 = .ok (.aload_n 0, 1) := by decide +kernel
theorem d_223_135 : decode prog_14_method_85_code 135 = .ok (.getfield 85, 3) := by decide +kernel
theorem d_223_138 : decode prog_14_method_85_code 138 = .ok (.bipush 40, 2) := by decide +kernel
theorem d_223_140 : decode prog_14_method_85_code 140 = .ok (.iload_n 3, 1) := by decide +kernel
theorem d_223_141 : decode prog_14_method_85_code 141 = .ok (.imul, 1) := by decide +kernel
theorem d_223_142 : decode prog_14_method_85_code 142 = .ok (.iload 4, 2) := by decide +kernel
theorem d_223_144 : decode prog_14_method_85_code 144 = .ok (.iadd, 1) := by decide +kernel
theorem d_223_145 : decode prog_14_method_85_code 145 = .ok (.iload 6, 2) := by decide +kernel
theorem d_223_147 : decode prog_14_method_85_code 147 = .ok (.iadd, 1) := by decide +kernel
theorem d_223_148 : decode prog_14_method_85_code 148 = .ok (.aload_n 0, 1) := by decide +kernel
theorem d_223_149 : decode prog_14_method_85_code 149 = .ok (.getfield 88, 3) := by decide +kernel
theorem d_223_152 : decode prog_14_method_85_code 152 = .ok (.iload 6, 2) := by decide +kernel
theorem d_223_154 : decode prog_14_method_85_code 154 = .ok (.iaload, 1) := by decide +kernel
theorem d_223_155 : decode prog_14_method_85_code 155 = .ok (.iastore, 1) := by decide +kernel
theorem d_223_156 : decode prog_14_method_85_code 156 = .ok (.iinc 6 1, 3) := by decide +kernel
theorem d_223_159 : decode prog_14_method_85_code 159 = .ok (.goto (-32), 3) := by decide +kernel
theorem d_223_162 : decode prog_14_method_85_code 162 = .ok (.iload 5, 2) := by decide +kernel
theorem d_223_164 : decode prog_14_method_85_code 164 = .ok (.ireturn, 1) := by decide +kernel
theorem s_223_162 {Γ : m_G} : m_ok Γ m_tab 223 M_223 162 (g_223_162) := ok_il (pc := 162) d_223_162 (ok_ri (pc := 164) d_223_164 rfl)
theorem s_223_127 {Γ : m_G} : m_ok Γ m_tab 223 M_223 127 (g_223_127) := ok_il (pc := 127) d_223_127 (ok_il (pc := 129) d_223_129 (ok_cige (pc := 131) (t := 162) d_223_131 rfl (by decide) rfl (ok_al_n (pc := 134) d_223_134 rfl (ok_getf (pc := 135) d_223_135 w_953 (hc1 fo_103) (ok_bi (pc := 138) d_223_138 rfl (ok_il_n (pc := 140) d_223_140 rfl (ok_mul (pc := 141) d_223_141 (ok_il (pc := 142) d_223_142 (ok_add (pc := 144) d_223_144 (ok_il (pc := 145) d_223_145 (ok_add (pc := 147) d_223_147 (ok_al_n (pc := 148) d_223_148 rfl (ok_getf (pc := 149) d_223_149 w_954 (hc1 fo_111) (ok_il (pc := 152) d_223_152 (ok_iald (pc := 154) d_223_154 (ok_iast (pc := 155) d_223_155 (ok_inc (pc := 156) d_223_156 rfl (by decide) (ok_go (pc := 159) (t := 127) d_223_159 rfl (by decide) rfl))))))))))))))))))
theorem s_223_124 {Γ : m_G} : m_ok Γ m_tab 223 M_223 124 (g_223_124) := ok_ic (pc := 124) d_223_124 rfl (ok_is (pc := 125) d_223_125 (by decide) (s_223_127))
theorem s_223_90 {Γ : m_G} : m_ok Γ m_tab 223 M_223 90 (g_223_90) := ok_il (pc := 90) d_223_90 (ok_il (pc := 92) d_223_92 (ok_cige (pc := 94) (t := 124) d_223_94 rfl (by decide) rfl (ok_al_n (pc := 97) d_223_97 rfl (ok_getf (pc := 98) d_223_98 w_954 (hc1 fo_111) (ok_il (pc := 101) d_223_101 (ok_al_n (pc := 103) d_223_103 rfl (ok_getf (pc := 104) d_223_104 w_953 (hc1 fo_103) (ok_bi (pc := 107) d_223_107 rfl (ok_il_n (pc := 109) d_223_109 rfl (ok_mul (pc := 110) d_223_110 (ok_il_n (pc := 111) d_223_111 rfl (ok_add (pc := 112) d_223_112 (ok_il (pc := 113) d_223_113 (ok_add (pc := 115) d_223_115 (ok_iald (pc := 116) d_223_116 (ok_iast (pc := 117) d_223_117 (ok_inc (pc := 118) d_223_118 rfl (by decide) (ok_go (pc := 121) (t := 90) d_223_121 rfl (by decide) rfl))))))))))))))))))
theorem s_223_87 {Γ : m_G} : m_ok Γ m_tab 223 M_223 87 (g_223_87) := ok_ic (pc := 87) d_223_87 rfl (ok_is (pc := 88) d_223_88 (by decide) (s_223_90))
theorem s_223_84 {Γ : m_G} : m_ok Γ m_tab 223 M_223 84 (g_223_84) := ok_bi (pc := 84) d_223_84 rfl (ok_ri (pc := 86) d_223_86 rfl)
theorem s_223_56 {Γ : m_G} : m_ok Γ m_tab 223 M_223 56 (g_223_56) := ok_il (pc := 56) d_223_56 (ok_czlt (pc := 58) (t := 84) d_223_58 rfl (by decide) rfl (ok_al_n (pc := 61) d_223_61 rfl (ok_il_n (pc := 62) d_223_62 rfl (ok_il_n (pc := 63) d_223_63 rfl (ok_il (pc := 64) d_223_64 (ok_cai (pc := 66) (k2 := 222) rfl rfl tb_222 (by decide) (by decide) rfl (go_V d_223_66 w_1353 w_1355 ws_80 w_11 w_1356 nn_222 (by decide) cl_12 rfl) (ok_czeq (pc := 69) (t := 84) d_223_69 rfl (by decide) rfl (ok_al_n (pc := 72) d_223_72 rfl (ok_il_n (pc := 73) d_223_73 rfl (ok_il (pc := 74) d_223_74 (ok_il (pc := 76) d_223_76 (ok_cai (pc := 78) (k2 := 222) rfl rfl tb_222 (by decide) (by decide) rfl (go_V d_223_78 w_1353 w_1355 ws_80 w_11 w_1356 nn_222 (by decide) cl_12 rfl) (ok_czne (pc := 81) (t := 87) d_223_81 rfl (by decide) rfl (s_223_84))))))))))))))
theorem s_223_38 {Γ : m_G} : m_ok Γ m_tab 223 M_223 38 (g_223_38) := ok_al_n (pc := 38) d_223_38 rfl (ok_getf (pc := 39) d_223_39 w_951 (hc1 fo_70) (ok_il_n (pc := 42) d_223_42 rfl (ok_iald (pc := 43) d_223_43 (ok_al_n (pc := 44) d_223_44 rfl (ok_getf (pc := 45) d_223_45 w_951 (hc1 fo_70) (ok_il_n (pc := 48) d_223_48 rfl (ok_iald (pc := 49) d_223_49 (ok_cieq (pc := 50) (t := 56) d_223_50 rfl (by decide) rfl (ok_bi (pc := 53) d_223_53 rfl (ok_ri (pc := 55) d_223_55 rfl))))))))))
theorem s_223_35 {Γ : m_G} : m_ok Γ m_tab 223 M_223 35 (g_223_35) := ok_bi (pc := 35) d_223_35 rfl (ok_ri (pc := 37) d_223_37 rfl)
theorem s_223_17 {Γ : m_G} : m_ok Γ m_tab 223 M_223 17 (g_223_17) := ok_al_n (pc := 17) d_223_17 rfl (ok_getf (pc := 18) d_223_18 w_951 (hc1 fo_70) (ok_il_n (pc := 21) d_223_21 rfl (ok_iald (pc := 22) d_223_22 (ok_czlt (pc := 23) (t := 35) d_223_23 rfl (by decide) rfl (ok_al_n (pc := 26) d_223_26 rfl (ok_getf (pc := 27) d_223_27 w_951 (hc1 fo_70) (ok_il_n (pc := 30) d_223_30 rfl (ok_iald (pc := 31) d_223_31 (ok_czge (pc := 32) (t := 38) d_223_32 rfl (by decide) rfl (s_223_35))))))))))
theorem s_223_14 {Γ : m_G} : m_ok Γ m_tab 223 M_223 14 (g_223_14) := ok_bi (pc := 14) d_223_14 rfl (ok_ri (pc := 16) d_223_16 rfl)
theorem s_223_0 {Γ : m_G} : m_ok Γ m_tab 223 M_223 0 (g_223_0) := ok_il_n (pc := 0) d_223_0 rfl (ok_cat (pc := 1) (k2 := 219) rfl tb_219 (by decide) (by decide) rfl (go_S d_223_1 w_1321 w_1322 w_11 w_1323 nn_219 (by decide)) (ok_czeq (pc := 4) (t := 14) d_223_4 rfl (by decide) rfl (ok_il_n (pc := 7) d_223_7 rfl (ok_cat (pc := 8) (k2 := 219) rfl tb_219 (by decide) (by decide) rfl (go_S d_223_8 w_1321 w_1322 w_11 w_1323 nn_219 (by decide)) (ok_czne (pc := 11) (t := 17) d_223_11 rfl (by decide) rfl (s_223_14))))))
theorem tst_223 {Γ : m_G} (q : Nat) : m_ts Γ (t_223 q) q := ts_n (ts_n (ts_n (ts_l (k := 223) (pc := 0) tb_223 rfl (by decide) s_223_0) (ts_n (ts_l (k := 223) (pc := 14) tb_223 rfl (by decide) s_223_14) (ts_l (k := 223) (pc := 17) tb_223 rfl (by decide) s_223_17))) (ts_n (ts_l (k := 223) (pc := 35) tb_223 rfl (by decide) s_223_35) (ts_n (ts_l (k := 223) (pc := 38) tb_223 rfl (by decide) s_223_38) (ts_l (k := 223) (pc := 56) tb_223 rfl (by decide) s_223_56)))) (ts_n (ts_n (ts_l (k := 223) (pc := 84) tb_223 rfl (by decide) s_223_84) (ts_n (ts_l (k := 223) (pc := 87) tb_223 rfl (by decide) s_223_87) (ts_l (k := 223) (pc := 90) tb_223 rfl (by decide) s_223_90))) (ts_n (ts_l (k := 223) (pc := 124) tb_223 rfl (by decide) s_223_124) (ts_n (ts_l (k := 223) (pc := 127) tb_223 rfl (by decide) s_223_127) (ts_l (k := 223) (pc := 162) tb_223 rfl (by decide) s_223_162))))
theorem d_224_0 : decode prog_14_method_86_code 0 = .ok (.iload_n 1, 1) := by decide +kernel
theorem d_224_1 : decode prog_14_method_86_code 1 = .ok (.invokestatic 300, 3) := by decide +kernel
theorem d_224_4 : decode prog_14_method_86_code 4 = .ok (.ifCond .eq 23, 3) := by decide +kernel
theorem d_224_7 : decode prog_14_method_86_code 7 = .ok (.iload_n 2, 1) := by decide +kernel
theorem d_224_8 : decode prog_14_method_86_code 8 = .ok (.iconst 0, 1) := by decide +kernel
theorem d_224_9 : decode prog_14_method_86_code 9 = .ok (.iconst 2, 1) := by decide +kernel
theorem d_224_10 : decode prog_14_method_86_code 10 = .ok (.invokestatic 112, 3) := by decide +kernel
theorem d_224_13 : decode prog_14_method_86_code 13 = .ok (.ifCond .eq 14, 3) := by decide +kernel
theorem d_224_16 : decode prog_14_method_86_code 16 = .ok (.iload 4, 2) := by decide +kernel
theorem d_224_18 : decode prog_14_method_86_code 18 = .ok (.iconst 0, 1) := by decide +kernel
theorem d_224_19 : decode prog_14_method_86_code 19 = .ok (.bipush 20, 2) := by decide +kernel
theorem d_224_21 : decode prog_14_method_86_code 21 = .ok (.invokestatic 112, 3) := by decide +kernel
theorem d_224_24 : decode prog_14_method_86_code 24 = .ok (.ifCond .ne 6, 3) := by decide +kernel
theorem d_224_27 : decode prog_14_method_86_code 27 = .ok (.bipush (-2), 2) := by decide +kernel
theorem d_224_29 : decode prog_14_method_86_code 29 = .ok (.ireturn, 1) := by decide +kernel
theorem d_224_30 : decode prog_14_method_86_code 30 = .ok (.aload_n 0, 1) := by decide +kernel
theorem d_224_31 : decode prog_14_method_86_code 31 = .ok (.getfield 79, 3) := by decide +kernel
theorem d_224_34 : decode prog_14_method_86_code 34 = .ok (.iload_n 1, 1) := by decide +kernel
theorem d_224_35 : decode prog_14_method_86_code 35 = .ok (.iaload, 1) := by decide +kernel
theorem d_224_36 : decode prog_14_method_86_code 36 = .ok (.ifCond .ge 6, 3) := by decide +kernel
theorem d_224_39 : decode prog_14_method_86_code 39 = .ok (.bipush (-11), 2) := by decide +kernel
theorem d_224_41 : decode prog_14_method_86_code 41 = .ok (.ireturn, 1) := by decide +kernel
theorem d_224_42 : decode prog_14_method_86_code 42 = .ok (.aload_n 0, 1) := by decide +kernel
theorem d_224_43 : decode prog_14_method_86_code 43 = .ok (.getfield 79, 3) := by decide +kernel
theorem d_224_46 : decode prog_14_method_86_code 46 = .ok (.iload_n 1, 1) := by decide +kernel
theorem d_224_47 : decode prog_14_method_86_code 47 = .ok (.iaload, 1) := by decide +kernel
theorem d_224_48 : decode prog_14_method_86_code 48 = .ok (.iload_n 2, 1) := by decide +kernel
theorem d_224_49 : decode prog_14_method_86_code 49 = .ok (.if_icmp .eq 6, 3) := by decide +kernel
theorem d_224_52 : decode prog_14_method_86_code 52 = .ok (.bipush (-13), 2) := by decide +kernel
theorem d_224_54 : decode prog_14_method_86_code 54 = .ok (.ireturn, 1) := by decide +kernel
theorem d_224_55 : decode prog_14_method_86_code 55 = .ok (.iconst 0, 1) := by decide +kernel
theorem d_224_56 : decode prog_14_method_86_code 56 = .ok (.istore 5, 2) := by decide +kernel
theorem d_224_58 : decode prog_14_method_86_code 58 = .ok (.iconst 0, 1) := by decide +kernel
theorem d_224_59 : decode prog_14_method_86_code 59 = .ok (.istore 6, 2) := by decide +kernel
theorem d_224_61 : decode prog_14_method_86_code 61 = .ok (.iload 6, 2) := by decide +kernel
theorem d_224_63 : decode prog_14_method_86_code 63 = .ok (.iload 4, 2) := by decide +kernel
theorem d_224_65 : decode prog_14_method_86_code 65 = .ok (.if_icmp .ge 98, 3) := by decide +kernel
theorem d_224_68 : decode prog_14_method_86_code 68 = .ok (.iload_n 3, 1) := by decide +kernel
theorem d_224_69 : decode prog_14_method_86_code 69 = .ok (.iconst 2, 1) := by decide +kernel
theorem d_224_70 : decode prog_14_method_86_code 70 = .ok (.iload 6, 2) := by decide +kernel
theorem d_224_72 : decode prog_14_method_86_code 72 = .ok (.imul, 1) := by decide +kernel
theorem d_224_73 : decode prog_14_method_86_code 73 = .ok (.iadd, 1) := by decide +kernel
theorem d_224_74 : decode prog_14_method_86_code 74 = .ok (.istore 7, 2) := by decide +kernel
theorem d_224_76 : decode prog_14_method_86_code 76 = .ok (.iload_n 3, 1) := by decide +kernel
theorem d_224_77 : decode prog_14_method_86_code 77 = .ok (.ifCond .lt 22, 3) := by decide +kernel
theorem d_224_80 : decode prog_14_method_86_code 80 = .ok (.iload_n 3, 1) := by decide +kernel
theorem d_224_81 : decode prog_14_method_86_code 81 = .ok (.bipush 40, 2) := by decide +kernel
theorem d_224_83 : decode prog_14_method_86_code 83 = .ok (.if_icmp .gt 16, 3) := by decide +kernel
theorem d_224_86 : decode prog_14_method_86_code 86 = .ok (.iload 7, 2) := by decide +kernel
theorem d_224_88 : decode prog_14_method_86_code 88 = .ok (.iconst 1, 1) := by decide +kernel
theorem d_224_89 : decode prog_14_method_86_code 89 = .ok (.iadd, 1) := by decide +kernel
theorem d_224_90 : decode prog_14_method_86_code 90 = .ok (.aload_n 0, 1) := by decide +kernel
theorem d_224_91 : decode prog_14_method_86_code 91 = .ok (.getfield 82, 3) := by decide +kernel
theorem d_224_94 : decode prog_14_method_86_code 94 = .ok (.iload_n 1, 1) := by decide +kernel
theorem d_224_95 : decode prog_14_method_86_code 95 = .ok (.iaload, 1) := by decide +kernel
theorem d_224_96 : decode prog_14_method_86_code 96 = .ok (.if_icmp .lt 6, 3) := by decide +kernel
theorem d_224_99 : decode prog_14_method_86_code 99 = .ok (.bipush (-12), 2) := by decide +kernel
theorem d_224_101 : decode prog_14_method_86_code 101 = .ok (.ireturn, 1) := by decide +kernel
theorem d_224_102 : decode prog_14_method_86_code 102 = .ok (.aload_n 0, 1) := by decide +kernel
theorem d_224_103 : decode prog_14_method_86_code 103 = .ok (.getfield 85, 3) := by decide +kernel
theorem d_224_106 : decode prog_14_method_86_code 106 = .ok (.bipush 40, 2) := by decide +kernel
theorem d_224_108 : decode prog_14_method_86_code 108 = .ok (.iload_n 1, 1) := by decide +kernel
theorem d_224_109 : decode prog_14_method_86_code 109 = .ok (.imul, 1) := by decide +kernel
theorem d_224_110 : decode prog_14_method_86_code 110 = .ok (.iload 7, 2) := by decide +kernel
theorem d_224_112 : decode prog_14_method_86_code 112 = .ok (.iadd, 1) := by decide +kernel
theorem d_224_113 : decode prog_14_method_86_code 113 = .ok (.iaload, 1) := by decide +kernel
theorem d_224_114 : decode prog_14_method_86_code 114 = .ok (.istore 8, 2) := by decide +kernel
theorem d_224_116 : decode prog_14_method_86_code 116 = .ok (.aload_n 0, 1) := by decide +kernel
theorem d_224_117 : decode prog_14_method_86_code 117 = .ok (.getfield 85, 3) := by decide +kernel
theorem d_224_120 : decode prog_14_method_86_code 120 = .ok (.bipush 40, 2) := by decide +kernel
theorem d_224_122 : decode prog_14_method_86_code 122 = .ok (.iload_n 1, 1) := by decide +kernel
theorem d_224_123 : decode prog_14_method_86_code 123 = .ok (.imul, 1) := by decide +kernel
theorem d_224_124 : decode prog_14_method_86_code 124 = .ok (.iload 7, 2) := by decide +kernel
theorem d_224_126 : decode prog_14_method_86_code 126 = .ok (.iadd, 1) := by decide +kernel
theorem d_224_127 : decode prog_14_method_86_code 127 = .ok (.iconst 1, 1) := by decide +kernel
theorem d_224_128 : decode prog_14_method_86_code 128 = .ok (.iadd, 1) := by decide +kernel
theorem d_224_129 : decode prog_14_method_86_code 129 = .ok (.iaload, 1) := by decide +kernel
theorem d_224_130 : decode prog_14_method_86_code 130 = .ok (.istore 9, 2) := by decide +kernel
theorem d_224_132 : decode prog_14_method_86_code 132 = .ok (.aload_n 0, 1) := by decide +kernel
theorem d_224_133 : decode prog_14_method_86_code 133 = .ok (.iload 8, 2) := by decide +kernel
theorem d_224_135 : decode prog_14_method_86_code 135 = .ok (.iload 9, 2) := by decide +kernel
theorem d_224_137 : decode prog_14_method_86_code 137 = .ok (.invokevirtual 252, 3) := by decide +kernel
theorem d_224_140 : decode prog_14_method_86_code 140 = .ok (.ifCond .eq 17, 3) := by decide +kernel
theorem d_224_143 : decode prog_14_method_86_code 143 = .ok (.aload_n 0, 1) := by decide +kernel
theorem d_224_144 : decode prog_14_method_86_code 144 = .ok (.iload 8, 2) := by decide +kernel
theorem d_224_146 : decode prog_14_method_86_code 146 = .ok (.iload 9, 2) := by decide +kernel
theorem d_224_148 : decode prog_14_method_86_code 148 = .ok (.invokevirtual 261, 3) := by decide +kernel
theorem d_224_151 : decode prog_14_method_86_code 151 = .ok (.ifCond .lt 6, 3) := by decide +kernel
theorem d_224_154 : decode prog_14_method_86_code 154 = .ok (.iinc 5 1, 3) := by decide +kernel
theorem d_224_157 : decode prog_14_method_86_code 157 = .ok (.iinc 6 1, 3) := by decide +kernel
theorem d_224_160 : decode prog_14_method_86_code 160 = .ok (.goto (-99), 3) := by decide +kernel
theorem d_224_163 : decode prog_14_method_86_code 163 = .ok (.iload 5, 2) := by decide +kernel
theorem d_224_165 : decode prog_14_method_86_code 165 = .ok (.ireturn, 1) := by decide +kernel
theorem s_224_163 {Γ : m_G} : m_ok Γ m_tab 224 M_224 163 (g_224_163) := ok_il (pc := 163) d_224_163 (ok_ri (pc := 165) d_224_165 rfl)
theorem s_224_157 {Γ : m_G} : m_ok Γ m_tab 224 M_224 157 (g_224_157) := ok_inc (pc := 157) d_224_157 rfl (by decide) (ok_go (pc := 160) (t := 61) d_224_160 rfl (by decide) rfl)
theorem s_224_102 {Γ : m_G} : m_ok Γ m_tab 224 M_224 102 (g_224_102) := ok_al_n (pc := 102) d_224_102 rfl (ok_getf (pc := 103) d_224_103 w_953 (hc1 fo_103) (ok_bi (pc := 106) d_224_106 rfl (ok_il_n (pc := 108) d_224_108 rfl (ok_mul (pc := 109) d_224_109 (ok_il (pc := 110) d_224_110 (ok_add (pc := 112) d_224_112 (ok_iald (pc := 113) d_224_113 (ok_is (pc := 114) d_224_114 (by decide) (ok_al_n (pc := 116) d_224_116 rfl (ok_getf (pc := 117) d_224_117 w_953 (hc1 fo_103) (ok_bi (pc := 120) d_224_120 rfl (ok_il_n (pc := 122) d_224_122 rfl (ok_mul (pc := 123) d_224_123 (ok_il (pc := 124) d_224_124 (ok_add (pc := 126) d_224_126 (ok_ic (pc := 127) d_224_127 rfl (ok_add (pc := 128) d_224_128 (ok_iald (pc := 129) d_224_129 (ok_is (pc := 130) d_224_130 (by decide) (ok_al_n (pc := 132) d_224_132 rfl (ok_il (pc := 133) d_224_133 (ok_il (pc := 135) d_224_135 (ok_cai (pc := 137) (k2 := 191) rfl rfl tb_191 (by decide) (by decide) rfl (go_V d_224_137 w_1186 w_1188 ws_61 w_11 w_1189 nn_191 (by decide) cl_12 rfl) (ok_czeq (pc := 140) (t := 157) d_224_140 rfl (by decide) rfl (ok_al_n (pc := 143) d_224_143 rfl (ok_il (pc := 144) d_224_144 (ok_il (pc := 146) d_224_146 (ok_cai (pc := 148) (k2 := 193) rfl rfl tb_193 (by decide) (by decide) rfl (go_V d_224_148 w_1227 w_1229 ws_68 w_11 w_1230 nn_193 (by decide) cl_12 rfl) (ok_czlt (pc := 151) (t := 157) d_224_151 rfl (by decide) rfl (ok_inc (pc := 154) d_224_154 rfl (by decide) (s_224_157)))))))))))))))))))))))))))))))
theorem s_224_99 {Γ : m_G} : m_ok Γ m_tab 224 M_224 99 (g_224_99) := ok_bi (pc := 99) d_224_99 rfl (ok_ri (pc := 101) d_224_101 rfl)
theorem s_224_61 {Γ : m_G} : m_ok Γ m_tab 224 M_224 61 (g_224_61) := ok_il (pc := 61) d_224_61 (ok_il (pc := 63) d_224_63 (ok_cige (pc := 65) (t := 163) d_224_65 rfl (by decide) rfl (ok_il_n (pc := 68) d_224_68 rfl (ok_ic (pc := 69) d_224_69 rfl (ok_il (pc := 70) d_224_70 (ok_mul (pc := 72) d_224_72 (ok_add (pc := 73) d_224_73 (ok_is (pc := 74) d_224_74 (by decide) (ok_il_n (pc := 76) d_224_76 rfl (ok_czlt (pc := 77) (t := 99) d_224_77 rfl (by decide) rfl (ok_il_n (pc := 80) d_224_80 rfl (ok_bi (pc := 81) d_224_81 rfl (ok_cigt (pc := 83) (t := 99) d_224_83 rfl (by decide) rfl (ok_il (pc := 86) d_224_86 (ok_ic (pc := 88) d_224_88 rfl (ok_add (pc := 89) d_224_89 (ok_al_n (pc := 90) d_224_90 rfl (ok_getf (pc := 91) d_224_91 w_952 (hc1 fo_104) (ok_il_n (pc := 94) d_224_94 rfl (ok_iald (pc := 95) d_224_95 (ok_cilt (pc := 96) (t := 102) d_224_96 rfl (by decide) rfl (s_224_99))))))))))))))))))))))
theorem s_224_55 {Γ : m_G} : m_ok Γ m_tab 224 M_224 55 (g_224_55) := ok_ic (pc := 55) d_224_55 rfl (ok_is (pc := 56) d_224_56 (by decide) (ok_ic (pc := 58) d_224_58 rfl (ok_is (pc := 59) d_224_59 (by decide) (s_224_61))))
theorem s_224_42 {Γ : m_G} : m_ok Γ m_tab 224 M_224 42 (g_224_42) := ok_al_n (pc := 42) d_224_42 rfl (ok_getf (pc := 43) d_224_43 w_951 (hc1 fo_70) (ok_il_n (pc := 46) d_224_46 rfl (ok_iald (pc := 47) d_224_47 (ok_il_n (pc := 48) d_224_48 rfl (ok_cieq (pc := 49) (t := 55) d_224_49 rfl (by decide) rfl (ok_bi (pc := 52) d_224_52 rfl (ok_ri (pc := 54) d_224_54 rfl)))))))
theorem s_224_30 {Γ : m_G} : m_ok Γ m_tab 224 M_224 30 (g_224_30) := ok_al_n (pc := 30) d_224_30 rfl (ok_getf (pc := 31) d_224_31 w_951 (hc1 fo_70) (ok_il_n (pc := 34) d_224_34 rfl (ok_iald (pc := 35) d_224_35 (ok_czge (pc := 36) (t := 42) d_224_36 rfl (by decide) rfl (ok_bi (pc := 39) d_224_39 rfl (ok_ri (pc := 41) d_224_41 rfl))))))
theorem s_224_27 {Γ : m_G} : m_ok Γ m_tab 224 M_224 27 (g_224_27) := ok_bi (pc := 27) d_224_27 rfl (ok_ri (pc := 29) d_224_29 rfl)
theorem s_224_0 {Γ : m_G} : m_ok Γ m_tab 224 M_224 0 (g_224_0) := ok_il_n (pc := 0) d_224_0 rfl (ok_cat (pc := 1) (k2 := 219) rfl tb_219 (by decide) (by decide) rfl (go_S d_224_1 w_1321 w_1322 w_11 w_1323 nn_219 (by decide)) (ok_czeq (pc := 4) (t := 27) d_224_4 rfl (by decide) rfl (ok_il_n (pc := 7) d_224_7 rfl (ok_ic (pc := 8) d_224_8 rfl (ok_ic (pc := 9) d_224_9 rfl (ok_cat (pc := 10) (k2 := 140) rfl tb_140 (by decide) (by decide) rfl (go_S d_224_10 w_1044 w_1045 w_11 w_1046 nn_140 (by decide)) (ok_czeq (pc := 13) (t := 27) d_224_13 rfl (by decide) rfl (ok_il (pc := 16) d_224_16 (ok_ic (pc := 18) d_224_18 rfl (ok_bi (pc := 19) d_224_19 rfl (ok_cat (pc := 21) (k2 := 140) rfl tb_140 (by decide) (by decide) rfl (go_S d_224_21 w_1044 w_1045 w_11 w_1046 nn_140 (by decide)) (ok_czne (pc := 24) (t := 30) d_224_24 rfl (by decide) rfl (s_224_27)))))))))))))
theorem tst_224 {Γ : m_G} (q : Nat) : m_ts Γ (t_224 q) q := ts_n (ts_n (ts_n (ts_l (k := 224) (pc := 0) tb_224 rfl (by decide) s_224_0) (ts_l (k := 224) (pc := 27) tb_224 rfl (by decide) s_224_27)) (ts_n (ts_l (k := 224) (pc := 30) tb_224 rfl (by decide) s_224_30) (ts_n (ts_l (k := 224) (pc := 42) tb_224 rfl (by decide) s_224_42) (ts_l (k := 224) (pc := 55) tb_224 rfl (by decide) s_224_55)))) (ts_n (ts_n (ts_l (k := 224) (pc := 61) tb_224 rfl (by decide) s_224_61) (ts_l (k := 224) (pc := 99) tb_224 rfl (by decide) s_224_99)) (ts_n (ts_l (k := 224) (pc := 102) tb_224 rfl (by decide) s_224_102) (ts_n (ts_l (k := 224) (pc := 157) tb_224 rfl (by decide) s_224_157) (ts_l (k := 224) (pc := 163) tb_224 rfl (by decide) s_224_163))))
theorem d_225_0 : decode prog_15_method_49_code 0 = .ok (.iload_n 0, 1) := by decide +kernel
theorem d_225_1 : decode prog_15_method_49_code 1 = .ok (.iload_n 0, 1) := by decide +kernel
theorem d_225_2 : decode prog_15_method_49_code 2 = .ok (.iconst 1, 1) := by decide +kernel
theorem d_225_3 : decode prog_15_method_49_code 3 = .ok (.iushr, 1) := by decide +kernel
theorem d_225_4 : decode prog_15_method_49_code 4 = .ok (.ldc_w 265, 3) := by decide +kernel
theorem d_225_7 : decode prog_15_method_49_code 7 = .ok (.iand, 1) := by decide +kernel
theorem d_225_8 : decode prog_15_method_49_code 8 = .ok (.isub, 1) := by decide +kernel
theorem d_225_9 : decode prog_15_method_49_code 9 = .ok (.istore_n 0, 1) := by decide +kernel
theorem d_225_10 : decode prog_15_method_49_code 10 = .ok (.iload_n 0, 1) := by decide +kernel
theorem d_225_11 : decode prog_15_method_49_code 11 = .ok (.ldc_w 266, 3) := by decide +kernel
theorem d_225_14 : decode prog_15_method_49_code 14 = .ok (.iand, 1) := by decide +kernel
theorem d_225_15 : decode prog_15_method_49_code 15 = .ok (.iload_n 0, 1) := by decide +kernel
theorem d_225_16 : decode prog_15_method_49_code 16 = .ok (.iconst 2, 1) := by decide +kernel
theorem d_225_17 : decode prog_15_method_49_code 17 = .ok (.iushr, 1) := by decide +kernel
theorem d_225_18 : decode prog_15_method_49_code 18 = .ok (.ldc_w 266, 3) := by decide +kernel
theorem d_225_21 : decode prog_15_method_49_code 21 = .ok (.iand, 1) := by decide +kernel
theorem d_225_22 : decode prog_15_method_49_code 22 = .ok (.iadd, 1) := by decide +kernel
theorem d_225_23 : decode prog_15_method_49_code 23 = .ok (.istore_n 0, 1) := by decide +kernel
theorem d_225_24 : decode prog_15_method_49_code 24 = .ok (.iload_n 0, 1) := by decide +kernel
theorem d_225_25 : decode prog_15_method_49_code 25 = .ok (.iload_n 0, 1) := by decide +kernel
theorem d_225_26 : decode prog_15_method_49_code 26 = .ok (.iconst 4, 1) := by decide +kernel
theorem d_225_27 : decode prog_15_method_49_code 27 = .ok (.iushr, 1) := by decide +kernel
theorem d_225_28 : decode prog_15_method_49_code 28 = .ok (.iadd, 1) := by decide +kernel
theorem d_225_29 : decode prog_15_method_49_code 29 = .ok (.ldc_w 267, 3) := by decide +kernel
theorem d_225_32 : decode prog_15_method_49_code 32 = .ok (.iand, 1) := by decide +kernel
theorem d_225_33 : decode prog_15_method_49_code 33 = .ok (.istore_n 0, 1) := by decide +kernel
theorem d_225_34 : decode prog_15_method_49_code 34 = .ok (.iload_n 0, 1) := by decide +kernel
theorem d_225_35 : decode prog_15_method_49_code 35 = .ok (.iload_n 0, 1) := by decide +kernel
theorem d_225_36 : decode prog_15_method_49_code 36 = .ok (.bipush 8, 2) := by decide +kernel
theorem d_225_38 : decode prog_15_method_49_code 38 = .ok (.iushr, 1) := by decide +kernel
theorem d_225_39 : decode prog_15_method_49_code 39 = .ok (.iadd, 1) := by decide +kernel
theorem d_225_40 : decode prog_15_method_49_code 40 = .ok (.istore_n 0, 1) := by decide +kernel
theorem d_225_41 : decode prog_15_method_49_code 41 = .ok (.iload_n 0, 1) := by decide +kernel
theorem d_225_42 : decode prog_15_method_49_code 42 = .ok (.iload_n 0, 1) := by decide +kernel
theorem d_225_43 : decode prog_15_method_49_code 43 = .ok (.bipush 16, 2) := by decide +kernel
theorem d_225_45 : decode prog_15_method_49_code 45 = .ok (.iushr, 1) := by decide +kernel
theorem d_225_46 : decode prog_15_method_49_code 46 = .ok (.iadd, 1) := by decide +kernel
theorem d_225_47 : decode prog_15_method_49_code 47 = .ok (.istore_n 0, 1) := by decide +kernel
theorem d_225_48 : decode prog_15_method_49_code 48 = .ok (.iload_n 0, 1) := by decide +kernel
theorem d_225_49 : decode prog_15_method_49_code 49 = .ok (.bipush 63, 2) := by decide +kernel
theorem d_225_51 : decode prog_15_method_49_code 51 = .ok (.iand, 1) := by decide +kernel
theorem d_225_52 : decode prog_15_method_49_code 52 = .ok (.ireturn, 1) := by decide +kernel
theorem s_225_51 {Γ : m_G} : m_ok Γ m_tab 225 M_225 51 (g_225_51) := ok_and (pc := 51) d_225_51 (ok_ri (pc := 52) d_225_52 rfl)
theorem s_225_0 {Γ : m_G} : m_ok Γ m_tab 225 M_225 0 (g_225_0) := ok_il_n (pc := 0) d_225_0 rfl (ok_il_n (pc := 1) d_225_1 rfl (ok_ic (pc := 2) d_225_2 rfl (ok_ushr (pc := 3) d_225_3 (ok_ldcw (pc := 4) d_225_4 w_615 rfl (ok_and (pc := 7) d_225_7 (ok_sub (pc := 8) d_225_8 (ok_is_n (pc := 9) d_225_9 rfl (by decide) (ok_il_n (pc := 10) d_225_10 rfl (ok_ldcw (pc := 11) d_225_11 w_616 rfl (ok_and (pc := 14) d_225_14 (ok_il_n (pc := 15) d_225_15 rfl (ok_ic (pc := 16) d_225_16 rfl (ok_ushr (pc := 17) d_225_17 (ok_ldcw (pc := 18) d_225_18 w_616 rfl (ok_and (pc := 21) d_225_21 (ok_add (pc := 22) d_225_22 (ok_is_n (pc := 23) d_225_23 rfl (by decide) (ok_il_n (pc := 24) d_225_24 rfl (ok_il_n (pc := 25) d_225_25 rfl (ok_ic (pc := 26) d_225_26 rfl (ok_ushr (pc := 27) d_225_27 (ok_add (pc := 28) d_225_28 (ok_ldcw (pc := 29) d_225_29 w_617 rfl (ok_and (pc := 32) d_225_32 (ok_is_n (pc := 33) d_225_33 rfl (by decide) (ok_il_n (pc := 34) d_225_34 rfl (ok_il_n (pc := 35) d_225_35 rfl (ok_bi (pc := 36) d_225_36 rfl (ok_ushr (pc := 38) d_225_38 (ok_add (pc := 39) d_225_39 (ok_is_n (pc := 40) d_225_40 rfl (by decide) (ok_il_n (pc := 41) d_225_41 rfl (ok_il_n (pc := 42) d_225_42 rfl (ok_bi (pc := 43) d_225_43 rfl (ok_ushr (pc := 45) d_225_45 (ok_add (pc := 46) d_225_46 (ok_is_n (pc := 47) d_225_47 rfl (by decide) (ok_il_n (pc := 48) d_225_48 rfl (ok_bi (pc := 49) d_225_49 rfl (s_225_51))))))))))))))))))))))))))))))))))))))))
theorem tst_225 {Γ : m_G} (q : Nat) : m_ts Γ (t_225 q) q := ts_l (k := 225) (pc := 0) tb_225 rfl (by decide) s_225_0
