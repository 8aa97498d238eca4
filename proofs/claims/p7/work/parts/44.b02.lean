theorem d_92_0 : decode prog_1_method_5_code 0 = .ok (.aload_n 0, 1) := by decide +kernel
theorem d_92_1 : decode prog_1_method_5_code 1 = .ok (.getfield 10, 3) := by decide +kernel
theorem d_92_4 : decode prog_1_method_5_code 4 = .ok (.iload_n 1, 1) := by decide +kernel
theorem d_92_5 : decode prog_1_method_5_code 5 = .ok (.invokevirtual 145, 3) := by decide +kernel
theorem d_92_8 : decode prog_1_method_5_code 8 = .ok (.ifCond .ne 6, 3) := by decide +kernel
theorem d_92_11 : decode prog_1_method_5_code 11 = .ok (.bipush (-2), 2) := by decide +kernel
theorem d_92_13 : decode prog_1_method_5_code 13 = .ok (.ireturn, 1) := by decide +kernel
theorem d_92_14 : decode prog_1_method_5_code 14 = .ok (.iload_n 2, 1) := by decide +kernel
theorem d_92_15 : decode prog_1_method_5_code 15 = .ok (.tableswitch 68 0 3 #[29, 39, 49, 58], 29) := by decide +kernel
theorem d_92_44 : decode prog_1_method_5_code 44 = .ok (.aload_n 0, 1) := by decide +kernel
theorem d_92_45 : decode prog_1_method_5_code 45 = .ok (.getfield 10, 3) := by decide +kernel
theorem d_92_48 : decode prog_1_method_5_code 48 = .ok (.getfield 129, 3) := by decide +kernel
theorem d_92_51 : decode prog_1_method_5_code 51 = .ok (.iload_n 1, 1) := by decide +kernel
theorem d_92_52 : decode prog_1_method_5_code 52 = .ok (.iaload, 1) := by decide +kernel
theorem d_92_53 : decode prog_1_method_5_code 53 = .ok (.ireturn, 1) := by decide +kernel
theorem d_92_54 : decode prog_1_method_5_code 54 = .ok (.aload_n 0, 1) := by decide +kernel
theorem d_92_55 : decode prog_1_method_5_code 55 = .ok (.getfield 10, 3) := by decide +kernel
theorem d_92_58 : decode prog_1_method_5_code 58 = .ok (.getfield 132, 3) := by decide +kernel
theorem d_92_61 : decode prog_1_method_5_code 61 = .ok (.iload_n 1, 1) := by decide +kernel
theorem d_92_62 : decode prog_1_method_5_code 62 = .ok (.iaload, 1) := by decide +kernel
theorem d_92_63 : decode prog_1_method_5_code 63 = .ok (.ireturn, 1) := by decide +kernel
theorem d_92_64 : decode prog_1_method_5_code 64 = .ok (.aload_n 0, 1) := by decide +kernel
theorem d_92_65 : decode prog_1_method_5_code 65 = .ok (.getfield 10, 3) := by decide +kernel
theorem d_92_68 : decode prog_1_method_5_code 68 = .ok (.iload_n 1, 1) := by decide +kernel
theorem d_92_69 : decode prog_1_method_5_code 69 = .ok (.invokevirtual 135, 3) := by decide +kernel
theorem d_92_72 : decode prog_1_method_5_code 72 = .ok (.ireturn, 1) := by decide +kernel
theorem d_92_73 : decode prog_1_method_5_code 73 = .ok (.aload_n 0, 1) := by decide +kernel
theorem d_92_74 : decode prog_1_method_5_code 74 = .ok (.getfield 10, 3) := by decide +kernel
theorem d_92_77 : decode prog_1_method_5_code 77 = .ok (.getfield 115, 3) := by decide +kernel
theorem d_92_80 : decode prog_1_method_5_code 80 = .ok (.iload_n 1, 1) := by decide +kernel
theorem d_92_81 : decode prog_1_method_5_code 81 = .ok (.iaload, 1) := by decide +kernel
theorem d_92_82 : decode prog_1_method_5_code 82 = .ok (.ireturn, 1) := by decide +kernel
theorem d_92_83 : decode prog_1_method_5_code 83 = .ok (.bipush (-2), 2) := by decide +kernel
theorem d_92_85 : decode prog_1_method_5_code 85 = .ok (.ireturn, 1) := by decide +kernel
theorem s_92_83 {Γ : m_G} : m_ok Γ m_tab 92 M_92 83 (g_92_83) := ok_bi (pc := 83) d_92_83 rfl (ok_ri (pc := 85) d_92_85 rfl)
theorem s_92_73 {Γ : m_G} : m_ok Γ m_tab 92 M_92 73 (g_92_73) := ok_al_n (pc := 73) d_92_73 rfl (ok_getf (pc := 74) d_92_74 w_352 (hc1 fo_52) (ok_getf (pc := 77) d_92_77 w_55 (hc1 fo_27) (ok_il_n (pc := 80) d_92_80 rfl (ok_iald (pc := 81) d_92_81 (ok_ri (pc := 82) d_92_82 rfl)))))
theorem s_92_64 {Γ : m_G} : m_ok Γ m_tab 92 M_92 64 (g_92_64) := ok_al_n (pc := 64) d_92_64 rfl (ok_getf (pc := 65) d_92_65 w_352 (hc1 fo_52) (ok_il_n (pc := 68) d_92_68 rfl (ok_cai (pc := 69) (k2 := 84) rfl rfl tb_84 (by decide) (by decide) rfl (go_V d_92_69 w_435 w_436 w_437 w_2 w_438 nn_84 (by decide) cl_10 rfl) (ok_ri (pc := 72) d_92_72 rfl))))
theorem s_92_54 {Γ : m_G} : m_ok Γ m_tab 92 M_92 54 (g_92_54) := ok_al_n (pc := 54) d_92_54 rfl (ok_getf (pc := 55) d_92_55 w_352 (hc1 fo_52) (ok_getf (pc := 58) d_92_58 w_61 (hc1 fo_32) (ok_il_n (pc := 61) d_92_61 rfl (ok_iald (pc := 62) d_92_62 (ok_ri (pc := 63) d_92_63 rfl)))))
theorem s_92_44 {Γ : m_G} : m_ok Γ m_tab 92 M_92 44 (g_92_44) := ok_al_n (pc := 44) d_92_44 rfl (ok_getf (pc := 45) d_92_45 w_352 (hc1 fo_52) (ok_getf (pc := 48) d_92_48 w_58 (hc1 fo_31) (ok_il_n (pc := 51) d_92_51 rfl (ok_iald (pc := 52) d_92_52 (ok_ri (pc := 53) d_92_53 rfl)))))
theorem s_92_14 {Γ : m_G} : m_ok Γ m_tab 92 M_92 14 (g_92_14) := ok_il_n (pc := 14) d_92_14 rfl (ok_tsw (pc := 15) d_92_15 rfl rfl (by decide +kernel) (by decide +kernel) (by decide) (by decide) (by decide +kernel) (by decide))
theorem s_92_0 {Γ : m_G} : m_ok Γ m_tab 92 M_92 0 (g_92_0) := ok_al_n (pc := 0) d_92_0 rfl (ok_getf (pc := 1) d_92_1 w_352 (hc1 fo_52) (ok_il_n (pc := 4) d_92_4 rfl (ok_cai (pc := 5) (k2 := 80) rfl rfl tb_80 (by decide) (by decide) rfl (go_V d_92_5 w_430 w_412 w_413 w_2 w_414 nn_80 (by decide) cl_10 rfl) (ok_czne (pc := 8) (t := 14) d_92_8 rfl (by decide) rfl (ok_bi (pc := 11) d_92_11 rfl (ok_ri (pc := 13) d_92_13 rfl))))))
theorem tst_92 {Γ : m_G} (q : Nat) : m_ts Γ (t_92 q) q := ts_n (ts_n (ts_l (k := 92) (pc := 0) tb_92 rfl (by decide) s_92_0) (ts_n (ts_l (k := 92) (pc := 14) tb_92 rfl (by decide) s_92_14) (ts_l (k := 92) (pc := 44) tb_92 rfl (by decide) s_92_44))) (ts_n (ts_n (ts_l (k := 92) (pc := 54) tb_92 rfl (by decide) s_92_54) (ts_l (k := 92) (pc := 64) tb_92 rfl (by decide) s_92_64)) (ts_n (ts_l (k := 92) (pc := 73) tb_92 rfl (by decide) s_92_73) (ts_l (k := 92) (pc := 83) tb_92 rfl (by decide) s_92_83)))
theorem d_93_0 : decode prog_1_method_6_code 0 = .ok (.iload_n 1, 1) := by decide +kernel
theorem d_93_1 : decode prog_1_method_6_code 1 = .ok (.iconst 5, 1) := by decide +kernel
theorem d_93_2 : decode prog_1_method_6_code 2 = .ok (.invokestatic 122, 3) := by decide +kernel
theorem d_93_5 : decode prog_1_method_6_code 5 = .ok (.ifCond .eq 12, 3) := by decide +kernel
theorem d_93_8 : decode prog_1_method_6_code 8 = .ok (.iload_n 2, 1) := by decide +kernel
theorem d_93_9 : decode prog_1_method_6_code 9 = .ok (.bipush 9, 2) := by decide +kernel
theorem d_93_11 : decode prog_1_method_6_code 11 = .ok (.invokestatic 122, 3) := by decide +kernel
theorem d_93_14 : decode prog_1_method_6_code 14 = .ok (.ifCond .ne 6, 3) := by decide +kernel
theorem d_93_17 : decode prog_1_method_6_code 17 = .ok (.bipush (-2), 2) := by decide +kernel
theorem d_93_19 : decode prog_1_method_6_code 19 = .ok (.ireturn, 1) := by decide +kernel
theorem d_93_20 : decode prog_1_method_6_code 20 = .ok (.aload_n 0, 1) := by decide +kernel
theorem d_93_21 : decode prog_1_method_6_code 21 = .ok (.getfield 148, 3) := by decide +kernel
theorem d_93_24 : decode prog_1_method_6_code 24 = .ok (.iconst 5, 1) := by decide +kernel
theorem d_93_25 : decode prog_1_method_6_code 25 = .ok (.if_icmp .lt 6, 3) := by decide +kernel
theorem d_93_28 : decode prog_1_method_6_code 28 = .ok (.bipush (-4), 2) := by decide +kernel
theorem d_93_30 : decode prog_1_method_6_code 30 = .ok (.ireturn, 1) := by decide +kernel
theorem d_93_31 : decode prog_1_method_6_code 31 = .ok (.aload_n 0, 1) := by decide +kernel
theorem d_93_32 : decode prog_1_method_6_code 32 = .ok (.getfield 30, 3) := by decide +kernel
theorem d_93_35 : decode prog_1_method_6_code 35 = .ok (.aload_n 0, 1) := by decide +kernel
theorem d_93_36 : decode prog_1_method_6_code 36 = .ok (.getfield 148, 3) := by decide +kernel
theorem d_93_39 : decode prog_1_method_6_code 39 = .ok (.iload_n 1, 1) := by decide +kernel
theorem d_93_40 : decode prog_1_method_6_code 40 = .ok (.iload_n 2, 1) := by decide +kernel
theorem d_93_41 : decode prog_1_method_6_code 41 = .ok (.invokestatic 151, 3) := by decide +kernel
theorem d_93_44 : decode prog_1_method_6_code 44 = .ok (.aastore, 1) := by decide +kernel
theorem d_93_45 : decode prog_1_method_6_code 45 = .ok (.aload_n 0, 1) := by decide +kernel
theorem d_93_46 : decode prog_1_method_6_code 46 = .ok (.dup, 1) := by decide +kernel
theorem d_93_47 : decode prog_1_method_6_code 47 = .ok (.getfield 148, 3) := by decide +kernel
theorem d_93_50 : decode prog_1_method_6_code 50 = .ok (.iconst 1, 1) := by decide +kernel
theorem d_93_51 : decode prog_1_method_6_code 51 = .ok (.iadd, 1) := by decide +kernel
theorem d_93_52 : decode prog_1_method_6_code 52 = .ok (.putfield 148, 3) := by decide +kernel
theorem d_93_55 : decode prog_1_method_6_code 55 = .ok (.aload_n 0, 1) := by decide +kernel
theorem d_93_56 : decode prog_1_method_6_code 56 = .ok (.getfield 24, 3) := by decide +kernel
theorem d_93_59 : decode prog_1_method_6_code 59 = .ok (.invokevirtual 105, 3) := by decide +kernel
theorem d_93_62 : decode prog_1_method_6_code 62 = .ok (.aload_n 0, 1) := by decide +kernel
theorem d_93_63 : decode prog_1_method_6_code 63 = .ok (.getfield 148, 3) := by decide +kernel
theorem d_93_66 : decode prog_1_method_6_code 66 = .ok (.iconst 1, 1) := by decide +kernel
theorem d_93_67 : decode prog_1_method_6_code 67 = .ok (.isub, 1) := by decide +kernel
theorem d_93_68 : decode prog_1_method_6_code 68 = .ok (.ireturn, 1) := by decide +kernel
theorem s_93_31 {Γ : m_G} : m_ok Γ m_tab 93 M_93 31 (g_93_31) := ok_al_n (pc := 31) d_93_31 rfl (ok_getf (pc := 32) d_93_32 w_356 (hc1 fo_56) (ok_al_n (pc := 35) d_93_35 rfl (ok_getf (pc := 36) d_93_36 w_357 (hc1 fo_55) (ok_il_n (pc := 39) d_93_39 rfl (ok_il_n (pc := 40) d_93_40 rfl (ok_cat (pc := 41) (k2 := 127) rfl tb_127 (by decide) (by decide) rfl (go_S d_93_41 w_447 w_448 w_1 w_449 nn_127 (by decide)) (ok_aast (pc := 44) d_93_44 rfl as_3 (ok_al_n (pc := 45) d_93_45 rfl (ok_dup (pc := 46) d_93_46 (ok_getf (pc := 47) d_93_47 w_357 (hc1 fo_55) (ok_ic (pc := 50) d_93_50 rfl (ok_add (pc := 51) d_93_51 (ok_putf (pc := 52) d_93_52 w_357 (hc1 ⟨_, _, _, tyX11, cl_11, in_11, by decide, rfl, rfl, rfl, tyX11_ok, nmX11, Or.inl rfl⟩) pd_0 vt_I (ok_al_n (pc := 55) d_93_55 rfl (ok_getf (pc := 56) d_93_56 w_355 (hc1 fo_53) (ok_cvi (pc := 59) (k2 := 37) rfl rfl tb_37 (by decide) (by decide) rfl (go_V d_93_59 w_399 w_400 w_401 w_3 w_402 nn_37 (by decide) cl_5 rfl) (ok_al_n (pc := 62) d_93_62 rfl (ok_getf (pc := 63) d_93_63 w_357 (hc1 fo_55) (ok_ic (pc := 66) d_93_66 rfl (ok_sub (pc := 67) d_93_67 (ok_ri (pc := 68) d_93_68 rfl)))))))))))))))))))))
theorem s_93_20 {Γ : m_G} : m_ok Γ m_tab 93 M_93 20 (g_93_20) := ok_al_n (pc := 20) d_93_20 rfl (ok_getf (pc := 21) d_93_21 w_357 (hc1 fo_55) (ok_ic (pc := 24) d_93_24 rfl (ok_cilt (pc := 25) (t := 31) d_93_25 rfl (by decide) rfl (ok_bi (pc := 28) d_93_28 rfl (ok_ri (pc := 30) d_93_30 rfl)))))
theorem s_93_17 {Γ : m_G} : m_ok Γ m_tab 93 M_93 17 (g_93_17) := ok_bi (pc := 17) d_93_17 rfl (ok_ri (pc := 19) d_93_19 rfl)
theorem s_93_0 {Γ : m_G} : m_ok Γ m_tab 93 M_93 0 (g_93_0) := ok_il_n (pc := 0) d_93_0 rfl (ok_ic (pc := 1) d_93_1 rfl (ok_cat (pc := 2) (k2 := 121) rfl tb_121 (by decide) (by decide) rfl (go_S d_93_2 w_423 w_424 w_1 w_425 nn_121 (by decide)) (ok_czeq (pc := 5) (t := 17) d_93_5 rfl (by decide) rfl (ok_il_n (pc := 8) d_93_8 rfl (ok_bi (pc := 9) d_93_9 rfl (ok_cat (pc := 11) (k2 := 121) rfl tb_121 (by decide) (by decide) rfl (go_S d_93_11 w_423 w_424 w_1 w_425 nn_121 (by decide)) (ok_czne (pc := 14) (t := 20) d_93_14 rfl (by decide) rfl (s_93_17))))))))
theorem tst_93 {Γ : m_G} (q : Nat) : m_ts Γ (t_93 q) q := ts_n (ts_n (ts_l (k := 93) (pc := 0) tb_93 rfl (by decide) s_93_0) (ts_l (k := 93) (pc := 17) tb_93 rfl (by decide) s_93_17)) (ts_n (ts_l (k := 93) (pc := 20) tb_93 rfl (by decide) s_93_20) (ts_l (k := 93) (pc := 31) tb_93 rfl (by decide) s_93_31))
theorem d_94_0 : decode prog_1_method_7_code 0 = .ok (.aload_n 0, 1) := by decide +kernel
theorem d_94_1 : decode prog_1_method_7_code 1 = .ok (.iload_n 1, 1) := by decide +kernel
theorem d_94_2 : decode prog_1_method_7_code 2 = .ok (.invokevirtual 155, 3) := by decide +kernel
theorem d_94_5 : decode prog_1_method_7_code 5 = .ok (.astore 4, 2) := by decide +kernel
theorem d_94_7 : decode prog_1_method_7_code 7 = .ok (.aload 4, 2) := by decide +kernel
theorem d_94_9 : decode prog_1_method_7_code 9 = .ok (.ifnull 14, 3) := by decide +kernel
theorem d_94_12 : decode prog_1_method_7_code 12 = .ok (.iload_n 2, 1) := by decide +kernel
theorem d_94_13 : decode prog_1_method_7_code 13 = .ok (.ifCond .lt 10, 3) := by decide +kernel
theorem d_94_16 : decode prog_1_method_7_code 16 = .ok (.iload_n 3, 1) := by decide +kernel
theorem d_94_17 : decode prog_1_method_7_code 17 = .ok (.invokestatic 112, 3) := by decide +kernel
theorem d_94_20 : decode prog_1_method_7_code 20 = .ok (.ifCond .ne 6, 3) := by decide +kernel
theorem d_94_23 : decode prog_1_method_7_code 23 = .ok (.bipush (-2), 2) := by decide +kernel
theorem d_94_25 : decode prog_1_method_7_code 25 = .ok (.ireturn, 1) := by decide +kernel
theorem d_94_26 : decode prog_1_method_7_code 26 = .ok (.iload_n 2, 1) := by decide +kernel
theorem d_94_27 : decode prog_1_method_7_code 27 = .ok (.bipush 100, 2) := by decide +kernel
theorem d_94_29 : decode prog_1_method_7_code 29 = .ok (.idiv, 1) := by decide +kernel
theorem d_94_30 : decode prog_1_method_7_code 30 = .ok (.istore 5, 2) := by decide +kernel
theorem d_94_32 : decode prog_1_method_7_code 32 = .ok (.iload_n 2, 1) := by decide +kernel
theorem d_94_33 : decode prog_1_method_7_code 33 = .ok (.bipush 10, 2) := by decide +kernel
theorem d_94_35 : decode prog_1_method_7_code 35 = .ok (.idiv, 1) := by decide +kernel
theorem d_94_36 : decode prog_1_method_7_code 36 = .ok (.bipush 10, 2) := by decide +kernel
theorem d_94_38 : decode prog_1_method_7_code 38 = .ok (.irem, 1) := by decide +kernel
theorem d_94_39 : decode prog_1_method_7_code 39 = .ok (.istore 6, 2) := by decide +kernel
theorem d_94_41 : decode prog_1_method_7_code 41 = .ok (.iload_n 2, 1) := by decide +kernel
theorem d_94_42 : decode prog_1_method_7_code 42 = .ok (.bipush 10, 2) := by decide +kernel
theorem d_94_44 : decode prog_1_method_7_code 44 = .ok (.irem, 1) := by decide +kernel
theorem d_94_45 : decode prog_1_method_7_code 45 = .ok (.istore 7, 2) := by decide +kernel
theorem d_94_47 : decode prog_1_method_7_code 47 = .ok (.aload_n 0, 1) := by decide +kernel
theorem d_94_48 : decode prog_1_method_7_code 48 = .ok (.getfield 10, 3) := by decide +kernel
theorem d_94_51 : decode prog_1_method_7_code 51 = .ok (.iload 5, 2) := by decide +kernel
theorem d_94_53 : decode prog_1_method_7_code 53 = .ok (.invokevirtual 145, 3) := by decide +kernel
theorem d_94_56 : decode prog_1_method_7_code 56 = .ok (.ifCond .eq 34, 3) := by decide +kernel
theorem d_94_59 : decode prog_1_method_7_code 59 = .ok (.aload_n 0, 1) := by decide +kernel
theorem d_94_60 : decode prog_1_method_7_code 60 = .ok (.getfield 10, 3) := by decide +kernel
theorem d_94_63 : decode prog_1_method_7_code 63 = .ok (.iload 6, 2) := by decide +kernel
theorem d_94_65 : decode prog_1_method_7_code 65 = .ok (.invokevirtual 159, 3) := by decide +kernel
theorem d_94_68 : decode prog_1_method_7_code 68 = .ok (.ifCond .eq 22, 3) := by decide +kernel
theorem d_94_71 : decode prog_1_method_7_code 71 = .ok (.aload_n 0, 1) := by decide +kernel
theorem d_94_72 : decode prog_1_method_7_code 72 = .ok (.getfield 10, 3) := by decide +kernel
theorem d_94_75 : decode prog_1_method_7_code 75 = .ok (.iload 7, 2) := by decide +kernel
theorem d_94_77 : decode prog_1_method_7_code 77 = .ok (.invokevirtual 159, 3) := by decide +kernel
theorem d_94_80 : decode prog_1_method_7_code 80 = .ok (.ifCond .eq 10, 3) := by decide +kernel
theorem d_94_83 : decode prog_1_method_7_code 83 = .ok (.iload 6, 2) := by decide +kernel
theorem d_94_85 : decode prog_1_method_7_code 85 = .ok (.iload 7, 2) := by decide +kernel
theorem d_94_87 : decode prog_1_method_7_code 87 = .ok (.if_icmp .ne 6, 3) := by decide +kernel
theorem d_94_90 : decode prog_1_method_7_code 90 = .ok (.bipush (-2), 2) := by decide +kernel
theorem d_94_92 : decode prog_1_method_7_code 92 = .ok (.ireturn, 1) := by decide +kernel
theorem d_94_93 : decode prog_1_method_7_code 93 = .ok (.iload_n 3, 1) := by decide +kernel
theorem d_94_94 : decode prog_1_method_7_code 94 = .ok (.iconst 1, 1) := by decide +kernel
theorem d_94_95 : decode prog_1_method_7_code 95 = .ok (.if_icmp .ne 23, 3) := by decide +kernel
theorem d_94_98 : decode prog_1_method_7_code 98 = .ok (.aload 4, 2) := by decide +kernel
theorem d_94_100 : decode prog_1_method_7_code 100 = .ok (.iload 5, 2) := by decide +kernel
theorem d_94_102 : decode prog_1_method_7_code 102 = .ok (.iload 6, 2) := by decide +kernel
theorem d_94_104 : decode prog_1_method_7_code 104 = .ok (.iload 7, 2) := by decide +kernel
theorem d_94_106 : decode prog_1_method_7_code 106 = .ok (.invokevirtual 162, 3) := by decide +kernel
theorem d_94_109 : decode prog_1_method_7_code 109 = .ok (.ifCond .eq 7, 3) := by decide +kernel
theorem d_94_112 : decode prog_1_method_7_code 112 = .ok (.iconst 1, 1) := by decide +kernel
theorem d_94_113 : decode prog_1_method_7_code 113 = .ok (.goto 4, 3) := by decide +kernel
theorem d_94_116 : decode prog_1_method_7_code 116 = .ok (.iconst 0, 1) := by decide +kernel
theorem d_94_117 : decode prog_1_method_7_code 117 = .ok (.ireturn, 1) := by decide +kernel
theorem d_94_118 : decode prog_1_method_7_code 118 = .ok (.iconst 0, 1) := by decide +kernel
theorem d_94_119 : decode prog_1_method_7_code 119 = .ok (.aload 4, 2) := by decide +kernel
theorem d_94_121 : decode prog_1_method_7_code 121 = .ok (.iload 5, 2) := by decide +kernel
theorem d_94_123 : decode prog_1_method_7_code 123 = .ok (.iload 6, 2) := by decide +kernel
theorem d_94_125 : decode prog_1_method_7_code 125 = .ok (.iload 7, 2) := by decide +kernel
theorem d_94_127 : decode prog_1_method_7_code 127 = .ok (.invokevirtual 165, 3) := by decide +kernel
theorem d_94_130 : decode prog_1_method_7_code 130 = .ok (.invokestatic 169, 3) := by decide +kernel
theorem d_94_133 : decode prog_1_method_7_code 133 = .ok (.ireturn, 1) := by decide +kernel
theorem s_94_130 {Γ : m_G} : m_ok Γ m_tab 94 M_94 130 (g_94_130) := ok_max (pc := 130) d_94_130 w_564 w_565 w_18 w_566 (ok_ri (pc := 133) d_94_133 rfl)
theorem s_94_118 {Γ : m_G} : m_ok Γ m_tab 94 M_94 118 (g_94_118) := ok_ic (pc := 118) d_94_118 rfl (ok_al (pc := 119) d_94_119 (ok_il (pc := 121) d_94_121 (ok_il (pc := 123) d_94_123 (ok_il (pc := 125) d_94_125 (ok_vc (List.forall_mem_cons.mpr ⟨ok_cai (pc := 127) (k2 := 2) rfl rfl tb_2 (by decide) (by decide) rfl (go_U d_94_127 w_541 w_544 w_542 w_545 w_546 w_17 w_547 w_563 nn_10 (by decide) cl_0) (s_94_130), List.forall_mem_cons.mpr ⟨ok_cai (pc := 127) (k2 := 5) rfl rfl tb_5 (by decide) (by decide) rfl (go_U d_94_127 w_541 w_544 w_542 w_551 w_552 w_15 w_553 w_563 nn_10 (by decide) cl_1) (s_94_130), List.forall_mem_cons.mpr ⟨ok_cai (pc := 127) (k2 := 8) rfl rfl tb_8 (by decide) (by decide) rfl (go_U d_94_127 w_541 w_544 w_542 w_557 w_558 w_16 w_559 w_563 nn_10 (by decide) cl_2) (s_94_130), List.forall_mem_cons.mpr ⟨ok_cai (pc := 127) (k2 := 10) rfl rfl tb_10 (by decide) (by decide) rfl (go_U d_94_127 w_541 w_544 w_542 w_543 w_542 w_12 w_563 w_563 nn_10 (by decide) cl_3) (s_94_130), List.forall_mem_cons.mpr ⟨ok_cai (pc := 127) (k2 := 66) rfl rfl tb_66 (by decide) (by decide) rfl (go_U d_94_127 w_541 w_544 w_542 w_561 w_549 w_14 w_550 w_563 nn_10 (by decide) cl_7) (s_94_130), List.forall_mem_cons.mpr ⟨ok_cai (pc := 127) (k2 := 69) rfl rfl tb_69 (by decide) (by decide) rfl (go_U d_94_127 w_541 w_544 w_542 w_562 w_555 w_13 w_556 w_563 nn_10 (by decide) cl_8) (s_94_130), fun _ h => absurd h List.not_mem_nil⟩⟩⟩⟩⟩⟩))))))
theorem s_94_117 {Γ : m_G} : m_ok Γ m_tab 94 M_94 117 (g_94_117) := ok_ri (pc := 117) d_94_117 rfl
theorem s_94_116 {Γ : m_G} : m_ok Γ m_tab 94 M_94 116 (g_94_116) := ok_ic (pc := 116) d_94_116 rfl (s_94_117)
theorem s_94_109 {Γ : m_G} : m_ok Γ m_tab 94 M_94 109 (g_94_109) := ok_czeq (pc := 109) (t := 116) d_94_109 rfl (by decide) rfl (ok_ic (pc := 112) d_94_112 rfl (ok_go (pc := 113) (t := 117) d_94_113 rfl (by decide) rfl))
theorem s_94_93 {Γ : m_G} : m_ok Γ m_tab 94 M_94 93 (g_94_93) := ok_il_n (pc := 93) d_94_93 rfl (ok_ic (pc := 94) d_94_94 rfl (ok_cine (pc := 95) (t := 118) d_94_95 rfl (by decide) rfl (ok_al (pc := 98) d_94_98 (ok_il (pc := 100) d_94_100 (ok_il (pc := 102) d_94_102 (ok_il (pc := 104) d_94_104 (ok_vc (List.forall_mem_cons.mpr ⟨ok_cai (pc := 106) (k2 := 3) rfl rfl tb_3 (by decide) (by decide) rfl (go_U d_94_106 w_524 w_527 w_525 w_528 w_529 w_17 w_530 w_540 nn_11 (by decide) cl_0) (s_94_109), List.forall_mem_cons.mpr ⟨ok_cai (pc := 106) (k2 := 6) rfl rfl tb_6 (by decide) (by decide) rfl (go_U d_94_106 w_524 w_527 w_525 w_534 w_535 w_15 w_536 w_540 nn_11 (by decide) cl_1) (s_94_109), List.forall_mem_cons.mpr ⟨ok_cai (pc := 106) (k2 := 67) rfl rfl tb_67 (by decide) (by decide) rfl (go_U d_94_106 w_524 w_527 w_525 w_537 w_532 w_14 w_533 w_540 nn_11 (by decide) cl_2) (s_94_109), List.forall_mem_cons.mpr ⟨ok_cai (pc := 106) (k2 := 11) rfl rfl tb_11 (by decide) (by decide) rfl (go_U d_94_106 w_524 w_527 w_525 w_526 w_525 w_12 w_540 w_540 nn_11 (by decide) cl_3) (s_94_109), List.forall_mem_cons.mpr ⟨ok_cai (pc := 106) (k2 := 67) rfl rfl tb_67 (by decide) (by decide) rfl (go_U d_94_106 w_524 w_527 w_525 w_538 w_532 w_14 w_533 w_540 nn_11 (by decide) cl_7) (s_94_109), List.forall_mem_cons.mpr ⟨ok_cai (pc := 106) (k2 := 11) rfl rfl tb_11 (by decide) (by decide) rfl (go_U d_94_106 w_524 w_527 w_525 w_539 w_525 w_12 w_540 w_540 nn_11 (by decide) cl_8) (s_94_109), fun _ h => absurd h List.not_mem_nil⟩⟩⟩⟩⟩⟩))))))))
theorem s_94_90 {Γ : m_G} : m_ok Γ m_tab 94 M_94 90 (g_94_90) := ok_bi (pc := 90) d_94_90 rfl (ok_ri (pc := 92) d_94_92 rfl)
theorem s_94_26 {Γ : m_G} : m_ok Γ m_tab 94 M_94 26 (g_94_26) := ok_il_n (pc := 26) d_94_26 rfl (ok_bi (pc := 27) d_94_27 rfl (ok_div (pc := 29) d_94_29 (ok_is (pc := 30) d_94_30 (by decide) (ok_il_n (pc := 32) d_94_32 rfl (ok_bi (pc := 33) d_94_33 rfl (ok_div (pc := 35) d_94_35 (ok_bi (pc := 36) d_94_36 rfl (ok_rem (pc := 38) d_94_38 (ok_is (pc := 39) d_94_39 (by decide) (ok_il_n (pc := 41) d_94_41 rfl (ok_bi (pc := 42) d_94_42 rfl (ok_rem (pc := 44) d_94_44 (ok_is (pc := 45) d_94_45 (by decide) (ok_al_n (pc := 47) d_94_47 rfl (ok_getf (pc := 48) d_94_48 w_352 (hc1 fo_52) (ok_il (pc := 51) d_94_51 (ok_cai (pc := 53) (k2 := 80) rfl rfl tb_80 (by decide) (by decide) rfl (go_V d_94_53 w_430 w_412 w_413 w_2 w_414 nn_80 (by decide) cl_10 rfl) (ok_czeq (pc := 56) (t := 90) d_94_56 rfl (by decide) rfl (ok_al_n (pc := 59) d_94_59 rfl (ok_getf (pc := 60) d_94_60 w_352 (hc1 fo_52) (ok_il (pc := 63) d_94_63 (ok_cai (pc := 65) (k2 := 82) rfl rfl tb_82 (by decide) (by decide) rfl (go_V d_94_65 w_431 w_432 w_433 w_2 w_434 nn_82 (by decide) cl_10 rfl) (ok_czeq (pc := 68) (t := 90) d_94_68 rfl (by decide) rfl (ok_al_n (pc := 71) d_94_71 rfl (ok_getf (pc := 72) d_94_72 w_352 (hc1 fo_52) (ok_il (pc := 75) d_94_75 (ok_cai (pc := 77) (k2 := 82) rfl rfl tb_82 (by decide) (by decide) rfl (go_V d_94_77 w_431 w_432 w_433 w_2 w_434 nn_82 (by decide) cl_10 rfl) (ok_czeq (pc := 80) (t := 90) d_94_80 rfl (by decide) rfl (ok_il (pc := 83) d_94_83 (ok_il (pc := 85) d_94_85 (ok_cine (pc := 87) (t := 93) d_94_87 rfl (by decide) rfl (s_94_90))))))))))))))))))))))))))))))))
theorem s_94_23 {Γ : m_G} : m_ok Γ m_tab 94 M_94 23 (g_94_23) := ok_bi (pc := 23) d_94_23 rfl (ok_ri (pc := 25) d_94_25 rfl)
theorem s_94_0 {Γ : m_G} : m_ok Γ m_tab 94 M_94 0 (g_94_0) := ok_al_n (pc := 0) d_94_0 rfl (ok_il_n (pc := 1) d_94_1 rfl (ok_cai (pc := 2) (k2 := 126) rfl rfl tb_126 (by decide) (by decide) rfl (go_V d_94_2 w_520 w_522 ws_18 w_1 w_523 nn_126 (by decide) cl_11 rfl) (ok_as (pc := 5) d_94_5 (by decide) (ok_al (pc := 7) d_94_7 (ok_ifn (pc := 9) (t := 23) d_94_9 rfl (by decide) rfl (ok_il_n (pc := 12) d_94_12 rfl (ok_czlt (pc := 13) (t := 23) d_94_13 rfl (by decide) rfl (ok_il_n (pc := 16) d_94_16 rfl (ok_cat (pc := 17) (k2 := 122) rfl tb_122 (by decide) (by decide) rfl (go_S d_94_17 w_415 w_416 w_1 w_417 nn_122 (by decide)) (ok_czne (pc := 20) (t := 26) d_94_20 rfl (by decide) rfl (s_94_23)))))))))))
theorem tst_94 {Γ : m_G} (q : Nat) : m_ts Γ (t_94 q) q := ts_n (ts_n (ts_n (ts_l (k := 94) (pc := 0) tb_94 rfl (by decide) s_94_0) (ts_l (k := 94) (pc := 23) tb_94 rfl (by decide) s_94_23)) (ts_n (ts_l (k := 94) (pc := 26) tb_94 rfl (by decide) s_94_26) (ts_l (k := 94) (pc := 90) tb_94 rfl (by decide) s_94_90))) (ts_n (ts_n (ts_l (k := 94) (pc := 93) tb_94 rfl (by decide) s_94_93) (ts_l (k := 94) (pc := 116) tb_94 rfl (by decide) s_94_116)) (ts_n (ts_l (k := 94) (pc := 117) tb_94 rfl (by decide) s_94_117) (ts_l (k := 94) (pc := 118) tb_94 rfl (by decide) s_94_118)))
theorem d_95_0 : decode prog_1_method_8_code 0 = .ok (.iload_n 1, 1) := by decide +kernel
theorem d_95_1 : decode prog_1_method_8_code 1 = .ok (.sipush 255, 3) := by decide +kernel
theorem d_95_4 : decode prog_1_method_8_code 4 = .ok (.invokestatic 122, 3) := by decide +kernel
theorem d_95_7 : decode prog_1_method_8_code 7 = .ok (.ifCond .ne 6, 3) := by decide +kernel
theorem d_95_10 : decode prog_1_method_8_code 10 = .ok (.bipush (-2), 2) := by decide +kernel
theorem d_95_12 : decode prog_1_method_8_code 12 = .ok (.ireturn, 1) := by decide +kernel
theorem d_95_13 : decode prog_1_method_8_code 13 = .ok (.aload_n 0, 1) := by decide +kernel
theorem d_95_14 : decode prog_1_method_8_code 14 = .ok (.getfield 37, 3) := by decide +kernel
theorem d_95_17 : decode prog_1_method_8_code 17 = .ok (.iload_n 1, 1) := by decide +kernel
theorem d_95_18 : decode prog_1_method_8_code 18 = .ok (.invokevirtual 75, 3) := by decide +kernel
theorem d_95_21 : decode prog_1_method_8_code 21 = .ok (.ifCond .eq 13, 3) := by decide +kernel
theorem d_95_24 : decode prog_1_method_8_code 24 = .ok (.aload_n 0, 1) := by decide +kernel
theorem d_95_25 : decode prog_1_method_8_code 25 = .ok (.getfield 37, 3) := by decide +kernel
theorem d_95_28 : decode prog_1_method_8_code 28 = .ok (.getfield 174, 3) := by decide +kernel
theorem d_95_31 : decode prog_1_method_8_code 31 = .ok (.goto 5, 3) := by decide +kernel
theorem d_95_34 : decode prog_1_method_8_code 34 = .ok (.bipush (-4), 2) := by decide +kernel
theorem d_95_36 : decode prog_1_method_8_code 36 = .ok (.ireturn, 1) := by decide +kernel
theorem s_95_36 {Γ : m_G} : m_ok Γ m_tab 95 M_95 36 (g_95_36) := ok_ri (pc := 36) d_95_36 rfl
theorem s_95_34 {Γ : m_G} : m_ok Γ m_tab 95 M_95 34 (g_95_34) := ok_bi (pc := 34) d_95_34 rfl (s_95_36)
theorem s_95_13 {Γ : m_G} : m_ok Γ m_tab 95 M_95 13 (g_95_13) := ok_al_n (pc := 13) d_95_13 rfl (ok_getf (pc := 14) d_95_14 w_358 (hc1 fo_50) (ok_il_n (pc := 17) d_95_17 rfl (ok_cai (pc := 18) (k2 := 13) rfl rfl tb_13 (by decide) (by decide) rfl (go_V d_95_18 w_226 w_227 w_228 w_4 w_229 nn_13 (by decide) cl_4 rfl) (ok_czeq (pc := 21) (t := 34) d_95_21 rfl (by decide) rfl (ok_al_n (pc := 24) d_95_24 rfl (ok_getf (pc := 25) d_95_25 w_358 (hc1 fo_50) (ok_getfN (host := "NeverLike") (pc := 28) d_95_28 (by decide +kernel) (hc1 fo_7) (ok_go (pc := 31) (t := 36) d_95_31 rfl (by decide) rfl))))))))
theorem s_95_0 {Γ : m_G} : m_ok Γ m_tab 95 M_95 0 (g_95_0) := ok_il_n (pc := 0) d_95_0 rfl (ok_si (pc := 1) d_95_1 rfl (ok_cat (pc := 4) (k2 := 121) rfl tb_121 (by decide) (by decide) rfl (go_S d_95_4 w_423 w_424 w_1 w_425 nn_121 (by decide)) (ok_czne (pc := 7) (t := 13) d_95_7 rfl (by decide) rfl (ok_bi (pc := 10) d_95_10 rfl (ok_ri (pc := 12) d_95_12 rfl)))))
theorem tst_95 {Γ : m_G} (q : Nat) : m_ts Γ (t_95 q) q := ts_n (ts_n (ts_l (k := 95) (pc := 0) tb_95 rfl (by decide) s_95_0) (ts_l (k := 95) (pc := 13) tb_95 rfl (by decide) s_95_13)) (ts_n (ts_l (k := 95) (pc := 34) tb_95 rfl (by decide) s_95_34) (ts_l (k := 95) (pc := 36) tb_95 rfl (by decide) s_95_36))
theorem d_96_0 : decode prog_1_method_9_code 0 = .ok (.aload_n 0, 1) := by decide +kernel
theorem d_96_1 : decode prog_1_method_9_code 1 = .ok (.getfield 83, 3) := by decide +kernel
theorem d_96_4 : decode prog_1_method_9_code 4 = .ok (.bipush 6, 2) := by decide +kernel
theorem d_96_6 : decode prog_1_method_9_code 6 = .ok (.if_icmp .lt 6, 3) := by decide +kernel
theorem d_96_9 : decode prog_1_method_9_code 9 = .ok (.bipush (-4), 2) := by decide +kernel
theorem d_96_11 : decode prog_1_method_9_code 11 = .ok (.ireturn, 1) := by decide +kernel
theorem d_96_12 : decode prog_1_method_9_code 12 = .ok (.aload_n 0, 1) := by decide +kernel
theorem d_96_13 : decode prog_1_method_9_code 13 = .ok (.getfield 37, 3) := by decide +kernel
theorem d_96_16 : decode prog_1_method_9_code 16 = .ok (.invokevirtual 79, 3) := by decide +kernel
theorem d_96_19 : decode prog_1_method_9_code 19 = .ok (.astore_n 1, 1) := by decide +kernel
theorem d_96_20 : decode prog_1_method_9_code 20 = .ok (.aload_n 1, 1) := by decide +kernel
theorem d_96_21 : decode prog_1_method_9_code 21 = .ok (.ifnonnull 14, 3) := by decide +kernel
theorem d_96_24 : decode prog_1_method_9_code 24 = .ok (.bipush (-100), 2) := by decide +kernel
theorem d_96_26 : decode prog_1_method_9_code 26 = .ok (.aload_n 0, 1) := by decide +kernel
theorem d_96_27 : decode prog_1_method_9_code 27 = .ok (.getfield 37, 3) := by decide +kernel
theorem d_96_30 : decode prog_1_method_9_code 30 = .ok (.getfield 177, 3) := by decide +kernel
theorem d_96_33 : decode prog_1_method_9_code 33 = .ok (.isub, 1) := by decide +kernel
theorem d_96_34 : decode prog_1_method_9_code 34 = .ok (.ireturn, 1) := by decide +kernel
theorem d_96_35 : decode prog_1_method_9_code 35 = .ok (.aload_n 0, 1) := by decide +kernel
theorem d_96_36 : decode prog_1_method_9_code 36 = .ok (.getfield 43, 3) := by decide +kernel
theorem d_96_39 : decode prog_1_method_9_code 39 = .ok (.aload_n 0, 1) := by decide +kernel
theorem d_96_40 : decode prog_1_method_9_code 40 = .ok (.getfield 83, 3) := by decide +kernel
theorem d_96_43 : decode prog_1_method_9_code 43 = .ok (.aload_n 1, 1) := by decide +kernel
theorem d_96_44 : decode prog_1_method_9_code 44 = .ok (.aastore, 1) := by decide +kernel
theorem d_96_45 : decode prog_1_method_9_code 45 = .ok (.aload_n 0, 1) := by decide +kernel
theorem d_96_46 : decode prog_1_method_9_code 46 = .ok (.dup, 1) := by decide +kernel
theorem d_96_47 : decode prog_1_method_9_code 47 = .ok (.getfield 83, 3) := by decide +kernel
theorem d_96_50 : decode prog_1_method_9_code 50 = .ok (.iconst 1, 1) := by decide +kernel
theorem d_96_51 : decode prog_1_method_9_code 51 = .ok (.iadd, 1) := by decide +kernel
theorem d_96_52 : decode prog_1_method_9_code 52 = .ok (.putfield 83, 3) := by decide +kernel
theorem d_96_55 : decode prog_1_method_9_code 55 = .ok (.aload_n 0, 1) := by decide +kernel
theorem d_96_56 : decode prog_1_method_9_code 56 = .ok (.getfield 83, 3) := by decide +kernel
theorem d_96_59 : decode prog_1_method_9_code 59 = .ok (.iconst 1, 1) := by decide +kernel
theorem d_96_60 : decode prog_1_method_9_code 60 = .ok (.isub, 1) := by decide +kernel
theorem d_96_61 : decode prog_1_method_9_code 61 = .ok (.ireturn, 1) := by decide +kernel
theorem s_96_35 {Γ : m_G} : m_ok Γ m_tab 96 M_96 35 (g_96_35) := ok_al_n (pc := 35) d_96_35 rfl (ok_getf (pc := 36) d_96_36 w_359 (hc1 fo_51) (ok_al_n (pc := 39) d_96_39 rfl (ok_getf (pc := 40) d_96_40 w_360 (hc1 fo_57) (ok_al_n (pc := 43) d_96_43 rfl (ok_aast (pc := 44) d_96_44 rfl as_9 (ok_al_n (pc := 45) d_96_45 rfl (ok_dup (pc := 46) d_96_46 (ok_getf (pc := 47) d_96_47 w_360 (hc1 fo_57) (ok_ic (pc := 50) d_96_50 rfl (ok_add (pc := 51) d_96_51 (ok_putf (pc := 52) d_96_52 w_360 (hc1 ⟨_, _, _, tyX11, cl_11, in_11, by decide, rfl, rfl, rfl, tyX11_ok, nmX11, Or.inl rfl⟩) pd_0 vt_I (ok_al_n (pc := 55) d_96_55 rfl (ok_getf (pc := 56) d_96_56 w_360 (hc1 fo_57) (ok_ic (pc := 59) d_96_59 rfl (ok_sub (pc := 60) d_96_60 (ok_ri (pc := 61) d_96_61 rfl))))))))))))))))
theorem s_96_12 {Γ : m_G} : m_ok Γ m_tab 96 M_96 12 (g_96_12) := ok_al_n (pc := 12) d_96_12 rfl (ok_getf (pc := 13) d_96_13 w_358 (hc1 fo_50) (ok_cai (pc := 16) (k2 := 15) rfl rfl tb_15 (by decide) (by decide) rfl (go_V d_96_16 w_230 w_231 w_232 w_4 w_233 nn_15 (by decide) cl_4 rfl) (ok_as_n (pc := 19) d_96_19 rfl (by decide) (ok_al_n (pc := 20) d_96_20 rfl (ok_ifnn (pc := 21) (t := 35) d_96_21 rfl (by decide) rfl (ok_bi (pc := 24) d_96_24 rfl (ok_al_n (pc := 26) d_96_26 rfl (ok_getf (pc := 27) d_96_27 w_358 (hc1 fo_50) (ok_getfN (host := "NeverLike") (pc := 30) d_96_30 (by decide +kernel) (hc1 fo_11) (ok_sub (pc := 33) d_96_33 (ok_ri (pc := 34) d_96_34 rfl)))))))))))
theorem s_96_0 {Γ : m_G} : m_ok Γ m_tab 96 M_96 0 (g_96_0) := ok_al_n (pc := 0) d_96_0 rfl (ok_getf (pc := 1) d_96_1 w_360 (hc1 fo_57) (ok_bi (pc := 4) d_96_4 rfl (ok_cilt (pc := 6) (t := 12) d_96_6 rfl (by decide) rfl (ok_bi (pc := 9) d_96_9 rfl (ok_ri (pc := 11) d_96_11 rfl)))))
theorem tst_96 {Γ : m_G} (q : Nat) : m_ts Γ (t_96 q) q := ts_n (ts_l (k := 96) (pc := 0) tb_96 rfl (by decide) s_96_0) (ts_n (ts_l (k := 96) (pc := 12) tb_96 rfl (by decide) s_96_12) (ts_l (k := 96) (pc := 35) tb_96 rfl (by decide) s_96_35))
theorem d_97_0 : decode prog_1_method_10_code 0 = .ok (.iload_n 1, 1) := by decide +kernel
theorem d_97_1 : decode prog_1_method_10_code 1 = .ok (.aload_n 0, 1) := by decide +kernel
theorem d_97_2 : decode prog_1_method_10_code 2 = .ok (.getfield 83, 3) := by decide +kernel
theorem d_97_5 : decode prog_1_method_10_code 5 = .ok (.iconst 1, 1) := by decide +kernel
theorem d_97_6 : decode prog_1_method_10_code 6 = .ok (.isub, 1) := by decide +kernel
theorem d_97_7 : decode prog_1_method_10_code 7 = .ok (.invokestatic 122, 3) := by decide +kernel
theorem d_97_10 : decode prog_1_method_10_code 10 = .ok (.ifCond .ne 6, 3) := by decide +kernel
theorem d_97_13 : decode prog_1_method_10_code 13 = .ok (.bipush (-2), 2) := by decide +kernel
theorem d_97_15 : decode prog_1_method_10_code 15 = .ok (.ireturn, 1) := by decide +kernel
theorem d_97_16 : decode prog_1_method_10_code 16 = .ok (.aload_n 0, 1) := by decide +kernel
theorem d_97_17 : decode prog_1_method_10_code 17 = .ok (.getfield 10, 3) := by decide +kernel
theorem d_97_20 : decode prog_1_method_10_code 20 = .ok (.getfield 180, 3) := by decide +kernel
theorem d_97_23 : decode prog_1_method_10_code 23 = .ok (.istore_n 2, 1) := by decide +kernel
theorem d_97_24 : decode prog_1_method_10_code 24 = .ok (.aload_n 0, 1) := by decide +kernel
theorem d_97_25 : decode prog_1_method_10_code 25 = .ok (.getfield 10, 3) := by decide +kernel
theorem d_97_28 : decode prog_1_method_10_code 28 = .ok (.iload_n 1, 1) := by decide +kernel
theorem d_97_29 : decode prog_1_method_10_code 29 = .ok (.putfield 180, 3) := by decide +kernel
theorem d_97_32 : decode prog_1_method_10_code 32 = .ok (.aload_n 0, 1) := by decide +kernel
theorem d_97_33 : decode prog_1_method_10_code 33 = .ok (.getfield 24, 3) := by decide +kernel
theorem d_97_36 : decode prog_1_method_10_code 36 = .ok (.invokevirtual 105, 3) := by decide +kernel
theorem d_97_39 : decode prog_1_method_10_code 39 = .ok (.iload_n 2, 1) := by decide +kernel
theorem d_97_40 : decode prog_1_method_10_code 40 = .ok (.ireturn, 1) := by decide +kernel
theorem s_97_16 {Γ : m_G} : m_ok Γ m_tab 97 M_97 16 (g_97_16) := ok_al_n (pc := 16) d_97_16 rfl (ok_getf (pc := 17) d_97_17 w_352 (hc1 fo_52) (ok_getf (pc := 20) d_97_20 w_68 (hc1 fo_47) (ok_is_n (pc := 23) d_97_23 rfl (by decide) (ok_al_n (pc := 24) d_97_24 rfl (ok_getf (pc := 25) d_97_25 w_352 (hc1 fo_52) (ok_il_n (pc := 28) d_97_28 rfl (ok_putf (pc := 29) d_97_29 w_68 (hc1 ⟨_, _, _, tyX10, cl_10, in_10, by decide, rfl, rfl, rfl, tyX10_ok, nmX10, Or.inl rfl⟩) pd_0 vt_I (ok_al_n (pc := 32) d_97_32 rfl (ok_getf (pc := 33) d_97_33 w_355 (hc1 fo_53) (ok_cvi (pc := 36) (k2 := 37) rfl rfl tb_37 (by decide) (by decide) rfl (go_V d_97_36 w_399 w_400 w_401 w_3 w_402 nn_37 (by decide) cl_5 rfl) (ok_il_n (pc := 39) d_97_39 rfl (ok_ri (pc := 40) d_97_40 rfl))))))))))))
theorem s_97_0 {Γ : m_G} : m_ok Γ m_tab 97 M_97 0 (g_97_0) := ok_il_n (pc := 0) d_97_0 rfl (ok_al_n (pc := 1) d_97_1 rfl (ok_getf (pc := 2) d_97_2 w_360 (hc1 fo_57) (ok_ic (pc := 5) d_97_5 rfl (ok_sub (pc := 6) d_97_6 (ok_cat (pc := 7) (k2 := 121) rfl tb_121 (by decide) (by decide) rfl (go_S d_97_7 w_423 w_424 w_1 w_425 nn_121 (by decide)) (ok_czne (pc := 10) (t := 16) d_97_10 rfl (by decide) rfl (ok_bi (pc := 13) d_97_13 rfl (ok_ri (pc := 15) d_97_15 rfl))))))))
theorem tst_97 {Γ : m_G} (q : Nat) : m_ts Γ (t_97 q) q := ts_n (ts_l (k := 97) (pc := 0) tb_97 rfl (by decide) s_97_0) (ts_l (k := 97) (pc := 16) tb_97 rfl (by decide) s_97_16)
theorem d_98_0 : decode prog_1_method_11_code 0 = .ok (.aload_n 0, 1) := by decide +kernel
theorem d_98_1 : decode prog_1_method_11_code 1 = .ok (.getfield 10, 3) := by decide +kernel
theorem d_98_4 : decode prog_1_method_11_code 4 = .ok (.aload_n 0, 1) := by decide +kernel
theorem d_98_5 : decode prog_1_method_11_code 5 = .ok (.getfield 10, 3) := by decide +kernel
theorem d_98_8 : decode prog_1_method_11_code 8 = .ok (.getfield 129, 3) := by decide +kernel
theorem d_98_11 : decode prog_1_method_11_code 11 = .ok (.invokevirtual 183, 3) := by decide +kernel
theorem d_98_14 : decode prog_1_method_11_code 14 = .ok (.ifCond .eq 7, 3) := by decide +kernel
theorem d_98_17 : decode prog_1_method_11_code 17 = .ok (.iconst 1, 1) := by decide +kernel
theorem d_98_18 : decode prog_1_method_11_code 18 = .ok (.goto 4, 3) := by decide +kernel
theorem d_98_21 : decode prog_1_method_11_code 21 = .ok (.iconst 0, 1) := by decide +kernel
theorem d_98_22 : decode prog_1_method_11_code 22 = .ok (.ireturn, 1) := by decide +kernel
theorem s_98_22 {Γ : m_G} : m_ok Γ m_tab 98 M_98 22 (g_98_22) := ok_ri (pc := 22) d_98_22 rfl
theorem s_98_21 {Γ : m_G} : m_ok Γ m_tab 98 M_98 21 (g_98_21) := ok_ic (pc := 21) d_98_21 rfl (s_98_22)
theorem s_98_0 {Γ : m_G} : m_ok Γ m_tab 98 M_98 0 (g_98_0) := ok_al_n (pc := 0) d_98_0 rfl (ok_getf (pc := 1) d_98_1 w_352 (hc1 fo_52) (ok_al_n (pc := 4) d_98_4 rfl (ok_getf (pc := 5) d_98_5 w_352 (hc1 fo_52) (ok_getf (pc := 8) d_98_8 w_58 (hc1 fo_31) (ok_cai (pc := 11) (k2 := 86) rfl rfl tb_86 (by decide) (by decide) rfl (go_V d_98_11 w_583 w_584 w_585 w_2 w_586 nn_86 (by decide) cl_10 rfl) (ok_czeq (pc := 14) (t := 21) d_98_14 rfl (by decide) rfl (ok_ic (pc := 17) d_98_17 rfl (ok_go (pc := 18) (t := 22) d_98_18 rfl (by decide) rfl))))))))
theorem tst_98 {Γ : m_G} (q : Nat) : m_ts Γ (t_98 q) q := ts_n (ts_l (k := 98) (pc := 0) tb_98 rfl (by decide) s_98_0) (ts_n (ts_l (k := 98) (pc := 21) tb_98 rfl (by decide) s_98_21) (ts_l (k := 98) (pc := 22) tb_98 rfl (by decide) s_98_22))
theorem d_99_0 : decode prog_1_method_12_code 0 = .ok (.aload_n 0, 1) := by decide +kernel
theorem d_99_1 : decode prog_1_method_12_code 1 = .ok (.aload_n 0, 1) := by decide +kernel
theorem d_99_2 : decode prog_1_method_12_code 2 = .ok (.getfield 10, 3) := by decide +kernel
theorem d_99_5 : decode prog_1_method_12_code 5 = .ok (.getfield 129, 3) := by decide +kernel
theorem d_99_8 : decode prog_1_method_12_code 8 = .ok (.iload_n 1, 1) := by decide +kernel
theorem d_99_9 : decode prog_1_method_12_code 9 = .ok (.iload_n 2, 1) := by decide +kernel
theorem d_99_10 : decode prog_1_method_12_code 10 = .ok (.invokevirtual 187, 3) := by decide +kernel
theorem d_99_13 : decode prog_1_method_12_code 13 = .ok (.ireturn, 1) := by decide +kernel
theorem s_99_0 {Γ : m_G} : m_ok Γ m_tab 99 M_99 0 (g_99_0) := ok_al_n (pc := 0) d_99_0 rfl (ok_al_n (pc := 1) d_99_1 rfl (ok_getf (pc := 2) d_99_2 w_352 (hc1 fo_52) (ok_getf (pc := 5) d_99_5 w_58 (hc1 fo_31) (ok_il_n (pc := 8) d_99_8 rfl (ok_il_n (pc := 9) d_99_9 rfl (ok_cai (pc := 10) (k2 := 129) rfl rfl tb_129 (by decide) (by decide) rfl (go_V d_99_10 w_595 w_597 ws_19 w_1 w_598 nn_129 (by decide) cl_11 rfl) (ok_ri (pc := 13) d_99_13 rfl)))))))
theorem tst_99 {Γ : m_G} (q : Nat) : m_ts Γ (t_99 q) q := ts_l (k := 99) (pc := 0) tb_99 rfl (by decide) s_99_0
theorem d_100_0 : decode prog_1_method_13_code 0 = .ok (.aload_n 0, 1) := by decide +kernel
theorem d_100_1 : decode prog_1_method_13_code 1 = .ok (.aload_n 0, 1) := by decide +kernel
theorem d_100_2 : decode prog_1_method_13_code 2 = .ok (.getfield 10, 3) := by decide +kernel
theorem d_100_5 : decode prog_1_method_13_code 5 = .ok (.getfield 129, 3) := by decide +kernel
theorem d_100_8 : decode prog_1_method_13_code 8 = .ok (.iload_n 1, 1) := by decide +kernel
theorem d_100_9 : decode prog_1_method_13_code 9 = .ok (.iload_n 2, 1) := by decide +kernel
theorem d_100_10 : decode prog_1_method_13_code 10 = .ok (.invokevirtual 187, 3) := by decide +kernel
theorem d_100_13 : decode prog_1_method_13_code 13 = .ok (.istore_n 3, 1) := by decide +kernel
theorem d_100_14 : decode prog_1_method_13_code 14 = .ok (.iload_n 3, 1) := by decide +kernel
theorem d_100_15 : decode prog_1_method_13_code 15 = .ok (.bipush (-5), 2) := by decide +kernel
theorem d_100_17 : decode prog_1_method_13_code 17 = .ok (.if_icmp .ne 6, 3) := by decide +kernel
theorem d_100_20 : decode prog_1_method_13_code 20 = .ok (.bipush (-3), 2) := by decide +kernel
theorem d_100_22 : decode prog_1_method_13_code 22 = .ok (.ireturn, 1) := by decide +kernel
theorem d_100_23 : decode prog_1_method_13_code 23 = .ok (.iload_n 3, 1) := by decide +kernel
theorem d_100_24 : decode prog_1_method_13_code 24 = .ok (.ifCond .lt 53, 3) := by decide +kernel
theorem d_100_27 : decode prog_1_method_13_code 27 = .ok (.aload_n 0, 1) := by decide +kernel
theorem d_100_28 : decode prog_1_method_13_code 28 = .ok (.getfield 10, 3) := by decide +kernel
theorem d_100_31 : decode prog_1_method_13_code 31 = .ok (.iload_n 1, 1) := by decide +kernel
theorem d_100_32 : decode prog_1_method_13_code 32 = .ok (.invokevirtual 145, 3) := by decide +kernel
theorem d_100_35 : decode prog_1_method_13_code 35 = .ok (.ifCond .eq 42, 3) := by decide +kernel
theorem d_100_38 : decode prog_1_method_13_code 38 = .ok (.aload_n 0, 1) := by decide +kernel
theorem d_100_39 : decode prog_1_method_13_code 39 = .ok (.getfield 10, 3) := by decide +kernel
theorem d_100_42 : decode prog_1_method_13_code 42 = .ok (.getfield 129, 3) := by decide +kernel
theorem d_100_45 : decode prog_1_method_13_code 45 = .ok (.iload_n 1, 1) := by decide +kernel
theorem d_100_46 : decode prog_1_method_13_code 46 = .ok (.iload_n 2, 1) := by decide +kernel
theorem d_100_47 : decode prog_1_method_13_code 47 = .ok (.iastore, 1) := by decide +kernel
theorem d_100_48 : decode prog_1_method_13_code 48 = .ok (.aload_n 0, 1) := by decide +kernel
theorem d_100_49 : decode prog_1_method_13_code 49 = .ok (.getfield 10, 3) := by decide +kernel
theorem d_100_52 : decode prog_1_method_13_code 52 = .ok (.sipush 999, 3) := by decide +kernel
theorem d_100_55 : decode prog_1_method_13_code 55 = .ok (.aload_n 0, 1) := by decide +kernel
theorem d_100_56 : decode prog_1_method_13_code 56 = .ok (.getfield 10, 3) := by decide +kernel
theorem d_100_59 : decode prog_1_method_13_code 59 = .ok (.getfield 142, 3) := by decide +kernel
theorem d_100_62 : decode prog_1_method_13_code 62 = .ok (.iconst 1, 1) := by decide +kernel
theorem d_100_63 : decode prog_1_method_13_code 63 = .ok (.iadd, 1) := by decide +kernel
theorem d_100_64 : decode prog_1_method_13_code 64 = .ok (.invokestatic 191, 3) := by decide +kernel
theorem d_100_67 : decode prog_1_method_13_code 67 = .ok (.putfield 142, 3) := by decide +kernel
theorem d_100_70 : decode prog_1_method_13_code 70 = .ok (.aload_n 0, 1) := by decide +kernel
theorem d_100_71 : decode prog_1_method_13_code 71 = .ok (.getfield 24, 3) := by decide +kernel
theorem d_100_74 : decode prog_1_method_13_code 74 = .ok (.invokevirtual 105, 3) := by decide +kernel
theorem d_100_77 : decode prog_1_method_13_code 77 = .ok (.iload_n 3, 1) := by decide +kernel
theorem d_100_78 : decode prog_1_method_13_code 78 = .ok (.ireturn, 1) := by decide +kernel
theorem s_100_77 {Γ : m_G} : m_ok Γ m_tab 100 M_100 77 (g_100_77) := ok_il_n (pc := 77) d_100_77 rfl (ok_ri (pc := 78) d_100_78 rfl)
theorem s_100_23 {Γ : m_G} : m_ok Γ m_tab 100 M_100 23 (g_100_23) := ok_il_n (pc := 23) d_100_23 rfl (ok_czlt (pc := 24) (t := 77) d_100_24 rfl (by decide) rfl (ok_al_n (pc := 27) d_100_27 rfl (ok_getf (pc := 28) d_100_28 w_352 (hc1 fo_52) (ok_il_n (pc := 31) d_100_31 rfl (ok_cai (pc := 32) (k2 := 80) rfl rfl tb_80 (by decide) (by decide) rfl (go_V d_100_32 w_430 w_412 w_413 w_2 w_414 nn_80 (by decide) cl_10 rfl) (ok_czeq (pc := 35) (t := 77) d_100_35 rfl (by decide) rfl (ok_al_n (pc := 38) d_100_38 rfl (ok_getf (pc := 39) d_100_39 w_352 (hc1 fo_52) (ok_getf (pc := 42) d_100_42 w_58 (hc1 fo_31) (ok_il_n (pc := 45) d_100_45 rfl (ok_il_n (pc := 46) d_100_46 rfl (ok_iast (pc := 47) d_100_47 (ok_al_n (pc := 48) d_100_48 rfl (ok_getf (pc := 49) d_100_49 w_352 (hc1 fo_52) (ok_si (pc := 52) d_100_52 rfl (ok_al_n (pc := 55) d_100_55 rfl (ok_getf (pc := 56) d_100_56 w_352 (hc1 fo_52) (ok_getf (pc := 59) d_100_59 w_66 (hc1 fo_48) (ok_ic (pc := 62) d_100_62 rfl (ok_add (pc := 63) d_100_63 (ok_min (pc := 64) d_100_64 w_633 w_634 w_18 w_635 (ok_putf (pc := 67) d_100_67 w_66 (hc1 ⟨_, _, _, tyX10, cl_10, in_10, by decide, rfl, rfl, rfl, tyX10_ok, nmX10, Or.inl rfl⟩) pd_0 vt_I (ok_al_n (pc := 70) d_100_70 rfl (ok_getf (pc := 71) d_100_71 w_355 (hc1 fo_53) (ok_cvi (pc := 74) (k2 := 37) rfl rfl tb_37 (by decide) (by decide) rfl (go_V d_100_74 w_399 w_400 w_401 w_3 w_402 nn_37 (by decide) cl_5 rfl) (s_100_77))))))))))))))))))))))))))
theorem s_100_0 {Γ : m_G} : m_ok Γ m_tab 100 M_100 0 (g_100_0) := ok_al_n (pc := 0) d_100_0 rfl (ok_al_n (pc := 1) d_100_1 rfl (ok_getf (pc := 2) d_100_2 w_352 (hc1 fo_52) (ok_getf (pc := 5) d_100_5 w_58 (hc1 fo_31) (ok_il_n (pc := 8) d_100_8 rfl (ok_il_n (pc := 9) d_100_9 rfl (ok_cai (pc := 10) (k2 := 129) rfl rfl tb_129 (by decide) (by decide) rfl (go_V d_100_10 w_595 w_597 ws_19 w_1 w_598 nn_129 (by decide) cl_11 rfl) (ok_is_n (pc := 13) d_100_13 rfl (by decide) (ok_il_n (pc := 14) d_100_14 rfl (ok_bi (pc := 15) d_100_15 rfl (ok_cine (pc := 17) (t := 23) d_100_17 rfl (by decide) rfl (ok_bi (pc := 20) d_100_20 rfl (ok_ri (pc := 22) d_100_22 rfl))))))))))))
theorem tst_100 {Γ : m_G} (q : Nat) : m_ts Γ (t_100 q) q := ts_n (ts_l (k := 100) (pc := 0) tb_100 rfl (by decide) s_100_0) (ts_n (ts_l (k := 100) (pc := 23) tb_100 rfl (by decide) s_100_23) (ts_l (k := 100) (pc := 77) tb_100 rfl (by decide) s_100_77))
theorem d_101_0 : decode prog_1_method_14_code 0 = .ok (.iload_n 1, 1) := by decide +kernel
theorem d_101_1 : decode prog_1_method_14_code 1 = .ok (.iconst 3, 1) := by decide +kernel
theorem d_101_2 : decode prog_1_method_14_code 2 = .ok (.invokestatic 122, 3) := by decide +kernel
theorem d_101_5 : decode prog_1_method_14_code 5 = .ok (.ifCond .ne 6, 3) := by decide +kernel
theorem d_101_8 : decode prog_1_method_14_code 8 = .ok (.bipush (-2), 2) := by decide +kernel
theorem d_101_10 : decode prog_1_method_14_code 10 = .ok (.ireturn, 1) := by decide +kernel
theorem d_101_11 : decode prog_1_method_14_code 11 = .ok (.iload_n 1, 1) := by decide +kernel
theorem d_101_12 : decode prog_1_method_14_code 12 = .ok (.iconst 3, 1) := by decide +kernel
theorem d_101_13 : decode prog_1_method_14_code 13 = .ok (.if_icmp .ne 15, 3) := by decide +kernel
theorem d_101_16 : decode prog_1_method_14_code 16 = .ok (.aload_n 0, 1) := by decide +kernel
theorem d_101_17 : decode prog_1_method_14_code 17 = .ok (.invokevirtual 194, 3) := by decide +kernel
theorem d_101_20 : decode prog_1_method_14_code 20 = .ok (.aload_n 0, 1) := by decide +kernel
theorem d_101_21 : decode prog_1_method_14_code 21 = .ok (.getfield 24, 3) := by decide +kernel
theorem d_101_24 : decode prog_1_method_14_code 24 = .ok (.invokevirtual 197, 3) := by decide +kernel
theorem d_101_27 : decode prog_1_method_14_code 27 = .ok (.ireturn, 1) := by decide +kernel
theorem d_101_28 : decode prog_1_method_14_code 28 = .ok (.aload_n 0, 1) := by decide +kernel
theorem d_101_29 : decode prog_1_method_14_code 29 = .ok (.invokevirtual 200, 3) := by decide +kernel
theorem d_101_32 : decode prog_1_method_14_code 32 = .ok (.iload_n 1, 1) := by decide +kernel
theorem d_101_33 : decode prog_1_method_14_code 33 = .ok (.lookupswitch 43 #[(0, 27), (1, 35)], 27) := by decide +kernel
theorem d_101_60 : decode prog_1_method_14_code 60 = .ok (.aload_n 0, 1) := by decide +kernel
theorem d_101_61 : decode prog_1_method_14_code 61 = .ok (.getfield 24, 3) := by decide +kernel
theorem d_101_64 : decode prog_1_method_14_code 64 = .ok (.getfield 203, 3) := by decide +kernel
theorem d_101_67 : decode prog_1_method_14_code 67 = .ok (.ireturn, 1) := by decide +kernel
theorem d_101_68 : decode prog_1_method_14_code 68 = .ok (.aload_n 0, 1) := by decide +kernel
theorem d_101_69 : decode prog_1_method_14_code 69 = .ok (.getfield 24, 3) := by decide +kernel
theorem d_101_72 : decode prog_1_method_14_code 72 = .ok (.invokevirtual 206, 3) := by decide +kernel
theorem d_101_75 : decode prog_1_method_14_code 75 = .ok (.ireturn, 1) := by decide +kernel
theorem d_101_76 : decode prog_1_method_14_code 76 = .ok (.aload_n 0, 1) := by decide +kernel
theorem d_101_77 : decode prog_1_method_14_code 77 = .ok (.getfield 24, 3) := by decide +kernel
theorem d_101_80 : decode prog_1_method_14_code 80 = .ok (.invokevirtual 209, 3) := by decide +kernel
theorem d_101_83 : decode prog_1_method_14_code 83 = .ok (.ireturn, 1) := by decide +kernel
theorem s_101_76 {Γ : m_G} : m_ok Γ m_tab 101 M_101 76 (g_101_76) := ok_al_n (pc := 76) d_101_76 rfl (ok_getf (pc := 77) d_101_77 w_355 (hc1 fo_53) (ok_cai (pc := 80) (k2 := 51) rfl rfl tb_51 (by decide) (by decide) rfl (go_V d_101_80 w_712 w_713 w_714 w_3 w_715 nn_51 (by decide) cl_5 rfl) (ok_ri (pc := 83) d_101_83 rfl)))
theorem s_101_68 {Γ : m_G} : m_ok Γ m_tab 101 M_101 68 (g_101_68) := ok_al_n (pc := 68) d_101_68 rfl (ok_getf (pc := 69) d_101_69 w_355 (hc1 fo_53) (ok_cai (pc := 72) (k2 := 50) rfl rfl tb_50 (by decide) (by decide) rfl (go_V d_101_72 w_708 w_709 w_710 w_3 w_711 nn_50 (by decide) cl_5 rfl) (ok_ri (pc := 75) d_101_75 rfl)))
theorem s_101_60 {Γ : m_G} : m_ok Γ m_tab 101 M_101 60 (g_101_60) := ok_al_n (pc := 60) d_101_60 rfl (ok_getf (pc := 61) d_101_61 w_355 (hc1 fo_53) (ok_getfN (host := "NeverLike") (pc := 64) d_101_64 (by decide +kernel) (hc1 fo_22) (ok_ri (pc := 67) d_101_67 rfl)))
theorem s_101_28 {Γ : m_G} : m_ok Γ m_tab 101 M_101 28 (g_101_28) := ok_al_n (pc := 28) d_101_28 rfl (ok_cvi (pc := 29) (k2 := 138) rfl rfl tb_138 (by decide) (by decide) rfl (go_V d_101_29 w_696 w_698 ws_32 w_1 w_699 nn_138 (by decide) cl_11 rfl) (ok_il_n (pc := 32) d_101_32 rfl (ok_lsw (pc := 33) d_101_33 (by decide +kernel) (by decide +kernel) (by decide +kernel))))
theorem s_101_11 {Γ : m_G} : m_ok Γ m_tab 101 M_101 11 (g_101_11) := ok_il_n (pc := 11) d_101_11 rfl (ok_ic (pc := 12) d_101_12 rfl (ok_cine (pc := 13) (t := 28) d_101_13 rfl (by decide) rfl (ok_al_n (pc := 16) d_101_16 rfl (ok_cvi (pc := 17) (k2 := 137) rfl rfl tb_137 (by decide) (by decide) rfl (go_V d_101_17 w_651 w_653 ws_25 w_1 w_654 nn_137 (by decide) cl_11 rfl) (ok_al_n (pc := 20) d_101_20 rfl (ok_getf (pc := 21) d_101_21 w_355 (hc1 fo_53) (ok_cai (pc := 24) (k2 := 49) rfl rfl tb_49 (by decide) (by decide) rfl (go_V d_101_24 w_662 w_663 w_664 w_3 w_665 nn_49 (by decide) cl_5 rfl) (ok_ri (pc := 27) d_101_27 rfl))))))))
theorem s_101_0 {Γ : m_G} : m_ok Γ m_tab 101 M_101 0 (g_101_0) := ok_il_n (pc := 0) d_101_0 rfl (ok_ic (pc := 1) d_101_1 rfl (ok_cat (pc := 2) (k2 := 121) rfl tb_121 (by decide) (by decide) rfl (go_S d_101_2 w_423 w_424 w_1 w_425 nn_121 (by decide)) (ok_czne (pc := 5) (t := 11) d_101_5 rfl (by decide) rfl (ok_bi (pc := 8) d_101_8 rfl (ok_ri (pc := 10) d_101_10 rfl)))))
theorem tst_101 {Γ : m_G} (q : Nat) : m_ts Γ (t_101 q) q := ts_n (ts_n (ts_l (k := 101) (pc := 0) tb_101 rfl (by decide) s_101_0) (ts_n (ts_l (k := 101) (pc := 11) tb_101 rfl (by decide) s_101_11) (ts_l (k := 101) (pc := 28) tb_101 rfl (by decide) s_101_28))) (ts_n (ts_l (k := 101) (pc := 60) tb_101 rfl (by decide) s_101_60) (ts_n (ts_l (k := 101) (pc := 68) tb_101 rfl (by decide) s_101_68) (ts_l (k := 101) (pc := 76) tb_101 rfl (by decide) s_101_76)))
theorem d_102_0 : decode prog_1_method_15_code 0 = .ok (.aload_n 0, 1) := by decide +kernel
theorem d_102_1 : decode prog_1_method_15_code 1 = .ok (.getfield 10, 3) := by decide +kernel
theorem d_102_4 : decode prog_1_method_15_code 4 = .ok (.iload_n 1, 1) := by decide +kernel
theorem d_102_5 : decode prog_1_method_15_code 5 = .ok (.invokevirtual 212, 3) := by decide +kernel
theorem d_102_8 : decode prog_1_method_15_code 8 = .ok (.ifCond .ne 6, 3) := by decide +kernel
theorem d_102_11 : decode prog_1_method_15_code 11 = .ok (.bipush (-2), 2) := by decide +kernel
theorem d_102_13 : decode prog_1_method_15_code 13 = .ok (.ireturn, 1) := by decide +kernel
theorem d_102_14 : decode prog_1_method_15_code 14 = .ok (.aload_n 0, 1) := by decide +kernel
theorem d_102_15 : decode prog_1_method_15_code 15 = .ok (.invokevirtual 200, 3) := by decide +kernel
theorem d_102_18 : decode prog_1_method_15_code 18 = .ok (.aload_n 0, 1) := by decide +kernel
theorem d_102_19 : decode prog_1_method_15_code 19 = .ok (.getfield 24, 3) := by decide +kernel
theorem d_102_22 : decode prog_1_method_15_code 22 = .ok (.iload_n 1, 1) := by decide +kernel
theorem d_102_23 : decode prog_1_method_15_code 23 = .ok (.invokevirtual 215, 3) := by decide +kernel
theorem d_102_26 : decode prog_1_method_15_code 26 = .ok (.ireturn, 1) := by decide +kernel
theorem s_102_14 {Γ : m_G} : m_ok Γ m_tab 102 M_102 14 (g_102_14) := ok_al_n (pc := 14) d_102_14 rfl (ok_cvi (pc := 15) (k2 := 138) rfl rfl tb_138 (by decide) (by decide) rfl (go_V d_102_15 w_696 w_698 ws_32 w_1 w_699 nn_138 (by decide) cl_11 rfl) (ok_al_n (pc := 18) d_102_18 rfl (ok_getf (pc := 19) d_102_19 w_355 (hc1 fo_53) (ok_il_n (pc := 22) d_102_22 rfl (ok_cai (pc := 23) (k2 := 52) rfl rfl tb_52 (by decide) (by decide) rfl (go_V d_102_23 w_721 w_722 w_723 w_3 w_724 nn_52 (by decide) cl_5 rfl) (ok_ri (pc := 26) d_102_26 rfl))))))
theorem s_102_0 {Γ : m_G} : m_ok Γ m_tab 102 M_102 0 (g_102_0) := ok_al_n (pc := 0) d_102_0 rfl (ok_getf (pc := 1) d_102_1 w_352 (hc1 fo_52) (ok_il_n (pc := 4) d_102_4 rfl (ok_cai (pc := 5) (k2 := 83) rfl rfl tb_83 (by decide) (by decide) rfl (go_V d_102_5 w_720 w_684 w_685 w_2 w_686 nn_83 (by decide) cl_10 rfl) (ok_czne (pc := 8) (t := 14) d_102_8 rfl (by decide) rfl (ok_bi (pc := 11) d_102_11 rfl (ok_ri (pc := 13) d_102_13 rfl))))))
theorem tst_102 {Γ : m_G} (q : Nat) : m_ts Γ (t_102 q) q := ts_n (ts_l (k := 102) (pc := 0) tb_102 rfl (by decide) s_102_0) (ts_l (k := 102) (pc := 14) tb_102 rfl (by decide) s_102_14)
theorem d_103_0 : decode prog_1_method_16_code 0 = .ok (.aload_n 0, 1) := by decide +kernel
theorem d_103_1 : decode prog_1_method_16_code 1 = .ok (.getfield 10, 3) := by decide +kernel
theorem d_103_4 : decode prog_1_method_16_code 4 = .ok (.iload_n 1, 1) := by decide +kernel
theorem d_103_5 : decode prog_1_method_16_code 5 = .ok (.invokevirtual 212, 3) := by decide +kernel
theorem d_103_8 : decode prog_1_method_16_code 8 = .ok (.ifCond .ne 6, 3) := by decide +kernel
theorem d_103_11 : decode prog_1_method_16_code 11 = .ok (.bipush (-2), 2) := by decide +kernel
theorem d_103_13 : decode prog_1_method_16_code 13 = .ok (.ireturn, 1) := by decide +kernel
theorem d_103_14 : decode prog_1_method_16_code 14 = .ok (.aload_n 0, 1) := by decide +kernel
theorem d_103_15 : decode prog_1_method_16_code 15 = .ok (.invokevirtual 200, 3) := by decide +kernel
theorem d_103_18 : decode prog_1_method_16_code 18 = .ok (.aload_n 0, 1) := by decide +kernel
theorem d_103_19 : decode prog_1_method_16_code 19 = .ok (.getfield 24, 3) := by decide +kernel
theorem d_103_22 : decode prog_1_method_16_code 22 = .ok (.iload_n 1, 1) := by decide +kernel
theorem d_103_23 : decode prog_1_method_16_code 23 = .ok (.iload_n 2, 1) := by decide +kernel
theorem d_103_24 : decode prog_1_method_16_code 24 = .ok (.invokevirtual 218, 3) := by decide +kernel
theorem d_103_27 : decode prog_1_method_16_code 27 = .ok (.ireturn, 1) := by decide +kernel
theorem s_103_14 {Γ : m_G} : m_ok Γ m_tab 103 M_103 14 (g_103_14) := ok_al_n (pc := 14) d_103_14 rfl (ok_cvi (pc := 15) (k2 := 138) rfl rfl tb_138 (by decide) (by decide) rfl (go_V d_103_15 w_696 w_698 ws_32 w_1 w_699 nn_138 (by decide) cl_11 rfl) (ok_al_n (pc := 18) d_103_18 rfl (ok_getf (pc := 19) d_103_19 w_355 (hc1 fo_53) (ok_il_n (pc := 22) d_103_22 rfl (ok_il_n (pc := 23) d_103_23 rfl (ok_cai (pc := 24) (k2 := 53) rfl rfl tb_53 (by decide) (by decide) rfl (go_V d_103_24 w_729 w_730 w_731 w_3 w_732 nn_53 (by decide) cl_5 rfl) (ok_ri (pc := 27) d_103_27 rfl)))))))
theorem s_103_0 {Γ : m_G} : m_ok Γ m_tab 103 M_103 0 (g_103_0) := ok_al_n (pc := 0) d_103_0 rfl (ok_getf (pc := 1) d_103_1 w_352 (hc1 fo_52) (ok_il_n (pc := 4) d_103_4 rfl (ok_cai (pc := 5) (k2 := 83) rfl rfl tb_83 (by decide) (by decide) rfl (go_V d_103_5 w_720 w_684 w_685 w_2 w_686 nn_83 (by decide) cl_10 rfl) (ok_czne (pc := 8) (t := 14) d_103_8 rfl (by decide) rfl (ok_bi (pc := 11) d_103_11 rfl (ok_ri (pc := 13) d_103_13 rfl))))))
theorem tst_103 {Γ : m_G} (q : Nat) : m_ts Γ (t_103 q) q := ts_n (ts_l (k := 103) (pc := 0) tb_103 rfl (by decide) s_103_0) (ts_l (k := 103) (pc := 14) tb_103 rfl (by decide) s_103_14)
theorem d_104_0 : decode prog_1_method_17_code 0 = .ok (.aload_n 0, 1) := by decide +kernel
theorem d_104_1 : decode prog_1_method_17_code 1 = .ok (.getfield 10, 3) := by decide +kernel
theorem d_104_4 : decode prog_1_method_17_code 4 = .ok (.iload_n 1, 1) := by decide +kernel
theorem d_104_5 : decode prog_1_method_17_code 5 = .ok (.invokevirtual 212, 3) := by decide +kernel
theorem d_104_8 : decode prog_1_method_17_code 8 = .ok (.ifCond .ne 6, 3) := by decide +kernel
theorem d_104_11 : decode prog_1_method_17_code 11 = .ok (.bipush (-2), 2) := by decide +kernel
theorem d_104_13 : decode prog_1_method_17_code 13 = .ok (.ireturn, 1) := by decide +kernel
theorem d_104_14 : decode prog_1_method_17_code 14 = .ok (.aload_n 0, 1) := by decide +kernel
theorem d_104_15 : decode prog_1_method_17_code 15 = .ok (.invokevirtual 200, 3) := by decide +kernel
theorem d_104_18 : decode prog_1_method_17_code 18 = .ok (.aload_n 0, 1) := by decide +kernel
theorem d_104_19 : decode prog_1_method_17_code 19 = .ok (.getfield 24, 3) := by decide +kernel
theorem d_104_22 : decode prog_1_method_17_code 22 = .ok (.iload_n 1, 1) := by decide +kernel
theorem d_104_23 : decode prog_1_method_17_code 23 = .ok (.invokevirtual 221, 3) := by decide +kernel
theorem d_104_26 : decode prog_1_method_17_code 26 = .ok (.ireturn, 1) := by decide +kernel
theorem s_104_14 {Γ : m_G} : m_ok Γ m_tab 104 M_104 14 (g_104_14) := ok_al_n (pc := 14) d_104_14 rfl (ok_cvi (pc := 15) (k2 := 138) rfl rfl tb_138 (by decide) (by decide) rfl (go_V d_104_15 w_696 w_698 ws_32 w_1 w_699 nn_138 (by decide) cl_11 rfl) (ok_al_n (pc := 18) d_104_18 rfl (ok_getf (pc := 19) d_104_19 w_355 (hc1 fo_53) (ok_il_n (pc := 22) d_104_22 rfl (ok_cai (pc := 23) (k2 := 55) rfl rfl tb_55 (by decide) (by decide) rfl (go_V d_104_23 w_742 w_743 w_744 w_3 w_745 nn_55 (by decide) cl_5 rfl) (ok_ri (pc := 26) d_104_26 rfl))))))
theorem s_104_0 {Γ : m_G} : m_ok Γ m_tab 104 M_104 0 (g_104_0) := ok_al_n (pc := 0) d_104_0 rfl (ok_getf (pc := 1) d_104_1 w_352 (hc1 fo_52) (ok_il_n (pc := 4) d_104_4 rfl (ok_cai (pc := 5) (k2 := 83) rfl rfl tb_83 (by decide) (by decide) rfl (go_V d_104_5 w_720 w_684 w_685 w_2 w_686 nn_83 (by decide) cl_10 rfl) (ok_czne (pc := 8) (t := 14) d_104_8 rfl (by decide) rfl (ok_bi (pc := 11) d_104_11 rfl (ok_ri (pc := 13) d_104_13 rfl))))))
theorem tst_104 {Γ : m_G} (q : Nat) : m_ts Γ (t_104 q) q := ts_n (ts_l (k := 104) (pc := 0) tb_104 rfl (by decide) s_104_0) (ts_l (k := 104) (pc := 14) tb_104 rfl (by decide) s_104_14)
theorem d_105_0 : decode prog_1_method_18_code 0 = .ok (.iload_n 1, 1) := by decide +kernel
theorem d_105_1 : decode prog_1_method_18_code 1 = .ok (.invokestatic 112, 3) := by decide +kernel
theorem d_105_4 : decode prog_1_method_18_code 4 = .ok (.ifCond .ne 6, 3) := by decide +kernel
theorem d_105_7 : decode prog_1_method_18_code 7 = .ok (.bipush (-2), 2) := by decide +kernel
theorem d_105_9 : decode prog_1_method_18_code 9 = .ok (.ireturn, 1) := by decide +kernel
theorem d_105_10 : decode prog_1_method_18_code 10 = .ok (.aload_n 0, 1) := by decide +kernel
theorem d_105_11 : decode prog_1_method_18_code 11 = .ok (.invokevirtual 200, 3) := by decide +kernel
theorem d_105_14 : decode prog_1_method_18_code 14 = .ok (.aload_n 0, 1) := by decide +kernel
theorem d_105_15 : decode prog_1_method_18_code 15 = .ok (.getfield 24, 3) := by decide +kernel
theorem d_105_18 : decode prog_1_method_18_code 18 = .ok (.invokevirtual 224, 3) := by decide +kernel
theorem d_105_21 : decode prog_1_method_18_code 21 = .ok (.istore_n 2, 1) := by decide +kernel
theorem d_105_22 : decode prog_1_method_18_code 22 = .ok (.iload_n 1, 1) := by decide +kernel
theorem d_105_23 : decode prog_1_method_18_code 23 = .ok (.ifCond .ne 7, 3) := by decide +kernel
theorem d_105_26 : decode prog_1_method_18_code 26 = .ok (.iload_n 2, 1) := by decide +kernel
theorem d_105_27 : decode prog_1_method_18_code 27 = .ok (.goto 11, 3) := by decide +kernel
theorem d_105_30 : decode prog_1_method_18_code 30 = .ok (.aload_n 0, 1) := by decide +kernel
theorem d_105_31 : decode prog_1_method_18_code 31 = .ok (.getfield 24, 3) := by decide +kernel
theorem d_105_34 : decode prog_1_method_18_code 34 = .ok (.iload_n 2, 1) := by decide +kernel
theorem d_105_35 : decode prog_1_method_18_code 35 = .ok (.invokevirtual 227, 3) := by decide +kernel
theorem d_105_38 : decode prog_1_method_18_code 38 = .ok (.ireturn, 1) := by decide +kernel
theorem s_105_38 {Γ : m_G} : m_ok Γ m_tab 105 M_105 38 (g_105_38) := ok_ri (pc := 38) d_105_38 rfl
theorem s_105_30 {Γ : m_G} : m_ok Γ m_tab 105 M_105 30 (g_105_30) := ok_al_n (pc := 30) d_105_30 rfl (ok_getf (pc := 31) d_105_31 w_355 (hc1 fo_53) (ok_il_n (pc := 34) d_105_34 rfl (ok_cai (pc := 35) (k2 := 57) rfl rfl tb_57 (by decide) (by decide) rfl (go_V d_105_35 w_766 w_763 w_764 w_3 w_765 nn_57 (by decide) cl_5 rfl) (s_105_38))))
theorem s_105_10 {Γ : m_G} : m_ok Γ m_tab 105 M_105 10 (g_105_10) := ok_al_n (pc := 10) d_105_10 rfl (ok_cvi (pc := 11) (k2 := 138) rfl rfl tb_138 (by decide) (by decide) rfl (go_V d_105_11 w_696 w_698 ws_32 w_1 w_699 nn_138 (by decide) cl_11 rfl) (ok_al_n (pc := 14) d_105_14 rfl (ok_getf (pc := 15) d_105_15 w_355 (hc1 fo_53) (ok_cai (pc := 18) (k2 := 58) rfl rfl tb_58 (by decide) (by decide) rfl (go_V d_105_18 w_758 w_759 w_760 w_3 w_761 nn_58 (by decide) cl_5 rfl) (ok_is_n (pc := 21) d_105_21 rfl (by decide) (ok_il_n (pc := 22) d_105_22 rfl (ok_czne (pc := 23) (t := 30) d_105_23 rfl (by decide) rfl (ok_il_n (pc := 26) d_105_26 rfl (ok_go (pc := 27) (t := 38) d_105_27 rfl (by decide) rfl)))))))))
theorem s_105_0 {Γ : m_G} : m_ok Γ m_tab 105 M_105 0 (g_105_0) := ok_il_n (pc := 0) d_105_0 rfl (ok_cat (pc := 1) (k2 := 122) rfl tb_122 (by decide) (by decide) rfl (go_S d_105_1 w_415 w_416 w_1 w_417 nn_122 (by decide)) (ok_czne (pc := 4) (t := 10) d_105_4 rfl (by decide) rfl (ok_bi (pc := 7) d_105_7 rfl (ok_ri (pc := 9) d_105_9 rfl))))
theorem tst_105 {Γ : m_G} (q : Nat) : m_ts Γ (t_105 q) q := ts_n (ts_n (ts_l (k := 105) (pc := 0) tb_105 rfl (by decide) s_105_0) (ts_l (k := 105) (pc := 10) tb_105 rfl (by decide) s_105_10)) (ts_n (ts_l (k := 105) (pc := 30) tb_105 rfl (by decide) s_105_30) (ts_l (k := 105) (pc := 38) tb_105 rfl (by decide) s_105_38))
theorem d_106_0 : decode prog_1_method_19_code 0 = .ok (.aload_n 0, 1) := by decide +kernel
theorem d_106_1 : decode prog_1_method_19_code 1 = .ok (.getfield 10, 3) := by decide +kernel
theorem d_106_4 : decode prog_1_method_19_code 4 = .ok (.iload_n 1, 1) := by decide +kernel
theorem d_106_5 : decode prog_1_method_19_code 5 = .ok (.iload_n 2, 1) := by decide +kernel
theorem d_106_6 : decode prog_1_method_19_code 6 = .ok (.invokevirtual 108, 3) := by decide +kernel
theorem d_106_9 : decode prog_1_method_19_code 9 = .ok (.ifCond .ne 6, 3) := by decide +kernel
theorem d_106_12 : decode prog_1_method_19_code 12 = .ok (.bipush (-2), 2) := by decide +kernel
theorem d_106_14 : decode prog_1_method_19_code 14 = .ok (.ireturn, 1) := by decide +kernel
theorem d_106_15 : decode prog_1_method_19_code 15 = .ok (.aload_n 0, 1) := by decide +kernel
theorem d_106_16 : decode prog_1_method_19_code 16 = .ok (.getfield 10, 3) := by decide +kernel
theorem d_106_19 : decode prog_1_method_19_code 19 = .ok (.getfield 129, 3) := by decide +kernel
theorem d_106_22 : decode prog_1_method_19_code 22 = .ok (.iconst 0, 1) := by decide +kernel
theorem d_106_23 : decode prog_1_method_19_code 23 = .ok (.aload_n 0, 1) := by decide +kernel
theorem d_106_24 : decode prog_1_method_19_code 24 = .ok (.getfield 60, 3) := by decide +kernel
theorem d_106_27 : decode prog_1_method_19_code 27 = .ok (.iconst 0, 1) := by decide +kernel
theorem d_106_28 : decode prog_1_method_19_code 28 = .ok (.bipush 6, 2) := by decide +kernel
theorem d_106_30 : decode prog_1_method_19_code 30 = .ok (.invokestatic 230, 3) := by decide +kernel
theorem d_106_33 : decode prog_1_method_19_code 33 = .ok (.aload_n 0, 1) := by decide +kernel
theorem d_106_34 : decode prog_1_method_19_code 34 = .ok (.getfield 60, 3) := by decide +kernel
theorem d_106_37 : decode prog_1_method_19_code 37 = .ok (.iload_n 1, 1) := by decide +kernel
theorem d_106_38 : decode prog_1_method_19_code 38 = .ok (.aload_n 0, 1) := by decide +kernel
theorem d_106_39 : decode prog_1_method_19_code 39 = .ok (.getfield 10, 3) := by decide +kernel
theorem d_106_42 : decode prog_1_method_19_code 42 = .ok (.getfield 129, 3) := by decide +kernel
theorem d_106_45 : decode prog_1_method_19_code 45 = .ok (.iload_n 2, 1) := by decide +kernel
theorem d_106_46 : decode prog_1_method_19_code 46 = .ok (.iaload, 1) := by decide +kernel
theorem d_106_47 : decode prog_1_method_19_code 47 = .ok (.iastore, 1) := by decide +kernel
theorem d_106_48 : decode prog_1_method_19_code 48 = .ok (.aload_n 0, 1) := by decide +kernel
theorem d_106_49 : decode prog_1_method_19_code 49 = .ok (.getfield 60, 3) := by decide +kernel
theorem d_106_52 : decode prog_1_method_19_code 52 = .ok (.iload_n 2, 1) := by decide +kernel
theorem d_106_53 : decode prog_1_method_19_code 53 = .ok (.aload_n 0, 1) := by decide +kernel
theorem d_106_54 : decode prog_1_method_19_code 54 = .ok (.getfield 10, 3) := by decide +kernel
theorem d_106_57 : decode prog_1_method_19_code 57 = .ok (.getfield 129, 3) := by decide +kernel
theorem d_106_60 : decode prog_1_method_19_code 60 = .ok (.iload_n 1, 1) := by decide +kernel
theorem d_106_61 : decode prog_1_method_19_code 61 = .ok (.iaload, 1) := by decide +kernel
theorem d_106_62 : decode prog_1_method_19_code 62 = .ok (.iastore, 1) := by decide +kernel
theorem d_106_63 : decode prog_1_method_19_code 63 = .ok (.aload_n 0, 1) := by decide +kernel
theorem d_106_64 : decode prog_1_method_19_code 64 = .ok (.getfield 10, 3) := by decide +kernel
theorem d_106_67 : decode prog_1_method_19_code 67 = .ok (.iload_n 1, 1) := by decide +kernel
theorem d_106_68 : decode prog_1_method_19_code 68 = .ok (.invokevirtual 135, 3) := by decide +kernel
theorem d_106_71 : decode prog_1_method_19_code 71 = .ok (.iconst 1, 1) := by decide +kernel
theorem d_106_72 : decode prog_1_method_19_code 72 = .ok (.if_icmp .eq 29, 3) := by decide +kernel
theorem d_106_75 : decode prog_1_method_19_code 75 = .ok (.aload_n 0, 1) := by decide +kernel
theorem d_106_76 : decode prog_1_method_19_code 76 = .ok (.getfield 10, 3) := by decide +kernel
theorem d_106_79 : decode prog_1_method_19_code 79 = .ok (.iload_n 2, 1) := by decide +kernel
theorem d_106_80 : decode prog_1_method_19_code 80 = .ok (.invokevirtual 135, 3) := by decide +kernel
theorem d_106_83 : decode prog_1_method_19_code 83 = .ok (.iconst 1, 1) := by decide +kernel
theorem d_106_84 : decode prog_1_method_19_code 84 = .ok (.if_icmp .eq 17, 3) := by decide +kernel
theorem d_106_87 : decode prog_1_method_19_code 87 = .ok (.aload_n 0, 1) := by decide +kernel
theorem d_106_88 : decode prog_1_method_19_code 88 = .ok (.getfield 10, 3) := by decide +kernel
theorem d_106_91 : decode prog_1_method_19_code 91 = .ok (.aload_n 0, 1) := by decide +kernel
theorem d_106_92 : decode prog_1_method_19_code 92 = .ok (.getfield 60, 3) := by decide +kernel
theorem d_106_95 : decode prog_1_method_19_code 95 = .ok (.invokevirtual 183, 3) := by decide +kernel
theorem d_106_98 : decode prog_1_method_19_code 98 = .ok (.ifCond .ne 6, 3) := by decide +kernel
theorem d_106_101 : decode prog_1_method_19_code 101 = .ok (.bipush (-5), 2) := by decide +kernel
theorem d_106_103 : decode prog_1_method_19_code 103 = .ok (.ireturn, 1) := by decide +kernel
theorem d_106_104 : decode prog_1_method_19_code 104 = .ok (.aload_n 0, 1) := by decide +kernel
theorem d_106_105 : decode prog_1_method_19_code 105 = .ok (.invokevirtual 194, 3) := by decide +kernel
theorem d_106_108 : decode prog_1_method_19_code 108 = .ok (.aload_n 0, 1) := by decide +kernel
theorem d_106_109 : decode prog_1_method_19_code 109 = .ok (.getfield 24, 3) := by decide +kernel
theorem d_106_112 : decode prog_1_method_19_code 112 = .ok (.aload_n 0, 1) := by decide +kernel
theorem d_106_113 : decode prog_1_method_19_code 113 = .ok (.getfield 10, 3) := by decide +kernel
theorem d_106_116 : decode prog_1_method_19_code 116 = .ok (.aload_n 0, 1) := by decide +kernel
theorem d_106_117 : decode prog_1_method_19_code 117 = .ok (.getfield 60, 3) := by decide +kernel
theorem d_106_120 : decode prog_1_method_19_code 120 = .ok (.invokevirtual 236, 3) := by decide +kernel
theorem d_106_123 : decode prog_1_method_19_code 123 = .ok (.invokevirtual 240, 3) := by decide +kernel
theorem d_106_126 : decode prog_1_method_19_code 126 = .ok (.aload_n 0, 1) := by decide +kernel
theorem d_106_127 : decode prog_1_method_19_code 127 = .ok (.getfield 24, 3) := by decide +kernel
theorem d_106_130 : decode prog_1_method_19_code 130 = .ok (.getfield 203, 3) := by decide +kernel
theorem d_106_133 : decode prog_1_method_19_code 133 = .ok (.ireturn, 1) := by decide +kernel
theorem s_106_104 {Γ : m_G} : m_ok Γ m_tab 106 M_106 104 (g_106_104) := ok_al_n (pc := 104) d_106_104 rfl (ok_cvi (pc := 105) (k2 := 137) rfl rfl tb_137 (by decide) (by decide) rfl (go_V d_106_105 w_651 w_653 ws_25 w_1 w_654 nn_137 (by decide) cl_11 rfl) (ok_al_n (pc := 108) d_106_108 rfl (ok_getf (pc := 109) d_106_109 w_355 (hc1 fo_53) (ok_al_n (pc := 112) d_106_112 rfl (ok_getf (pc := 113) d_106_113 w_352 (hc1 fo_52) (ok_al_n (pc := 116) d_106_116 rfl (ok_getf (pc := 117) d_106_117 w_364 (hc1 fo_58) (ok_cai (pc := 120) (k2 := 87) rfl rfl tb_87 (by decide) (by decide) rfl (go_V d_106_120 w_700 w_701 w_702 w_2 w_703 nn_87 (by decide) cl_10 rfl) (ok_cvi (pc := 123) (k2 := 40) rfl rfl tb_40 (by decide) (by decide) rfl (go_V d_106_123 w_704 w_705 w_706 w_3 w_707 nn_40 (by decide) cl_5 rfl) (ok_al_n (pc := 126) d_106_126 rfl (ok_getf (pc := 127) d_106_127 w_355 (hc1 fo_53) (ok_getfN (host := "NeverLike") (pc := 130) d_106_130 (by decide +kernel) (hc1 fo_22) (ok_ri (pc := 133) d_106_133 rfl)))))))))))))
theorem s_106_101 {Γ : m_G} : m_ok Γ m_tab 106 M_106 101 (g_106_101) := ok_bi (pc := 101) d_106_101 rfl (ok_ri (pc := 103) d_106_103 rfl)
theorem s_106_88 {Γ : m_G} : m_ok Γ m_tab 106 M_106 88 (g_106_88) := ok_getf (pc := 88) d_106_88 w_352 (hc1 fo_52) (ok_al_n (pc := 91) d_106_91 rfl (ok_getf (pc := 92) d_106_92 w_364 (hc1 fo_58) (ok_cai (pc := 95) (k2 := 86) rfl rfl tb_86 (by decide) (by decide) rfl (go_V d_106_95 w_583 w_584 w_585 w_2 w_586 nn_86 (by decide) cl_10 rfl) (ok_czne (pc := 98) (t := 104) d_106_98 rfl (by decide) rfl (s_106_101)))))
theorem s_106_15 {Γ : m_G} : m_ok Γ m_tab 106 M_106 15 (g_106_15) := ok_al_n (pc := 15) d_106_15 rfl (ok_getf (pc := 16) d_106_16 w_352 (hc1 fo_52) (ok_getf (pc := 19) d_106_19 w_58 (hc1 fo_31) (ok_ic (pc := 22) d_106_22 rfl (ok_al_n (pc := 23) d_106_23 rfl (ok_getf (pc := 24) d_106_24 w_364 (hc1 fo_58) (ok_ic (pc := 27) d_106_27 rfl (ok_bi (pc := 28) d_106_28 rfl (ok_copy (pc := 30) d_106_30 w_771 w_331 w_330 w_9 (ok_al_n (pc := 33) d_106_33 rfl (ok_getf (pc := 34) d_106_34 w_364 (hc1 fo_58) (ok_il_n (pc := 37) d_106_37 rfl (ok_al_n (pc := 38) d_106_38 rfl (ok_getf (pc := 39) d_106_39 w_352 (hc1 fo_52) (ok_getf (pc := 42) d_106_42 w_58 (hc1 fo_31) (ok_il_n (pc := 45) d_106_45 rfl (ok_iald (pc := 46) d_106_46 (ok_iast (pc := 47) d_106_47 (ok_al_n (pc := 48) d_106_48 rfl (ok_getf (pc := 49) d_106_49 w_364 (hc1 fo_58) (ok_il_n (pc := 52) d_106_52 rfl (ok_al_n (pc := 53) d_106_53 rfl (ok_getf (pc := 54) d_106_54 w_352 (hc1 fo_52) (ok_getf (pc := 57) d_106_57 w_58 (hc1 fo_31) (ok_il_n (pc := 60) d_106_60 rfl (ok_iald (pc := 61) d_106_61 (ok_iast (pc := 62) d_106_62 (ok_al_n (pc := 63) d_106_63 rfl (ok_getf (pc := 64) d_106_64 w_352 (hc1 fo_52) (ok_il_n (pc := 67) d_106_67 rfl (ok_cai (pc := 68) (k2 := 84) rfl rfl tb_84 (by decide) (by decide) rfl (go_V d_106_68 w_435 w_436 w_437 w_2 w_438 nn_84 (by decide) cl_10 rfl) (ok_ic (pc := 71) d_106_71 rfl (ok_cieq (pc := 72) (t := 101) d_106_72 rfl (by decide) rfl (ok_al_n (pc := 75) d_106_75 rfl (ok_getf (pc := 76) d_106_76 w_352 (hc1 fo_52) (ok_il_n (pc := 79) d_106_79 rfl (ok_cai (pc := 80) (k2 := 84) rfl rfl tb_84 (by decide) (by decide) rfl (go_V d_106_80 w_435 w_436 w_437 w_2 w_438 nn_84 (by decide) cl_10 rfl) (ok_ic (pc := 83) d_106_83 rfl (ok_cieq (pc := 84) (t := 101) d_106_84 rfl (by decide) rfl (ok_al_n (pc := 87) d_106_87 rfl (s_106_88))))))))))))))))))))))))))))))))))))))))
theorem s_106_0 {Γ : m_G} : m_ok Γ m_tab 106 M_106 0 (g_106_0) := ok_al_n (pc := 0) d_106_0 rfl (ok_getf (pc := 1) d_106_1 w_352 (hc1 fo_52) (ok_il_n (pc := 4) d_106_4 rfl (ok_il_n (pc := 5) d_106_5 rfl (ok_cai (pc := 6) (k2 := 81) rfl rfl tb_81 (by decide) (by decide) rfl (go_V d_106_6 w_407 w_408 w_409 w_2 w_410 nn_81 (by decide) cl_10 rfl) (ok_czne (pc := 9) (t := 15) d_106_9 rfl (by decide) rfl (ok_bi (pc := 12) d_106_12 rfl (ok_ri (pc := 14) d_106_14 rfl)))))))
theorem tst_106 {Γ : m_G} (q : Nat) : m_ts Γ (t_106 q) q := ts_n (ts_n (ts_l (k := 106) (pc := 0) tb_106 rfl (by decide) s_106_0) (ts_l (k := 106) (pc := 15) tb_106 rfl (by decide) s_106_15)) (ts_n (ts_l (k := 106) (pc := 101) tb_106 rfl (by decide) s_106_101) (ts_l (k := 106) (pc := 104) tb_106 rfl (by decide) s_106_104))
theorem d_107_0 : decode prog_1_method_20_code 0 = .ok (.iload_n 1, 1) := by decide +kernel
theorem d_107_1 : decode prog_1_method_20_code 1 = .ok (.iconst 1, 1) := by decide +kernel
theorem d_107_2 : decode prog_1_method_20_code 2 = .ok (.aload_n 0, 1) := by decide +kernel
theorem d_107_3 : decode prog_1_method_20_code 3 = .ok (.getfield 10, 3) := by decide +kernel
theorem d_107_6 : decode prog_1_method_20_code 6 = .ok (.getfield 91, 3) := by decide +kernel
theorem d_107_9 : decode prog_1_method_20_code 9 = .ok (.ishl, 1) := by decide +kernel
theorem d_107_10 : decode prog_1_method_20_code 10 = .ok (.iconst 1, 1) := by decide +kernel
theorem d_107_11 : decode prog_1_method_20_code 11 = .ok (.isub, 1) := by decide +kernel
theorem d_107_12 : decode prog_1_method_20_code 12 = .ok (.invokestatic 122, 3) := by decide +kernel
theorem d_107_15 : decode prog_1_method_20_code 15 = .ok (.ifCond .ne 6, 3) := by decide +kernel
theorem d_107_18 : decode prog_1_method_20_code 18 = .ok (.bipush (-2), 2) := by decide +kernel
theorem d_107_20 : decode prog_1_method_20_code 20 = .ok (.ireturn, 1) := by decide +kernel
theorem d_107_21 : decode prog_1_method_20_code 21 = .ok (.iconst 1, 1) := by decide +kernel
theorem d_107_22 : decode prog_1_method_20_code 22 = .ok (.aload_n 0, 1) := by decide +kernel
theorem d_107_23 : decode prog_1_method_20_code 23 = .ok (.getfield 10, 3) := by decide +kernel
theorem d_107_26 : decode prog_1_method_20_code 26 = .ok (.getfield 244, 3) := by decide +kernel
theorem d_107_29 : decode prog_1_method_20_code 29 = .ok (.ishl, 1) := by decide +kernel
theorem d_107_30 : decode prog_1_method_20_code 30 = .ok (.iconst 1, 1) := by decide +kernel
theorem d_107_31 : decode prog_1_method_20_code 31 = .ok (.isub, 1) := by decide +kernel
theorem d_107_32 : decode prog_1_method_20_code 32 = .ok (.aload_n 0, 1) := by decide +kernel
theorem d_107_33 : decode prog_1_method_20_code 33 = .ok (.getfield 10, 3) := by decide +kernel
theorem d_107_36 : decode prog_1_method_20_code 36 = .ok (.iload_n 1, 1) := by decide +kernel
theorem d_107_37 : decode prog_1_method_20_code 37 = .ok (.aload_n 0, 1) := by decide +kernel
theorem d_107_38 : decode prog_1_method_20_code 38 = .ok (.getfield 10, 3) := by decide +kernel
theorem d_107_41 : decode prog_1_method_20_code 41 = .ok (.getfield 129, 3) := by decide +kernel
theorem d_107_44 : decode prog_1_method_20_code 44 = .ok (.invokevirtual 247, 3) := by decide +kernel
theorem d_107_47 : decode prog_1_method_20_code 47 = .ok (.iconst (-1), 1) := by decide +kernel
theorem d_107_48 : decode prog_1_method_20_code 48 = .ok (.ixor, 1) := by decide +kernel
theorem d_107_49 : decode prog_1_method_20_code 49 = .ok (.iand, 1) := by decide +kernel
theorem d_107_50 : decode prog_1_method_20_code 50 = .ok (.ireturn, 1) := by decide +kernel
theorem s_107_21 {Γ : m_G} : m_ok Γ m_tab 107 M_107 21 (g_107_21) := ok_ic (pc := 21) d_107_21 rfl (ok_al_n (pc := 22) d_107_22 rfl (ok_getf (pc := 23) d_107_23 w_352 (hc1 fo_52) (ok_getf (pc := 26) d_107_26 w_51 (hc1 fo_24) (ok_shl (pc := 29) d_107_29 (ok_ic (pc := 30) d_107_30 rfl (ok_sub (pc := 31) d_107_31 (ok_al_n (pc := 32) d_107_32 rfl (ok_getf (pc := 33) d_107_33 w_352 (hc1 fo_52) (ok_il_n (pc := 36) d_107_36 rfl (ok_al_n (pc := 37) d_107_37 rfl (ok_getf (pc := 38) d_107_38 w_352 (hc1 fo_52) (ok_getf (pc := 41) d_107_41 w_58 (hc1 fo_31) (ok_cai (pc := 44) (k2 := 85) rfl rfl tb_85 (by decide) (by decide) rfl (go_V d_107_44 w_599 w_588 w_589 w_2 w_590 nn_85 (by decide) cl_10 rfl) (ok_ic (pc := 47) d_107_47 rfl (ok_xor (pc := 48) d_107_48 (ok_and (pc := 49) d_107_49 (ok_ri (pc := 50) d_107_50 rfl)))))))))))))))))
theorem s_107_0 {Γ : m_G} : m_ok Γ m_tab 107 M_107 0 (g_107_0) := ok_il_n (pc := 0) d_107_0 rfl (ok_ic (pc := 1) d_107_1 rfl (ok_al_n (pc := 2) d_107_2 rfl (ok_getf (pc := 3) d_107_3 w_352 (hc1 fo_52) (ok_getf (pc := 6) d_107_6 w_47 (hc1 fo_28) (ok_shl (pc := 9) d_107_9 (ok_ic (pc := 10) d_107_10 rfl (ok_sub (pc := 11) d_107_11 (ok_cat (pc := 12) (k2 := 121) rfl tb_121 (by decide) (by decide) rfl (go_S d_107_12 w_423 w_424 w_1 w_425 nn_121 (by decide)) (ok_czne (pc := 15) (t := 21) d_107_15 rfl (by decide) rfl (ok_bi (pc := 18) d_107_18 rfl (ok_ri (pc := 20) d_107_20 rfl)))))))))))
theorem tst_107 {Γ : m_G} (q : Nat) : m_ts Γ (t_107 q) q := ts_n (ts_l (k := 107) (pc := 0) tb_107 rfl (by decide) s_107_0) (ts_l (k := 107) (pc := 21) tb_107 rfl (by decide) s_107_21)
theorem d_108_0 : decode prog_1_method_21_code 0 = .ok (.iconst 0, 1) := by decide +kernel
theorem d_108_1 : decode prog_1_method_21_code 1 = .ok (.istore_n 1, 1) := by decide +kernel
theorem d_108_2 : decode prog_1_method_21_code 2 = .ok (.iload_n 1, 1) := by decide +kernel
theorem d_108_3 : decode prog_1_method_21_code 3 = .ok (.bipush 6, 2) := by decide +kernel
theorem d_108_5 : decode prog_1_method_21_code 5 = .ok (.if_icmp .ge 51, 3) := by decide +kernel
theorem d_108_8 : decode prog_1_method_21_code 8 = .ok (.aload_n 0, 1) := by decide +kernel
theorem d_108_9 : decode prog_1_method_21_code 9 = .ok (.getfield 60, 3) := by decide +kernel
theorem d_108_12 : decode prog_1_method_21_code 12 = .ok (.iload_n 1, 1) := by decide +kernel
theorem d_108_13 : decode prog_1_method_21_code 13 = .ok (.aload_n 0, 1) := by decide +kernel
theorem d_108_14 : decode prog_1_method_21_code 14 = .ok (.getfield 10, 3) := by decide +kernel
theorem d_108_17 : decode prog_1_method_21_code 17 = .ok (.getfield 129, 3) := by decide +kernel
theorem d_108_20 : decode prog_1_method_21_code 20 = .ok (.iload_n 1, 1) := by decide +kernel
theorem d_108_21 : decode prog_1_method_21_code 21 = .ok (.iaload, 1) := by decide +kernel
theorem d_108_22 : decode prog_1_method_21_code 22 = .ok (.iconst 1, 1) := by decide +kernel
theorem d_108_23 : decode prog_1_method_21_code 23 = .ok (.iadd, 1) := by decide +kernel
theorem d_108_24 : decode prog_1_method_21_code 24 = .ok (.aload_n 0, 1) := by decide +kernel
theorem d_108_25 : decode prog_1_method_21_code 25 = .ok (.getfield 10, 3) := by decide +kernel
theorem d_108_28 : decode prog_1_method_21_code 28 = .ok (.getfield 244, 3) := by decide +kernel
theorem d_108_31 : decode prog_1_method_21_code 31 = .ok (.if_icmp .ge 17, 3) := by decide +kernel
theorem d_108_34 : decode prog_1_method_21_code 34 = .ok (.aload_n 0, 1) := by decide +kernel
theorem d_108_35 : decode prog_1_method_21_code 35 = .ok (.getfield 10, 3) := by decide +kernel
theorem d_108_38 : decode prog_1_method_21_code 38 = .ok (.getfield 129, 3) := by decide +kernel
theorem d_108_41 : decode prog_1_method_21_code 41 = .ok (.iload_n 1, 1) := by decide +kernel
theorem d_108_42 : decode prog_1_method_21_code 42 = .ok (.iaload, 1) := by decide +kernel
theorem d_108_43 : decode prog_1_method_21_code 43 = .ok (.iconst 1, 1) := by decide +kernel
theorem d_108_44 : decode prog_1_method_21_code 44 = .ok (.iadd, 1) := by decide +kernel
theorem d_108_45 : decode prog_1_method_21_code 45 = .ok (.goto 4, 3) := by decide +kernel
theorem d_108_48 : decode prog_1_method_21_code 48 = .ok (.iconst 0, 1) := by decide +kernel
theorem d_108_49 : decode prog_1_method_21_code 49 = .ok (.iastore, 1) := by decide +kernel
theorem d_108_50 : decode prog_1_method_21_code 50 = .ok (.iinc 1 1, 3) := by decide +kernel
theorem d_108_53 : decode prog_1_method_21_code 53 = .ok (.goto (-51), 3) := by decide +kernel
theorem d_108_56 : decode prog_1_method_21_code 56 = .ok (.aload_n 0, 1) := by decide +kernel
theorem d_108_57 : decode prog_1_method_21_code 57 = .ok (.invokevirtual 200, 3) := by decide +kernel
theorem d_108_60 : decode prog_1_method_21_code 60 = .ok (.aload_n 0, 1) := by decide +kernel
theorem d_108_61 : decode prog_1_method_21_code 61 = .ok (.getfield 24, 3) := by decide +kernel
theorem d_108_64 : decode prog_1_method_21_code 64 = .ok (.aload_n 0, 1) := by decide +kernel
theorem d_108_65 : decode prog_1_method_21_code 65 = .ok (.getfield 10, 3) := by decide +kernel
theorem d_108_68 : decode prog_1_method_21_code 68 = .ok (.aload_n 0, 1) := by decide +kernel
theorem d_108_69 : decode prog_1_method_21_code 69 = .ok (.getfield 60, 3) := by decide +kernel
theorem d_108_72 : decode prog_1_method_21_code 72 = .ok (.invokevirtual 236, 3) := by decide +kernel
theorem d_108_75 : decode prog_1_method_21_code 75 = .ok (.invokevirtual 215, 3) := by decide +kernel
theorem d_108_78 : decode prog_1_method_21_code 78 = .ok (.ireturn, 1) := by decide +kernel
theorem s_108_56 {Γ : m_G} : m_ok Γ m_tab 108 M_108 56 (g_108_56) := ok_al_n (pc := 56) d_108_56 rfl (ok_cvi (pc := 57) (k2 := 138) rfl rfl tb_138 (by decide) (by decide) rfl (go_V d_108_57 w_696 w_698 ws_32 w_1 w_699 nn_138 (by decide) cl_11 rfl) (ok_al_n (pc := 60) d_108_60 rfl (ok_getf (pc := 61) d_108_61 w_355 (hc1 fo_53) (ok_al_n (pc := 64) d_108_64 rfl (ok_getf (pc := 65) d_108_65 w_352 (hc1 fo_52) (ok_al_n (pc := 68) d_108_68 rfl (ok_getf (pc := 69) d_108_69 w_364 (hc1 fo_58) (ok_cai (pc := 72) (k2 := 87) rfl rfl tb_87 (by decide) (by decide) rfl (go_V d_108_72 w_700 w_701 w_702 w_2 w_703 nn_87 (by decide) cl_10 rfl) (ok_cai (pc := 75) (k2 := 52) rfl rfl tb_52 (by decide) (by decide) rfl (go_V d_108_75 w_721 w_722 w_723 w_3 w_724 nn_52 (by decide) cl_5 rfl) (ok_ri (pc := 78) d_108_78 rfl))))))))))
theorem s_108_49 {Γ : m_G} : m_ok Γ m_tab 108 M_108 49 (g_108_49) := ok_iast (pc := 49) d_108_49 (ok_inc (pc := 50) d_108_50 rfl (by decide) (ok_go (pc := 53) (t := 2) d_108_53 rfl (by decide) rfl))
theorem s_108_48 {Γ : m_G} : m_ok Γ m_tab 108 M_108 48 (g_108_48) := ok_ic (pc := 48) d_108_48 rfl (s_108_49)
theorem s_108_2 {Γ : m_G} : m_ok Γ m_tab 108 M_108 2 (g_108_2) := ok_il_n (pc := 2) d_108_2 rfl (ok_bi (pc := 3) d_108_3 rfl (ok_cige (pc := 5) (t := 56) d_108_5 rfl (by decide) rfl (ok_al_n (pc := 8) d_108_8 rfl (ok_getf (pc := 9) d_108_9 w_364 (hc1 fo_58) (ok_il_n (pc := 12) d_108_12 rfl (ok_al_n (pc := 13) d_108_13 rfl (ok_getf (pc := 14) d_108_14 w_352 (hc1 fo_52) (ok_getf (pc := 17) d_108_17 w_58 (hc1 fo_31) (ok_il_n (pc := 20) d_108_20 rfl (ok_iald (pc := 21) d_108_21 (ok_ic (pc := 22) d_108_22 rfl (ok_add (pc := 23) d_108_23 (ok_al_n (pc := 24) d_108_24 rfl (ok_getf (pc := 25) d_108_25 w_352 (hc1 fo_52) (ok_getf (pc := 28) d_108_28 w_51 (hc1 fo_24) (ok_cige (pc := 31) (t := 48) d_108_31 rfl (by decide) rfl (ok_al_n (pc := 34) d_108_34 rfl (ok_getf (pc := 35) d_108_35 w_352 (hc1 fo_52) (ok_getf (pc := 38) d_108_38 w_58 (hc1 fo_31) (ok_il_n (pc := 41) d_108_41 rfl (ok_iald (pc := 42) d_108_42 (ok_ic (pc := 43) d_108_43 rfl (ok_add (pc := 44) d_108_44 (ok_go (pc := 45) (t := 49) d_108_45 rfl (by decide) rfl))))))))))))))))))))))))
theorem s_108_0 {Γ : m_G} : m_ok Γ m_tab 108 M_108 0 (g_108_0) := ok_ic (pc := 0) d_108_0 rfl (ok_is_n (pc := 1) d_108_1 rfl (by decide) (s_108_2))
theorem tst_108 {Γ : m_G} (q : Nat) : m_ts Γ (t_108 q) q := ts_n (ts_n (ts_l (k := 108) (pc := 0) tb_108 rfl (by decide) s_108_0) (ts_l (k := 108) (pc := 2) tb_108 rfl (by decide) s_108_2)) (ts_n (ts_l (k := 108) (pc := 48) tb_108 rfl (by decide) s_108_48) (ts_n (ts_l (k := 108) (pc := 49) tb_108 rfl (by decide) s_108_49) (ts_l (k := 108) (pc := 56) tb_108 rfl (by decide) s_108_56)))
theorem d_109_0 : decode prog_1_method_22_code 0 = .ok (.aload_n 0, 1) := by decide +kernel
theorem d_109_1 : decode prog_1_method_22_code 1 = .ok (.getfield 10, 3) := by decide +kernel
theorem d_109_4 : decode prog_1_method_22_code 4 = .ok (.iload_n 1, 1) := by decide +kernel
theorem d_109_5 : decode prog_1_method_22_code 5 = .ok (.invokevirtual 212, 3) := by decide +kernel
theorem d_109_8 : decode prog_1_method_22_code 8 = .ok (.ifCond .ne 6, 3) := by decide +kernel
theorem d_109_11 : decode prog_1_method_22_code 11 = .ok (.bipush (-2), 2) := by decide +kernel
theorem d_109_13 : decode prog_1_method_22_code 13 = .ok (.ireturn, 1) := by decide +kernel
theorem d_109_14 : decode prog_1_method_22_code 14 = .ok (.aload_n 0, 1) := by decide +kernel
theorem d_109_15 : decode prog_1_method_22_code 15 = .ok (.invokevirtual 200, 3) := by decide +kernel
theorem d_109_18 : decode prog_1_method_22_code 18 = .ok (.aload_n 0, 1) := by decide +kernel
theorem d_109_19 : decode prog_1_method_22_code 19 = .ok (.getfield 24, 3) := by decide +kernel
theorem d_109_22 : decode prog_1_method_22_code 22 = .ok (.iload_n 1, 1) := by decide +kernel
theorem d_109_23 : decode prog_1_method_22_code 23 = .ok (.invokevirtual 215, 3) := by decide +kernel
theorem d_109_26 : decode prog_1_method_22_code 26 = .ok (.iconst (-1), 1) := by decide +kernel
theorem d_109_27 : decode prog_1_method_22_code 27 = .ok (.if_icmp .ne 7, 3) := by decide +kernel
theorem d_109_30 : decode prog_1_method_22_code 30 = .ok (.iconst (-1), 1) := by decide +kernel
theorem d_109_31 : decode prog_1_method_22_code 31 = .ok (.goto 11, 3) := by decide +kernel
theorem d_109_34 : decode prog_1_method_22_code 34 = .ok (.aload_n 0, 1) := by decide +kernel
theorem d_109_35 : decode prog_1_method_22_code 35 = .ok (.getfield 24, 3) := by decide +kernel
theorem d_109_38 : decode prog_1_method_22_code 38 = .ok (.iload_n 1, 1) := by decide +kernel
theorem d_109_39 : decode prog_1_method_22_code 39 = .ok (.invokevirtual 251, 3) := by decide +kernel
theorem d_109_42 : decode prog_1_method_22_code 42 = .ok (.ireturn, 1) := by decide +kernel
theorem s_109_42 {Γ : m_G} : m_ok Γ m_tab 109 M_109 42 (g_109_42) := ok_ri (pc := 42) d_109_42 rfl
theorem s_109_34 {Γ : m_G} : m_ok Γ m_tab 109 M_109 34 (g_109_34) := ok_al_n (pc := 34) d_109_34 rfl (ok_getf (pc := 35) d_109_35 w_355 (hc1 fo_53) (ok_il_n (pc := 38) d_109_38 rfl (ok_cai (pc := 39) (k2 := 56) rfl rfl tb_56 (by decide) (by decide) rfl (go_V d_109_39 w_784 w_785 w_786 w_3 w_787 nn_56 (by decide) cl_5 rfl) (s_109_42))))
theorem s_109_14 {Γ : m_G} : m_ok Γ m_tab 109 M_109 14 (g_109_14) := ok_al_n (pc := 14) d_109_14 rfl (ok_cvi (pc := 15) (k2 := 138) rfl rfl tb_138 (by decide) (by decide) rfl (go_V d_109_15 w_696 w_698 ws_32 w_1 w_699 nn_138 (by decide) cl_11 rfl) (ok_al_n (pc := 18) d_109_18 rfl (ok_getf (pc := 19) d_109_19 w_355 (hc1 fo_53) (ok_il_n (pc := 22) d_109_22 rfl (ok_cai (pc := 23) (k2 := 52) rfl rfl tb_52 (by decide) (by decide) rfl (go_V d_109_23 w_721 w_722 w_723 w_3 w_724 nn_52 (by decide) cl_5 rfl) (ok_ic (pc := 26) d_109_26 rfl (ok_cine (pc := 27) (t := 34) d_109_27 rfl (by decide) rfl (ok_ic (pc := 30) d_109_30 rfl (ok_go (pc := 31) (t := 42) d_109_31 rfl (by decide) rfl)))))))))
theorem s_109_0 {Γ : m_G} : m_ok Γ m_tab 109 M_109 0 (g_109_0) := ok_al_n (pc := 0) d_109_0 rfl (ok_getf (pc := 1) d_109_1 w_352 (hc1 fo_52) (ok_il_n (pc := 4) d_109_4 rfl (ok_cai (pc := 5) (k2 := 83) rfl rfl tb_83 (by decide) (by decide) rfl (go_V d_109_5 w_720 w_684 w_685 w_2 w_686 nn_83 (by decide) cl_10 rfl) (ok_czne (pc := 8) (t := 14) d_109_8 rfl (by decide) rfl (ok_bi (pc := 11) d_109_11 rfl (ok_ri (pc := 13) d_109_13 rfl))))))
theorem tst_109 {Γ : m_G} (q : Nat) : m_ts Γ (t_109 q) q := ts_n (ts_n (ts_l (k := 109) (pc := 0) tb_109 rfl (by decide) s_109_0) (ts_l (k := 109) (pc := 14) tb_109 rfl (by decide) s_109_14)) (ts_n (ts_l (k := 109) (pc := 34) tb_109 rfl (by decide) s_109_34) (ts_l (k := 109) (pc := 42) tb_109 rfl (by decide) s_109_42))
theorem d_110_0 : decode prog_1_method_23_code 0 = .ok (.iload_n 1, 1) := by decide +kernel
theorem d_110_1 : decode prog_1_method_23_code 1 = .ok (.invokestatic 112, 3) := by decide +kernel
theorem d_110_4 : decode prog_1_method_23_code 4 = .ok (.ifCond .ne 7, 3) := by decide +kernel
theorem d_110_7 : decode prog_1_method_23_code 7 = .ok (.ldc2_w 254, 3) := by decide +kernel
theorem d_110_10 : decode prog_1_method_23_code 10 = .ok (.lreturn, 1) := by decide +kernel
theorem d_110_11 : decode prog_1_method_23_code 11 = .ok (.iconst 0, 1) := by decide +kernel
theorem d_110_12 : decode prog_1_method_23_code 12 = .ok (.istore_n 2, 1) := by decide +kernel
theorem d_110_13 : decode prog_1_method_23_code 13 = .ok (.iload_n 2, 1) := by decide +kernel
theorem d_110_14 : decode prog_1_method_23_code 14 = .ok (.aload_n 0, 1) := by decide +kernel
theorem d_110_15 : decode prog_1_method_23_code 15 = .ok (.getfield 10, 3) := by decide +kernel
theorem d_110_18 : decode prog_1_method_23_code 18 = .ok (.getfield 91, 3) := by decide +kernel
theorem d_110_21 : decode prog_1_method_23_code 21 = .ok (.if_icmp .ge 20, 3) := by decide +kernel
theorem d_110_24 : decode prog_1_method_23_code 24 = .ok (.aload_n 0, 1) := by decide +kernel
theorem d_110_25 : decode prog_1_method_23_code 25 = .ok (.getfield 57, 3) := by decide +kernel
theorem d_110_28 : decode prog_1_method_23_code 28 = .ok (.iload_n 2, 1) := by decide +kernel
theorem d_110_29 : decode prog_1_method_23_code 29 = .ok (.aload_n 0, 1) := by decide +kernel
theorem d_110_30 : decode prog_1_method_23_code 30 = .ok (.iload_n 2, 1) := by decide +kernel
theorem d_110_31 : decode prog_1_method_23_code 31 = .ok (.invokevirtual 256, 3) := by decide +kernel
theorem d_110_34 : decode prog_1_method_23_code 34 = .ok (.iastore, 1) := by decide +kernel
theorem d_110_35 : decode prog_1_method_23_code 35 = .ok (.iinc 2 1, 3) := by decide +kernel
theorem d_110_38 : decode prog_1_method_23_code 38 = .ok (.goto (-25), 3) := by decide +kernel
theorem d_110_41 : decode prog_1_method_23_code 41 = .ok (.aload_n 0, 1) := by decide +kernel
theorem d_110_42 : decode prog_1_method_23_code 42 = .ok (.invokevirtual 200, 3) := by decide +kernel
theorem d_110_45 : decode prog_1_method_23_code 45 = .ok (.aload_n 0, 1) := by decide +kernel
theorem d_110_46 : decode prog_1_method_23_code 46 = .ok (.getfield 24, 3) := by decide +kernel
theorem d_110_49 : decode prog_1_method_23_code 49 = .ok (.aload_n 0, 1) := by decide +kernel
theorem d_110_50 : decode prog_1_method_23_code 50 = .ok (.getfield 57, 3) := by decide +kernel
theorem d_110_53 : decode prog_1_method_23_code 53 = .ok (.invokevirtual 259, 3) := by decide +kernel
theorem d_110_56 : decode prog_1_method_23_code 56 = .ok (.istore_n 2, 1) := by decide +kernel
theorem d_110_57 : decode prog_1_method_23_code 57 = .ok (.iload_n 1, 1) := by decide +kernel
theorem d_110_58 : decode prog_1_method_23_code 58 = .ok (.ifCond .ne 19, 3) := by decide +kernel
theorem d_110_61 : decode prog_1_method_23_code 61 = .ok (.aload_n 0, 1) := by decide +kernel
theorem d_110_62 : decode prog_1_method_23_code 62 = .ok (.getfield 24, 3) := by decide +kernel
theorem d_110_65 : decode prog_1_method_23_code 65 = .ok (.iload_n 2, 1) := by decide +kernel
theorem d_110_66 : decode prog_1_method_23_code 66 = .ok (.aload_n 0, 1) := by decide +kernel
theorem d_110_67 : decode prog_1_method_23_code 67 = .ok (.getfield 57, 3) := by decide +kernel
theorem d_110_70 : decode prog_1_method_23_code 70 = .ok (.invokevirtual 262, 3) := by decide +kernel
theorem d_110_73 : decode prog_1_method_23_code 73 = .ok (.i2l, 1) := by decide +kernel
theorem d_110_74 : decode prog_1_method_23_code 74 = .ok (.goto 5, 3) := by decide +kernel
theorem d_110_77 : decode prog_1_method_23_code 77 = .ok (.iload_n 2, 1) := by decide +kernel
theorem d_110_78 : decode prog_1_method_23_code 78 = .ok (.i2l, 1) := by decide +kernel
theorem d_110_79 : decode prog_1_method_23_code 79 = .ok (.lreturn, 1) := by decide +kernel
theorem s_110_79 {Γ : m_G} : m_ok Γ m_tab 110 M_110 79 (g_110_79) := ok_rl (pc := 79) d_110_79 rfl
theorem s_110_77 {Γ : m_G} : m_ok Γ m_tab 110 M_110 77 (g_110_77) := ok_il_n (pc := 77) d_110_77 rfl (ok_i2l (pc := 78) d_110_78 (s_110_79))
theorem s_110_41 {Γ : m_G} : m_ok Γ m_tab 110 M_110 41 (g_110_41) := ok_al_n (pc := 41) d_110_41 rfl (ok_cvi (pc := 42) (k2 := 138) rfl rfl tb_138 (by decide) (by decide) rfl (go_V d_110_42 w_696 w_698 ws_32 w_1 w_699 nn_138 (by decide) cl_11 rfl) (ok_al_n (pc := 45) d_110_45 rfl (ok_getf (pc := 46) d_110_46 w_355 (hc1 fo_53) (ok_al_n (pc := 49) d_110_49 rfl (ok_getf (pc := 50) d_110_50 w_363 (hc1 fo_59) (ok_cai (pc := 53) (k2 := 60) rfl rfl tb_60 (by decide) (by decide) rfl (go_V d_110_53 w_801 w_802 w_803 w_3 w_804 nn_60 (by decide) cl_5 rfl) (ok_is_n (pc := 56) d_110_56 rfl (by decide) (ok_il_n (pc := 57) d_110_57 rfl (ok_czne (pc := 58) (t := 77) d_110_58 rfl (by decide) rfl (ok_al_n (pc := 61) d_110_61 rfl (ok_getf (pc := 62) d_110_62 w_355 (hc1 fo_53) (ok_il_n (pc := 65) d_110_65 rfl (ok_al_n (pc := 66) d_110_66 rfl (ok_getf (pc := 67) d_110_67 w_363 (hc1 fo_59) (ok_cai (pc := 70) (k2 := 59) rfl rfl tb_59 (by decide) (by decide) rfl (go_V d_110_70 w_809 w_806 w_807 w_3 w_808 nn_59 (by decide) cl_5 rfl) (ok_i2l (pc := 73) d_110_73 (ok_go (pc := 74) (t := 79) d_110_74 rfl (by decide) rfl)))))))))))))))))
theorem s_110_13 {Γ : m_G} : m_ok Γ m_tab 110 M_110 13 (g_110_13) := ok_il_n (pc := 13) d_110_13 rfl (ok_al_n (pc := 14) d_110_14 rfl (ok_getf (pc := 15) d_110_15 w_352 (hc1 fo_52) (ok_getf (pc := 18) d_110_18 w_47 (hc1 fo_28) (ok_cige (pc := 21) (t := 41) d_110_21 rfl (by decide) rfl (ok_al_n (pc := 24) d_110_24 rfl (ok_getf (pc := 25) d_110_25 w_363 (hc1 fo_59) (ok_il_n (pc := 28) d_110_28 rfl (ok_al_n (pc := 29) d_110_29 rfl (ok_il_n (pc := 30) d_110_30 rfl (ok_cai (pc := 31) (k2 := 133) rfl rfl tb_133 (by decide) (by decide) rfl (go_V d_110_31 w_793 w_795 ws_36 w_1 w_796 nn_133 (by decide) cl_11 rfl) (ok_iast (pc := 34) d_110_34 (ok_inc (pc := 35) d_110_35 rfl (by decide) (ok_go (pc := 38) (t := 13) d_110_38 rfl (by decide) rfl)))))))))))))
theorem s_110_11 {Γ : m_G} : m_ok Γ m_tab 110 M_110 11 (g_110_11) := ok_ic (pc := 11) d_110_11 rfl (ok_is_n (pc := 12) d_110_12 rfl (by decide) (s_110_13))
theorem s_110_0 {Γ : m_G} : m_ok Γ m_tab 110 M_110 0 (g_110_0) := ok_il_n (pc := 0) d_110_0 rfl (ok_cat (pc := 1) (k2 := 122) rfl tb_122 (by decide) (by decide) rfl (go_S d_110_1 w_415 w_416 w_1 w_417 nn_122 (by decide)) (ok_czne (pc := 4) (t := 11) d_110_4 rfl (by decide) rfl (ok_ldc2 (pc := 7) d_110_7 w_792 rfl (ok_rl (pc := 10) d_110_10 rfl))))
theorem tst_110 {Γ : m_G} (q : Nat) : m_ts Γ (t_110 q) q := ts_n (ts_n (ts_l (k := 110) (pc := 0) tb_110 rfl (by decide) s_110_0) (ts_n (ts_l (k := 110) (pc := 11) tb_110 rfl (by decide) s_110_11) (ts_l (k := 110) (pc := 13) tb_110 rfl (by decide) s_110_13))) (ts_n (ts_l (k := 110) (pc := 41) tb_110 rfl (by decide) s_110_41) (ts_n (ts_l (k := 110) (pc := 77) tb_110 rfl (by decide) s_110_77) (ts_l (k := 110) (pc := 79) tb_110 rfl (by decide) s_110_79)))
theorem d_111_0 : decode prog_1_method_24_code 0 = .ok (.iload_n 1, 1) := by decide +kernel
theorem d_111_1 : decode prog_1_method_24_code 1 = .ok (.invokestatic 265, 3) := by decide +kernel
theorem d_111_4 : decode prog_1_method_24_code 4 = .ok (.ifCond .eq 10, 3) := by decide +kernel
theorem d_111_7 : decode prog_1_method_24_code 7 = .ok (.iload_n 2, 1) := by decide +kernel
theorem d_111_8 : decode prog_1_method_24_code 8 = .ok (.invokestatic 112, 3) := by decide +kernel
theorem d_111_11 : decode prog_1_method_24_code 11 = .ok (.ifCond .ne 6, 3) := by decide +kernel
theorem d_111_14 : decode prog_1_method_24_code 14 = .ok (.bipush (-2), 2) := by decide +kernel
theorem d_111_16 : decode prog_1_method_24_code 16 = .ok (.ireturn, 1) := by decide +kernel
theorem d_111_17 : decode prog_1_method_24_code 17 = .ok (.aload_n 0, 1) := by decide +kernel
theorem d_111_18 : decode prog_1_method_24_code 18 = .ok (.getfield 49, 3) := by decide +kernel
theorem d_111_21 : decode prog_1_method_24_code 21 = .ok (.iload_n 1, 1) := by decide +kernel
theorem d_111_22 : decode prog_1_method_24_code 22 = .ok (.aaload, 1) := by decide +kernel
theorem d_111_23 : decode prog_1_method_24_code 23 = .ok (.astore_n 3, 1) := by decide +kernel
theorem d_111_24 : decode prog_1_method_24_code 24 = .ok (.aload_n 3, 1) := by decide +kernel
theorem d_111_25 : decode prog_1_method_24_code 25 = .ok (.ifnonnull 6, 3) := by decide +kernel
theorem d_111_28 : decode prog_1_method_24_code 28 = .ok (.bipush (-11), 2) := by decide +kernel
theorem d_111_30 : decode prog_1_method_24_code 30 = .ok (.ireturn, 1) := by decide +kernel
theorem d_111_31 : decode prog_1_method_24_code 31 = .ok (.aload_n 0, 1) := by decide +kernel
theorem d_111_32 : decode prog_1_method_24_code 32 = .ok (.getfield 10, 3) := by decide +kernel
theorem d_111_35 : decode prog_1_method_24_code 35 = .ok (.getfield 129, 3) := by decide +kernel
theorem d_111_38 : decode prog_1_method_24_code 38 = .ok (.iconst 0, 1) := by decide +kernel
theorem d_111_39 : decode prog_1_method_24_code 39 = .ok (.aload_n 0, 1) := by decide +kernel
theorem d_111_40 : decode prog_1_method_24_code 40 = .ok (.getfield 60, 3) := by decide +kernel
theorem d_111_43 : decode prog_1_method_24_code 43 = .ok (.iconst 0, 1) := by decide +kernel
theorem d_111_44 : decode prog_1_method_24_code 44 = .ok (.bipush 6, 2) := by decide +kernel
theorem d_111_46 : decode prog_1_method_24_code 46 = .ok (.invokestatic 230, 3) := by decide +kernel
theorem d_111_49 : decode prog_1_method_24_code 49 = .ok (.iconst 0, 1) := by decide +kernel
theorem d_111_50 : decode prog_1_method_24_code 50 = .ok (.istore 4, 2) := by decide +kernel
theorem d_111_52 : decode prog_1_method_24_code 52 = .ok (.iconst 0, 1) := by decide +kernel
theorem d_111_53 : decode prog_1_method_24_code 53 = .ok (.istore 5, 2) := by decide +kernel
theorem d_111_55 : decode prog_1_method_24_code 55 = .ok (.iload 5, 2) := by decide +kernel
theorem d_111_57 : decode prog_1_method_24_code 57 = .ok (.aload_n 3, 1) := by decide +kernel
theorem d_111_58 : decode prog_1_method_24_code 58 = .ok (.getfield 268, 3) := by decide +kernel
theorem d_111_61 : decode prog_1_method_24_code 61 = .ok (.arraylength, 1) := by decide +kernel
theorem d_111_62 : decode prog_1_method_24_code 62 = .ok (.if_icmp .ge 46, 3) := by decide +kernel
theorem d_111_65 : decode prog_1_method_24_code 65 = .ok (.aload_n 0, 1) := by decide +kernel
theorem d_111_66 : decode prog_1_method_24_code 66 = .ok (.aload_n 3, 1) := by decide +kernel
theorem d_111_67 : decode prog_1_method_24_code 67 = .ok (.getfield 268, 3) := by decide +kernel
theorem d_111_70 : decode prog_1_method_24_code 70 = .ok (.iload 5, 2) := by decide +kernel
theorem d_111_72 : decode prog_1_method_24_code 72 = .ok (.iaload, 1) := by decide +kernel
theorem d_111_73 : decode prog_1_method_24_code 73 = .ok (.invokevirtual 271, 3) := by decide +kernel
theorem d_111_76 : decode prog_1_method_24_code 76 = .ok (.istore 6, 2) := by decide +kernel
theorem d_111_78 : decode prog_1_method_24_code 78 = .ok (.iload 6, 2) := by decide +kernel
theorem d_111_80 : decode prog_1_method_24_code 80 = .ok (.ifCond .ge 15, 3) := by decide +kernel
theorem d_111_83 : decode prog_1_method_24_code 83 = .ok (.iload_n 2, 1) := by decide +kernel
theorem d_111_84 : decode prog_1_method_24_code 84 = .ok (.ifCond .ne 8, 3) := by decide +kernel
theorem d_111_87 : decode prog_1_method_24_code 87 = .ok (.iload 5, 2) := by decide +kernel
theorem d_111_89 : decode prog_1_method_24_code 89 = .ok (.goto 5, 3) := by decide +kernel
theorem d_111_92 : decode prog_1_method_24_code 92 = .ok (.iload 4, 2) := by decide +kernel
theorem d_111_94 : decode prog_1_method_24_code 94 = .ok (.ireturn, 1) := by decide +kernel
theorem d_111_95 : decode prog_1_method_24_code 95 = .ok (.iload 4, 2) := by decide +kernel
theorem d_111_97 : decode prog_1_method_24_code 97 = .ok (.iload 6, 2) := by decide +kernel
theorem d_111_99 : decode prog_1_method_24_code 99 = .ok (.iadd, 1) := by decide +kernel
theorem d_111_100 : decode prog_1_method_24_code 100 = .ok (.istore 4, 2) := by decide +kernel
theorem d_111_102 : decode prog_1_method_24_code 102 = .ok (.iinc 5 1, 3) := by decide +kernel
theorem d_111_105 : decode prog_1_method_24_code 105 = .ok (.goto (-50), 3) := by decide +kernel
theorem d_111_108 : decode prog_1_method_24_code 108 = .ok (.iload_n 2, 1) := by decide +kernel
theorem d_111_109 : decode prog_1_method_24_code 109 = .ok (.ifCond .ne 7, 3) := by decide +kernel
theorem d_111_112 : decode prog_1_method_24_code 112 = .ok (.iconst (-1), 1) := by decide +kernel
theorem d_111_113 : decode prog_1_method_24_code 113 = .ok (.goto 5, 3) := by decide +kernel
theorem d_111_116 : decode prog_1_method_24_code 116 = .ok (.iload 4, 2) := by decide +kernel
theorem d_111_118 : decode prog_1_method_24_code 118 = .ok (.ireturn, 1) := by decide +kernel
theorem s_111_118 {Γ : m_G} : m_ok Γ m_tab 111 M_111 118 (g_111_118) := ok_ri (pc := 118) d_111_118 rfl
theorem s_111_116 {Γ : m_G} : m_ok Γ m_tab 111 M_111 116 (g_111_116) := ok_il (pc := 116) d_111_116 (s_111_118)
theorem s_111_108 {Γ : m_G} : m_ok Γ m_tab 111 M_111 108 (g_111_108) := ok_il_n (pc := 108) d_111_108 rfl (ok_czne (pc := 109) (t := 116) d_111_109 rfl (by decide) rfl (ok_ic (pc := 112) d_111_112 rfl (ok_go (pc := 113) (t := 118) d_111_113 rfl (by decide) rfl)))
theorem s_111_95 {Γ : m_G} : m_ok Γ m_tab 111 M_111 95 (g_111_95) := ok_il (pc := 95) d_111_95 (ok_il (pc := 97) d_111_97 (ok_add (pc := 99) d_111_99 (ok_is (pc := 100) d_111_100 (by decide) (ok_inc (pc := 102) d_111_102 rfl (by decide) (ok_go (pc := 105) (t := 55) d_111_105 rfl (by decide) rfl)))))
theorem s_111_94 {Γ : m_G} : m_ok Γ m_tab 111 M_111 94 (g_111_94) := ok_ri (pc := 94) d_111_94 rfl
theorem s_111_92 {Γ : m_G} : m_ok Γ m_tab 111 M_111 92 (g_111_92) := ok_il (pc := 92) d_111_92 (s_111_94)
theorem s_111_55 {Γ : m_G} : m_ok Γ m_tab 111 M_111 55 (g_111_55) := ok_il (pc := 55) d_111_55 (ok_al_n (pc := 57) d_111_57 rfl (ok_getf (pc := 58) d_111_58 w_855 (hc1 fo_33) (ok_len (pc := 61) d_111_61 (ok_cige (pc := 62) (t := 108) d_111_62 rfl (by decide) rfl (ok_al_n (pc := 65) d_111_65 rfl (ok_al_n (pc := 66) d_111_66 rfl (ok_getf (pc := 67) d_111_67 w_855 (hc1 fo_33) (ok_il (pc := 70) d_111_70 (ok_iald (pc := 72) d_111_72 (ok_cai (pc := 73) (k2 := 130) rfl rfl tb_130 (by decide) (by decide) rfl (go_V d_111_73 w_817 w_819 ws_37 w_1 w_820 nn_130 (by decide) cl_11 rfl) (ok_is (pc := 76) d_111_76 (by decide) (ok_il (pc := 78) d_111_78 (ok_czge (pc := 80) (t := 95) d_111_80 rfl (by decide) rfl (ok_il_n (pc := 83) d_111_83 rfl (ok_czne (pc := 84) (t := 92) d_111_84 rfl (by decide) rfl (ok_il (pc := 87) d_111_87 (ok_go (pc := 89) (t := 94) d_111_89 rfl (by decide) rfl)))))))))))))))))
theorem s_111_31 {Γ : m_G} : m_ok Γ m_tab 111 M_111 31 (g_111_31) := ok_al_n (pc := 31) d_111_31 rfl (ok_getf (pc := 32) d_111_32 w_352 (hc1 fo_52) (ok_getf (pc := 35) d_111_35 w_58 (hc1 fo_31) (ok_ic (pc := 38) d_111_38 rfl (ok_al_n (pc := 39) d_111_39 rfl (ok_getf (pc := 40) d_111_40 w_364 (hc1 fo_58) (ok_ic (pc := 43) d_111_43 rfl (ok_bi (pc := 44) d_111_44 rfl (ok_copy (pc := 46) d_111_46 w_771 w_331 w_330 w_9 (ok_ic (pc := 49) d_111_49 rfl (ok_is (pc := 50) d_111_50 (by decide) (ok_ic (pc := 52) d_111_52 rfl (ok_is (pc := 53) d_111_53 (by decide) (s_111_55)))))))))))))
theorem s_111_17 {Γ : m_G} : m_ok Γ m_tab 111 M_111 17 (g_111_17) := ok_al_n (pc := 17) d_111_17 rfl (ok_getf (pc := 18) d_111_18 w_361 (hc1 fo_54) (ok_il_n (pc := 21) d_111_21 rfl (ok_aald (pc := 22) d_111_22 (ok_as_n (pc := 23) d_111_23 rfl (by decide) (ok_al_n (pc := 24) d_111_24 rfl (ok_ifnn (pc := 25) (t := 31) d_111_25 rfl (by decide) rfl (ok_bi (pc := 28) d_111_28 rfl (ok_ri (pc := 30) d_111_30 rfl))))))))
theorem s_111_14 {Γ : m_G} : m_ok Γ m_tab 111 M_111 14 (g_111_14) := ok_bi (pc := 14) d_111_14 rfl (ok_ri (pc := 16) d_111_16 rfl)
theorem s_111_0 {Γ : m_G} : m_ok Γ m_tab 111 M_111 0 (g_111_0) := ok_il_n (pc := 0) d_111_0 rfl (ok_cat (pc := 1) (k2 := 123) rfl tb_123 (by decide) (by decide) rfl (go_S d_111_1 w_814 w_815 w_1 w_816 nn_123 (by decide)) (ok_czeq (pc := 4) (t := 14) d_111_4 rfl (by decide) rfl (ok_il_n (pc := 7) d_111_7 rfl (ok_cat (pc := 8) (k2 := 122) rfl tb_122 (by decide) (by decide) rfl (go_S d_111_8 w_415 w_416 w_1 w_417 nn_122 (by decide)) (ok_czne (pc := 11) (t := 17) d_111_11 rfl (by decide) rfl (s_111_14))))))
theorem tst_111 {Γ : m_G} (q : Nat) : m_ts Γ (t_111 q) q := ts_n (ts_n (ts_n (ts_l (k := 111) (pc := 0) tb_111 rfl (by decide) s_111_0) (ts_l (k := 111) (pc := 14) tb_111 rfl (by decide) s_111_14)) (ts_n (ts_l (k := 111) (pc := 17) tb_111 rfl (by decide) s_111_17) (ts_n (ts_l (k := 111) (pc := 31) tb_111 rfl (by decide) s_111_31) (ts_l (k := 111) (pc := 55) tb_111 rfl (by decide) s_111_55)))) (ts_n (ts_n (ts_l (k := 111) (pc := 92) tb_111 rfl (by decide) s_111_92) (ts_n (ts_l (k := 111) (pc := 94) tb_111 rfl (by decide) s_111_94) (ts_l (k := 111) (pc := 95) tb_111 rfl (by decide) s_111_95))) (ts_n (ts_l (k := 111) (pc := 108) tb_111 rfl (by decide) s_111_108) (ts_n (ts_l (k := 111) (pc := 116) tb_111 rfl (by decide) s_111_116) (ts_l (k := 111) (pc := 118) tb_111 rfl (by decide) s_111_118))))
theorem d_112_0 : decode prog_1_method_25_code 0 = .ok (.iload_n 2, 1) := by decide +kernel
theorem d_112_1 : decode prog_1_method_25_code 1 = .ok (.sipush 200, 3) := by decide +kernel
theorem d_112_4 : decode prog_1_method_25_code 4 = .ok (.invokestatic 122, 3) := by decide +kernel
theorem d_112_7 : decode prog_1_method_25_code 7 = .ok (.ifCond .ne 6, 3) := by decide +kernel
theorem d_112_10 : decode prog_1_method_25_code 10 = .ok (.bipush (-2), 2) := by decide +kernel
theorem d_112_12 : decode prog_1_method_25_code 12 = .ok (.ireturn, 1) := by decide +kernel
theorem d_112_13 : decode prog_1_method_25_code 13 = .ok (.aload_n 0, 1) := by decide +kernel
theorem d_112_14 : decode prog_1_method_25_code 14 = .ok (.getfield 10, 3) := by decide +kernel
theorem d_112_17 : decode prog_1_method_25_code 17 = .ok (.getfield 129, 3) := by decide +kernel
theorem d_112_20 : decode prog_1_method_25_code 20 = .ok (.iconst 0, 1) := by decide +kernel
theorem d_112_21 : decode prog_1_method_25_code 21 = .ok (.aload_n 0, 1) := by decide +kernel
theorem d_112_22 : decode prog_1_method_25_code 22 = .ok (.getfield 60, 3) := by decide +kernel
theorem d_112_25 : decode prog_1_method_25_code 25 = .ok (.iconst 0, 1) := by decide +kernel
theorem d_112_26 : decode prog_1_method_25_code 26 = .ok (.bipush 6, 2) := by decide +kernel
theorem d_112_28 : decode prog_1_method_25_code 28 = .ok (.invokestatic 230, 3) := by decide +kernel
theorem d_112_31 : decode prog_1_method_25_code 31 = .ok (.iload_n 1, 1) := by decide +kernel
theorem d_112_32 : decode prog_1_method_25_code 32 = .ok (.istore_n 3, 1) := by decide +kernel
theorem d_112_33 : decode prog_1_method_25_code 33 = .ok (.iconst 0, 1) := by decide +kernel
theorem d_112_34 : decode prog_1_method_25_code 34 = .ok (.istore 4, 2) := by decide +kernel
theorem d_112_36 : decode prog_1_method_25_code 36 = .ok (.iload 4, 2) := by decide +kernel
theorem d_112_38 : decode prog_1_method_25_code 38 = .ok (.iload_n 2, 1) := by decide +kernel
theorem d_112_39 : decode prog_1_method_25_code 39 = .ok (.if_icmp .ge 51, 3) := by decide +kernel
theorem d_112_42 : decode prog_1_method_25_code 42 = .ok (.iload_n 3, 1) := by decide +kernel
theorem d_112_43 : decode prog_1_method_25_code 43 = .ok (.ldc_w 274, 3) := by decide +kernel
theorem d_112_46 : decode prog_1_method_25_code 46 = .ok (.imul, 1) := by decide +kernel
theorem d_112_47 : decode prog_1_method_25_code 47 = .ok (.sipush 12345, 3) := by decide +kernel
theorem d_112_50 : decode prog_1_method_25_code 50 = .ok (.iadd, 1) := by decide +kernel
theorem d_112_51 : decode prog_1_method_25_code 51 = .ok (.istore_n 3, 1) := by decide +kernel
theorem d_112_52 : decode prog_1_method_25_code 52 = .ok (.aload_n 0, 1) := by decide +kernel
theorem d_112_53 : decode prog_1_method_25_code 53 = .ok (.iconst 5, 1) := by decide +kernel
theorem d_112_54 : decode prog_1_method_25_code 54 = .ok (.iload_n 3, 1) := by decide +kernel
theorem d_112_55 : decode prog_1_method_25_code 55 = .ok (.bipush 8, 2) := by decide +kernel
theorem d_112_57 : decode prog_1_method_25_code 57 = .ok (.iushr, 1) := by decide +kernel
theorem d_112_58 : decode prog_1_method_25_code 58 = .ok (.aload_n 0, 1) := by decide +kernel
theorem d_112_59 : decode prog_1_method_25_code 59 = .ok (.getfield 10, 3) := by decide +kernel
theorem d_112_62 : decode prog_1_method_25_code 62 = .ok (.getfield 91, 3) := by decide +kernel
theorem d_112_65 : decode prog_1_method_25_code 65 = .ok (.irem, 1) := by decide +kernel
theorem d_112_66 : decode prog_1_method_25_code 66 = .ok (.imul, 1) := by decide +kernel
theorem d_112_67 : decode prog_1_method_25_code 67 = .ok (.iload_n 3, 1) := by decide +kernel
theorem d_112_68 : decode prog_1_method_25_code 68 = .ok (.bipush 16, 2) := by decide +kernel
theorem d_112_70 : decode prog_1_method_25_code 70 = .ok (.iushr, 1) := by decide +kernel
theorem d_112_71 : decode prog_1_method_25_code 71 = .ok (.aload_n 0, 1) := by decide +kernel
theorem d_112_72 : decode prog_1_method_25_code 72 = .ok (.getfield 10, 3) := by decide +kernel
theorem d_112_75 : decode prog_1_method_25_code 75 = .ok (.getfield 244, 3) := by decide +kernel
theorem d_112_78 : decode prog_1_method_25_code 78 = .ok (.irem, 1) := by decide +kernel
theorem d_112_79 : decode prog_1_method_25_code 79 = .ok (.iadd, 1) := by decide +kernel
theorem d_112_80 : decode prog_1_method_25_code 80 = .ok (.invokevirtual 271, 3) := by decide +kernel
theorem d_112_83 : decode prog_1_method_25_code 83 = .ok (.pop, 1) := by decide +kernel
theorem d_112_84 : decode prog_1_method_25_code 84 = .ok (.iinc 4 1, 3) := by decide +kernel
theorem d_112_87 : decode prog_1_method_25_code 87 = .ok (.goto (-51), 3) := by decide +kernel
theorem d_112_90 : decode prog_1_method_25_code 90 = .ok (.aload_n 0, 1) := by decide +kernel
theorem d_112_91 : decode prog_1_method_25_code 91 = .ok (.getfield 10, 3) := by decide +kernel
theorem d_112_94 : decode prog_1_method_25_code 94 = .ok (.aload_n 0, 1) := by decide +kernel
theorem d_112_95 : decode prog_1_method_25_code 95 = .ok (.getfield 60, 3) := by decide +kernel
theorem d_112_98 : decode prog_1_method_25_code 98 = .ok (.invokevirtual 236, 3) := by decide +kernel
theorem d_112_101 : decode prog_1_method_25_code 101 = .ok (.ireturn, 1) := by decide +kernel
theorem s_112_90 {Γ : m_G} : m_ok Γ m_tab 112 M_112 90 (g_112_90) := ok_al_n (pc := 90) d_112_90 rfl (ok_getf (pc := 91) d_112_91 w_352 (hc1 fo_52) (ok_al_n (pc := 94) d_112_94 rfl (ok_getf (pc := 95) d_112_95 w_364 (hc1 fo_58) (ok_cai (pc := 98) (k2 := 87) rfl rfl tb_87 (by decide) (by decide) rfl (go_V d_112_98 w_700 w_701 w_702 w_2 w_703 nn_87 (by decide) cl_10 rfl) (ok_ri (pc := 101) d_112_101 rfl)))))
theorem s_112_36 {Γ : m_G} : m_ok Γ m_tab 112 M_112 36 (g_112_36) := ok_il (pc := 36) d_112_36 (ok_il_n (pc := 38) d_112_38 rfl (ok_cige (pc := 39) (t := 90) d_112_39 rfl (by decide) rfl (ok_il_n (pc := 42) d_112_42 rfl (ok_ldcw (pc := 43) d_112_43 w_825 rfl (ok_mul (pc := 46) d_112_46 (ok_si (pc := 47) d_112_47 rfl (ok_add (pc := 50) d_112_50 (ok_is_n (pc := 51) d_112_51 rfl (by decide) (ok_al_n (pc := 52) d_112_52 rfl (ok_ic (pc := 53) d_112_53 rfl (ok_il_n (pc := 54) d_112_54 rfl (ok_bi (pc := 55) d_112_55 rfl (ok_ushr (pc := 57) d_112_57 (ok_al_n (pc := 58) d_112_58 rfl (ok_getf (pc := 59) d_112_59 w_352 (hc1 fo_52) (ok_getf (pc := 62) d_112_62 w_47 (hc1 fo_28) (ok_rem (pc := 65) d_112_65 (ok_mul (pc := 66) d_112_66 (ok_il_n (pc := 67) d_112_67 rfl (ok_bi (pc := 68) d_112_68 rfl (ok_ushr (pc := 70) d_112_70 (ok_al_n (pc := 71) d_112_71 rfl (ok_getf (pc := 72) d_112_72 w_352 (hc1 fo_52) (ok_getf (pc := 75) d_112_75 w_51 (hc1 fo_24) (ok_rem (pc := 78) d_112_78 (ok_add (pc := 79) d_112_79 (ok_cai (pc := 80) (k2 := 130) rfl rfl tb_130 (by decide) (by decide) rfl (go_V d_112_80 w_817 w_819 ws_37 w_1 w_820 nn_130 (by decide) cl_11 rfl) (ok_pop (pc := 83) d_112_83 (ok_inc (pc := 84) d_112_84 rfl (by decide) (ok_go (pc := 87) (t := 36) d_112_87 rfl (by decide) rfl))))))))))))))))))))))))))))))
theorem s_112_13 {Γ : m_G} : m_ok Γ m_tab 112 M_112 13 (g_112_13) := ok_al_n (pc := 13) d_112_13 rfl (ok_getf (pc := 14) d_112_14 w_352 (hc1 fo_52) (ok_getf (pc := 17) d_112_17 w_58 (hc1 fo_31) (ok_ic (pc := 20) d_112_20 rfl (ok_al_n (pc := 21) d_112_21 rfl (ok_getf (pc := 22) d_112_22 w_364 (hc1 fo_58) (ok_ic (pc := 25) d_112_25 rfl (ok_bi (pc := 26) d_112_26 rfl (ok_copy (pc := 28) d_112_28 w_771 w_331 w_330 w_9 (ok_il_n (pc := 31) d_112_31 rfl (ok_is_n (pc := 32) d_112_32 rfl (by decide) (ok_ic (pc := 33) d_112_33 rfl (ok_is (pc := 34) d_112_34 (by decide) (s_112_36)))))))))))))
theorem s_112_0 {Γ : m_G} : m_ok Γ m_tab 112 M_112 0 (g_112_0) := ok_il_n (pc := 0) d_112_0 rfl (ok_si (pc := 1) d_112_1 rfl (ok_cat (pc := 4) (k2 := 121) rfl tb_121 (by decide) (by decide) rfl (go_S d_112_4 w_423 w_424 w_1 w_425 nn_121 (by decide)) (ok_czne (pc := 7) (t := 13) d_112_7 rfl (by decide) rfl (ok_bi (pc := 10) d_112_10 rfl (ok_ri (pc := 12) d_112_12 rfl)))))
theorem tst_112 {Γ : m_G} (q : Nat) : m_ts Γ (t_112 q) q := ts_n (ts_n (ts_l (k := 112) (pc := 0) tb_112 rfl (by decide) s_112_0) (ts_l (k := 112) (pc := 13) tb_112 rfl (by decide) s_112_13)) (ts_n (ts_l (k := 112) (pc := 36) tb_112 rfl (by decide) s_112_36) (ts_l (k := 112) (pc := 90) tb_112 rfl (by decide) s_112_90))
theorem d_113_0 : decode prog_1_method_26_code 0 = .ok (.aload_n 0, 1) := by decide +kernel
theorem d_113_1 : decode prog_1_method_26_code 1 = .ok (.getfield 16, 3) := by decide +kernel
theorem d_113_4 : decode prog_1_method_26_code 4 = .ok (.aload_n 0, 1) := by decide +kernel
theorem d_113_5 : decode prog_1_method_26_code 5 = .ok (.getfield 10, 3) := by decide +kernel
theorem d_113_8 : decode prog_1_method_26_code 8 = .ok (.invokevirtual 275, 3) := by decide +kernel
theorem d_113_11 : decode prog_1_method_26_code 11 = .ok (.aload_n 0, 1) := by decide +kernel
theorem d_113_12 : decode prog_1_method_26_code 12 = .ok (.iconst 1, 1) := by decide +kernel
theorem d_113_13 : decode prog_1_method_26_code 13 = .ok (.putfield 98, 3) := by decide +kernel
theorem d_113_16 : decode prog_1_method_26_code 16 = .ok (.aload_n 0, 1) := by decide +kernel
theorem d_113_17 : decode prog_1_method_26_code 17 = .ok (.getfield 10, 3) := by decide +kernel
theorem d_113_20 : decode prog_1_method_26_code 20 = .ok (.aload_n 0, 1) := by decide +kernel
theorem d_113_21 : decode prog_1_method_26_code 21 = .ok (.getfield 10, 3) := by decide +kernel
theorem d_113_24 : decode prog_1_method_26_code 24 = .ok (.getfield 129, 3) := by decide +kernel
theorem d_113_27 : decode prog_1_method_26_code 27 = .ok (.invokevirtual 236, 3) := by decide +kernel
theorem d_113_30 : decode prog_1_method_26_code 30 = .ok (.ireturn, 1) := by decide +kernel
theorem s_113_0 {Γ : m_G} : m_ok Γ m_tab 113 M_113 0 (g_113_0) := ok_al_n (pc := 0) d_113_0 rfl (ok_getf (pc := 1) d_113_1 w_353 (hc1 fo_60) (ok_al_n (pc := 4) d_113_4 rfl (ok_getf (pc := 5) d_113_5 w_352 (hc1 fo_52) (ok_cvi (pc := 8) (k2 := 78) rfl rfl tb_78 (by decide) (by decide) rfl (go_V d_113_8 w_830 w_831 w_832 w_2 w_833 nn_78 (by decide) cl_10 rfl) (ok_al_n (pc := 11) d_113_11 rfl (ok_ic (pc := 12) d_113_12 rfl (ok_putf (pc := 13) d_113_13 w_354 (hc1 ⟨_, _, _, tyX11, cl_11, in_11, by decide, rfl, rfl, rfl, tyX11_ok, nmX11, Or.inl rfl⟩) pd_4 vt_Z (ok_al_n (pc := 16) d_113_16 rfl (ok_getf (pc := 17) d_113_17 w_352 (hc1 fo_52) (ok_al_n (pc := 20) d_113_20 rfl (ok_getf (pc := 21) d_113_21 w_352 (hc1 fo_52) (ok_getf (pc := 24) d_113_24 w_58 (hc1 fo_31) (ok_cai (pc := 27) (k2 := 87) rfl rfl tb_87 (by decide) (by decide) rfl (go_V d_113_27 w_700 w_701 w_702 w_2 w_703 nn_87 (by decide) cl_10 rfl) (ok_ri (pc := 30) d_113_30 rfl))))))))))))))
theorem tst_113 {Γ : m_G} (q : Nat) : m_ts Γ (t_113 q) q := ts_l (k := 113) (pc := 0) tb_113 rfl (by decide) s_113_0
theorem d_114_0 : decode prog_1_method_27_code 0 = .ok (.aload_n 0, 1) := by decide +kernel
theorem d_114_1 : decode prog_1_method_27_code 1 = .ok (.getfield 98, 3) := by decide +kernel
theorem d_114_4 : decode prog_1_method_27_code 4 = .ok (.ifCond .ne 6, 3) := by decide +kernel
theorem d_114_7 : decode prog_1_method_27_code 7 = .ok (.bipush (-3), 2) := by decide +kernel
theorem d_114_9 : decode prog_1_method_27_code 9 = .ok (.ireturn, 1) := by decide +kernel
theorem d_114_10 : decode prog_1_method_27_code 10 = .ok (.aload_n 0, 1) := by decide +kernel
theorem d_114_11 : decode prog_1_method_27_code 11 = .ok (.getfield 10, 3) := by decide +kernel
theorem d_114_14 : decode prog_1_method_27_code 14 = .ok (.aload_n 0, 1) := by decide +kernel
theorem d_114_15 : decode prog_1_method_27_code 15 = .ok (.getfield 16, 3) := by decide +kernel
theorem d_114_18 : decode prog_1_method_27_code 18 = .ok (.invokevirtual 275, 3) := by decide +kernel
theorem d_114_21 : decode prog_1_method_27_code 21 = .ok (.aload_n 0, 1) := by decide +kernel
theorem d_114_22 : decode prog_1_method_27_code 22 = .ok (.getfield 24, 3) := by decide +kernel
theorem d_114_25 : decode prog_1_method_27_code 25 = .ok (.invokevirtual 105, 3) := by decide +kernel
theorem d_114_28 : decode prog_1_method_27_code 28 = .ok (.aload_n 0, 1) := by decide +kernel
theorem d_114_29 : decode prog_1_method_27_code 29 = .ok (.getfield 10, 3) := by decide +kernel
theorem d_114_32 : decode prog_1_method_27_code 32 = .ok (.aload_n 0, 1) := by decide +kernel
theorem d_114_33 : decode prog_1_method_27_code 33 = .ok (.getfield 10, 3) := by decide +kernel
theorem d_114_36 : decode prog_1_method_27_code 36 = .ok (.getfield 129, 3) := by decide +kernel
theorem d_114_39 : decode prog_1_method_27_code 39 = .ok (.invokevirtual 236, 3) := by decide +kernel
theorem d_114_42 : decode prog_1_method_27_code 42 = .ok (.ireturn, 1) := by decide +kernel
theorem s_114_10 {Γ : m_G} : m_ok Γ m_tab 114 M_114 10 (g_114_10) := ok_al_n (pc := 10) d_114_10 rfl (ok_getf (pc := 11) d_114_11 w_352 (hc1 fo_52) (ok_al_n (pc := 14) d_114_14 rfl (ok_getf (pc := 15) d_114_15 w_353 (hc1 fo_60) (ok_cvi (pc := 18) (k2 := 78) rfl rfl tb_78 (by decide) (by decide) rfl (go_V d_114_18 w_830 w_831 w_832 w_2 w_833 nn_78 (by decide) cl_10 rfl) (ok_al_n (pc := 21) d_114_21 rfl (ok_getf (pc := 22) d_114_22 w_355 (hc1 fo_53) (ok_cvi (pc := 25) (k2 := 37) rfl rfl tb_37 (by decide) (by decide) rfl (go_V d_114_25 w_399 w_400 w_401 w_3 w_402 nn_37 (by decide) cl_5 rfl) (ok_al_n (pc := 28) d_114_28 rfl (ok_getf (pc := 29) d_114_29 w_352 (hc1 fo_52) (ok_al_n (pc := 32) d_114_32 rfl (ok_getf (pc := 33) d_114_33 w_352 (hc1 fo_52) (ok_getf (pc := 36) d_114_36 w_58 (hc1 fo_31) (ok_cai (pc := 39) (k2 := 87) rfl rfl tb_87 (by decide) (by decide) rfl (go_V d_114_39 w_700 w_701 w_702 w_2 w_703 nn_87 (by decide) cl_10 rfl) (ok_ri (pc := 42) d_114_42 rfl))))))))))))))
theorem s_114_0 {Γ : m_G} : m_ok Γ m_tab 114 M_114 0 (g_114_0) := ok_al_n (pc := 0) d_114_0 rfl (ok_getf (pc := 1) d_114_1 w_354 (hc1 fo_61) (ok_czne (pc := 4) (t := 10) d_114_4 rfl (by decide) rfl (ok_bi (pc := 7) d_114_7 rfl (ok_ri (pc := 9) d_114_9 rfl))))
theorem tst_114 {Γ : m_G} (q : Nat) : m_ts Γ (t_114 q) q := ts_n (ts_l (k := 114) (pc := 0) tb_114 rfl (by decide) s_114_0) (ts_l (k := 114) (pc := 10) tb_114 rfl (by decide) s_114_10)
theorem d_115_0 : decode prog_1_method_28_code 0 = .ok (.iload_n 1, 1) := by decide +kernel
theorem d_115_1 : decode prog_1_method_28_code 1 = .ok (.tableswitch 112 0 7 #[47, 55, 63, 68, 76, 91, 96, 104], 47) := by decide +kernel
theorem d_115_48 : decode prog_1_method_28_code 48 = .ok (.aload_n 0, 1) := by decide +kernel
theorem d_115_49 : decode prog_1_method_28_code 49 = .ok (.getfield 10, 3) := by decide +kernel
theorem d_115_52 : decode prog_1_method_28_code 52 = .ok (.getfield 91, 3) := by decide +kernel
theorem d_115_55 : decode prog_1_method_28_code 55 = .ok (.ireturn, 1) := by decide +kernel
theorem d_115_56 : decode prog_1_method_28_code 56 = .ok (.aload_n 0, 1) := by decide +kernel
theorem d_115_57 : decode prog_1_method_28_code 57 = .ok (.getfield 10, 3) := by decide +kernel
theorem d_115_60 : decode prog_1_method_28_code 60 = .ok (.getfield 244, 3) := by decide +kernel
theorem d_115_63 : decode prog_1_method_28_code 63 = .ok (.ireturn, 1) := by decide +kernel
theorem d_115_64 : decode prog_1_method_28_code 64 = .ok (.aload_n 0, 1) := by decide +kernel
theorem d_115_65 : decode prog_1_method_28_code 65 = .ok (.getfield 148, 3) := by decide +kernel
theorem d_115_68 : decode prog_1_method_28_code 68 = .ok (.ireturn, 1) := by decide +kernel
theorem d_115_69 : decode prog_1_method_28_code 69 = .ok (.aload_n 0, 1) := by decide +kernel
theorem d_115_70 : decode prog_1_method_28_code 70 = .ok (.getfield 10, 3) := by decide +kernel
theorem d_115_73 : decode prog_1_method_28_code 73 = .ok (.getfield 142, 3) := by decide +kernel
theorem d_115_76 : decode prog_1_method_28_code 76 = .ok (.ireturn, 1) := by decide +kernel
theorem d_115_77 : decode prog_1_method_28_code 77 = .ok (.aload_n 0, 1) := by decide +kernel
theorem d_115_78 : decode prog_1_method_28_code 78 = .ok (.getfield 10, 3) := by decide +kernel
theorem d_115_81 : decode prog_1_method_28_code 81 = .ok (.aload_n 0, 1) := by decide +kernel
theorem d_115_82 : decode prog_1_method_28_code 82 = .ok (.getfield 10, 3) := by decide +kernel
theorem d_115_85 : decode prog_1_method_28_code 85 = .ok (.getfield 129, 3) := by decide +kernel
theorem d_115_88 : decode prog_1_method_28_code 88 = .ok (.invokevirtual 236, 3) := by decide +kernel
theorem d_115_91 : decode prog_1_method_28_code 91 = .ok (.ireturn, 1) := by decide +kernel
theorem d_115_92 : decode prog_1_method_28_code 92 = .ok (.aload_n 0, 1) := by decide +kernel
theorem d_115_93 : decode prog_1_method_28_code 93 = .ok (.getfield 83, 3) := by decide +kernel
theorem d_115_96 : decode prog_1_method_28_code 96 = .ok (.ireturn, 1) := by decide +kernel
theorem d_115_97 : decode prog_1_method_28_code 97 = .ok (.aload_n 0, 1) := by decide +kernel
theorem d_115_98 : decode prog_1_method_28_code 98 = .ok (.getfield 37, 3) := by decide +kernel
theorem d_115_101 : decode prog_1_method_28_code 101 = .ok (.getfield 174, 3) := by decide +kernel
theorem d_115_104 : decode prog_1_method_28_code 104 = .ok (.ireturn, 1) := by decide +kernel
theorem d_115_105 : decode prog_1_method_28_code 105 = .ok (.aload_n 0, 1) := by decide +kernel
theorem d_115_106 : decode prog_1_method_28_code 106 = .ok (.getfield 10, 3) := by decide +kernel
theorem d_115_109 : decode prog_1_method_28_code 109 = .ok (.getfield 180, 3) := by decide +kernel
theorem d_115_112 : decode prog_1_method_28_code 112 = .ok (.ireturn, 1) := by decide +kernel
theorem d_115_113 : decode prog_1_method_28_code 113 = .ok (.bipush (-2), 2) := by decide +kernel
theorem d_115_115 : decode prog_1_method_28_code 115 = .ok (.ireturn, 1) := by decide +kernel
theorem s_115_113 {Γ : m_G} : m_ok Γ m_tab 115 M_115 113 (g_115_113) := ok_bi (pc := 113) d_115_113 rfl (ok_ri (pc := 115) d_115_115 rfl)
theorem s_115_105 {Γ : m_G} : m_ok Γ m_tab 115 M_115 105 (g_115_105) := ok_al_n (pc := 105) d_115_105 rfl (ok_getf (pc := 106) d_115_106 w_352 (hc1 fo_52) (ok_getf (pc := 109) d_115_109 w_68 (hc1 fo_47) (ok_ri (pc := 112) d_115_112 rfl)))
theorem s_115_97 {Γ : m_G} : m_ok Γ m_tab 115 M_115 97 (g_115_97) := ok_al_n (pc := 97) d_115_97 rfl (ok_getf (pc := 98) d_115_98 w_358 (hc1 fo_50) (ok_getfN (host := "NeverLike") (pc := 101) d_115_101 (by decide +kernel) (hc1 fo_7) (ok_ri (pc := 104) d_115_104 rfl)))
theorem s_115_92 {Γ : m_G} : m_ok Γ m_tab 115 M_115 92 (g_115_92) := ok_al_n (pc := 92) d_115_92 rfl (ok_getf (pc := 93) d_115_93 w_360 (hc1 fo_57) (ok_ri (pc := 96) d_115_96 rfl))
theorem s_115_77 {Γ : m_G} : m_ok Γ m_tab 115 M_115 77 (g_115_77) := ok_al_n (pc := 77) d_115_77 rfl (ok_getf (pc := 78) d_115_78 w_352 (hc1 fo_52) (ok_al_n (pc := 81) d_115_81 rfl (ok_getf (pc := 82) d_115_82 w_352 (hc1 fo_52) (ok_getf (pc := 85) d_115_85 w_58 (hc1 fo_31) (ok_cai (pc := 88) (k2 := 87) rfl rfl tb_87 (by decide) (by decide) rfl (go_V d_115_88 w_700 w_701 w_702 w_2 w_703 nn_87 (by decide) cl_10 rfl) (ok_ri (pc := 91) d_115_91 rfl))))))
theorem s_115_69 {Γ : m_G} : m_ok Γ m_tab 115 M_115 69 (g_115_69) := ok_al_n (pc := 69) d_115_69 rfl (ok_getf (pc := 70) d_115_70 w_352 (hc1 fo_52) (ok_getf (pc := 73) d_115_73 w_66 (hc1 fo_48) (ok_ri (pc := 76) d_115_76 rfl)))
theorem s_115_64 {Γ : m_G} : m_ok Γ m_tab 115 M_115 64 (g_115_64) := ok_al_n (pc := 64) d_115_64 rfl (ok_getf (pc := 65) d_115_65 w_357 (hc1 fo_55) (ok_ri (pc := 68) d_115_68 rfl))
theorem s_115_56 {Γ : m_G} : m_ok Γ m_tab 115 M_115 56 (g_115_56) := ok_al_n (pc := 56) d_115_56 rfl (ok_getf (pc := 57) d_115_57 w_352 (hc1 fo_52) (ok_getf (pc := 60) d_115_60 w_51 (hc1 fo_24) (ok_ri (pc := 63) d_115_63 rfl)))
theorem s_115_48 {Γ : m_G} : m_ok Γ m_tab 115 M_115 48 (g_115_48) := ok_al_n (pc := 48) d_115_48 rfl (ok_getf (pc := 49) d_115_49 w_352 (hc1 fo_52) (ok_getf (pc := 52) d_115_52 w_47 (hc1 fo_28) (ok_ri (pc := 55) d_115_55 rfl)))
theorem s_115_0 {Γ : m_G} : m_ok Γ m_tab 115 M_115 0 (g_115_0) := ok_il_n (pc := 0) d_115_0 rfl (ok_tsw (pc := 1) d_115_1 rfl rfl (by decide +kernel) (by decide +kernel) (by decide) (by decide) (by decide +kernel) (by decide))
theorem tst_115 {Γ : m_G} (q : Nat) : m_ts Γ (t_115 q) q := ts_n (ts_n (ts_n (ts_l (k := 115) (pc := 0) tb_115 rfl (by decide) s_115_0) (ts_l (k := 115) (pc := 48) tb_115 rfl (by decide) s_115_48)) (ts_n (ts_l (k := 115) (pc := 56) tb_115 rfl (by decide) s_115_56) (ts_n (ts_l (k := 115) (pc := 64) tb_115 rfl (by decide) s_115_64) (ts_l (k := 115) (pc := 69) tb_115 rfl (by decide) s_115_69)))) (ts_n (ts_n (ts_l (k := 115) (pc := 77) tb_115 rfl (by decide) s_115_77) (ts_l (k := 115) (pc := 92) tb_115 rfl (by decide) s_115_92)) (ts_n (ts_l (k := 115) (pc := 97) tb_115 rfl (by decide) s_115_97) (ts_n (ts_l (k := 115) (pc := 105) tb_115 rfl (by decide) s_115_105) (ts_l (k := 115) (pc := 113) tb_115 rfl (by decide) s_115_113))))
theorem d_116_0 : decode prog_1_method_29_code 0 = .ok (.iload_n 1, 1) := by decide +kernel
theorem d_116_1 : decode prog_1_method_29_code 1 = .ok (.invokestatic 265, 3) := by decide +kernel
theorem d_116_4 : decode prog_1_method_29_code 4 = .ok (.ifCond .eq 13, 3) := by decide +kernel
theorem d_116_7 : decode prog_1_method_29_code 7 = .ok (.iload_n 2, 1) := by decide +kernel
theorem d_116_8 : decode prog_1_method_29_code 8 = .ok (.iconst (-1), 1) := by decide +kernel
theorem d_116_9 : decode prog_1_method_29_code 9 = .ok (.if_icmp .lt 8, 3) := by decide +kernel
theorem d_116_12 : decode prog_1_method_29_code 12 = .ok (.iload_n 2, 1) := by decide +kernel
theorem d_116_13 : decode prog_1_method_29_code 13 = .ok (.iconst 3, 1) := by decide +kernel
theorem d_116_14 : decode prog_1_method_29_code 14 = .ok (.if_icmp .lt 6, 3) := by decide +kernel
theorem d_116_17 : decode prog_1_method_29_code 17 = .ok (.bipush (-2), 2) := by decide +kernel
theorem d_116_19 : decode prog_1_method_29_code 19 = .ok (.ireturn, 1) := by decide +kernel
theorem d_116_20 : decode prog_1_method_29_code 20 = .ok (.iload_n 2, 1) := by decide +kernel
theorem d_116_21 : decode prog_1_method_29_code 21 = .ok (.iconst (-1), 1) := by decide +kernel
theorem d_116_22 : decode prog_1_method_29_code 22 = .ok (.if_icmp .ne 12, 3) := by decide +kernel
theorem d_116_25 : decode prog_1_method_29_code 25 = .ok (.aload_n 0, 1) := by decide +kernel
theorem d_116_26 : decode prog_1_method_29_code 26 = .ok (.getfield 49, 3) := by decide +kernel
theorem d_116_29 : decode prog_1_method_29_code 29 = .ok (.iload_n 1, 1) := by decide +kernel
theorem d_116_30 : decode prog_1_method_29_code 30 = .ok (.aconst_null, 1) := by decide +kernel
theorem d_116_31 : decode prog_1_method_29_code 31 = .ok (.aastore, 1) := by decide +kernel
theorem d_116_32 : decode prog_1_method_29_code 32 = .ok (.iconst 1, 1) := by decide +kernel
theorem d_116_33 : decode prog_1_method_29_code 33 = .ok (.ireturn, 1) := by decide +kernel
theorem d_116_34 : decode prog_1_method_29_code 34 = .ok (.iload_n 3, 1) := by decide +kernel
theorem d_116_35 : decode prog_1_method_29_code 35 = .ok (.bipush 40, 2) := by decide +kernel
theorem d_116_37 : decode prog_1_method_29_code 37 = .ok (.if_icmp .le 6, 3) := by decide +kernel
theorem d_116_40 : decode prog_1_method_29_code 40 = .ok (.bipush (-2), 2) := by decide +kernel
theorem d_116_42 : decode prog_1_method_29_code 42 = .ok (.ireturn, 1) := by decide +kernel
theorem d_116_43 : decode prog_1_method_29_code 43 = .ok (.iload_n 3, 1) := by decide +kernel
theorem d_116_44 : decode prog_1_method_29_code 44 = .ok (.ifCond .ge 6, 3) := by decide +kernel
theorem d_116_47 : decode prog_1_method_29_code 47 = .ok (.bipush (-14), 2) := by decide +kernel
theorem d_116_49 : decode prog_1_method_29_code 49 = .ok (.ireturn, 1) := by decide +kernel
theorem d_116_50 : decode prog_1_method_29_code 50 = .ok (.aload_n 0, 1) := by decide +kernel
theorem d_116_51 : decode prog_1_method_29_code 51 = .ok (.getfield 49, 3) := by decide +kernel
theorem d_116_54 : decode prog_1_method_29_code 54 = .ok (.iload_n 1, 1) := by decide +kernel
theorem d_116_55 : decode prog_1_method_29_code 55 = .ok (.new 47, 3) := by decide +kernel
theorem d_116_58 : decode prog_1_method_29_code 58 = .ok (.dup, 1) := by decide +kernel
theorem d_116_59 : decode prog_1_method_29_code 59 = .ok (.iload_n 2, 1) := by decide +kernel
theorem d_116_60 : decode prog_1_method_29_code 60 = .ok (.iload_n 3, 1) := by decide +kernel
theorem d_116_61 : decode prog_1_method_29_code 61 = .ok (.invokespecial 278, 3) := by decide +kernel
theorem d_116_64 : decode prog_1_method_29_code 64 = .ok (.aastore, 1) := by decide +kernel
theorem d_116_65 : decode prog_1_method_29_code 65 = .ok (.iconst 1, 1) := by decide +kernel
theorem d_116_66 : decode prog_1_method_29_code 66 = .ok (.ireturn, 1) := by decide +kernel
theorem s_116_50 {Γ : m_G} : m_ok Γ m_tab 116 M_116 50 (g_116_50) := ok_al_n (pc := 50) d_116_50 rfl (ok_getf (pc := 51) d_116_51 w_361 (hc1 fo_54) (ok_il_n (pc := 54) d_116_54 rfl (ok_new (pc := 55) d_116_55 w_175 w_847 w_20 cl_6 in_6 tyX6_ok df_6 dd_6 (ok_dup (pc := 58) d_116_58 (ok_il_n (pc := 59) d_116_59 rfl (ok_il_n (pc := 60) d_116_60 rfl (ok_cvr (pc := 61) (k2 := 61) rfl rfl tb_61 (by decide) (by decide) rfl (go_I d_116_61 w_848 w_849 w_20 w_850 rfl rfl nn_61 (by decide)) (ok_aast (pc := 64) d_116_64 rfl as_6 (ok_ic (pc := 65) d_116_65 rfl (ok_ri (pc := 66) d_116_66 rfl))))))))))
theorem s_116_43 {Γ : m_G} : m_ok Γ m_tab 116 M_116 43 (g_116_43) := ok_il_n (pc := 43) d_116_43 rfl (ok_czge (pc := 44) (t := 50) d_116_44 rfl (by decide) rfl (ok_bi (pc := 47) d_116_47 rfl (ok_ri (pc := 49) d_116_49 rfl)))
theorem s_116_34 {Γ : m_G} : m_ok Γ m_tab 116 M_116 34 (g_116_34) := ok_il_n (pc := 34) d_116_34 rfl (ok_bi (pc := 35) d_116_35 rfl (ok_cile (pc := 37) (t := 43) d_116_37 rfl (by decide) rfl (ok_bi (pc := 40) d_116_40 rfl (ok_ri (pc := 42) d_116_42 rfl))))
theorem s_116_20 {Γ : m_G} : m_ok Γ m_tab 116 M_116 20 (g_116_20) := ok_il_n (pc := 20) d_116_20 rfl (ok_ic (pc := 21) d_116_21 rfl (ok_cine (pc := 22) (t := 34) d_116_22 rfl (by decide) rfl (ok_al_n (pc := 25) d_116_25 rfl (ok_getf (pc := 26) d_116_26 w_361 (hc1 fo_54) (ok_il_n (pc := 29) d_116_29 rfl (ok_nul (pc := 30) d_116_30 (ok_aast (pc := 31) d_116_31 rfl as_6 (ok_ic (pc := 32) d_116_32 rfl (ok_ri (pc := 33) d_116_33 rfl)))))))))
theorem s_116_17 {Γ : m_G} : m_ok Γ m_tab 116 M_116 17 (g_116_17) := ok_bi (pc := 17) d_116_17 rfl (ok_ri (pc := 19) d_116_19 rfl)
theorem s_116_0 {Γ : m_G} : m_ok Γ m_tab 116 M_116 0 (g_116_0) := ok_il_n (pc := 0) d_116_0 rfl (ok_cat (pc := 1) (k2 := 123) rfl tb_123 (by decide) (by decide) rfl (go_S d_116_1 w_814 w_815 w_1 w_816 nn_123 (by decide)) (ok_czeq (pc := 4) (t := 17) d_116_4 rfl (by decide) rfl (ok_il_n (pc := 7) d_116_7 rfl (ok_ic (pc := 8) d_116_8 rfl (ok_cilt (pc := 9) (t := 17) d_116_9 rfl (by decide) rfl (ok_il_n (pc := 12) d_116_12 rfl (ok_ic (pc := 13) d_116_13 rfl (ok_cilt (pc := 14) (t := 20) d_116_14 rfl (by decide) rfl (s_116_17)))))))))
theorem tst_116 {Γ : m_G} (q : Nat) : m_ts Γ (t_116 q) q := ts_n (ts_n (ts_l (k := 116) (pc := 0) tb_116 rfl (by decide) s_116_0) (ts_n (ts_l (k := 116) (pc := 17) tb_116 rfl (by decide) s_116_17) (ts_l (k := 116) (pc := 20) tb_116 rfl (by decide) s_116_20))) (ts_n (ts_l (k := 116) (pc := 34) tb_116 rfl (by decide) s_116_34) (ts_n (ts_l (k := 116) (pc := 43) tb_116 rfl (by decide) s_116_43) (ts_l (k := 116) (pc := 50) tb_116 rfl (by decide) s_116_50)))
theorem d_117_0 : decode prog_1_method_30_code 0 = .ok (.iload_n 1, 1) := by decide +kernel
theorem d_117_1 : decode prog_1_method_30_code 1 = .ok (.invokestatic 265, 3) := by decide +kernel
theorem d_117_4 : decode prog_1_method_30_code 4 = .ok (.ifCond .ne 6, 3) := by decide +kernel
theorem d_117_7 : decode prog_1_method_30_code 7 = .ok (.bipush (-2), 2) := by decide +kernel
theorem d_117_9 : decode prog_1_method_30_code 9 = .ok (.ireturn, 1) := by decide +kernel
theorem d_117_10 : decode prog_1_method_30_code 10 = .ok (.aload_n 0, 1) := by decide +kernel
theorem d_117_11 : decode prog_1_method_30_code 11 = .ok (.getfield 49, 3) := by decide +kernel
theorem d_117_14 : decode prog_1_method_30_code 14 = .ok (.iload_n 1, 1) := by decide +kernel
theorem d_117_15 : decode prog_1_method_30_code 15 = .ok (.aaload, 1) := by decide +kernel
theorem d_117_16 : decode prog_1_method_30_code 16 = .ok (.astore 4, 2) := by decide +kernel
theorem d_117_18 : decode prog_1_method_30_code 18 = .ok (.aload 4, 2) := by decide +kernel
theorem d_117_20 : decode prog_1_method_30_code 20 = .ok (.ifnonnull 6, 3) := by decide +kernel
theorem d_117_23 : decode prog_1_method_30_code 23 = .ok (.bipush (-11), 2) := by decide +kernel
theorem d_117_25 : decode prog_1_method_30_code 25 = .ok (.ireturn, 1) := by decide +kernel
theorem d_117_26 : decode prog_1_method_30_code 26 = .ok (.aload 4, 2) := by decide +kernel
theorem d_117_28 : decode prog_1_method_30_code 28 = .ok (.iload_n 2, 1) := by decide +kernel
theorem d_117_29 : decode prog_1_method_30_code 29 = .ok (.invokevirtual 280, 3) := by decide +kernel
theorem d_117_32 : decode prog_1_method_30_code 32 = .ok (.ifCond .ne 6, 3) := by decide +kernel
theorem d_117_35 : decode prog_1_method_30_code 35 = .ok (.bipush (-12), 2) := by decide +kernel
theorem d_117_37 : decode prog_1_method_30_code 37 = .ok (.ireturn, 1) := by decide +kernel
theorem d_117_38 : decode prog_1_method_30_code 38 = .ok (.aload 4, 2) := by decide +kernel
theorem d_117_40 : decode prog_1_method_30_code 40 = .ok (.iload_n 2, 1) := by decide +kernel
theorem d_117_41 : decode prog_1_method_30_code 41 = .ok (.iload_n 3, 1) := by decide +kernel
theorem d_117_42 : decode prog_1_method_30_code 42 = .ok (.invokevirtual 283, 3) := by decide +kernel
theorem d_117_45 : decode prog_1_method_30_code 45 = .ok (.iconst 1, 1) := by decide +kernel
theorem d_117_46 : decode prog_1_method_30_code 46 = .ok (.ireturn, 1) := by decide +kernel
theorem s_117_38 {Γ : m_G} : m_ok Γ m_tab 117 M_117 38 (g_117_38) := ok_al (pc := 38) d_117_38 (ok_il_n (pc := 40) d_117_40 rfl (ok_il_n (pc := 41) d_117_41 rfl (ok_cvi (pc := 42) (k2 := 64) rfl rfl tb_64 (by decide) (by decide) rfl (go_V d_117_42 w_869 w_870 w_871 w_20 w_872 nn_64 (by decide) cl_6 rfl) (ok_ic (pc := 45) d_117_45 rfl (ok_ri (pc := 46) d_117_46 rfl)))))
theorem s_117_26 {Γ : m_G} : m_ok Γ m_tab 117 M_117 26 (g_117_26) := ok_al (pc := 26) d_117_26 (ok_il_n (pc := 28) d_117_28 rfl (ok_cai (pc := 29) (k2 := 62) rfl rfl tb_62 (by decide) (by decide) rfl (go_V d_117_29 w_865 w_866 w_867 w_20 w_868 nn_62 (by decide) cl_6 rfl) (ok_czne (pc := 32) (t := 38) d_117_32 rfl (by decide) rfl (ok_bi (pc := 35) d_117_35 rfl (ok_ri (pc := 37) d_117_37 rfl)))))
theorem s_117_10 {Γ : m_G} : m_ok Γ m_tab 117 M_117 10 (g_117_10) := ok_al_n (pc := 10) d_117_10 rfl (ok_getf (pc := 11) d_117_11 w_361 (hc1 fo_54) (ok_il_n (pc := 14) d_117_14 rfl (ok_aald (pc := 15) d_117_15 (ok_as (pc := 16) d_117_16 (by decide) (ok_al (pc := 18) d_117_18 (ok_ifnn (pc := 20) (t := 26) d_117_20 rfl (by decide) rfl (ok_bi (pc := 23) d_117_23 rfl (ok_ri (pc := 25) d_117_25 rfl))))))))
theorem s_117_0 {Γ : m_G} : m_ok Γ m_tab 117 M_117 0 (g_117_0) := ok_il_n (pc := 0) d_117_0 rfl (ok_cat (pc := 1) (k2 := 123) rfl tb_123 (by decide) (by decide) rfl (go_S d_117_1 w_814 w_815 w_1 w_816 nn_123 (by decide)) (ok_czne (pc := 4) (t := 10) d_117_4 rfl (by decide) rfl (ok_bi (pc := 7) d_117_7 rfl (ok_ri (pc := 9) d_117_9 rfl))))
theorem tst_117 {Γ : m_G} (q : Nat) : m_ts Γ (t_117 q) q := ts_n (ts_n (ts_l (k := 117) (pc := 0) tb_117 rfl (by decide) s_117_0) (ts_l (k := 117) (pc := 10) tb_117 rfl (by decide) s_117_10)) (ts_n (ts_l (k := 117) (pc := 26) tb_117 rfl (by decide) s_117_26) (ts_l (k := 117) (pc := 38) tb_117 rfl (by decide) s_117_38))
theorem d_118_0 : decode prog_1_method_31_code 0 = .ok (.iload_n 1, 1) := by decide +kernel
theorem d_118_1 : decode prog_1_method_31_code 1 = .ok (.invokestatic 265, 3) := by decide +kernel
theorem d_118_4 : decode prog_1_method_31_code 4 = .ok (.ifCond .eq 10, 3) := by decide +kernel
theorem d_118_7 : decode prog_1_method_31_code 7 = .ok (.iload_n 3, 1) := by decide +kernel
theorem d_118_8 : decode prog_1_method_31_code 8 = .ok (.invokestatic 265, 3) := by decide +kernel
theorem d_118_11 : decode prog_1_method_31_code 11 = .ok (.ifCond .ne 6, 3) := by decide +kernel
theorem d_118_14 : decode prog_1_method_31_code 14 = .ok (.bipush (-2), 2) := by decide +kernel
theorem d_118_16 : decode prog_1_method_31_code 16 = .ok (.ireturn, 1) := by decide +kernel
theorem d_118_17 : decode prog_1_method_31_code 17 = .ok (.aload_n 0, 1) := by decide +kernel
theorem d_118_18 : decode prog_1_method_31_code 18 = .ok (.getfield 49, 3) := by decide +kernel
theorem d_118_21 : decode prog_1_method_31_code 21 = .ok (.iload_n 1, 1) := by decide +kernel
theorem d_118_22 : decode prog_1_method_31_code 22 = .ok (.aaload, 1) := by decide +kernel
theorem d_118_23 : decode prog_1_method_31_code 23 = .ok (.astore 6, 2) := by decide +kernel
theorem d_118_25 : decode prog_1_method_31_code 25 = .ok (.aload_n 0, 1) := by decide +kernel
theorem d_118_26 : decode prog_1_method_31_code 26 = .ok (.getfield 49, 3) := by decide +kernel
theorem d_118_29 : decode prog_1_method_31_code 29 = .ok (.iload_n 3, 1) := by decide +kernel
theorem d_118_30 : decode prog_1_method_31_code 30 = .ok (.aaload, 1) := by decide +kernel
theorem d_118_31 : decode prog_1_method_31_code 31 = .ok (.astore 7, 2) := by decide +kernel
theorem d_118_33 : decode prog_1_method_31_code 33 = .ok (.aload 6, 2) := by decide +kernel
theorem d_118_35 : decode prog_1_method_31_code 35 = .ok (.ifnull 8, 3) := by decide +kernel
theorem d_118_38 : decode prog_1_method_31_code 38 = .ok (.aload 7, 2) := by decide +kernel
theorem d_118_40 : decode prog_1_method_31_code 40 = .ok (.ifnonnull 6, 3) := by decide +kernel
theorem d_118_43 : decode prog_1_method_31_code 43 = .ok (.bipush (-11), 2) := by decide +kernel
theorem d_118_45 : decode prog_1_method_31_code 45 = .ok (.ireturn, 1) := by decide +kernel
theorem d_118_46 : decode prog_1_method_31_code 46 = .ok (.aload 6, 2) := by decide +kernel
theorem d_118_48 : decode prog_1_method_31_code 48 = .ok (.getfield 285, 3) := by decide +kernel
theorem d_118_51 : decode prog_1_method_31_code 51 = .ok (.aload 7, 2) := by decide +kernel
theorem d_118_53 : decode prog_1_method_31_code 53 = .ok (.getfield 285, 3) := by decide +kernel
theorem d_118_56 : decode prog_1_method_31_code 56 = .ok (.if_icmp .eq 6, 3) := by decide +kernel
theorem d_118_59 : decode prog_1_method_31_code 59 = .ok (.bipush (-13), 2) := by decide +kernel
theorem d_118_61 : decode prog_1_method_31_code 61 = .ok (.ireturn, 1) := by decide +kernel
theorem d_118_62 : decode prog_1_method_31_code 62 = .ok (.aload 6, 2) := by decide +kernel
theorem d_118_64 : decode prog_1_method_31_code 64 = .ok (.iload_n 2, 1) := by decide +kernel
theorem d_118_65 : decode prog_1_method_31_code 65 = .ok (.iload 5, 2) := by decide +kernel
theorem d_118_67 : decode prog_1_method_31_code 67 = .ok (.invokevirtual 288, 3) := by decide +kernel
theorem d_118_70 : decode prog_1_method_31_code 70 = .ok (.ifCond .eq 15, 3) := by decide +kernel
theorem d_118_73 : decode prog_1_method_31_code 73 = .ok (.aload 7, 2) := by decide +kernel
theorem d_118_75 : decode prog_1_method_31_code 75 = .ok (.iload 4, 2) := by decide +kernel
theorem d_118_77 : decode prog_1_method_31_code 77 = .ok (.iload 5, 2) := by decide +kernel
theorem d_118_79 : decode prog_1_method_31_code 79 = .ok (.invokevirtual 288, 3) := by decide +kernel
theorem d_118_82 : decode prog_1_method_31_code 82 = .ok (.ifCond .ne 6, 3) := by decide +kernel
theorem d_118_85 : decode prog_1_method_31_code 85 = .ok (.bipush (-12), 2) := by decide +kernel
theorem d_118_87 : decode prog_1_method_31_code 87 = .ok (.ireturn, 1) := by decide +kernel
theorem d_118_88 : decode prog_1_method_31_code 88 = .ok (.aload 6, 2) := by decide +kernel
theorem d_118_90 : decode prog_1_method_31_code 90 = .ok (.getfield 268, 3) := by decide +kernel
theorem d_118_93 : decode prog_1_method_31_code 93 = .ok (.iload_n 2, 1) := by decide +kernel
theorem d_118_94 : decode prog_1_method_31_code 94 = .ok (.aload 7, 2) := by decide +kernel
theorem d_118_96 : decode prog_1_method_31_code 96 = .ok (.getfield 268, 3) := by decide +kernel
theorem d_118_99 : decode prog_1_method_31_code 99 = .ok (.iload 4, 2) := by decide +kernel
theorem d_118_101 : decode prog_1_method_31_code 101 = .ok (.iload 5, 2) := by decide +kernel
theorem d_118_103 : decode prog_1_method_31_code 103 = .ok (.invokestatic 230, 3) := by decide +kernel
theorem d_118_106 : decode prog_1_method_31_code 106 = .ok (.iload 5, 2) := by decide +kernel
theorem d_118_108 : decode prog_1_method_31_code 108 = .ok (.ireturn, 1) := by decide +kernel
theorem s_118_88 {Γ : m_G} : m_ok Γ m_tab 118 M_118 88 (g_118_88) := ok_al (pc := 88) d_118_88 (ok_getf (pc := 90) d_118_90 w_855 (hc1 fo_33) (ok_il_n (pc := 93) d_118_93 rfl (ok_al (pc := 94) d_118_94 (ok_getf (pc := 96) d_118_96 w_855 (hc1 fo_33) (ok_il (pc := 99) d_118_99 (ok_il (pc := 101) d_118_101 (ok_copy (pc := 103) d_118_103 w_771 w_331 w_330 w_9 (ok_il (pc := 106) d_118_106 (ok_ri (pc := 108) d_118_108 rfl)))))))))
theorem s_118_85 {Γ : m_G} : m_ok Γ m_tab 118 M_118 85 (g_118_85) := ok_bi (pc := 85) d_118_85 rfl (ok_ri (pc := 87) d_118_87 rfl)
theorem s_118_62 {Γ : m_G} : m_ok Γ m_tab 118 M_118 62 (g_118_62) := ok_al (pc := 62) d_118_62 (ok_il_n (pc := 64) d_118_64 rfl (ok_il (pc := 65) d_118_65 (ok_cai (pc := 67) (k2 := 63) rfl rfl tb_63 (by decide) (by decide) rfl (go_V d_118_67 w_877 w_878 w_879 w_20 w_880 nn_63 (by decide) cl_6 rfl) (ok_czeq (pc := 70) (t := 85) d_118_70 rfl (by decide) rfl (ok_al (pc := 73) d_118_73 (ok_il (pc := 75) d_118_75 (ok_il (pc := 77) d_118_77 (ok_cai (pc := 79) (k2 := 63) rfl rfl tb_63 (by decide) (by decide) rfl (go_V d_118_79 w_877 w_878 w_879 w_20 w_880 nn_63 (by decide) cl_6 rfl) (ok_czne (pc := 82) (t := 88) d_118_82 rfl (by decide) rfl (s_118_85))))))))))
theorem s_118_46 {Γ : m_G} : m_ok Γ m_tab 118 M_118 46 (g_118_46) := ok_al (pc := 46) d_118_46 (ok_getf (pc := 48) d_118_48 w_853 (hc1 fo_34) (ok_al (pc := 51) d_118_51 (ok_getf (pc := 53) d_118_53 w_853 (hc1 fo_34) (ok_cieq (pc := 56) (t := 62) d_118_56 rfl (by decide) rfl (ok_bi (pc := 59) d_118_59 rfl (ok_ri (pc := 61) d_118_61 rfl))))))
theorem s_118_43 {Γ : m_G} : m_ok Γ m_tab 118 M_118 43 (g_118_43) := ok_bi (pc := 43) d_118_43 rfl (ok_ri (pc := 45) d_118_45 rfl)
theorem s_118_17 {Γ : m_G} : m_ok Γ m_tab 118 M_118 17 (g_118_17) := ok_al_n (pc := 17) d_118_17 rfl (ok_getf (pc := 18) d_118_18 w_361 (hc1 fo_54) (ok_il_n (pc := 21) d_118_21 rfl (ok_aald (pc := 22) d_118_22 (ok_as (pc := 23) d_118_23 (by decide) (ok_al_n (pc := 25) d_118_25 rfl (ok_getf (pc := 26) d_118_26 w_361 (hc1 fo_54) (ok_il_n (pc := 29) d_118_29 rfl (ok_aald (pc := 30) d_118_30 (ok_as (pc := 31) d_118_31 (by decide) (ok_al (pc := 33) d_118_33 (ok_ifn (pc := 35) (t := 43) d_118_35 rfl (by decide) rfl (ok_al (pc := 38) d_118_38 (ok_ifnn (pc := 40) (t := 46) d_118_40 rfl (by decide) rfl (s_118_43))))))))))))))
theorem s_118_14 {Γ : m_G} : m_ok Γ m_tab 118 M_118 14 (g_118_14) := ok_bi (pc := 14) d_118_14 rfl (ok_ri (pc := 16) d_118_16 rfl)
theorem s_118_0 {Γ : m_G} : m_ok Γ m_tab 118 M_118 0 (g_118_0) := ok_il_n (pc := 0) d_118_0 rfl (ok_cat (pc := 1) (k2 := 123) rfl tb_123 (by decide) (by decide) rfl (go_S d_118_1 w_814 w_815 w_1 w_816 nn_123 (by decide)) (ok_czeq (pc := 4) (t := 14) d_118_4 rfl (by decide) rfl (ok_il_n (pc := 7) d_118_7 rfl (ok_cat (pc := 8) (k2 := 123) rfl tb_123 (by decide) (by decide) rfl (go_S d_118_8 w_814 w_815 w_1 w_816 nn_123 (by decide)) (ok_czne (pc := 11) (t := 17) d_118_11 rfl (by decide) rfl (s_118_14))))))
theorem tst_118 {Γ : m_G} (q : Nat) : m_ts Γ (t_118 q) q := ts_n (ts_n (ts_n (ts_l (k := 118) (pc := 0) tb_118 rfl (by decide) s_118_0) (ts_l (k := 118) (pc := 14) tb_118 rfl (by decide) s_118_14)) (ts_n (ts_l (k := 118) (pc := 17) tb_118 rfl (by decide) s_118_17) (ts_l (k := 118) (pc := 43) tb_118 rfl (by decide) s_118_43))) (ts_n (ts_n (ts_l (k := 118) (pc := 46) tb_118 rfl (by decide) s_118_46) (ts_l (k := 118) (pc := 62) tb_118 rfl (by decide) s_118_62)) (ts_n (ts_l (k := 118) (pc := 85) tb_118 rfl (by decide) s_118_85) (ts_l (k := 118) (pc := 88) tb_118 rfl (by decide) s_118_88)))
theorem d_119_0 : decode prog_1_method_32_code 0 = .ok (.iload_n 1, 1) := by decide +kernel
theorem d_119_1 : decode prog_1_method_32_code 1 = .ok (.invokestatic 265, 3) := by decide +kernel
theorem d_119_4 : decode prog_1_method_32_code 4 = .ok (.ifCond .eq 21, 3) := by decide +kernel
theorem d_119_7 : decode prog_1_method_32_code 7 = .ok (.iload_n 2, 1) := by decide +kernel
theorem d_119_8 : decode prog_1_method_32_code 8 = .ok (.iconst 2, 1) := by decide +kernel
theorem d_119_9 : decode prog_1_method_32_code 9 = .ok (.invokestatic 122, 3) := by decide +kernel
theorem d_119_12 : decode prog_1_method_32_code 12 = .ok (.ifCond .eq 13, 3) := by decide +kernel
theorem d_119_15 : decode prog_1_method_32_code 15 = .ok (.iload 4, 2) := by decide +kernel
theorem d_119_17 : decode prog_1_method_32_code 17 = .ok (.bipush 20, 2) := by decide +kernel
theorem d_119_19 : decode prog_1_method_32_code 19 = .ok (.invokestatic 122, 3) := by decide +kernel
theorem d_119_22 : decode prog_1_method_32_code 22 = .ok (.ifCond .ne 6, 3) := by decide +kernel
theorem d_119_25 : decode prog_1_method_32_code 25 = .ok (.bipush (-2), 2) := by decide +kernel
theorem d_119_27 : decode prog_1_method_32_code 27 = .ok (.ireturn, 1) := by decide +kernel
theorem d_119_28 : decode prog_1_method_32_code 28 = .ok (.aload_n 0, 1) := by decide +kernel
theorem d_119_29 : decode prog_1_method_32_code 29 = .ok (.getfield 49, 3) := by decide +kernel
theorem d_119_32 : decode prog_1_method_32_code 32 = .ok (.iload_n 1, 1) := by decide +kernel
theorem d_119_33 : decode prog_1_method_32_code 33 = .ok (.aaload, 1) := by decide +kernel
theorem d_119_34 : decode prog_1_method_32_code 34 = .ok (.astore 5, 2) := by decide +kernel
theorem d_119_36 : decode prog_1_method_32_code 36 = .ok (.aload 5, 2) := by decide +kernel
theorem d_119_38 : decode prog_1_method_32_code 38 = .ok (.ifnonnull 6, 3) := by decide +kernel
theorem d_119_41 : decode prog_1_method_32_code 41 = .ok (.bipush (-11), 2) := by decide +kernel
theorem d_119_43 : decode prog_1_method_32_code 43 = .ok (.ireturn, 1) := by decide +kernel
theorem d_119_44 : decode prog_1_method_32_code 44 = .ok (.aload 5, 2) := by decide +kernel
theorem d_119_46 : decode prog_1_method_32_code 46 = .ok (.getfield 285, 3) := by decide +kernel
theorem d_119_49 : decode prog_1_method_32_code 49 = .ok (.iload_n 2, 1) := by decide +kernel
theorem d_119_50 : decode prog_1_method_32_code 50 = .ok (.if_icmp .eq 6, 3) := by decide +kernel
theorem d_119_53 : decode prog_1_method_32_code 53 = .ok (.bipush (-13), 2) := by decide +kernel
theorem d_119_55 : decode prog_1_method_32_code 55 = .ok (.ireturn, 1) := by decide +kernel
theorem d_119_56 : decode prog_1_method_32_code 56 = .ok (.iconst 0, 1) := by decide +kernel
theorem d_119_57 : decode prog_1_method_32_code 57 = .ok (.istore 6, 2) := by decide +kernel
theorem d_119_59 : decode prog_1_method_32_code 59 = .ok (.iconst 0, 1) := by decide +kernel
theorem d_119_60 : decode prog_1_method_32_code 60 = .ok (.istore 7, 2) := by decide +kernel
theorem d_119_62 : decode prog_1_method_32_code 62 = .ok (.iload 7, 2) := by decide +kernel
theorem d_119_64 : decode prog_1_method_32_code 64 = .ok (.iload 4, 2) := by decide +kernel
theorem d_119_66 : decode prog_1_method_32_code 66 = .ok (.if_icmp .ge 59, 3) := by decide +kernel
theorem d_119_69 : decode prog_1_method_32_code 69 = .ok (.iload_n 3, 1) := by decide +kernel
theorem d_119_70 : decode prog_1_method_32_code 70 = .ok (.iconst 2, 1) := by decide +kernel
theorem d_119_71 : decode prog_1_method_32_code 71 = .ok (.iload 7, 2) := by decide +kernel
theorem d_119_73 : decode prog_1_method_32_code 73 = .ok (.imul, 1) := by decide +kernel
theorem d_119_74 : decode prog_1_method_32_code 74 = .ok (.iadd, 1) := by decide +kernel
theorem d_119_75 : decode prog_1_method_32_code 75 = .ok (.istore 8, 2) := by decide +kernel
theorem d_119_77 : decode prog_1_method_32_code 77 = .ok (.aload 5, 2) := by decide +kernel
theorem d_119_79 : decode prog_1_method_32_code 79 = .ok (.iload 8, 2) := by decide +kernel
theorem d_119_81 : decode prog_1_method_32_code 81 = .ok (.iconst 2, 1) := by decide +kernel
theorem d_119_82 : decode prog_1_method_32_code 82 = .ok (.invokevirtual 288, 3) := by decide +kernel
theorem d_119_85 : decode prog_1_method_32_code 85 = .ok (.ifCond .ne 6, 3) := by decide +kernel
theorem d_119_88 : decode prog_1_method_32_code 88 = .ok (.bipush (-12), 2) := by decide +kernel
theorem d_119_90 : decode prog_1_method_32_code 90 = .ok (.ireturn, 1) := by decide +kernel
theorem d_119_91 : decode prog_1_method_32_code 91 = .ok (.aload_n 0, 1) := by decide +kernel
theorem d_119_92 : decode prog_1_method_32_code 92 = .ok (.aload 5, 2) := by decide +kernel
theorem d_119_94 : decode prog_1_method_32_code 94 = .ok (.getfield 268, 3) := by decide +kernel
theorem d_119_97 : decode prog_1_method_32_code 97 = .ok (.iload 8, 2) := by decide +kernel
theorem d_119_99 : decode prog_1_method_32_code 99 = .ok (.iaload, 1) := by decide +kernel
theorem d_119_100 : decode prog_1_method_32_code 100 = .ok (.aload 5, 2) := by decide +kernel
theorem d_119_102 : decode prog_1_method_32_code 102 = .ok (.getfield 268, 3) := by decide +kernel
theorem d_119_105 : decode prog_1_method_32_code 105 = .ok (.iload 8, 2) := by decide +kernel
theorem d_119_107 : decode prog_1_method_32_code 107 = .ok (.iconst 1, 1) := by decide +kernel
theorem d_119_108 : decode prog_1_method_32_code 108 = .ok (.iadd, 1) := by decide +kernel
theorem d_119_109 : decode prog_1_method_32_code 109 = .ok (.iaload, 1) := by decide +kernel
theorem d_119_110 : decode prog_1_method_32_code 110 = .ok (.invokevirtual 291, 3) := by decide +kernel
theorem d_119_113 : decode prog_1_method_32_code 113 = .ok (.ifCond .lt 6, 3) := by decide +kernel
theorem d_119_116 : decode prog_1_method_32_code 116 = .ok (.iinc 6 1, 3) := by decide +kernel
theorem d_119_119 : decode prog_1_method_32_code 119 = .ok (.iinc 7 1, 3) := by decide +kernel
theorem d_119_122 : decode prog_1_method_32_code 122 = .ok (.goto (-60), 3) := by decide +kernel
theorem d_119_125 : decode prog_1_method_32_code 125 = .ok (.iload 6, 2) := by decide +kernel
theorem d_119_127 : decode prog_1_method_32_code 127 = .ok (.ireturn, 1) := by decide +kernel
theorem s_119_125 {Γ : m_G} : m_ok Γ m_tab 119 M_119 125 (g_119_125) := ok_il (pc := 125) d_119_125 (ok_ri (pc := 127) d_119_127 rfl)
theorem s_119_119 {Γ : m_G} : m_ok Γ m_tab 119 M_119 119 (g_119_119) := ok_inc (pc := 119) d_119_119 rfl (by decide) (ok_go (pc := 122) (t := 62) d_119_122 rfl (by decide) rfl)
theorem s_119_91 {Γ : m_G} : m_ok Γ m_tab 119 M_119 91 (g_119_91) := ok_al_n (pc := 91) d_119_91 rfl (ok_al (pc := 92) d_119_92 (ok_getf (pc := 94) d_119_94 w_855 (hc1 fo_33) (ok_il (pc := 97) d_119_97 (ok_iald (pc := 99) d_119_99 (ok_al (pc := 100) d_119_100 (ok_getf (pc := 102) d_119_102 w_855 (hc1 fo_33) (ok_il (pc := 105) d_119_105 (ok_ic (pc := 107) d_119_107 rfl (ok_add (pc := 108) d_119_108 (ok_iald (pc := 109) d_119_109 (ok_cai (pc := 110) (k2 := 100) rfl rfl tb_100 (by decide) (by decide) rfl (go_V d_119_110 w_885 w_644 w_645 w_1 w_646 nn_100 (by decide) cl_11 rfl) (ok_czlt (pc := 113) (t := 119) d_119_113 rfl (by decide) rfl (ok_inc (pc := 116) d_119_116 rfl (by decide) (s_119_119))))))))))))))
theorem s_119_62 {Γ : m_G} : m_ok Γ m_tab 119 M_119 62 (g_119_62) := ok_il (pc := 62) d_119_62 (ok_il (pc := 64) d_119_64 (ok_cige (pc := 66) (t := 125) d_119_66 rfl (by decide) rfl (ok_il_n (pc := 69) d_119_69 rfl (ok_ic (pc := 70) d_119_70 rfl (ok_il (pc := 71) d_119_71 (ok_mul (pc := 73) d_119_73 (ok_add (pc := 74) d_119_74 (ok_is (pc := 75) d_119_75 (by decide) (ok_al (pc := 77) d_119_77 (ok_il (pc := 79) d_119_79 (ok_ic (pc := 81) d_119_81 rfl (ok_cai (pc := 82) (k2 := 63) rfl rfl tb_63 (by decide) (by decide) rfl (go_V d_119_82 w_877 w_878 w_879 w_20 w_880 nn_63 (by decide) cl_6 rfl) (ok_czne (pc := 85) (t := 91) d_119_85 rfl (by decide) rfl (ok_bi (pc := 88) d_119_88 rfl (ok_ri (pc := 90) d_119_90 rfl)))))))))))))))
theorem s_119_56 {Γ : m_G} : m_ok Γ m_tab 119 M_119 56 (g_119_56) := ok_ic (pc := 56) d_119_56 rfl (ok_is (pc := 57) d_119_57 (by decide) (ok_ic (pc := 59) d_119_59 rfl (ok_is (pc := 60) d_119_60 (by decide) (s_119_62))))
theorem s_119_44 {Γ : m_G} : m_ok Γ m_tab 119 M_119 44 (g_119_44) := ok_al (pc := 44) d_119_44 (ok_getf (pc := 46) d_119_46 w_853 (hc1 fo_34) (ok_il_n (pc := 49) d_119_49 rfl (ok_cieq (pc := 50) (t := 56) d_119_50 rfl (by decide) rfl (ok_bi (pc := 53) d_119_53 rfl (ok_ri (pc := 55) d_119_55 rfl)))))
theorem s_119_28 {Γ : m_G} : m_ok Γ m_tab 119 M_119 28 (g_119_28) := ok_al_n (pc := 28) d_119_28 rfl (ok_getf (pc := 29) d_119_29 w_361 (hc1 fo_54) (ok_il_n (pc := 32) d_119_32 rfl (ok_aald (pc := 33) d_119_33 (ok_as (pc := 34) d_119_34 (by decide) (ok_al (pc := 36) d_119_36 (ok_ifnn (pc := 38) (t := 44) d_119_38 rfl (by decide) rfl (ok_bi (pc := 41) d_119_41 rfl (ok_ri (pc := 43) d_119_43 rfl))))))))
theorem s_119_25 {Γ : m_G} : m_ok Γ m_tab 119 M_119 25 (g_119_25) := ok_bi (pc := 25) d_119_25 rfl (ok_ri (pc := 27) d_119_27 rfl)
theorem s_119_0 {Γ : m_G} : m_ok Γ m_tab 119 M_119 0 (g_119_0) := ok_il_n (pc := 0) d_119_0 rfl (ok_cat (pc := 1) (k2 := 123) rfl tb_123 (by decide) (by decide) rfl (go_S d_119_1 w_814 w_815 w_1 w_816 nn_123 (by decide)) (ok_czeq (pc := 4) (t := 25) d_119_4 rfl (by decide) rfl (ok_il_n (pc := 7) d_119_7 rfl (ok_ic (pc := 8) d_119_8 rfl (ok_cat (pc := 9) (k2 := 121) rfl tb_121 (by decide) (by decide) rfl (go_S d_119_9 w_423 w_424 w_1 w_425 nn_121 (by decide)) (ok_czeq (pc := 12) (t := 25) d_119_12 rfl (by decide) rfl (ok_il (pc := 15) d_119_15 (ok_bi (pc := 17) d_119_17 rfl (ok_cat (pc := 19) (k2 := 121) rfl tb_121 (by decide) (by decide) rfl (go_S d_119_19 w_423 w_424 w_1 w_425 nn_121 (by decide)) (ok_czne (pc := 22) (t := 28) d_119_22 rfl (by decide) rfl (s_119_25)))))))))))
theorem tst_119 {Γ : m_G} (q : Nat) : m_ts Γ (t_119 q) q := ts_n (ts_n (ts_n (ts_l (k := 119) (pc := 0) tb_119 rfl (by decide) s_119_0) (ts_l (k := 119) (pc := 25) tb_119 rfl (by decide) s_119_25)) (ts_n (ts_l (k := 119) (pc := 28) tb_119 rfl (by decide) s_119_28) (ts_l (k := 119) (pc := 44) tb_119 rfl (by decide) s_119_44))) (ts_n (ts_n (ts_l (k := 119) (pc := 56) tb_119 rfl (by decide) s_119_56) (ts_l (k := 119) (pc := 62) tb_119 rfl (by decide) s_119_62)) (ts_n (ts_l (k := 119) (pc := 91) tb_119 rfl (by decide) s_119_91) (ts_n (ts_l (k := 119) (pc := 119) tb_119 rfl (by decide) s_119_119) (ts_l (k := 119) (pc := 125) tb_119 rfl (by decide) s_119_125))))
theorem d_120_0 : decode prog_1_method_33_code 0 = .ok (.iload_n 2, 1) := by decide +kernel
theorem d_120_1 : decode prog_1_method_33_code 1 = .ok (.iconst 5, 1) := by decide +kernel
theorem d_120_2 : decode prog_1_method_33_code 2 = .ok (.invokestatic 122, 3) := by decide +kernel
theorem d_120_5 : decode prog_1_method_33_code 5 = .ok (.ifCond .ne 6, 3) := by decide +kernel
theorem d_120_8 : decode prog_1_method_33_code 8 = .ok (.bipush (-2), 2) := by decide +kernel
theorem d_120_10 : decode prog_1_method_33_code 10 = .ok (.ireturn, 1) := by decide +kernel
theorem d_120_11 : decode prog_1_method_33_code 11 = .ok (.aload_n 0, 1) := by decide +kernel
theorem d_120_12 : decode prog_1_method_33_code 12 = .ok (.iload_n 1, 1) := by decide +kernel
theorem d_120_13 : decode prog_1_method_33_code 13 = .ok (.invokevirtual 155, 3) := by decide +kernel
theorem d_120_16 : decode prog_1_method_33_code 16 = .ok (.astore_n 3, 1) := by decide +kernel
theorem d_120_17 : decode prog_1_method_33_code 17 = .ok (.aload_n 3, 1) := by decide +kernel
theorem d_120_18 : decode prog_1_method_33_code 18 = .ok (.ifnonnull 6, 3) := by decide +kernel
theorem d_120_21 : decode prog_1_method_33_code 21 = .ok (.bipush (-11), 2) := by decide +kernel
theorem d_120_23 : decode prog_1_method_33_code 23 = .ok (.ireturn, 1) := by decide +kernel
theorem d_120_24 : decode prog_1_method_33_code 24 = .ok (.aload_n 3, 1) := by decide +kernel
theorem d_120_25 : decode prog_1_method_33_code 25 = .ok (.iload_n 2, 1) := by decide +kernel
theorem d_120_26 : decode prog_1_method_33_code 26 = .ok (.invokestatic 294, 3) := by decide +kernel
theorem d_120_29 : decode prog_1_method_33_code 29 = .ok (.ifCond .eq 10, 3) := by decide +kernel
theorem d_120_32 : decode prog_1_method_33_code 32 = .ok (.aload_n 3, 1) := by decide +kernel
theorem d_120_33 : decode prog_1_method_33_code 33 = .ok (.getfield 298, 3) := by decide +kernel
theorem d_120_36 : decode prog_1_method_33_code 36 = .ok (.goto 5, 3) := by decide +kernel
theorem d_120_39 : decode prog_1_method_33_code 39 = .ok (.bipush (-13), 2) := by decide +kernel
theorem d_120_41 : decode prog_1_method_33_code 41 = .ok (.ireturn, 1) := by decide +kernel
theorem s_120_41 {Γ : m_G} : m_ok Γ m_tab 120 M_120 41 (g_120_41) := ok_ri (pc := 41) d_120_41 rfl
theorem s_120_39 {Γ : m_G} : m_ok Γ m_tab 120 M_120 39 (g_120_39) := ok_bi (pc := 39) d_120_39 rfl (s_120_41)
theorem s_120_24 {Γ : m_G} : m_ok Γ m_tab 120 M_120 24 (g_120_24) := ok_al_n (pc := 24) d_120_24 rfl (ok_il_n (pc := 25) d_120_25 rfl (ok_cat (pc := 26) (k2 := 128) rfl tb_128 (by decide) (by decide) rfl (go_S d_120_26 w_890 w_891 w_1 w_892 nn_128 (by decide)) (ok_czeq (pc := 29) (t := 39) d_120_29 rfl (by decide) rfl (ok_al_n (pc := 32) d_120_32 rfl (ok_getf (pc := 33) d_120_33 w_464 (hcf (List.forall_mem_cons.mpr ⟨fo_67, List.forall_mem_cons.mpr ⟨fo_66, List.forall_mem_cons.mpr ⟨fo_65, List.forall_mem_cons.mpr ⟨fo_64, List.forall_mem_cons.mpr ⟨fo_63, List.forall_mem_cons.mpr ⟨fo_62, fun _ h => absurd h List.not_mem_nil⟩⟩⟩⟩⟩⟩)) (ok_go (pc := 36) (t := 41) d_120_36 rfl (by decide) rfl))))))
theorem s_120_11 {Γ : m_G} : m_ok Γ m_tab 120 M_120 11 (g_120_11) := ok_al_n (pc := 11) d_120_11 rfl (ok_il_n (pc := 12) d_120_12 rfl (ok_cai (pc := 13) (k2 := 126) rfl rfl tb_126 (by decide) (by decide) rfl (go_V d_120_13 w_520 w_522 ws_18 w_1 w_523 nn_126 (by decide) cl_11 rfl) (ok_as_n (pc := 16) d_120_16 rfl (by decide) (ok_al_n (pc := 17) d_120_17 rfl (ok_ifnn (pc := 18) (t := 24) d_120_18 rfl (by decide) rfl (ok_bi (pc := 21) d_120_21 rfl (ok_ri (pc := 23) d_120_23 rfl)))))))
theorem s_120_0 {Γ : m_G} : m_ok Γ m_tab 120 M_120 0 (g_120_0) := ok_il_n (pc := 0) d_120_0 rfl (ok_ic (pc := 1) d_120_1 rfl (ok_cat (pc := 2) (k2 := 121) rfl tb_121 (by decide) (by decide) rfl (go_S d_120_2 w_423 w_424 w_1 w_425 nn_121 (by decide)) (ok_czne (pc := 5) (t := 11) d_120_5 rfl (by decide) rfl (ok_bi (pc := 8) d_120_8 rfl (ok_ri (pc := 10) d_120_10 rfl)))))
theorem tst_120 {Γ : m_G} (q : Nat) : m_ts Γ (t_120 q) q := ts_n (ts_n (ts_l (k := 120) (pc := 0) tb_120 rfl (by decide) s_120_0) (ts_l (k := 120) (pc := 11) tb_120 rfl (by decide) s_120_11)) (ts_n (ts_l (k := 120) (pc := 24) tb_120 rfl (by decide) s_120_24) (ts_n (ts_l (k := 120) (pc := 39) tb_120 rfl (by decide) s_120_39) (ts_l (k := 120) (pc := 41) tb_120 rfl (by decide) s_120_41)))
theorem d_121_0 : decode prog_1_method_34_code 0 = .ok (.iload_n 0, 1) := by decide +kernel
theorem d_121_1 : decode prog_1_method_34_code 1 = .ok (.ifCond .lt 12, 3) := by decide +kernel
theorem d_121_4 : decode prog_1_method_34_code 4 = .ok (.iload_n 0, 1) := by decide +kernel
theorem d_121_5 : decode prog_1_method_34_code 5 = .ok (.iload_n 1, 1) := by decide +kernel
theorem d_121_6 : decode prog_1_method_34_code 6 = .ok (.if_icmp .gt 7, 3) := by decide +kernel
theorem d_121_9 : decode prog_1_method_34_code 9 = .ok (.iconst 1, 1) := by decide +kernel
theorem d_121_10 : decode prog_1_method_34_code 10 = .ok (.goto 4, 3) := by decide +kernel
theorem d_121_13 : decode prog_1_method_34_code 13 = .ok (.iconst 0, 1) := by decide +kernel
theorem d_121_14 : decode prog_1_method_34_code 14 = .ok (.ireturn, 1) := by decide +kernel
theorem s_121_14 {Γ : m_G} : m_ok Γ m_tab 121 M_121 14 (g_121_14) := ok_rz (pc := 14) d_121_14 rfl
theorem s_121_13 {Γ : m_G} : m_ok Γ m_tab 121 M_121 13 (g_121_13) := ok_ic (pc := 13) d_121_13 rfl (s_121_14)
theorem s_121_0 {Γ : m_G} : m_ok Γ m_tab 121 M_121 0 (g_121_0) := ok_il_n (pc := 0) d_121_0 rfl (ok_czlt (pc := 1) (t := 13) d_121_1 rfl (by decide) rfl (ok_il_n (pc := 4) d_121_4 rfl (ok_il_n (pc := 5) d_121_5 rfl (ok_cigt (pc := 6) (t := 13) d_121_6 rfl (by decide) rfl (ok_ic (pc := 9) d_121_9 rfl (ok_go (pc := 10) (t := 14) d_121_10 rfl (by decide) rfl))))))
theorem tst_121 {Γ : m_G} (q : Nat) : m_ts Γ (t_121 q) q := ts_n (ts_l (k := 121) (pc := 0) tb_121 rfl (by decide) s_121_0) (ts_n (ts_l (k := 121) (pc := 13) tb_121 rfl (by decide) s_121_13) (ts_l (k := 121) (pc := 14) tb_121 rfl (by decide) s_121_14))
theorem d_122_0 : decode prog_1_method_35_code 0 = .ok (.iload_n 0, 1) := by decide +kernel
theorem d_122_1 : decode prog_1_method_35_code 1 = .ok (.ifCond .eq 8, 3) := by decide +kernel
theorem d_122_4 : decode prog_1_method_35_code 4 = .ok (.iload_n 0, 1) := by decide +kernel
theorem d_122_5 : decode prog_1_method_35_code 5 = .ok (.iconst 1, 1) := by decide +kernel
theorem d_122_6 : decode prog_1_method_35_code 6 = .ok (.if_icmp .ne 7, 3) := by decide +kernel
theorem d_122_9 : decode prog_1_method_35_code 9 = .ok (.iconst 1, 1) := by decide +kernel
theorem d_122_10 : decode prog_1_method_35_code 10 = .ok (.goto 4, 3) := by decide +kernel
theorem d_122_13 : decode prog_1_method_35_code 13 = .ok (.iconst 0, 1) := by decide +kernel
theorem d_122_14 : decode prog_1_method_35_code 14 = .ok (.ireturn, 1) := by decide +kernel
theorem s_122_14 {Γ : m_G} : m_ok Γ m_tab 122 M_122 14 (g_122_14) := ok_rz (pc := 14) d_122_14 rfl
theorem s_122_13 {Γ : m_G} : m_ok Γ m_tab 122 M_122 13 (g_122_13) := ok_ic (pc := 13) d_122_13 rfl (s_122_14)
theorem s_122_9 {Γ : m_G} : m_ok Γ m_tab 122 M_122 9 (g_122_9) := ok_ic (pc := 9) d_122_9 rfl (ok_go (pc := 10) (t := 14) d_122_10 rfl (by decide) rfl)
theorem s_122_0 {Γ : m_G} : m_ok Γ m_tab 122 M_122 0 (g_122_0) := ok_il_n (pc := 0) d_122_0 rfl (ok_czeq (pc := 1) (t := 9) d_122_1 rfl (by decide) rfl (ok_il_n (pc := 4) d_122_4 rfl (ok_ic (pc := 5) d_122_5 rfl (ok_cine (pc := 6) (t := 13) d_122_6 rfl (by decide) rfl (s_122_9)))))
theorem tst_122 {Γ : m_G} (q : Nat) : m_ts Γ (t_122 q) q := ts_n (ts_n (ts_l (k := 122) (pc := 0) tb_122 rfl (by decide) s_122_0) (ts_l (k := 122) (pc := 9) tb_122 rfl (by decide) s_122_9)) (ts_n (ts_l (k := 122) (pc := 13) tb_122 rfl (by decide) s_122_13) (ts_l (k := 122) (pc := 14) tb_122 rfl (by decide) s_122_14))
theorem d_123_0 : decode prog_1_method_36_code 0 = .ok (.iload_n 0, 1) := by decide +kernel
theorem d_123_1 : decode prog_1_method_36_code 1 = .ok (.iconst 3, 1) := by decide +kernel
theorem d_123_2 : decode prog_1_method_36_code 2 = .ok (.invokestatic 122, 3) := by decide +kernel
theorem d_123_5 : decode prog_1_method_36_code 5 = .ok (.ireturn, 1) := by decide +kernel
theorem s_123_0 {Γ : m_G} : m_ok Γ m_tab 123 M_123 0 (g_123_0) := ok_il_n (pc := 0) d_123_0 rfl (ok_ic (pc := 1) d_123_1 rfl (ok_cat (pc := 2) (k2 := 121) rfl tb_121 (by decide) (by decide) rfl (go_S d_123_2 w_423 w_424 w_1 w_425 nn_121 (by decide)) (ok_rz (pc := 5) d_123_5 rfl)))
theorem tst_123 {Γ : m_G} (q : Nat) : m_ts Γ (t_123 q) q := ts_l (k := 123) (pc := 0) tb_123 rfl (by decide) s_123_0
theorem d_124_0 : decode prog_1_method_37_code 0 = .ok (.iconst 1, 1) := by decide +kernel
theorem d_124_1 : decode prog_1_method_37_code 1 = .ok (.istore_n 2, 1) := by decide +kernel
theorem d_124_2 : decode prog_1_method_37_code 2 = .ok (.iconst 0, 1) := by decide +kernel
theorem d_124_3 : decode prog_1_method_37_code 3 = .ok (.istore_n 3, 1) := by decide +kernel
theorem d_124_4 : decode prog_1_method_37_code 4 = .ok (.iload_n 3, 1) := by decide +kernel
theorem d_124_5 : decode prog_1_method_37_code 5 = .ok (.iload_n 0, 1) := by decide +kernel
theorem d_124_6 : decode prog_1_method_37_code 6 = .ok (.if_icmp .ge 13, 3) := by decide +kernel
theorem d_124_9 : decode prog_1_method_37_code 9 = .ok (.iload_n 2, 1) := by decide +kernel
theorem d_124_10 : decode prog_1_method_37_code 10 = .ok (.iload_n 1, 1) := by decide +kernel
theorem d_124_11 : decode prog_1_method_37_code 11 = .ok (.imul, 1) := by decide +kernel
theorem d_124_12 : decode prog_1_method_37_code 12 = .ok (.istore_n 2, 1) := by decide +kernel
theorem d_124_13 : decode prog_1_method_37_code 13 = .ok (.iinc 3 1, 3) := by decide +kernel
theorem d_124_16 : decode prog_1_method_37_code 16 = .ok (.goto (-12), 3) := by decide +kernel
theorem d_124_19 : decode prog_1_method_37_code 19 = .ok (.iload_n 2, 1) := by decide +kernel
theorem d_124_20 : decode prog_1_method_37_code 20 = .ok (.ireturn, 1) := by decide +kernel
theorem s_124_19 {Γ : m_G} : m_ok Γ m_tab 124 M_124 19 (g_124_19) := ok_il_n (pc := 19) d_124_19 rfl (ok_ri (pc := 20) d_124_20 rfl)
theorem s_124_4 {Γ : m_G} : m_ok Γ m_tab 124 M_124 4 (g_124_4) := ok_il_n (pc := 4) d_124_4 rfl (ok_il_n (pc := 5) d_124_5 rfl (ok_cige (pc := 6) (t := 19) d_124_6 rfl (by decide) rfl (ok_il_n (pc := 9) d_124_9 rfl (ok_il_n (pc := 10) d_124_10 rfl (ok_mul (pc := 11) d_124_11 (ok_is_n (pc := 12) d_124_12 rfl (by decide) (ok_inc (pc := 13) d_124_13 rfl (by decide) (ok_go (pc := 16) (t := 4) d_124_16 rfl (by decide) rfl))))))))
theorem s_124_0 {Γ : m_G} : m_ok Γ m_tab 124 M_124 0 (g_124_0) := ok_ic (pc := 0) d_124_0 rfl (ok_is_n (pc := 1) d_124_1 rfl (by decide) (ok_ic (pc := 2) d_124_2 rfl (ok_is_n (pc := 3) d_124_3 rfl (by decide) (s_124_4))))
theorem tst_124 {Γ : m_G} (q : Nat) : m_ts Γ (t_124 q) q := ts_n (ts_l (k := 124) (pc := 0) tb_124 rfl (by decide) s_124_0) (ts_n (ts_l (k := 124) (pc := 4) tb_124 rfl (by decide) s_124_4) (ts_l (k := 124) (pc := 19) tb_124 rfl (by decide) s_124_19))
theorem d_125_0 : decode prog_1_method_38_code 0 = .ok (.aload_n 0, 1) := by decide +kernel
theorem d_125_1 : decode prog_1_method_38_code 1 = .ok (.getfield 10, 3) := by decide +kernel
theorem d_125_4 : decode prog_1_method_38_code 4 = .ok (.iload_n 2, 1) := by decide +kernel
theorem d_125_5 : decode prog_1_method_38_code 5 = .ok (.invokevirtual 145, 3) := by decide +kernel
theorem d_125_8 : decode prog_1_method_38_code 8 = .ok (.ifCond .ne 5, 3) := by decide +kernel
theorem d_125_11 : decode prog_1_method_38_code 11 = .ok (.iconst 0, 1) := by decide +kernel
theorem d_125_12 : decode prog_1_method_38_code 12 = .ok (.ireturn, 1) := by decide +kernel
theorem d_125_13 : decode prog_1_method_38_code 13 = .ok (.iload_n 1, 1) := by decide +kernel
theorem d_125_14 : decode prog_1_method_38_code 14 = .ok (.tableswitch 62 0 2 #[26, 35, 57], 26) := by decide +kernel
theorem d_125_40 : decode prog_1_method_38_code 40 = .ok (.aload_n 0, 1) := by decide +kernel
theorem d_125_41 : decode prog_1_method_38_code 41 = .ok (.getfield 10, 3) := by decide +kernel
theorem d_125_44 : decode prog_1_method_38_code 44 = .ok (.iload_n 3, 1) := by decide +kernel
theorem d_125_45 : decode prog_1_method_38_code 45 = .ok (.invokevirtual 159, 3) := by decide +kernel
theorem d_125_48 : decode prog_1_method_38_code 48 = .ok (.ireturn, 1) := by decide +kernel
theorem d_125_49 : decode prog_1_method_38_code 49 = .ok (.iload_n 3, 1) := by decide +kernel
theorem d_125_50 : decode prog_1_method_38_code 50 = .ok (.iconst (-1), 1) := by decide +kernel
theorem d_125_51 : decode prog_1_method_38_code 51 = .ok (.if_icmp .eq 14, 3) := by decide +kernel
theorem d_125_54 : decode prog_1_method_38_code 54 = .ok (.aload_n 0, 1) := by decide +kernel
theorem d_125_55 : decode prog_1_method_38_code 55 = .ok (.getfield 10, 3) := by decide +kernel
theorem d_125_58 : decode prog_1_method_38_code 58 = .ok (.iload_n 3, 1) := by decide +kernel
theorem d_125_59 : decode prog_1_method_38_code 59 = .ok (.invokevirtual 159, 3) := by decide +kernel
theorem d_125_62 : decode prog_1_method_38_code 62 = .ok (.ifCond .eq 7, 3) := by decide +kernel
theorem d_125_65 : decode prog_1_method_38_code 65 = .ok (.iconst 1, 1) := by decide +kernel
theorem d_125_66 : decode prog_1_method_38_code 66 = .ok (.goto 4, 3) := by decide +kernel
theorem d_125_69 : decode prog_1_method_38_code 69 = .ok (.iconst 0, 1) := by decide +kernel
theorem d_125_70 : decode prog_1_method_38_code 70 = .ok (.ireturn, 1) := by decide +kernel
theorem d_125_71 : decode prog_1_method_38_code 71 = .ok (.iload_n 3, 1) := by decide +kernel
theorem d_125_72 : decode prog_1_method_38_code 72 = .ok (.invokestatic 112, 3) := by decide +kernel
theorem d_125_75 : decode prog_1_method_38_code 75 = .ok (.ireturn, 1) := by decide +kernel
theorem d_125_76 : decode prog_1_method_38_code 76 = .ok (.iconst 0, 1) := by decide +kernel
theorem d_125_77 : decode prog_1_method_38_code 77 = .ok (.ireturn, 1) := by decide +kernel
theorem s_125_76 {Γ : m_G} : m_ok Γ m_tab 125 M_125 76 (g_125_76) := ok_ic (pc := 76) d_125_76 rfl (ok_rz (pc := 77) d_125_77 rfl)
theorem s_125_71 {Γ : m_G} : m_ok Γ m_tab 125 M_125 71 (g_125_71) := ok_il_n (pc := 71) d_125_71 rfl (ok_cat (pc := 72) (k2 := 122) rfl tb_122 (by decide) (by decide) rfl (go_S d_125_72 w_415 w_416 w_1 w_417 nn_122 (by decide)) (ok_rz (pc := 75) d_125_75 rfl))
theorem s_125_70 {Γ : m_G} : m_ok Γ m_tab 125 M_125 70 (g_125_70) := ok_rz (pc := 70) d_125_70 rfl
theorem s_125_69 {Γ : m_G} : m_ok Γ m_tab 125 M_125 69 (g_125_69) := ok_ic (pc := 69) d_125_69 rfl (s_125_70)
theorem s_125_65 {Γ : m_G} : m_ok Γ m_tab 125 M_125 65 (g_125_65) := ok_ic (pc := 65) d_125_65 rfl (ok_go (pc := 66) (t := 70) d_125_66 rfl (by decide) rfl)
theorem s_125_49 {Γ : m_G} : m_ok Γ m_tab 125 M_125 49 (g_125_49) := ok_il_n (pc := 49) d_125_49 rfl (ok_ic (pc := 50) d_125_50 rfl (ok_cieq (pc := 51) (t := 65) d_125_51 rfl (by decide) rfl (ok_al_n (pc := 54) d_125_54 rfl (ok_getf (pc := 55) d_125_55 w_352 (hc1 fo_52) (ok_il_n (pc := 58) d_125_58 rfl (ok_cai (pc := 59) (k2 := 82) rfl rfl tb_82 (by decide) (by decide) rfl (go_V d_125_59 w_431 w_432 w_433 w_2 w_434 nn_82 (by decide) cl_10 rfl) (ok_czeq (pc := 62) (t := 69) d_125_62 rfl (by decide) rfl (s_125_65))))))))
theorem s_125_40 {Γ : m_G} : m_ok Γ m_tab 125 M_125 40 (g_125_40) := ok_al_n (pc := 40) d_125_40 rfl (ok_getf (pc := 41) d_125_41 w_352 (hc1 fo_52) (ok_il_n (pc := 44) d_125_44 rfl (ok_cai (pc := 45) (k2 := 82) rfl rfl tb_82 (by decide) (by decide) rfl (go_V d_125_45 w_431 w_432 w_433 w_2 w_434 nn_82 (by decide) cl_10 rfl) (ok_rz (pc := 48) d_125_48 rfl))))
theorem s_125_13 {Γ : m_G} : m_ok Γ m_tab 125 M_125 13 (g_125_13) := ok_il_n (pc := 13) d_125_13 rfl (ok_tsw (pc := 14) d_125_14 rfl rfl (by decide +kernel) (by decide +kernel) (by decide) (by decide) (by decide +kernel) (by decide))
theorem s_125_0 {Γ : m_G} : m_ok Γ m_tab 125 M_125 0 (g_125_0) := ok_al_n (pc := 0) d_125_0 rfl (ok_getf (pc := 1) d_125_1 w_352 (hc1 fo_52) (ok_il_n (pc := 4) d_125_4 rfl (ok_cai (pc := 5) (k2 := 80) rfl rfl tb_80 (by decide) (by decide) rfl (go_V d_125_5 w_430 w_412 w_413 w_2 w_414 nn_80 (by decide) cl_10 rfl) (ok_czne (pc := 8) (t := 13) d_125_8 rfl (by decide) rfl (ok_ic (pc := 11) d_125_11 rfl (ok_rz (pc := 12) d_125_12 rfl))))))
theorem tst_125 {Γ : m_G} (q : Nat) : m_ts Γ (t_125 q) q := ts_n (ts_n (ts_n (ts_l (k := 125) (pc := 0) tb_125 rfl (by decide) s_125_0) (ts_l (k := 125) (pc := 13) tb_125 rfl (by decide) s_125_13)) (ts_n (ts_l (k := 125) (pc := 40) tb_125 rfl (by decide) s_125_40) (ts_l (k := 125) (pc := 49) tb_125 rfl (by decide) s_125_49))) (ts_n (ts_n (ts_l (k := 125) (pc := 65) tb_125 rfl (by decide) s_125_65) (ts_l (k := 125) (pc := 69) tb_125 rfl (by decide) s_125_69)) (ts_n (ts_l (k := 125) (pc := 70) tb_125 rfl (by decide) s_125_70) (ts_n (ts_l (k := 125) (pc := 71) tb_125 rfl (by decide) s_125_71) (ts_l (k := 125) (pc := 76) tb_125 rfl (by decide) s_125_76))))
theorem d_126_0 : decode prog_1_method_39_code 0 = .ok (.iload_n 1, 1) := by decide +kernel
theorem d_126_1 : decode prog_1_method_39_code 1 = .ok (.aload_n 0, 1) := by decide +kernel
theorem d_126_2 : decode prog_1_method_39_code 2 = .ok (.getfield 148, 3) := by decide +kernel
theorem d_126_5 : decode prog_1_method_39_code 5 = .ok (.iconst 1, 1) := by decide +kernel
theorem d_126_6 : decode prog_1_method_39_code 6 = .ok (.isub, 1) := by decide +kernel
theorem d_126_7 : decode prog_1_method_39_code 7 = .ok (.invokestatic 122, 3) := by decide +kernel
theorem d_126_10 : decode prog_1_method_39_code 10 = .ok (.ifCond .eq 12, 3) := by decide +kernel
theorem d_126_13 : decode prog_1_method_39_code 13 = .ok (.aload_n 0, 1) := by decide +kernel
theorem d_126_14 : decode prog_1_method_39_code 14 = .ok (.getfield 30, 3) := by decide +kernel
theorem d_126_17 : decode prog_1_method_39_code 17 = .ok (.iload_n 1, 1) := by decide +kernel
theorem d_126_18 : decode prog_1_method_39_code 18 = .ok (.aaload, 1) := by decide +kernel
theorem d_126_19 : decode prog_1_method_39_code 19 = .ok (.goto 4, 3) := by decide +kernel
theorem d_126_22 : decode prog_1_method_39_code 22 = .ok (.aconst_null, 1) := by decide +kernel
theorem d_126_23 : decode prog_1_method_39_code 23 = .ok (.areturn, 1) := by decide +kernel
theorem s_126_23 {Γ : m_G} : m_ok Γ m_tab 126 M_126 23 (g_126_23) := ok_ra (pc := 23) d_126_23 rfl
theorem s_126_22 {Γ : m_G} : m_ok Γ m_tab 126 M_126 22 (g_126_22) := ok_nul (pc := 22) d_126_22 (s_126_23)
theorem s_126_0 {Γ : m_G} : m_ok Γ m_tab 126 M_126 0 (g_126_0) := ok_il_n (pc := 0) d_126_0 rfl (ok_al_n (pc := 1) d_126_1 rfl (ok_getf (pc := 2) d_126_2 w_357 (hc1 fo_55) (ok_ic (pc := 5) d_126_5 rfl (ok_sub (pc := 6) d_126_6 (ok_cat (pc := 7) (k2 := 121) rfl tb_121 (by decide) (by decide) rfl (go_S d_126_7 w_423 w_424 w_1 w_425 nn_121 (by decide)) (ok_czeq (pc := 10) (t := 22) d_126_10 rfl (by decide) rfl (ok_al_n (pc := 13) d_126_13 rfl (ok_getf (pc := 14) d_126_14 w_356 (hc1 fo_56) (ok_il_n (pc := 17) d_126_17 rfl (ok_aald (pc := 18) d_126_18 (ok_go (pc := 19) (t := 23) d_126_19 rfl (by decide) rfl)))))))))))
theorem tst_126 {Γ : m_G} (q : Nat) : m_ts Γ (t_126 q) q := ts_n (ts_l (k := 126) (pc := 0) tb_126 rfl (by decide) s_126_0) (ts_n (ts_l (k := 126) (pc := 22) tb_126 rfl (by decide) s_126_22) (ts_l (k := 126) (pc := 23) tb_126 rfl (by decide) s_126_23))
theorem d_127_0 : decode prog_1_method_40_code 0 = .ok (.iload_n 0, 1) := by decide +kernel
theorem d_127_1 : decode prog_1_method_40_code 1 = .ok (.tableswitch 80 1 5 #[35, 44, 53, 62, 71], 35) := by decide +kernel
theorem d_127_36 : decode prog_1_method_40_code 36 = .ok (.new 301, 3) := by decide +kernel
theorem d_127_39 : decode prog_1_method_40_code 39 = .ok (.dup, 1) := by decide +kernel
theorem d_127_40 : decode prog_1_method_40_code 40 = .ok (.iload_n 1, 1) := by decide +kernel
theorem d_127_41 : decode prog_1_method_40_code 41 = .ok (.invokespecial 303, 3) := by decide +kernel
theorem d_127_44 : decode prog_1_method_40_code 44 = .ok (.areturn, 1) := by decide +kernel
theorem d_127_45 : decode prog_1_method_40_code 45 = .ok (.new 305, 3) := by decide +kernel
theorem d_127_48 : decode prog_1_method_40_code 48 = .ok (.dup, 1) := by decide +kernel
theorem d_127_49 : decode prog_1_method_40_code 49 = .ok (.iload_n 1, 1) := by decide +kernel
theorem d_127_50 : decode prog_1_method_40_code 50 = .ok (.invokespecial 307, 3) := by decide +kernel
theorem d_127_53 : decode prog_1_method_40_code 53 = .ok (.areturn, 1) := by decide +kernel
theorem d_127_54 : decode prog_1_method_40_code 54 = .ok (.new 308, 3) := by decide +kernel
theorem d_127_57 : decode prog_1_method_40_code 57 = .ok (.dup, 1) := by decide +kernel
theorem d_127_58 : decode prog_1_method_40_code 58 = .ok (.iload_n 1, 1) := by decide +kernel
theorem d_127_59 : decode prog_1_method_40_code 59 = .ok (.invokespecial 310, 3) := by decide +kernel
theorem d_127_62 : decode prog_1_method_40_code 62 = .ok (.areturn, 1) := by decide +kernel
theorem d_127_63 : decode prog_1_method_40_code 63 = .ok (.new 311, 3) := by decide +kernel
theorem d_127_66 : decode prog_1_method_40_code 66 = .ok (.dup, 1) := by decide +kernel
theorem d_127_67 : decode prog_1_method_40_code 67 = .ok (.iload_n 1, 1) := by decide +kernel
theorem d_127_68 : decode prog_1_method_40_code 68 = .ok (.invokespecial 313, 3) := by decide +kernel
theorem d_127_71 : decode prog_1_method_40_code 71 = .ok (.areturn, 1) := by decide +kernel
theorem d_127_72 : decode prog_1_method_40_code 72 = .ok (.new 314, 3) := by decide +kernel
theorem d_127_75 : decode prog_1_method_40_code 75 = .ok (.dup, 1) := by decide +kernel
theorem d_127_76 : decode prog_1_method_40_code 76 = .ok (.iload_n 1, 1) := by decide +kernel
theorem d_127_77 : decode prog_1_method_40_code 77 = .ok (.invokespecial 316, 3) := by decide +kernel
theorem d_127_80 : decode prog_1_method_40_code 80 = .ok (.areturn, 1) := by decide +kernel
theorem d_127_81 : decode prog_1_method_40_code 81 = .ok (.new 28, 3) := by decide +kernel
theorem d_127_84 : decode prog_1_method_40_code 84 = .ok (.dup, 1) := by decide +kernel
theorem d_127_85 : decode prog_1_method_40_code 85 = .ok (.iload_n 1, 1) := by decide +kernel
theorem d_127_86 : decode prog_1_method_40_code 86 = .ok (.invokespecial 317, 3) := by decide +kernel
theorem d_127_89 : decode prog_1_method_40_code 89 = .ok (.areturn, 1) := by decide +kernel
theorem s_127_81 {Γ : m_G} : m_ok Γ m_tab 127 M_127 81 (g_127_81) := ok_new (pc := 81) d_127_81 w_135 w_511 w_12 cl_3 in_3 tyX3_ok df_3 dd_3 (ok_dup (pc := 84) d_127_84 (ok_il_n (pc := 85) d_127_85 rfl (ok_cvr (pc := 86) (k2 := 9) rfl rfl tb_9 (by decide) (by decide) rfl (go_I d_127_86 w_512 w_456 w_12 w_457 rfl rfl nn_9 (by decide)) (ok_ra (pc := 89) d_127_89 rfl))))
theorem s_127_72 {Γ : m_G} : m_ok Γ m_tab 127 M_127 72 (g_127_72) := ok_new (pc := 72) d_127_72 w_502 w_503 w_17 cl_0 in_0 tyX0_ok df_0 dd_0 (ok_dup (pc := 75) d_127_75 (ok_il_n (pc := 76) d_127_76 rfl (ok_cvr (pc := 77) (k2 := 1) rfl rfl tb_1 (by decide) (by decide) rfl (go_I d_127_77 w_504 w_505 w_17 w_506 rfl rfl nn_1 (by decide)) (ok_ra (pc := 80) d_127_80 rfl))))
theorem s_127_63 {Γ : m_G} : m_ok Γ m_tab 127 M_127 63 (g_127_63) := ok_new (pc := 63) d_127_63 w_493 w_494 w_16 cl_2 in_2 tyX2_ok df_2 dd_2 (ok_dup (pc := 66) d_127_66 (ok_il_n (pc := 67) d_127_67 rfl (ok_cvr (pc := 68) (k2 := 7) rfl rfl tb_7 (by decide) (by decide) rfl (go_I d_127_68 w_495 w_496 w_16 w_497 rfl rfl nn_7 (by decide)) (ok_ra (pc := 71) d_127_71 rfl))))
theorem s_127_54 {Γ : m_G} : m_ok Γ m_tab 127 M_127 54 (g_127_54) := ok_new (pc := 54) d_127_54 w_484 w_485 w_15 cl_1 in_1 tyX1_ok df_1 dd_1 (ok_dup (pc := 57) d_127_57 (ok_il_n (pc := 58) d_127_58 rfl (ok_cvr (pc := 59) (k2 := 4) rfl rfl tb_4 (by decide) (by decide) rfl (go_I d_127_59 w_486 w_487 w_15 w_488 rfl rfl nn_4 (by decide)) (ok_ra (pc := 62) d_127_62 rfl))))
theorem s_127_45 {Γ : m_G} : m_ok Γ m_tab 127 M_127 45 (g_127_45) := ok_new (pc := 45) d_127_45 w_475 w_476 w_14 cl_7 in_7 tyX7_ok df_7 dd_7 (ok_dup (pc := 48) d_127_48 (ok_il_n (pc := 49) d_127_49 rfl (ok_cvr (pc := 50) (k2 := 65) rfl rfl tb_65 (by decide) (by decide) rfl (go_I d_127_50 w_477 w_478 w_14 w_479 rfl rfl nn_65 (by decide)) (ok_ra (pc := 53) d_127_53 rfl))))
theorem s_127_36 {Γ : m_G} : m_ok Γ m_tab 127 M_127 36 (g_127_36) := ok_new (pc := 36) d_127_36 w_450 w_451 w_13 cl_8 in_8 tyX8_ok df_8 dd_8 (ok_dup (pc := 39) d_127_39 (ok_il_n (pc := 40) d_127_40 rfl (ok_cvr (pc := 41) (k2 := 68) rfl rfl tb_68 (by decide) (by decide) rfl (go_I d_127_41 w_452 w_453 w_13 w_454 rfl rfl nn_68 (by decide)) (ok_ra (pc := 44) d_127_44 rfl))))
theorem s_127_0 {Γ : m_G} : m_ok Γ m_tab 127 M_127 0 (g_127_0) := ok_il_n (pc := 0) d_127_0 rfl (ok_tsw (pc := 1) d_127_1 rfl rfl (by decide +kernel) (by decide +kernel) (by decide) (by decide) (by decide +kernel) (by decide))
theorem tst_127 {Γ : m_G} (q : Nat) : m_ts Γ (t_127 q) q := ts_n (ts_n (ts_l (k := 127) (pc := 0) tb_127 rfl (by decide) s_127_0) (ts_n (ts_l (k := 127) (pc := 36) tb_127 rfl (by decide) s_127_36) (ts_l (k := 127) (pc := 45) tb_127 rfl (by decide) s_127_45))) (ts_n (ts_n (ts_l (k := 127) (pc := 54) tb_127 rfl (by decide) s_127_54) (ts_l (k := 127) (pc := 63) tb_127 rfl (by decide) s_127_63)) (ts_n (ts_l (k := 127) (pc := 72) tb_127 rfl (by decide) s_127_72) (ts_l (k := 127) (pc := 81) tb_127 rfl (by decide) s_127_81)))
theorem d_128_0 : decode prog_1_method_41_code 0 = .ok (.iload_n 1, 1) := by decide +kernel
theorem d_128_1 : decode prog_1_method_41_code 1 = .ok (.tableswitch 60 1 5 #[35, 40, 45, 50, 55], 35) := by decide +kernel
theorem d_128_36 : decode prog_1_method_41_code 36 = .ok (.aload_n 0, 1) := by decide +kernel
theorem d_128_37 : decode prog_1_method_41_code 37 = .ok (.instanceof 301, 3) := by decide +kernel
theorem d_128_40 : decode prog_1_method_41_code 40 = .ok (.ireturn, 1) := by decide +kernel
theorem d_128_41 : decode prog_1_method_41_code 41 = .ok (.aload_n 0, 1) := by decide +kernel
theorem d_128_42 : decode prog_1_method_41_code 42 = .ok (.instanceof 305, 3) := by decide +kernel
theorem d_128_45 : decode prog_1_method_41_code 45 = .ok (.ireturn, 1) := by decide +kernel
theorem d_128_46 : decode prog_1_method_41_code 46 = .ok (.aload_n 0, 1) := by decide +kernel
theorem d_128_47 : decode prog_1_method_41_code 47 = .ok (.instanceof 308, 3) := by decide +kernel
theorem d_128_50 : decode prog_1_method_41_code 50 = .ok (.ireturn, 1) := by decide +kernel
theorem d_128_51 : decode prog_1_method_41_code 51 = .ok (.aload_n 0, 1) := by decide +kernel
theorem d_128_52 : decode prog_1_method_41_code 52 = .ok (.instanceof 311, 3) := by decide +kernel
theorem d_128_55 : decode prog_1_method_41_code 55 = .ok (.ireturn, 1) := by decide +kernel
theorem d_128_56 : decode prog_1_method_41_code 56 = .ok (.aload_n 0, 1) := by decide +kernel
theorem d_128_57 : decode prog_1_method_41_code 57 = .ok (.instanceof 314, 3) := by decide +kernel
theorem d_128_60 : decode prog_1_method_41_code 60 = .ok (.ireturn, 1) := by decide +kernel
theorem d_128_61 : decode prog_1_method_41_code 61 = .ok (.iconst 1, 1) := by decide +kernel
theorem d_128_62 : decode prog_1_method_41_code 62 = .ok (.ireturn, 1) := by decide +kernel
theorem s_128_61 {Γ : m_G} : m_ok Γ m_tab 128 M_128 61 (g_128_61) := ok_ic (pc := 61) d_128_61 rfl (ok_rz (pc := 62) d_128_62 rfl)
theorem s_128_56 {Γ : m_G} : m_ok Γ m_tab 128 M_128 56 (g_128_56) := ok_al_n (pc := 56) d_128_56 rfl (ok_ins (pc := 57) d_128_57 w_502 iy_0 in_no_0 (ok_rz (pc := 60) d_128_60 rfl))
theorem s_128_51 {Γ : m_G} : m_ok Γ m_tab 128 M_128 51 (g_128_51) := ok_al_n (pc := 51) d_128_51 rfl (ok_ins (pc := 52) d_128_52 w_493 iy_2 in_no_2 (ok_rz (pc := 55) d_128_55 rfl))
theorem s_128_46 {Γ : m_G} : m_ok Γ m_tab 128 M_128 46 (g_128_46) := ok_al_n (pc := 46) d_128_46 rfl (ok_ins (pc := 47) d_128_47 w_484 iy_1 in_no_1 (ok_rz (pc := 50) d_128_50 rfl))
theorem s_128_41 {Γ : m_G} : m_ok Γ m_tab 128 M_128 41 (g_128_41) := ok_al_n (pc := 41) d_128_41 rfl (ok_ins (pc := 42) d_128_42 w_475 iy_7 in_no_7 (ok_rz (pc := 45) d_128_45 rfl))
theorem s_128_36 {Γ : m_G} : m_ok Γ m_tab 128 M_128 36 (g_128_36) := ok_al_n (pc := 36) d_128_36 rfl (ok_ins (pc := 37) d_128_37 w_450 iy_8 in_no_8 (ok_rz (pc := 40) d_128_40 rfl))
theorem s_128_0 {Γ : m_G} : m_ok Γ m_tab 128 M_128 0 (g_128_0) := ok_il_n (pc := 0) d_128_0 rfl (ok_tsw (pc := 1) d_128_1 rfl rfl (by decide +kernel) (by decide +kernel) (by decide) (by decide) (by decide +kernel) (by decide))
theorem tst_128 {Γ : m_G} (q : Nat) : m_ts Γ (t_128 q) q := ts_n (ts_n (ts_l (k := 128) (pc := 0) tb_128 rfl (by decide) s_128_0) (ts_n (ts_l (k := 128) (pc := 36) tb_128 rfl (by decide) s_128_36) (ts_l (k := 128) (pc := 41) tb_128 rfl (by decide) s_128_41))) (ts_n (ts_n (ts_l (k := 128) (pc := 46) tb_128 rfl (by decide) s_128_46) (ts_l (k := 128) (pc := 51) tb_128 rfl (by decide) s_128_51)) (ts_n (ts_l (k := 128) (pc := 56) tb_128 rfl (by decide) s_128_56) (ts_l (k := 128) (pc := 61) tb_128 rfl (by decide) s_128_61)))
theorem d_129_0 : decode prog_1_method_42_code 0 = .ok (.aload_n 0, 1) := by decide +kernel
theorem d_129_1 : decode prog_1_method_42_code 1 = .ok (.getfield 10, 3) := by decide +kernel
theorem d_129_4 : decode prog_1_method_42_code 4 = .ok (.iload_n 2, 1) := by decide +kernel
theorem d_129_5 : decode prog_1_method_42_code 5 = .ok (.invokevirtual 145, 3) := by decide +kernel
theorem d_129_8 : decode prog_1_method_42_code 8 = .ok (.ifCond .eq 21, 3) := by decide +kernel
theorem d_129_11 : decode prog_1_method_42_code 11 = .ok (.aload_n 0, 1) := by decide +kernel
theorem d_129_12 : decode prog_1_method_42_code 12 = .ok (.getfield 10, 3) := by decide +kernel
theorem d_129_15 : decode prog_1_method_42_code 15 = .ok (.iload_n 3, 1) := by decide +kernel
theorem d_129_16 : decode prog_1_method_42_code 16 = .ok (.invokevirtual 159, 3) := by decide +kernel
theorem d_129_19 : decode prog_1_method_42_code 19 = .ok (.ifCond .eq 10, 3) := by decide +kernel
theorem d_129_22 : decode prog_1_method_42_code 22 = .ok (.aload_n 1, 1) := by decide +kernel
theorem d_129_23 : decode prog_1_method_42_code 23 = .ok (.iload_n 2, 1) := by decide +kernel
theorem d_129_24 : decode prog_1_method_42_code 24 = .ok (.iaload, 1) := by decide +kernel
theorem d_129_25 : decode prog_1_method_42_code 25 = .ok (.iload_n 3, 1) := by decide +kernel
theorem d_129_26 : decode prog_1_method_42_code 26 = .ok (.if_icmp .ne 6, 3) := by decide +kernel
theorem d_129_29 : decode prog_1_method_42_code 29 = .ok (.bipush (-2), 2) := by decide +kernel
theorem d_129_31 : decode prog_1_method_42_code 31 = .ok (.ireturn, 1) := by decide +kernel
theorem d_129_32 : decode prog_1_method_42_code 32 = .ok (.aload_n 0, 1) := by decide +kernel
theorem d_129_33 : decode prog_1_method_42_code 33 = .ok (.getfield 10, 3) := by decide +kernel
theorem d_129_36 : decode prog_1_method_42_code 36 = .ok (.aload_n 0, 1) := by decide +kernel
theorem d_129_37 : decode prog_1_method_42_code 37 = .ok (.getfield 10, 3) := by decide +kernel
theorem d_129_40 : decode prog_1_method_42_code 40 = .ok (.getfield 115, 3) := by decide +kernel
theorem d_129_43 : decode prog_1_method_42_code 43 = .ok (.iload_n 2, 1) := by decide +kernel
theorem d_129_44 : decode prog_1_method_42_code 44 = .ok (.iaload, 1) := by decide +kernel
theorem d_129_45 : decode prog_1_method_42_code 45 = .ok (.aload_n 1, 1) := by decide +kernel
theorem d_129_46 : decode prog_1_method_42_code 46 = .ok (.invokevirtual 247, 3) := by decide +kernel
theorem d_129_49 : decode prog_1_method_42_code 49 = .ok (.iload_n 3, 1) := by decide +kernel
theorem d_129_50 : decode prog_1_method_42_code 50 = .ok (.ishr, 1) := by decide +kernel
theorem d_129_51 : decode prog_1_method_42_code 51 = .ok (.iconst 1, 1) := by decide +kernel
theorem d_129_52 : decode prog_1_method_42_code 52 = .ok (.iand, 1) := by decide +kernel
theorem d_129_53 : decode prog_1_method_42_code 53 = .ok (.iconst 1, 1) := by decide +kernel
theorem d_129_54 : decode prog_1_method_42_code 54 = .ok (.if_icmp .ne 6, 3) := by decide +kernel
theorem d_129_57 : decode prog_1_method_42_code 57 = .ok (.bipush (-5), 2) := by decide +kernel
theorem d_129_59 : decode prog_1_method_42_code 59 = .ok (.ireturn, 1) := by decide +kernel
theorem d_129_60 : decode prog_1_method_42_code 60 = .ok (.aload_n 0, 1) := by decide +kernel
theorem d_129_61 : decode prog_1_method_42_code 61 = .ok (.iload_n 2, 1) := by decide +kernel
theorem d_129_62 : decode prog_1_method_42_code 62 = .ok (.aload_n 1, 1) := by decide +kernel
theorem d_129_63 : decode prog_1_method_42_code 63 = .ok (.iload_n 2, 1) := by decide +kernel
theorem d_129_64 : decode prog_1_method_42_code 64 = .ok (.iaload, 1) := by decide +kernel
theorem d_129_65 : decode prog_1_method_42_code 65 = .ok (.iload_n 3, 1) := by decide +kernel
theorem d_129_66 : decode prog_1_method_42_code 66 = .ok (.invokevirtual 318, 3) := by decide +kernel
theorem d_129_69 : decode prog_1_method_42_code 69 = .ok (.ireturn, 1) := by decide +kernel
theorem s_129_60 {Γ : m_G} : m_ok Γ m_tab 129 M_129 60 (g_129_60) := ok_al_n (pc := 60) d_129_60 rfl (ok_il_n (pc := 61) d_129_61 rfl (ok_al_n (pc := 62) d_129_62 rfl (ok_il_n (pc := 63) d_129_63 rfl (ok_iald (pc := 64) d_129_64 (ok_il_n (pc := 65) d_129_65 rfl (ok_cai (pc := 66) (k2 := 131) rfl rfl tb_131 (by decide) (by decide) rfl (go_V d_129_66 w_600 w_602 ws_20 w_1 w_603 nn_131 (by decide) cl_11 rfl) (ok_ri (pc := 69) d_129_69 rfl)))))))
theorem s_129_32 {Γ : m_G} : m_ok Γ m_tab 129 M_129 32 (g_129_32) := ok_al_n (pc := 32) d_129_32 rfl (ok_getf (pc := 33) d_129_33 w_352 (hc1 fo_52) (ok_al_n (pc := 36) d_129_36 rfl (ok_getf (pc := 37) d_129_37 w_352 (hc1 fo_52) (ok_getf (pc := 40) d_129_40 w_55 (hc1 fo_27) (ok_il_n (pc := 43) d_129_43 rfl (ok_iald (pc := 44) d_129_44 (ok_al_n (pc := 45) d_129_45 rfl (ok_cai (pc := 46) (k2 := 85) rfl rfl tb_85 (by decide) (by decide) rfl (go_V d_129_46 w_599 w_588 w_589 w_2 w_590 nn_85 (by decide) cl_10 rfl) (ok_il_n (pc := 49) d_129_49 rfl (ok_shr (pc := 50) d_129_50 (ok_ic (pc := 51) d_129_51 rfl (ok_and (pc := 52) d_129_52 (ok_ic (pc := 53) d_129_53 rfl (ok_cine (pc := 54) (t := 60) d_129_54 rfl (by decide) rfl (ok_bi (pc := 57) d_129_57 rfl (ok_ri (pc := 59) d_129_59 rfl))))))))))))))))
theorem s_129_29 {Γ : m_G} : m_ok Γ m_tab 129 M_129 29 (g_129_29) := ok_bi (pc := 29) d_129_29 rfl (ok_ri (pc := 31) d_129_31 rfl)
theorem s_129_0 {Γ : m_G} : m_ok Γ m_tab 129 M_129 0 (g_129_0) := ok_al_n (pc := 0) d_129_0 rfl (ok_getf (pc := 1) d_129_1 w_352 (hc1 fo_52) (ok_il_n (pc := 4) d_129_4 rfl (ok_cai (pc := 5) (k2 := 80) rfl rfl tb_80 (by decide) (by decide) rfl (go_V d_129_5 w_430 w_412 w_413 w_2 w_414 nn_80 (by decide) cl_10 rfl) (ok_czeq (pc := 8) (t := 29) d_129_8 rfl (by decide) rfl (ok_al_n (pc := 11) d_129_11 rfl (ok_getf (pc := 12) d_129_12 w_352 (hc1 fo_52) (ok_il_n (pc := 15) d_129_15 rfl (ok_cai (pc := 16) (k2 := 82) rfl rfl tb_82 (by decide) (by decide) rfl (go_V d_129_16 w_431 w_432 w_433 w_2 w_434 nn_82 (by decide) cl_10 rfl) (ok_czeq (pc := 19) (t := 29) d_129_19 rfl (by decide) rfl (ok_al_n (pc := 22) d_129_22 rfl (ok_il_n (pc := 23) d_129_23 rfl (ok_iald (pc := 24) d_129_24 (ok_il_n (pc := 25) d_129_25 rfl (ok_cine (pc := 26) (t := 32) d_129_26 rfl (by decide) rfl (s_129_29)))))))))))))))
theorem tst_129 {Γ : m_G} (q : Nat) : m_ts Γ (t_129 q) q := ts_n (ts_n (ts_l (k := 129) (pc := 0) tb_129 rfl (by decide) s_129_0) (ts_l (k := 129) (pc := 29) tb_129 rfl (by decide) s_129_29)) (ts_n (ts_l (k := 129) (pc := 32) tb_129 rfl (by decide) s_129_32) (ts_l (k := 129) (pc := 60) tb_129 rfl (by decide) s_129_60))
theorem d_130_0 : decode prog_1_method_43_code 0 = .ok (.iload_n 1, 1) := by decide +kernel
theorem d_130_1 : decode prog_1_method_43_code 1 = .ok (.ifCond .ge 6, 3) := by decide +kernel
theorem d_130_4 : decode prog_1_method_43_code 4 = .ok (.bipush (-2), 2) := by decide +kernel
theorem d_130_6 : decode prog_1_method_43_code 6 = .ok (.ireturn, 1) := by decide +kernel
theorem d_130_7 : decode prog_1_method_43_code 7 = .ok (.iload_n 1, 1) := by decide +kernel
theorem d_130_8 : decode prog_1_method_43_code 8 = .ok (.iconst 5, 1) := by decide +kernel
theorem d_130_9 : decode prog_1_method_43_code 9 = .ok (.idiv, 1) := by decide +kernel
theorem d_130_10 : decode prog_1_method_43_code 10 = .ok (.istore_n 2, 1) := by decide +kernel
theorem d_130_11 : decode prog_1_method_43_code 11 = .ok (.aload_n 0, 1) := by decide +kernel
theorem d_130_12 : decode prog_1_method_43_code 12 = .ok (.aload_n 0, 1) := by decide +kernel
theorem d_130_13 : decode prog_1_method_43_code 13 = .ok (.getfield 60, 3) := by decide +kernel
theorem d_130_16 : decode prog_1_method_43_code 16 = .ok (.iload_n 2, 1) := by decide +kernel
theorem d_130_17 : decode prog_1_method_43_code 17 = .ok (.iload_n 1, 1) := by decide +kernel
theorem d_130_18 : decode prog_1_method_43_code 18 = .ok (.iconst 5, 1) := by decide +kernel
theorem d_130_19 : decode prog_1_method_43_code 19 = .ok (.irem, 1) := by decide +kernel
theorem d_130_20 : decode prog_1_method_43_code 20 = .ok (.invokevirtual 187, 3) := by decide +kernel
theorem d_130_23 : decode prog_1_method_43_code 23 = .ok (.istore_n 3, 1) := by decide +kernel
theorem d_130_24 : decode prog_1_method_43_code 24 = .ok (.iload_n 3, 1) := by decide +kernel
theorem d_130_25 : decode prog_1_method_43_code 25 = .ok (.ifCond .lt 21, 3) := by decide +kernel
theorem d_130_28 : decode prog_1_method_43_code 28 = .ok (.iload_n 2, 1) := by decide +kernel
theorem d_130_29 : decode prog_1_method_43_code 29 = .ok (.aload_n 0, 1) := by decide +kernel
theorem d_130_30 : decode prog_1_method_43_code 30 = .ok (.getfield 60, 3) := by decide +kernel
theorem d_130_33 : decode prog_1_method_43_code 33 = .ok (.arraylength, 1) := by decide +kernel
theorem d_130_34 : decode prog_1_method_43_code 34 = .ok (.if_icmp .ge 12, 3) := by decide +kernel
theorem d_130_37 : decode prog_1_method_43_code 37 = .ok (.aload_n 0, 1) := by decide +kernel
theorem d_130_38 : decode prog_1_method_43_code 38 = .ok (.getfield 60, 3) := by decide +kernel
theorem d_130_41 : decode prog_1_method_43_code 41 = .ok (.iload_n 2, 1) := by decide +kernel
theorem d_130_42 : decode prog_1_method_43_code 42 = .ok (.iload_n 1, 1) := by decide +kernel
theorem d_130_43 : decode prog_1_method_43_code 43 = .ok (.iconst 5, 1) := by decide +kernel
theorem d_130_44 : decode prog_1_method_43_code 44 = .ok (.irem, 1) := by decide +kernel
theorem d_130_45 : decode prog_1_method_43_code 45 = .ok (.iastore, 1) := by decide +kernel
theorem d_130_46 : decode prog_1_method_43_code 46 = .ok (.iload_n 3, 1) := by decide +kernel
theorem d_130_47 : decode prog_1_method_43_code 47 = .ok (.ireturn, 1) := by decide +kernel
theorem s_130_46 {Γ : m_G} : m_ok Γ m_tab 130 M_130 46 (g_130_46) := ok_il_n (pc := 46) d_130_46 rfl (ok_ri (pc := 47) d_130_47 rfl)
theorem s_130_7 {Γ : m_G} : m_ok Γ m_tab 130 M_130 7 (g_130_7) := ok_il_n (pc := 7) d_130_7 rfl (ok_ic (pc := 8) d_130_8 rfl (ok_div (pc := 9) d_130_9 (ok_is_n (pc := 10) d_130_10 rfl (by decide) (ok_al_n (pc := 11) d_130_11 rfl (ok_al_n (pc := 12) d_130_12 rfl (ok_getf (pc := 13) d_130_13 w_364 (hc1 fo_58) (ok_il_n (pc := 16) d_130_16 rfl (ok_il_n (pc := 17) d_130_17 rfl (ok_ic (pc := 18) d_130_18 rfl (ok_rem (pc := 19) d_130_19 (ok_cai (pc := 20) (k2 := 129) rfl rfl tb_129 (by decide) (by decide) rfl (go_V d_130_20 w_595 w_597 ws_19 w_1 w_598 nn_129 (by decide) cl_11 rfl) (ok_is_n (pc := 23) d_130_23 rfl (by decide) (ok_il_n (pc := 24) d_130_24 rfl (ok_czlt (pc := 25) (t := 46) d_130_25 rfl (by decide) rfl (ok_il_n (pc := 28) d_130_28 rfl (ok_al_n (pc := 29) d_130_29 rfl (ok_getf (pc := 30) d_130_30 w_364 (hc1 fo_58) (ok_len (pc := 33) d_130_33 (ok_cige (pc := 34) (t := 46) d_130_34 rfl (by decide) rfl (ok_al_n (pc := 37) d_130_37 rfl (ok_getf (pc := 38) d_130_38 w_364 (hc1 fo_58) (ok_il_n (pc := 41) d_130_41 rfl (ok_il_n (pc := 42) d_130_42 rfl (ok_ic (pc := 43) d_130_43 rfl (ok_rem (pc := 44) d_130_44 (ok_iast (pc := 45) d_130_45 (s_130_46)))))))))))))))))))))))))))
theorem s_130_0 {Γ : m_G} : m_ok Γ m_tab 130 M_130 0 (g_130_0) := ok_il_n (pc := 0) d_130_0 rfl (ok_czge (pc := 1) (t := 7) d_130_1 rfl (by decide) rfl (ok_bi (pc := 4) d_130_4 rfl (ok_ri (pc := 6) d_130_6 rfl)))
theorem tst_130 {Γ : m_G} (q : Nat) : m_ts Γ (t_130 q) q := ts_n (ts_l (k := 130) (pc := 0) tb_130 rfl (by decide) s_130_0) (ts_n (ts_l (k := 130) (pc := 7) tb_130 rfl (by decide) s_130_7) (ts_l (k := 130) (pc := 46) tb_130 rfl (by decide) s_130_46))
theorem d_131_0 : decode prog_1_method_44_code 0 = .ok (.aload_n 0, 1) := by decide +kernel
theorem d_131_1 : decode prog_1_method_44_code 1 = .ok (.invokevirtual 321, 3) := by decide +kernel
theorem d_131_4 : decode prog_1_method_44_code 4 = .ok (.astore 4, 2) := by decide +kernel
theorem d_131_6 : decode prog_1_method_44_code 6 = .ok (.aload 4, 2) := by decide +kernel
theorem d_131_8 : decode prog_1_method_44_code 8 = .ok (.ifnull 15, 3) := by decide +kernel
theorem d_131_11 : decode prog_1_method_44_code 11 = .ok (.aload_n 0, 1) := by decide +kernel
theorem d_131_12 : decode prog_1_method_44_code 12 = .ok (.getfield 10, 3) := by decide +kernel
theorem d_131_15 : decode prog_1_method_44_code 15 = .ok (.iload_n 1, 1) := by decide +kernel
theorem d_131_16 : decode prog_1_method_44_code 16 = .ok (.invokevirtual 135, 3) := by decide +kernel
theorem d_131_19 : decode prog_1_method_44_code 19 = .ok (.iconst 1, 1) := by decide +kernel
theorem d_131_20 : decode prog_1_method_44_code 20 = .ok (.if_icmp .ne 6, 3) := by decide +kernel
theorem d_131_23 : decode prog_1_method_44_code 23 = .ok (.bipush (-5), 2) := by decide +kernel
theorem d_131_25 : decode prog_1_method_44_code 25 = .ok (.ireturn, 1) := by decide +kernel
theorem d_131_26 : decode prog_1_method_44_code 26 = .ok (.aload_n 0, 1) := by decide +kernel
theorem d_131_27 : decode prog_1_method_44_code 27 = .ok (.iload_n 1, 1) := by decide +kernel
theorem d_131_28 : decode prog_1_method_44_code 28 = .ok (.iload_n 2, 1) := by decide +kernel
theorem d_131_29 : decode prog_1_method_44_code 29 = .ok (.iload_n 3, 1) := by decide +kernel
theorem d_131_30 : decode prog_1_method_44_code 30 = .ok (.invokevirtual 324, 3) := by decide +kernel
theorem d_131_33 : decode prog_1_method_44_code 33 = .ok (.aload 4, 2) := by decide +kernel
theorem d_131_35 : decode prog_1_method_44_code 35 = .ok (.aload_n 0, 1) := by decide +kernel
theorem d_131_36 : decode prog_1_method_44_code 36 = .ok (.getfield 53, 3) := by decide +kernel
theorem d_131_39 : decode prog_1_method_44_code 39 = .ok (.invokevirtual 328, 3) := by decide +kernel
theorem d_131_42 : decode prog_1_method_44_code 42 = .ok (.ifCond .ne 6, 3) := by decide +kernel
theorem d_131_45 : decode prog_1_method_44_code 45 = .ok (.bipush (-5), 2) := by decide +kernel
theorem d_131_47 : decode prog_1_method_44_code 47 = .ok (.ireturn, 1) := by decide +kernel
theorem d_131_48 : decode prog_1_method_44_code 48 = .ok (.aload_n 0, 1) := by decide +kernel
theorem d_131_49 : decode prog_1_method_44_code 49 = .ok (.iload_n 1, 1) := by decide +kernel
theorem d_131_50 : decode prog_1_method_44_code 50 = .ok (.iload_n 2, 1) := by decide +kernel
theorem d_131_51 : decode prog_1_method_44_code 51 = .ok (.iload_n 3, 1) := by decide +kernel
theorem d_131_52 : decode prog_1_method_44_code 52 = .ok (.invokevirtual 331, 3) := by decide +kernel
theorem d_131_55 : decode prog_1_method_44_code 55 = .ok (.istore 5, 2) := by decide +kernel
theorem d_131_57 : decode prog_1_method_44_code 57 = .ok (.iload 5, 2) := by decide +kernel
theorem d_131_59 : decode prog_1_method_44_code 59 = .ok (.iconst (-1), 1) := by decide +kernel
theorem d_131_60 : decode prog_1_method_44_code 60 = .ok (.if_icmp .ne 8, 3) := by decide +kernel
theorem d_131_63 : decode prog_1_method_44_code 63 = .ok (.bipush (-5), 2) := by decide +kernel
theorem d_131_65 : decode prog_1_method_44_code 65 = .ok (.goto 21, 3) := by decide +kernel
theorem d_131_68 : decode prog_1_method_44_code 68 = .ok (.iload 5, 2) := by decide +kernel
theorem d_131_70 : decode prog_1_method_44_code 70 = .ok (.aload 4, 2) := by decide +kernel
theorem d_131_72 : decode prog_1_method_44_code 72 = .ok (.aload_n 0, 1) := by decide +kernel
theorem d_131_73 : decode prog_1_method_44_code 73 = .ok (.getfield 53, 3) := by decide +kernel
theorem d_131_76 : decode prog_1_method_44_code 76 = .ok (.invokevirtual 334, 3) := by decide +kernel
theorem d_131_79 : decode prog_1_method_44_code 79 = .ok (.sipush 999, 3) := by decide +kernel
theorem d_131_82 : decode prog_1_method_44_code 82 = .ok (.invokestatic 337, 3) := by decide +kernel
theorem d_131_85 : decode prog_1_method_44_code 85 = .ok (.iadd, 1) := by decide +kernel
theorem d_131_86 : decode prog_1_method_44_code 86 = .ok (.ireturn, 1) := by decide +kernel
theorem s_131_86 {Γ : m_G} : m_ok Γ m_tab 131 M_131 86 (g_131_86) := ok_ri (pc := 86) d_131_86 rfl
theorem s_131_68 {Γ : m_G} : m_ok Γ m_tab 131 M_131 68 (g_131_68) := ok_il (pc := 68) d_131_68 (ok_al (pc := 70) d_131_70 (ok_al_n (pc := 72) d_131_72 rfl (ok_getf (pc := 73) d_131_73 w_362 (hc1 fo_68) (ok_cai (pc := 76) (k2 := 72) rfl rfl tb_72 (by decide) (by decide) rfl (go_V d_131_76 w_636 w_637 w_638 w_10 w_639 nn_72 (by decide) cl_9 rfl) (ok_si (pc := 79) d_131_79 rfl (ok_cat (pc := 82) (k2 := 136) rfl tb_136 (by decide) (by decide) rfl (go_S d_131_82 w_640 w_641 w_1 w_642 nn_136 (by decide)) (ok_add (pc := 85) d_131_85 (s_131_86))))))))
theorem s_131_48 {Γ : m_G} : m_ok Γ m_tab 131 M_131 48 (g_131_48) := ok_al_n (pc := 48) d_131_48 rfl (ok_il_n (pc := 49) d_131_49 rfl (ok_il_n (pc := 50) d_131_50 rfl (ok_il_n (pc := 51) d_131_51 rfl (ok_cai (pc := 52) (k2 := 132) rfl rfl tb_132 (by decide) (by decide) rfl (go_V d_131_52 w_629 w_631 ws_24 w_1 w_632 nn_132 (by decide) cl_11 rfl) (ok_is (pc := 55) d_131_55 (by decide) (ok_il (pc := 57) d_131_57 (ok_ic (pc := 59) d_131_59 rfl (ok_cine (pc := 60) (t := 68) d_131_60 rfl (by decide) rfl (ok_bi (pc := 63) d_131_63 rfl (ok_go (pc := 65) (t := 86) d_131_65 rfl (by decide) rfl))))))))))
theorem s_131_26 {Γ : m_G} : m_ok Γ m_tab 131 M_131 26 (g_131_26) := ok_al_n (pc := 26) d_131_26 rfl (ok_il_n (pc := 27) d_131_27 rfl (ok_il_n (pc := 28) d_131_28 rfl (ok_il_n (pc := 29) d_131_29 rfl (ok_cvi (pc := 30) (k2 := 135) rfl rfl tb_135 (by decide) (by decide) rfl (go_V d_131_30 w_608 w_610 ws_22 w_1 w_611 nn_135 (by decide) cl_11 rfl) (ok_al (pc := 33) d_131_33 (ok_al_n (pc := 35) d_131_35 rfl (ok_getf (pc := 36) d_131_36 w_362 (hc1 fo_68) (ok_cai (pc := 39) (k2 := 71) rfl rfl tb_71 (by decide) (by decide) rfl (go_V d_131_39 w_618 w_619 w_620 w_10 w_621 nn_71 (by decide) cl_9 rfl) (ok_czne (pc := 42) (t := 48) d_131_42 rfl (by decide) rfl (ok_bi (pc := 45) d_131_45 rfl (ok_ri (pc := 47) d_131_47 rfl)))))))))))
theorem s_131_23 {Γ : m_G} : m_ok Γ m_tab 131 M_131 23 (g_131_23) := ok_bi (pc := 23) d_131_23 rfl (ok_ri (pc := 25) d_131_25 rfl)
theorem s_131_0 {Γ : m_G} : m_ok Γ m_tab 131 M_131 0 (g_131_0) := ok_al_n (pc := 0) d_131_0 rfl (ok_cai (pc := 1) (k2 := 134) rfl rfl tb_134 (by decide) (by decide) rfl (go_V d_131_1 w_604 w_606 ws_21 w_1 w_607 nn_134 (by decide) cl_11 rfl) (ok_as (pc := 4) d_131_4 (by decide) (ok_al (pc := 6) d_131_6 (ok_ifn (pc := 8) (t := 23) d_131_8 rfl (by decide) rfl (ok_al_n (pc := 11) d_131_11 rfl (ok_getf (pc := 12) d_131_12 w_352 (hc1 fo_52) (ok_il_n (pc := 15) d_131_15 rfl (ok_cai (pc := 16) (k2 := 84) rfl rfl tb_84 (by decide) (by decide) rfl (go_V d_131_16 w_435 w_436 w_437 w_2 w_438 nn_84 (by decide) cl_10 rfl) (ok_ic (pc := 19) d_131_19 rfl (ok_cine (pc := 20) (t := 26) d_131_20 rfl (by decide) rfl (s_131_23)))))))))))
theorem tst_131 {Γ : m_G} (q : Nat) : m_ts Γ (t_131 q) q := ts_n (ts_n (ts_l (k := 131) (pc := 0) tb_131 rfl (by decide) s_131_0) (ts_n (ts_l (k := 131) (pc := 23) tb_131 rfl (by decide) s_131_23) (ts_l (k := 131) (pc := 26) tb_131 rfl (by decide) s_131_26))) (ts_n (ts_l (k := 131) (pc := 48) tb_131 rfl (by decide) s_131_48) (ts_n (ts_l (k := 131) (pc := 68) tb_131 rfl (by decide) s_131_68) (ts_l (k := 131) (pc := 86) tb_131 rfl (by decide) s_131_86)))
theorem d_132_0 : decode prog_1_method_45_code 0 = .ok (.aload_n 0, 1) := by decide +kernel
theorem d_132_1 : decode prog_1_method_45_code 1 = .ok (.getfield 148, 3) := by decide +kernel
theorem d_132_4 : decode prog_1_method_45_code 4 = .ok (.ifCond .ne 7, 3) := by decide +kernel
theorem d_132_7 : decode prog_1_method_45_code 7 = .ok (.iconst 0, 1) := by decide +kernel
theorem d_132_8 : decode prog_1_method_45_code 8 = .ok (.goto 4, 3) := by decide +kernel
theorem d_132_11 : decode prog_1_method_45_code 11 = .ok (.iconst (-1), 1) := by decide +kernel
theorem d_132_12 : decode prog_1_method_45_code 12 = .ok (.istore 4, 2) := by decide +kernel
theorem d_132_14 : decode prog_1_method_45_code 14 = .ok (.iconst 0, 1) := by decide +kernel
theorem d_132_15 : decode prog_1_method_45_code 15 = .ok (.istore 5, 2) := by decide +kernel
theorem d_132_17 : decode prog_1_method_45_code 17 = .ok (.iload 5, 2) := by decide +kernel
theorem d_132_19 : decode prog_1_method_45_code 19 = .ok (.aload_n 0, 1) := by decide +kernel
theorem d_132_20 : decode prog_1_method_45_code 20 = .ok (.getfield 148, 3) := by decide +kernel
theorem d_132_23 : decode prog_1_method_45_code 23 = .ok (.if_icmp .ge 68, 3) := by decide +kernel
theorem d_132_26 : decode prog_1_method_45_code 26 = .ok (.aload_n 0, 1) := by decide +kernel
theorem d_132_27 : decode prog_1_method_45_code 27 = .ok (.getfield 30, 3) := by decide +kernel
theorem d_132_30 : decode prog_1_method_45_code 30 = .ok (.iload 5, 2) := by decide +kernel
theorem d_132_32 : decode prog_1_method_45_code 32 = .ok (.aaload, 1) := by decide +kernel
theorem d_132_33 : decode prog_1_method_45_code 33 = .ok (.astore 6, 2) := by decide +kernel
theorem d_132_35 : decode prog_1_method_45_code 35 = .ok (.aload 6, 2) := by decide +kernel
theorem d_132_37 : decode prog_1_method_45_code 37 = .ok (.ifnull 48, 3) := by decide +kernel
theorem d_132_40 : decode prog_1_method_45_code 40 = .ok (.aload 6, 2) := by decide +kernel
theorem d_132_42 : decode prog_1_method_45_code 42 = .ok (.iload_n 1, 1) := by decide +kernel
theorem d_132_43 : decode prog_1_method_45_code 43 = .ok (.iload_n 2, 1) := by decide +kernel
theorem d_132_44 : decode prog_1_method_45_code 44 = .ok (.iload_n 3, 1) := by decide +kernel
theorem d_132_45 : decode prog_1_method_45_code 45 = .ok (.invokevirtual 162, 3) := by decide +kernel
theorem d_132_48 : decode prog_1_method_45_code 48 = .ok (.ifCond .eq 37, 3) := by decide +kernel
theorem d_132_51 : decode prog_1_method_45_code 51 = .ok (.iconst 0, 1) := by decide +kernel
theorem d_132_52 : decode prog_1_method_45_code 52 = .ok (.aload 6, 2) := by decide +kernel
theorem d_132_54 : decode prog_1_method_45_code 54 = .ok (.iload_n 1, 1) := by decide +kernel
theorem d_132_55 : decode prog_1_method_45_code 55 = .ok (.iload_n 2, 1) := by decide +kernel
theorem d_132_56 : decode prog_1_method_45_code 56 = .ok (.iload_n 3, 1) := by decide +kernel
theorem d_132_57 : decode prog_1_method_45_code 57 = .ok (.invokevirtual 165, 3) := by decide +kernel
theorem d_132_60 : decode prog_1_method_45_code 60 = .ok (.invokestatic 169, 3) := by decide +kernel
theorem d_132_63 : decode prog_1_method_45_code 63 = .ok (.istore 7, 2) := by decide +kernel
theorem d_132_65 : decode prog_1_method_45_code 65 = .ok (.iload 4, 2) := by decide +kernel
theorem d_132_67 : decode prog_1_method_45_code 67 = .ok (.iconst (-1), 1) := by decide +kernel
theorem d_132_68 : decode prog_1_method_45_code 68 = .ok (.if_icmp .ne 8, 3) := by decide +kernel
theorem d_132_71 : decode prog_1_method_45_code 71 = .ok (.iload 7, 2) := by decide +kernel
theorem d_132_73 : decode prog_1_method_45_code 73 = .ok (.goto 10, 3) := by decide +kernel
theorem d_132_76 : decode prog_1_method_45_code 76 = .ok (.iload 4, 2) := by decide +kernel
theorem d_132_78 : decode prog_1_method_45_code 78 = .ok (.iload 7, 2) := by decide +kernel
theorem d_132_80 : decode prog_1_method_45_code 80 = .ok (.invokestatic 191, 3) := by decide +kernel
theorem d_132_83 : decode prog_1_method_45_code 83 = .ok (.istore 4, 2) := by decide +kernel
theorem d_132_85 : decode prog_1_method_45_code 85 = .ok (.iinc 5 1, 3) := by decide +kernel
theorem d_132_88 : decode prog_1_method_45_code 88 = .ok (.goto (-71), 3) := by decide +kernel
theorem d_132_91 : decode prog_1_method_45_code 91 = .ok (.iload 4, 2) := by decide +kernel
theorem d_132_93 : decode prog_1_method_45_code 93 = .ok (.ireturn, 1) := by decide +kernel
theorem s_132_91 {Γ : m_G} : m_ok Γ m_tab 132 M_132 91 (g_132_91) := ok_il (pc := 91) d_132_91 (ok_ri (pc := 93) d_132_93 rfl)
theorem s_132_85 {Γ : m_G} : m_ok Γ m_tab 132 M_132 85 (g_132_85) := ok_inc (pc := 85) d_132_85 rfl (by decide) (ok_go (pc := 88) (t := 17) d_132_88 rfl (by decide) rfl)
theorem s_132_83 {Γ : m_G} : m_ok Γ m_tab 132 M_132 83 (g_132_83) := ok_is (pc := 83) d_132_83 (by decide) (s_132_85)
theorem s_132_76 {Γ : m_G} : m_ok Γ m_tab 132 M_132 76 (g_132_76) := ok_il (pc := 76) d_132_76 (ok_il (pc := 78) d_132_78 (ok_min (pc := 80) d_132_80 w_633 w_634 w_18 w_635 (s_132_83)))
theorem s_132_60 {Γ : m_G} : m_ok Γ m_tab 132 M_132 60 (g_132_60) := ok_max (pc := 60) d_132_60 w_564 w_565 w_18 w_566 (ok_is (pc := 63) d_132_63 (by decide) (ok_il (pc := 65) d_132_65 (ok_ic (pc := 67) d_132_67 rfl (ok_cine (pc := 68) (t := 76) d_132_68 rfl (by decide) rfl (ok_il (pc := 71) d_132_71 (ok_go (pc := 73) (t := 83) d_132_73 rfl (by decide) rfl))))))
theorem s_132_48 {Γ : m_G} : m_ok Γ m_tab 132 M_132 48 (g_132_48) := ok_czeq (pc := 48) (t := 85) d_132_48 rfl (by decide) rfl (ok_ic (pc := 51) d_132_51 rfl (ok_al (pc := 52) d_132_52 (ok_il_n (pc := 54) d_132_54 rfl (ok_il_n (pc := 55) d_132_55 rfl (ok_il_n (pc := 56) d_132_56 rfl (ok_vc (List.forall_mem_cons.mpr ⟨ok_cai (pc := 57) (k2 := 2) rfl rfl tb_2 (by decide) (by decide) rfl (go_U d_132_57 w_541 w_544 w_542 w_545 w_546 w_17 w_547 w_563 nn_10 (by decide) cl_0) (s_132_60), List.forall_mem_cons.mpr ⟨ok_cai (pc := 57) (k2 := 5) rfl rfl tb_5 (by decide) (by decide) rfl (go_U d_132_57 w_541 w_544 w_542 w_551 w_552 w_15 w_553 w_563 nn_10 (by decide) cl_1) (s_132_60), List.forall_mem_cons.mpr ⟨ok_cai (pc := 57) (k2 := 8) rfl rfl tb_8 (by decide) (by decide) rfl (go_U d_132_57 w_541 w_544 w_542 w_557 w_558 w_16 w_559 w_563 nn_10 (by decide) cl_2) (s_132_60), List.forall_mem_cons.mpr ⟨ok_cai (pc := 57) (k2 := 10) rfl rfl tb_10 (by decide) (by decide) rfl (go_U d_132_57 w_541 w_544 w_542 w_543 w_542 w_12 w_563 w_563 nn_10 (by decide) cl_3) (s_132_60), List.forall_mem_cons.mpr ⟨ok_cai (pc := 57) (k2 := 66) rfl rfl tb_66 (by decide) (by decide) rfl (go_U d_132_57 w_541 w_544 w_542 w_561 w_549 w_14 w_550 w_563 nn_10 (by decide) cl_7) (s_132_60), List.forall_mem_cons.mpr ⟨ok_cai (pc := 57) (k2 := 69) rfl rfl tb_69 (by decide) (by decide) rfl (go_U d_132_57 w_541 w_544 w_542 w_562 w_555 w_13 w_556 w_563 nn_10 (by decide) cl_8) (s_132_60), fun _ h => absurd h List.not_mem_nil⟩⟩⟩⟩⟩⟩)))))))
theorem s_132_17 {Γ : m_G} : m_ok Γ m_tab 132 M_132 17 (g_132_17) := ok_il (pc := 17) d_132_17 (ok_al_n (pc := 19) d_132_19 rfl (ok_getf (pc := 20) d_132_20 w_357 (hc1 fo_55) (ok_cige (pc := 23) (t := 91) d_132_23 rfl (by decide) rfl (ok_al_n (pc := 26) d_132_26 rfl (ok_getf (pc := 27) d_132_27 w_356 (hc1 fo_56) (ok_il (pc := 30) d_132_30 (ok_aald (pc := 32) d_132_32 (ok_as (pc := 33) d_132_33 (by decide) (ok_al (pc := 35) d_132_35 (ok_ifn (pc := 37) (t := 85) d_132_37 rfl (by decide) rfl (ok_al (pc := 40) d_132_40 (ok_il_n (pc := 42) d_132_42 rfl (ok_il_n (pc := 43) d_132_43 rfl (ok_il_n (pc := 44) d_132_44 rfl (ok_vc (List.forall_mem_cons.mpr ⟨ok_cai (pc := 45) (k2 := 3) rfl rfl tb_3 (by decide) (by decide) rfl (go_U d_132_45 w_524 w_527 w_525 w_528 w_529 w_17 w_530 w_540 nn_11 (by decide) cl_0) (s_132_48), List.forall_mem_cons.mpr ⟨ok_cai (pc := 45) (k2 := 6) rfl rfl tb_6 (by decide) (by decide) rfl (go_U d_132_45 w_524 w_527 w_525 w_534 w_535 w_15 w_536 w_540 nn_11 (by decide) cl_1) (s_132_48), List.forall_mem_cons.mpr ⟨ok_cai (pc := 45) (k2 := 67) rfl rfl tb_67 (by decide) (by decide) rfl (go_U d_132_45 w_524 w_527 w_525 w_537 w_532 w_14 w_533 w_540 nn_11 (by decide) cl_2) (s_132_48), List.forall_mem_cons.mpr ⟨ok_cai (pc := 45) (k2 := 11) rfl rfl tb_11 (by decide) (by decide) rfl (go_U d_132_45 w_524 w_527 w_525 w_526 w_525 w_12 w_540 w_540 nn_11 (by decide) cl_3) (s_132_48), List.forall_mem_cons.mpr ⟨ok_cai (pc := 45) (k2 := 67) rfl rfl tb_67 (by decide) (by decide) rfl (go_U d_132_45 w_524 w_527 w_525 w_538 w_532 w_14 w_533 w_540 nn_11 (by decide) cl_7) (s_132_48), List.forall_mem_cons.mpr ⟨ok_cai (pc := 45) (k2 := 11) rfl rfl tb_11 (by decide) (by decide) rfl (go_U d_132_45 w_524 w_527 w_525 w_539 w_525 w_12 w_540 w_540 nn_11 (by decide) cl_8) (s_132_48), fun _ h => absurd h List.not_mem_nil⟩⟩⟩⟩⟩⟩))))))))))))))))
theorem s_132_12 {Γ : m_G} : m_ok Γ m_tab 132 M_132 12 (g_132_12) := ok_is (pc := 12) d_132_12 (by decide) (ok_ic (pc := 14) d_132_14 rfl (ok_is (pc := 15) d_132_15 (by decide) (s_132_17)))
theorem s_132_11 {Γ : m_G} : m_ok Γ m_tab 132 M_132 11 (g_132_11) := ok_ic (pc := 11) d_132_11 rfl (s_132_12)
theorem s_132_0 {Γ : m_G} : m_ok Γ m_tab 132 M_132 0 (g_132_0) := ok_al_n (pc := 0) d_132_0 rfl (ok_getf (pc := 1) d_132_1 w_357 (hc1 fo_55) (ok_czne (pc := 4) (t := 11) d_132_4 rfl (by decide) rfl (ok_ic (pc := 7) d_132_7 rfl (ok_go (pc := 8) (t := 12) d_132_8 rfl (by decide) rfl))))
theorem tst_132 {Γ : m_G} (q : Nat) : m_ts Γ (t_132 q) q := ts_n (ts_n (ts_n (ts_l (k := 132) (pc := 0) tb_132 rfl (by decide) s_132_0) (ts_l (k := 132) (pc := 11) tb_132 rfl (by decide) s_132_11)) (ts_n (ts_l (k := 132) (pc := 12) tb_132 rfl (by decide) s_132_12) (ts_l (k := 132) (pc := 17) tb_132 rfl (by decide) s_132_17))) (ts_n (ts_n (ts_l (k := 132) (pc := 76) tb_132 rfl (by decide) s_132_76) (ts_l (k := 132) (pc := 83) tb_132 rfl (by decide) s_132_83)) (ts_n (ts_l (k := 132) (pc := 85) tb_132 rfl (by decide) s_132_85) (ts_l (k := 132) (pc := 91) tb_132 rfl (by decide) s_132_91)))
theorem d_133_0 : decode prog_1_method_46_code 0 = .ok (.aload_n 0, 1) := by decide +kernel
theorem d_133_1 : decode prog_1_method_46_code 1 = .ok (.invokevirtual 321, 3) := by decide +kernel
theorem d_133_4 : decode prog_1_method_46_code 4 = .ok (.astore_n 2, 1) := by decide +kernel
theorem d_133_5 : decode prog_1_method_46_code 5 = .ok (.aload_n 2, 1) := by decide +kernel
theorem d_133_6 : decode prog_1_method_46_code 6 = .ok (.ifnull 16, 3) := by decide +kernel
theorem d_133_9 : decode prog_1_method_46_code 9 = .ok (.aload_n 0, 1) := by decide +kernel
theorem d_133_10 : decode prog_1_method_46_code 10 = .ok (.getfield 10, 3) := by decide +kernel
theorem d_133_13 : decode prog_1_method_46_code 13 = .ok (.getfield 132, 3) := by decide +kernel
theorem d_133_16 : decode prog_1_method_46_code 16 = .ok (.iload_n 1, 1) := by decide +kernel
theorem d_133_17 : decode prog_1_method_46_code 17 = .ok (.iaload, 1) := by decide +kernel
theorem d_133_18 : decode prog_1_method_46_code 18 = .ok (.iconst (-1), 1) := by decide +kernel
theorem d_133_19 : decode prog_1_method_46_code 19 = .ok (.if_icmp .ne 5, 3) := by decide +kernel
theorem d_133_22 : decode prog_1_method_46_code 22 = .ok (.iconst 0, 1) := by decide +kernel
theorem d_133_23 : decode prog_1_method_46_code 23 = .ok (.ireturn, 1) := by decide +kernel
theorem d_133_24 : decode prog_1_method_46_code 24 = .ok (.aload_n 0, 1) := by decide +kernel
theorem d_133_25 : decode prog_1_method_46_code 25 = .ok (.iload_n 1, 1) := by decide +kernel
theorem d_133_26 : decode prog_1_method_46_code 26 = .ok (.aload_n 0, 1) := by decide +kernel
theorem d_133_27 : decode prog_1_method_46_code 27 = .ok (.getfield 10, 3) := by decide +kernel
theorem d_133_30 : decode prog_1_method_46_code 30 = .ok (.getfield 129, 3) := by decide +kernel
theorem d_133_33 : decode prog_1_method_46_code 33 = .ok (.iload_n 1, 1) := by decide +kernel
theorem d_133_34 : decode prog_1_method_46_code 34 = .ok (.iaload, 1) := by decide +kernel
theorem d_133_35 : decode prog_1_method_46_code 35 = .ok (.aload_n 0, 1) := by decide +kernel
theorem d_133_36 : decode prog_1_method_46_code 36 = .ok (.getfield 10, 3) := by decide +kernel
theorem d_133_39 : decode prog_1_method_46_code 39 = .ok (.getfield 132, 3) := by decide +kernel
theorem d_133_42 : decode prog_1_method_46_code 42 = .ok (.iload_n 1, 1) := by decide +kernel
theorem d_133_43 : decode prog_1_method_46_code 43 = .ok (.iaload, 1) := by decide +kernel
theorem d_133_44 : decode prog_1_method_46_code 44 = .ok (.invokevirtual 324, 3) := by decide +kernel
theorem d_133_47 : decode prog_1_method_46_code 47 = .ok (.aload_n 2, 1) := by decide +kernel
theorem d_133_48 : decode prog_1_method_46_code 48 = .ok (.aload_n 0, 1) := by decide +kernel
theorem d_133_49 : decode prog_1_method_46_code 49 = .ok (.getfield 53, 3) := by decide +kernel
theorem d_133_52 : decode prog_1_method_46_code 52 = .ok (.invokevirtual 340, 3) := by decide +kernel
theorem d_133_55 : decode prog_1_method_46_code 55 = .ok (.bipush 99, 2) := by decide +kernel
theorem d_133_57 : decode prog_1_method_46_code 57 = .ok (.invokestatic 337, 3) := by decide +kernel
theorem d_133_60 : decode prog_1_method_46_code 60 = .ok (.ireturn, 1) := by decide +kernel
theorem s_133_24 {Γ : m_G} : m_ok Γ m_tab 133 M_133 24 (g_133_24) := ok_al_n (pc := 24) d_133_24 rfl (ok_il_n (pc := 25) d_133_25 rfl (ok_al_n (pc := 26) d_133_26 rfl (ok_getf (pc := 27) d_133_27 w_352 (hc1 fo_52) (ok_getf (pc := 30) d_133_30 w_58 (hc1 fo_31) (ok_il_n (pc := 33) d_133_33 rfl (ok_iald (pc := 34) d_133_34 (ok_al_n (pc := 35) d_133_35 rfl (ok_getf (pc := 36) d_133_36 w_352 (hc1 fo_52) (ok_getf (pc := 39) d_133_39 w_61 (hc1 fo_32) (ok_il_n (pc := 42) d_133_42 rfl (ok_iald (pc := 43) d_133_43 (ok_cvi (pc := 44) (k2 := 135) rfl rfl tb_135 (by decide) (by decide) rfl (go_V d_133_44 w_608 w_610 ws_22 w_1 w_611 nn_135 (by decide) cl_11 rfl) (ok_al_n (pc := 47) d_133_47 rfl (ok_al_n (pc := 48) d_133_48 rfl (ok_getf (pc := 49) d_133_49 w_362 (hc1 fo_68) (ok_cai (pc := 52) (k2 := 73) rfl rfl tb_73 (by decide) (by decide) rfl (go_V d_133_52 w_797 w_798 w_799 w_10 w_800 nn_73 (by decide) cl_9 rfl) (ok_bi (pc := 55) d_133_55 rfl (ok_cat (pc := 57) (k2 := 136) rfl tb_136 (by decide) (by decide) rfl (go_S d_133_57 w_640 w_641 w_1 w_642 nn_136 (by decide)) (ok_ri (pc := 60) d_133_60 rfl)))))))))))))))))))
theorem s_133_22 {Γ : m_G} : m_ok Γ m_tab 133 M_133 22 (g_133_22) := ok_ic (pc := 22) d_133_22 rfl (ok_ri (pc := 23) d_133_23 rfl)
theorem s_133_0 {Γ : m_G} : m_ok Γ m_tab 133 M_133 0 (g_133_0) := ok_al_n (pc := 0) d_133_0 rfl (ok_cai (pc := 1) (k2 := 134) rfl rfl tb_134 (by decide) (by decide) rfl (go_V d_133_1 w_604 w_606 ws_21 w_1 w_607 nn_134 (by decide) cl_11 rfl) (ok_as_n (pc := 4) d_133_4 rfl (by decide) (ok_al_n (pc := 5) d_133_5 rfl (ok_ifn (pc := 6) (t := 22) d_133_6 rfl (by decide) rfl (ok_al_n (pc := 9) d_133_9 rfl (ok_getf (pc := 10) d_133_10 w_352 (hc1 fo_52) (ok_getf (pc := 13) d_133_13 w_61 (hc1 fo_32) (ok_il_n (pc := 16) d_133_16 rfl (ok_iald (pc := 17) d_133_17 (ok_ic (pc := 18) d_133_18 rfl (ok_cine (pc := 19) (t := 24) d_133_19 rfl (by decide) rfl (s_133_22))))))))))))
theorem tst_133 {Γ : m_G} (q : Nat) : m_ts Γ (t_133 q) q := ts_n (ts_l (k := 133) (pc := 0) tb_133 rfl (by decide) s_133_0) (ts_n (ts_l (k := 133) (pc := 22) tb_133 rfl (by decide) s_133_22) (ts_l (k := 133) (pc := 24) tb_133 rfl (by decide) s_133_24))
theorem d_134_0 : decode prog_1_method_47_code 0 = .ok (.aload_n 0, 1) := by decide +kernel
theorem d_134_1 : decode prog_1_method_47_code 1 = .ok (.getfield 10, 3) := by decide +kernel
theorem d_134_4 : decode prog_1_method_47_code 4 = .ok (.getfield 180, 3) := by decide +kernel
theorem d_134_7 : decode prog_1_method_47_code 7 = .ok (.aload_n 0, 1) := by decide +kernel
theorem d_134_8 : decode prog_1_method_47_code 8 = .ok (.getfield 83, 3) := by decide +kernel
theorem d_134_11 : decode prog_1_method_47_code 11 = .ok (.iconst 1, 1) := by decide +kernel
theorem d_134_12 : decode prog_1_method_47_code 12 = .ok (.isub, 1) := by decide +kernel
theorem d_134_13 : decode prog_1_method_47_code 13 = .ok (.invokestatic 122, 3) := by decide +kernel
theorem d_134_16 : decode prog_1_method_47_code 16 = .ok (.ifCond .eq 18, 3) := by decide +kernel
theorem d_134_19 : decode prog_1_method_47_code 19 = .ok (.aload_n 0, 1) := by decide +kernel
theorem d_134_20 : decode prog_1_method_47_code 20 = .ok (.getfield 43, 3) := by decide +kernel
theorem d_134_23 : decode prog_1_method_47_code 23 = .ok (.aload_n 0, 1) := by decide +kernel
theorem d_134_24 : decode prog_1_method_47_code 24 = .ok (.getfield 10, 3) := by decide +kernel
theorem d_134_27 : decode prog_1_method_47_code 27 = .ok (.getfield 180, 3) := by decide +kernel
theorem d_134_30 : decode prog_1_method_47_code 30 = .ok (.aaload, 1) := by decide +kernel
theorem d_134_31 : decode prog_1_method_47_code 31 = .ok (.goto 4, 3) := by decide +kernel
theorem d_134_34 : decode prog_1_method_47_code 34 = .ok (.aconst_null, 1) := by decide +kernel
theorem d_134_35 : decode prog_1_method_47_code 35 = .ok (.areturn, 1) := by decide +kernel
theorem s_134_35 {Γ : m_G} : m_ok Γ m_tab 134 M_134 35 (g_134_35) := ok_ra (pc := 35) d_134_35 rfl
theorem s_134_34 {Γ : m_G} : m_ok Γ m_tab 134 M_134 34 (g_134_34) := ok_nul (pc := 34) d_134_34 (s_134_35)
theorem s_134_0 {Γ : m_G} : m_ok Γ m_tab 134 M_134 0 (g_134_0) := ok_al_n (pc := 0) d_134_0 rfl (ok_getf (pc := 1) d_134_1 w_352 (hc1 fo_52) (ok_getf (pc := 4) d_134_4 w_68 (hc1 fo_47) (ok_al_n (pc := 7) d_134_7 rfl (ok_getf (pc := 8) d_134_8 w_360 (hc1 fo_57) (ok_ic (pc := 11) d_134_11 rfl (ok_sub (pc := 12) d_134_12 (ok_cat (pc := 13) (k2 := 121) rfl tb_121 (by decide) (by decide) rfl (go_S d_134_13 w_423 w_424 w_1 w_425 nn_121 (by decide)) (ok_czeq (pc := 16) (t := 34) d_134_16 rfl (by decide) rfl (ok_al_n (pc := 19) d_134_19 rfl (ok_getf (pc := 20) d_134_20 w_359 (hc1 fo_51) (ok_al_n (pc := 23) d_134_23 rfl (ok_getf (pc := 24) d_134_24 w_352 (hc1 fo_52) (ok_getf (pc := 27) d_134_27 w_68 (hc1 fo_47) (ok_aald (pc := 30) d_134_30 (ok_go (pc := 31) (t := 35) d_134_31 rfl (by decide) rfl)))))))))))))))
theorem tst_134 {Γ : m_G} (q : Nat) : m_ts Γ (t_134 q) q := ts_n (ts_l (k := 134) (pc := 0) tb_134 rfl (by decide) s_134_0) (ts_n (ts_l (k := 134) (pc := 34) tb_134 rfl (by decide) s_134_34) (ts_l (k := 134) (pc := 35) tb_134 rfl (by decide) s_134_35))
theorem d_135_0 : decode prog_1_method_48_code 0 = .ok (.aload_n 0, 1) := by decide +kernel
theorem d_135_1 : decode prog_1_method_48_code 1 = .ok (.getfield 53, 3) := by decide +kernel
theorem d_135_4 : decode prog_1_method_48_code 4 = .ok (.iconst 0, 1) := by decide +kernel
theorem d_135_5 : decode prog_1_method_48_code 5 = .ok (.iload_n 2, 1) := by decide +kernel
theorem d_135_6 : decode prog_1_method_48_code 6 = .ok (.iastore, 1) := by decide +kernel
theorem d_135_7 : decode prog_1_method_48_code 7 = .ok (.aload_n 0, 1) := by decide +kernel
theorem d_135_8 : decode prog_1_method_48_code 8 = .ok (.getfield 53, 3) := by decide +kernel
theorem d_135_11 : decode prog_1_method_48_code 11 = .ok (.iconst 1, 1) := by decide +kernel
theorem d_135_12 : decode prog_1_method_48_code 12 = .ok (.iload_n 3, 1) := by decide +kernel
theorem d_135_13 : decode prog_1_method_48_code 13 = .ok (.iastore, 1) := by decide +kernel
theorem d_135_14 : decode prog_1_method_48_code 14 = .ok (.aload_n 0, 1) := by decide +kernel
theorem d_135_15 : decode prog_1_method_48_code 15 = .ok (.getfield 53, 3) := by decide +kernel
theorem d_135_18 : decode prog_1_method_48_code 18 = .ok (.iconst 2, 1) := by decide +kernel
theorem d_135_19 : decode prog_1_method_48_code 19 = .ok (.aload_n 0, 1) := by decide +kernel
theorem d_135_20 : decode prog_1_method_48_code 20 = .ok (.getfield 10, 3) := by decide +kernel
theorem d_135_23 : decode prog_1_method_48_code 23 = .ok (.getfield 115, 3) := by decide +kernel
theorem d_135_26 : decode prog_1_method_48_code 26 = .ok (.iload_n 1, 1) := by decide +kernel
theorem d_135_27 : decode prog_1_method_48_code 27 = .ok (.iaload, 1) := by decide +kernel
theorem d_135_28 : decode prog_1_method_48_code 28 = .ok (.invokestatic 343, 3) := by decide +kernel
theorem d_135_31 : decode prog_1_method_48_code 31 = .ok (.iastore, 1) := by decide +kernel
theorem d_135_32 : decode prog_1_method_48_code 32 = .ok (.aload_n 0, 1) := by decide +kernel
theorem d_135_33 : decode prog_1_method_48_code 33 = .ok (.getfield 53, 3) := by decide +kernel
theorem d_135_36 : decode prog_1_method_48_code 36 = .ok (.iconst 3, 1) := by decide +kernel
theorem d_135_37 : decode prog_1_method_48_code 37 = .ok (.aload_n 0, 1) := by decide +kernel
theorem d_135_38 : decode prog_1_method_48_code 38 = .ok (.getfield 10, 3) := by decide +kernel
theorem d_135_41 : decode prog_1_method_48_code 41 = .ok (.getfield 142, 3) := by decide +kernel
theorem d_135_44 : decode prog_1_method_48_code 44 = .ok (.iastore, 1) := by decide +kernel
theorem d_135_45 : decode prog_1_method_48_code 45 = .ok (.aload_n 0, 1) := by decide +kernel
theorem d_135_46 : decode prog_1_method_48_code 46 = .ok (.getfield 53, 3) := by decide +kernel
theorem d_135_49 : decode prog_1_method_48_code 49 = .ok (.iconst 4, 1) := by decide +kernel
theorem d_135_50 : decode prog_1_method_48_code 50 = .ok (.aload_n 0, 1) := by decide +kernel
theorem d_135_51 : decode prog_1_method_48_code 51 = .ok (.getfield 10, 3) := by decide +kernel
theorem d_135_54 : decode prog_1_method_48_code 54 = .ok (.iload_n 1, 1) := by decide +kernel
theorem d_135_55 : decode prog_1_method_48_code 55 = .ok (.invokevirtual 135, 3) := by decide +kernel
theorem d_135_58 : decode prog_1_method_48_code 58 = .ok (.iastore, 1) := by decide +kernel
theorem d_135_59 : decode prog_1_method_48_code 59 = .ok (.aload_n 0, 1) := by decide +kernel
theorem d_135_60 : decode prog_1_method_48_code 60 = .ok (.getfield 53, 3) := by decide +kernel
theorem d_135_63 : decode prog_1_method_48_code 63 = .ok (.iconst 5, 1) := by decide +kernel
theorem d_135_64 : decode prog_1_method_48_code 64 = .ok (.iload_n 1, 1) := by decide +kernel
theorem d_135_65 : decode prog_1_method_48_code 65 = .ok (.iastore, 1) := by decide +kernel
theorem d_135_66 : decode prog_1_method_48_code 66 = .ok (.return_, 1) := by decide +kernel
theorem s_135_66 {Γ : m_G} : m_ok Γ m_tab 135 M_135 66 (g_135_66) := ok_rv (pc := 66) d_135_66 rfl
theorem s_135_0 {Γ : m_G} : m_ok Γ m_tab 135 M_135 0 (g_135_0) := ok_al_n (pc := 0) d_135_0 rfl (ok_getf (pc := 1) d_135_1 w_362 (hc1 fo_68) (ok_ic (pc := 4) d_135_4 rfl (ok_il_n (pc := 5) d_135_5 rfl (ok_iast (pc := 6) d_135_6 (ok_al_n (pc := 7) d_135_7 rfl (ok_getf (pc := 8) d_135_8 w_362 (hc1 fo_68) (ok_ic (pc := 11) d_135_11 rfl (ok_il_n (pc := 12) d_135_12 rfl (ok_iast (pc := 13) d_135_13 (ok_al_n (pc := 14) d_135_14 rfl (ok_getf (pc := 15) d_135_15 w_362 (hc1 fo_68) (ok_ic (pc := 18) d_135_18 rfl (ok_al_n (pc := 19) d_135_19 rfl (ok_getf (pc := 20) d_135_20 w_352 (hc1 fo_52) (ok_getf (pc := 23) d_135_23 w_55 (hc1 fo_27) (ok_il_n (pc := 26) d_135_26 rfl (ok_iald (pc := 27) d_135_27 (ok_cat (pc := 28) (k2 := 225) rfl tb_225 (by decide) (by decide) rfl (go_S d_135_28 w_612 w_613 w_19 w_614 nn_225 (by decide)) (ok_iast (pc := 31) d_135_31 (ok_al_n (pc := 32) d_135_32 rfl (ok_getf (pc := 33) d_135_33 w_362 (hc1 fo_68) (ok_ic (pc := 36) d_135_36 rfl (ok_al_n (pc := 37) d_135_37 rfl (ok_getf (pc := 38) d_135_38 w_352 (hc1 fo_52) (ok_getf (pc := 41) d_135_41 w_66 (hc1 fo_48) (ok_iast (pc := 44) d_135_44 (ok_al_n (pc := 45) d_135_45 rfl (ok_getf (pc := 46) d_135_46 w_362 (hc1 fo_68) (ok_ic (pc := 49) d_135_49 rfl (ok_al_n (pc := 50) d_135_50 rfl (ok_getf (pc := 51) d_135_51 w_352 (hc1 fo_52) (ok_il_n (pc := 54) d_135_54 rfl (ok_cai (pc := 55) (k2 := 84) rfl rfl tb_84 (by decide) (by decide) rfl (go_V d_135_55 w_435 w_436 w_437 w_2 w_438 nn_84 (by decide) cl_10 rfl) (ok_iast (pc := 58) d_135_58 (ok_al_n (pc := 59) d_135_59 rfl (ok_getf (pc := 60) d_135_60 w_362 (hc1 fo_68) (ok_ic (pc := 63) d_135_63 rfl (ok_il_n (pc := 64) d_135_64 rfl (ok_iast (pc := 65) d_135_65 (s_135_66))))))))))))))))))))))))))))))))))))))))
theorem tst_135 {Γ : m_G} (q : Nat) : m_ts Γ (t_135 q) q := ts_l (k := 135) (pc := 0) tb_135 rfl (by decide) s_135_0
theorem d_136_0 : decode prog_1_method_49_code 0 = .ok (.iconst 0, 1) := by decide +kernel
theorem d_136_1 : decode prog_1_method_49_code 1 = .ok (.iload_n 1, 1) := by decide +kernel
theorem d_136_2 : decode prog_1_method_49_code 2 = .ok (.iload_n 0, 1) := by decide +kernel
theorem d_136_3 : decode prog_1_method_49_code 3 = .ok (.invokestatic 191, 3) := by decide +kernel
theorem d_136_6 : decode prog_1_method_49_code 6 = .ok (.invokestatic 169, 3) := by decide +kernel
theorem d_136_9 : decode prog_1_method_49_code 9 = .ok (.ireturn, 1) := by decide +kernel
theorem s_136_0 {Γ : m_G} : m_ok Γ m_tab 136 M_136 0 (g_136_0) := ok_ic (pc := 0) d_136_0 rfl (ok_il_n (pc := 1) d_136_1 rfl (ok_il_n (pc := 2) d_136_2 rfl (ok_min (pc := 3) d_136_3 w_633 w_634 w_18 w_635 (ok_max (pc := 6) d_136_6 w_564 w_565 w_18 w_566 (ok_ri (pc := 9) d_136_9 rfl)))))
theorem tst_136 {Γ : m_G} (q : Nat) : m_ts Γ (t_136 q) q := ts_l (k := 136) (pc := 0) tb_136 rfl (by decide) s_136_0
theorem d_137_0 : decode prog_1_method_50_code 0 = .ok (.aload_n 0, 1) := by decide +kernel
theorem d_137_1 : decode prog_1_method_50_code 1 = .ok (.getfield 24, 3) := by decide +kernel
theorem d_137_4 : decode prog_1_method_50_code 4 = .ok (.getfield 348, 3) := by decide +kernel
theorem d_137_7 : decode prog_1_method_50_code 7 = .ok (.ifCond .eq 4, 3) := by decide +kernel
theorem d_137_10 : decode prog_1_method_50_code 10 = .ok (.return_, 1) := by decide +kernel
theorem d_137_11 : decode prog_1_method_50_code 11 = .ok (.iconst 0, 1) := by decide +kernel
theorem d_137_12 : decode prog_1_method_50_code 12 = .ok (.istore_n 1, 1) := by decide +kernel
theorem d_137_13 : decode prog_1_method_50_code 13 = .ok (.iload_n 1, 1) := by decide +kernel
theorem d_137_14 : decode prog_1_method_50_code 14 = .ok (.aload_n 0, 1) := by decide +kernel
theorem d_137_15 : decode prog_1_method_50_code 15 = .ok (.getfield 10, 3) := by decide +kernel
theorem d_137_18 : decode prog_1_method_50_code 18 = .ok (.getfield 91, 3) := by decide +kernel
theorem d_137_21 : decode prog_1_method_50_code 21 = .ok (.if_icmp .ge 74, 3) := by decide +kernel
theorem d_137_24 : decode prog_1_method_50_code 24 = .ok (.iconst 0, 1) := by decide +kernel
theorem d_137_25 : decode prog_1_method_50_code 25 = .ok (.istore_n 2, 1) := by decide +kernel
theorem d_137_26 : decode prog_1_method_50_code 26 = .ok (.iload_n 2, 1) := by decide +kernel
theorem d_137_27 : decode prog_1_method_50_code 27 = .ok (.aload_n 0, 1) := by decide +kernel
theorem d_137_28 : decode prog_1_method_50_code 28 = .ok (.getfield 10, 3) := by decide +kernel
theorem d_137_31 : decode prog_1_method_50_code 31 = .ok (.getfield 244, 3) := by decide +kernel
theorem d_137_34 : decode prog_1_method_50_code 34 = .ok (.if_icmp .ge 55, 3) := by decide +kernel
theorem d_137_37 : decode prog_1_method_50_code 37 = .ok (.iconst 0, 1) := by decide +kernel
theorem d_137_38 : decode prog_1_method_50_code 38 = .ok (.istore_n 3, 1) := by decide +kernel
theorem d_137_39 : decode prog_1_method_50_code 39 = .ok (.iload_n 3, 1) := by decide +kernel
theorem d_137_40 : decode prog_1_method_50_code 40 = .ok (.aload_n 0, 1) := by decide +kernel
theorem d_137_41 : decode prog_1_method_50_code 41 = .ok (.getfield 10, 3) := by decide +kernel
theorem d_137_44 : decode prog_1_method_50_code 44 = .ok (.getfield 244, 3) := by decide +kernel
theorem d_137_47 : decode prog_1_method_50_code 47 = .ok (.if_icmp .ge 36, 3) := by decide +kernel
theorem d_137_50 : decode prog_1_method_50_code 50 = .ok (.aload_n 0, 1) := by decide +kernel
theorem d_137_51 : decode prog_1_method_50_code 51 = .ok (.getfield 24, 3) := by decide +kernel
theorem d_137_54 : decode prog_1_method_50_code 54 = .ok (.iload_n 1, 1) := by decide +kernel
theorem d_137_55 : decode prog_1_method_50_code 55 = .ok (.iload_n 2, 1) := by decide +kernel
theorem d_137_56 : decode prog_1_method_50_code 56 = .ok (.iload_n 3, 1) := by decide +kernel
theorem d_137_57 : decode prog_1_method_50_code 57 = .ok (.iload_n 2, 1) := by decide +kernel
theorem d_137_58 : decode prog_1_method_50_code 58 = .ok (.iload_n 3, 1) := by decide +kernel
theorem d_137_59 : decode prog_1_method_50_code 59 = .ok (.if_icmp .ne 8, 3) := by decide +kernel
theorem d_137_62 : decode prog_1_method_50_code 62 = .ok (.bipush (-5), 2) := by decide +kernel
theorem d_137_64 : decode prog_1_method_50_code 64 = .ok (.goto 10, 3) := by decide +kernel
theorem d_137_67 : decode prog_1_method_50_code 67 = .ok (.aload_n 0, 1) := by decide +kernel
theorem d_137_68 : decode prog_1_method_50_code 68 = .ok (.iload_n 1, 1) := by decide +kernel
theorem d_137_69 : decode prog_1_method_50_code 69 = .ok (.iload_n 2, 1) := by decide +kernel
theorem d_137_70 : decode prog_1_method_50_code 70 = .ok (.iload_n 3, 1) := by decide +kernel
theorem d_137_71 : decode prog_1_method_50_code 71 = .ok (.invokevirtual 318, 3) := by decide +kernel
theorem d_137_74 : decode prog_1_method_50_code 74 = .ok (.invokevirtual 351, 3) := by decide +kernel
theorem d_137_77 : decode prog_1_method_50_code 77 = .ok (.iinc 3 1, 3) := by decide +kernel
theorem d_137_80 : decode prog_1_method_50_code 80 = .ok (.goto (-41), 3) := by decide +kernel
theorem d_137_83 : decode prog_1_method_50_code 83 = .ok (.iinc 2 1, 3) := by decide +kernel
theorem d_137_86 : decode prog_1_method_50_code 86 = .ok (.goto (-60), 3) := by decide +kernel
theorem d_137_89 : decode prog_1_method_50_code 89 = .ok (.iinc 1 1, 3) := by decide +kernel
theorem d_137_92 : decode prog_1_method_50_code 92 = .ok (.goto (-79), 3) := by decide +kernel
theorem d_137_95 : decode prog_1_method_50_code 95 = .ok (.aload_n 0, 1) := by decide +kernel
theorem d_137_96 : decode prog_1_method_50_code 96 = .ok (.getfield 24, 3) := by decide +kernel
theorem d_137_99 : decode prog_1_method_50_code 99 = .ok (.iconst 1, 1) := by decide +kernel
theorem d_137_100 : decode prog_1_method_50_code 100 = .ok (.putfield 348, 3) := by decide +kernel
theorem d_137_103 : decode prog_1_method_50_code 103 = .ok (.return_, 1) := by decide +kernel
theorem s_137_95 {Γ : m_G} : m_ok Γ m_tab 137 M_137 95 (g_137_95) := ok_al_n (pc := 95) d_137_95 rfl (ok_getf (pc := 96) d_137_96 w_355 (hc1 fo_53) (ok_ic (pc := 99) d_137_99 rfl (ok_putfN (host := "NeverLike") (pc := 100) d_137_100 (by decide +kernel) (hc1 ⟨_, _, _, tyX5, cl_5, in_5, by decide, rfl, rfl, rfl, tyX5_ok, nmX5, Or.inl rfl⟩) (by decide +kernel) pd_4 vt_Z (ok_rv (pc := 103) d_137_103 rfl))))
theorem s_137_89 {Γ : m_G} : m_ok Γ m_tab 137 M_137 89 (g_137_89) := ok_inc (pc := 89) d_137_89 rfl (by decide) (ok_go (pc := 92) (t := 13) d_137_92 rfl (by decide) rfl)
theorem s_137_83 {Γ : m_G} : m_ok Γ m_tab 137 M_137 83 (g_137_83) := ok_inc (pc := 83) d_137_83 rfl (by decide) (ok_go (pc := 86) (t := 26) d_137_86 rfl (by decide) rfl)
theorem s_137_74 {Γ : m_G} : m_ok Γ m_tab 137 M_137 74 (g_137_74) := ok_cvi (pc := 74) (k2 := 38) rfl rfl tb_38 (by decide) (by decide) rfl (go_V d_137_74 w_655 w_656 w_657 w_3 w_658 nn_38 (by decide) cl_5 rfl) (ok_inc (pc := 77) d_137_77 rfl (by decide) (ok_go (pc := 80) (t := 39) d_137_80 rfl (by decide) rfl))
theorem s_137_67 {Γ : m_G} : m_ok Γ m_tab 137 M_137 67 (g_137_67) := ok_al_n (pc := 67) d_137_67 rfl (ok_il_n (pc := 68) d_137_68 rfl (ok_il_n (pc := 69) d_137_69 rfl (ok_il_n (pc := 70) d_137_70 rfl (ok_cai (pc := 71) (k2 := 131) rfl rfl tb_131 (by decide) (by decide) rfl (go_V d_137_71 w_600 w_602 ws_20 w_1 w_603 nn_131 (by decide) cl_11 rfl) (s_137_74)))))
theorem s_137_39 {Γ : m_G} : m_ok Γ m_tab 137 M_137 39 (g_137_39) := ok_il_n (pc := 39) d_137_39 rfl (ok_al_n (pc := 40) d_137_40 rfl (ok_getf (pc := 41) d_137_41 w_352 (hc1 fo_52) (ok_getf (pc := 44) d_137_44 w_51 (hc1 fo_24) (ok_cige (pc := 47) (t := 83) d_137_47 rfl (by decide) rfl (ok_al_n (pc := 50) d_137_50 rfl (ok_getf (pc := 51) d_137_51 w_355 (hc1 fo_53) (ok_il_n (pc := 54) d_137_54 rfl (ok_il_n (pc := 55) d_137_55 rfl (ok_il_n (pc := 56) d_137_56 rfl (ok_il_n (pc := 57) d_137_57 rfl (ok_il_n (pc := 58) d_137_58 rfl (ok_cine (pc := 59) (t := 67) d_137_59 rfl (by decide) rfl (ok_bi (pc := 62) d_137_62 rfl (ok_go (pc := 64) (t := 74) d_137_64 rfl (by decide) rfl))))))))))))))
theorem s_137_26 {Γ : m_G} : m_ok Γ m_tab 137 M_137 26 (g_137_26) := ok_il_n (pc := 26) d_137_26 rfl (ok_al_n (pc := 27) d_137_27 rfl (ok_getf (pc := 28) d_137_28 w_352 (hc1 fo_52) (ok_getf (pc := 31) d_137_31 w_51 (hc1 fo_24) (ok_cige (pc := 34) (t := 89) d_137_34 rfl (by decide) rfl (ok_ic (pc := 37) d_137_37 rfl (ok_is_n (pc := 38) d_137_38 rfl (by decide) (s_137_39)))))))
theorem s_137_13 {Γ : m_G} : m_ok Γ m_tab 137 M_137 13 (g_137_13) := ok_il_n (pc := 13) d_137_13 rfl (ok_al_n (pc := 14) d_137_14 rfl (ok_getf (pc := 15) d_137_15 w_352 (hc1 fo_52) (ok_getf (pc := 18) d_137_18 w_47 (hc1 fo_28) (ok_cige (pc := 21) (t := 95) d_137_21 rfl (by decide) rfl (ok_ic (pc := 24) d_137_24 rfl (ok_is_n (pc := 25) d_137_25 rfl (by decide) (s_137_26)))))))
theorem s_137_11 {Γ : m_G} : m_ok Γ m_tab 137 M_137 11 (g_137_11) := ok_ic (pc := 11) d_137_11 rfl (ok_is_n (pc := 12) d_137_12 rfl (by decide) (s_137_13))
theorem s_137_0 {Γ : m_G} : m_ok Γ m_tab 137 M_137 0 (g_137_0) := ok_al_n (pc := 0) d_137_0 rfl (ok_getf (pc := 1) d_137_1 w_355 (hc1 fo_53) (ok_getfN (host := "NeverLike") (pc := 4) d_137_4 (by decide +kernel) (hc1 fo_69) (ok_czeq (pc := 7) (t := 11) d_137_7 rfl (by decide) rfl (ok_rv (pc := 10) d_137_10 rfl))))
theorem tst_137 {Γ : m_G} (q : Nat) : m_ts Γ (t_137 q) q := ts_n (ts_n (ts_n (ts_l (k := 137) (pc := 0) tb_137 rfl (by decide) s_137_0) (ts_l (k := 137) (pc := 11) tb_137 rfl (by decide) s_137_11)) (ts_n (ts_l (k := 137) (pc := 13) tb_137 rfl (by decide) s_137_13) (ts_n (ts_l (k := 137) (pc := 26) tb_137 rfl (by decide) s_137_26) (ts_l (k := 137) (pc := 39) tb_137 rfl (by decide) s_137_39)))) (ts_n (ts_n (ts_l (k := 137) (pc := 67) tb_137 rfl (by decide) s_137_67) (ts_l (k := 137) (pc := 74) tb_137 rfl (by decide) s_137_74)) (ts_n (ts_l (k := 137) (pc := 83) tb_137 rfl (by decide) s_137_83) (ts_n (ts_l (k := 137) (pc := 89) tb_137 rfl (by decide) s_137_89) (ts_l (k := 137) (pc := 95) tb_137 rfl (by decide) s_137_95))))
theorem d_138_0 : decode prog_1_method_51_code 0 = .ok (.aload_n 0, 1) := by decide +kernel
theorem d_138_1 : decode prog_1_method_51_code 1 = .ok (.invokevirtual 194, 3) := by decide +kernel
theorem d_138_4 : decode prog_1_method_51_code 4 = .ok (.aload_n 0, 1) := by decide +kernel
theorem d_138_5 : decode prog_1_method_51_code 5 = .ok (.getfield 24, 3) := by decide +kernel
theorem d_138_8 : decode prog_1_method_51_code 8 = .ok (.aload_n 0, 1) := by decide +kernel
theorem d_138_9 : decode prog_1_method_51_code 9 = .ok (.getfield 10, 3) := by decide +kernel
theorem d_138_12 : decode prog_1_method_51_code 12 = .ok (.aload_n 0, 1) := by decide +kernel
theorem d_138_13 : decode prog_1_method_51_code 13 = .ok (.getfield 10, 3) := by decide +kernel
theorem d_138_16 : decode prog_1_method_51_code 16 = .ok (.getfield 129, 3) := by decide +kernel
theorem d_138_19 : decode prog_1_method_51_code 19 = .ok (.invokevirtual 236, 3) := by decide +kernel
theorem d_138_22 : decode prog_1_method_51_code 22 = .ok (.invokevirtual 240, 3) := by decide +kernel
theorem d_138_25 : decode prog_1_method_51_code 25 = .ok (.return_, 1) := by decide +kernel
theorem s_138_0 {Γ : m_G} : m_ok Γ m_tab 138 M_138 0 (g_138_0) := ok_al_n (pc := 0) d_138_0 rfl (ok_cvi (pc := 1) (k2 := 137) rfl rfl tb_137 (by decide) (by decide) rfl (go_V d_138_1 w_651 w_653 ws_25 w_1 w_654 nn_137 (by decide) cl_11 rfl) (ok_al_n (pc := 4) d_138_4 rfl (ok_getf (pc := 5) d_138_5 w_355 (hc1 fo_53) (ok_al_n (pc := 8) d_138_8 rfl (ok_getf (pc := 9) d_138_9 w_352 (hc1 fo_52) (ok_al_n (pc := 12) d_138_12 rfl (ok_getf (pc := 13) d_138_13 w_352 (hc1 fo_52) (ok_getf (pc := 16) d_138_16 w_58 (hc1 fo_31) (ok_cai (pc := 19) (k2 := 87) rfl rfl tb_87 (by decide) (by decide) rfl (go_V d_138_19 w_700 w_701 w_702 w_2 w_703 nn_87 (by decide) cl_10 rfl) (ok_cvi (pc := 22) (k2 := 40) rfl rfl tb_40 (by decide) (by decide) rfl (go_V d_138_22 w_704 w_705 w_706 w_3 w_707 nn_40 (by decide) cl_5 rfl) (ok_rv (pc := 25) d_138_25 rfl)))))))))))
theorem tst_138 {Γ : m_G} (q : Nat) : m_ts Γ (t_138 q) q := ts_l (k := 138) (pc := 0) tb_138 rfl (by decide) s_138_0
