theorem d_41_0 : decode prog_7_method_6_code 0 = .ok (.aload_n 0, 1) := by decide +kernel
theorem d_41_1 : decode prog_7_method_6_code 1 = .ok (.iconst (-1), 1) := by decide +kernel
theorem d_41_2 : decode prog_7_method_6_code 2 = .ok (.putfield 18, 3) := by decide +kernel
theorem d_41_5 : decode prog_7_method_6_code 5 = .ok (.aload_n 0, 1) := by decide +kernel
theorem d_41_6 : decode prog_7_method_6_code 6 = .ok (.iconst 0, 1) := by decide +kernel
theorem d_41_7 : decode prog_7_method_6_code 7 = .ok (.putfield 63, 3) := by decide +kernel
theorem d_41_10 : decode prog_7_method_6_code 10 = .ok (.aload_n 0, 1) := by decide +kernel
theorem d_41_11 : decode prog_7_method_6_code 11 = .ok (.iconst 0, 1) := by decide +kernel
theorem d_41_12 : decode prog_7_method_6_code 12 = .ok (.putfield 66, 3) := by decide +kernel
theorem d_41_15 : decode prog_7_method_6_code 15 = .ok (.aload_n 0, 1) := by decide +kernel
theorem d_41_16 : decode prog_7_method_6_code 16 = .ok (.getfield 22, 3) := by decide +kernel
theorem d_41_19 : decode prog_7_method_6_code 19 = .ok (.arraylength, 1) := by decide +kernel
theorem d_41_20 : decode prog_7_method_6_code 20 = .ok (.aload_n 0, 1) := by decide +kernel
theorem d_41_21 : decode prog_7_method_6_code 21 = .ok (.getfield 38, 3) := by decide +kernel
theorem d_41_24 : decode prog_7_method_6_code 24 = .ok (.getfield 69, 3) := by decide +kernel
theorem d_41_27 : decode prog_7_method_6_code 27 = .ok (.if_icmp .ge 68, 3) := by decide +kernel
theorem d_41_30 : decode prog_7_method_6_code 30 = .ok (.aload_n 0, 1) := by decide +kernel
theorem d_41_31 : decode prog_7_method_6_code 31 = .ok (.aload_n 0, 1) := by decide +kernel
theorem d_41_32 : decode prog_7_method_6_code 32 = .ok (.getfield 38, 3) := by decide +kernel
theorem d_41_35 : decode prog_7_method_6_code 35 = .ok (.getfield 69, 3) := by decide +kernel
theorem d_41_38 : decode prog_7_method_6_code 38 = .ok (.newarray .int, 2) := by decide +kernel
theorem d_41_40 : decode prog_7_method_6_code 40 = .ok (.putfield 22, 3) := by decide +kernel
theorem d_41_43 : decode prog_7_method_6_code 43 = .ok (.aload_n 0, 1) := by decide +kernel
theorem d_41_44 : decode prog_7_method_6_code 44 = .ok (.aload_n 0, 1) := by decide +kernel
theorem d_41_45 : decode prog_7_method_6_code 45 = .ok (.getfield 38, 3) := by decide +kernel
theorem d_41_48 : decode prog_7_method_6_code 48 = .ok (.getfield 69, 3) := by decide +kernel
theorem d_41_51 : decode prog_7_method_6_code 51 = .ok (.newarray .int, 2) := by decide +kernel
theorem d_41_53 : decode prog_7_method_6_code 53 = .ok (.putfield 25, 3) := by decide +kernel
theorem d_41_56 : decode prog_7_method_6_code 56 = .ok (.aload_n 0, 1) := by decide +kernel
theorem d_41_57 : decode prog_7_method_6_code 57 = .ok (.aload_n 0, 1) := by decide +kernel
theorem d_41_58 : decode prog_7_method_6_code 58 = .ok (.getfield 38, 3) := by decide +kernel
theorem d_41_61 : decode prog_7_method_6_code 61 = .ok (.getfield 69, 3) := by decide +kernel
theorem d_41_64 : decode prog_7_method_6_code 64 = .ok (.newarray .int, 2) := by decide +kernel
theorem d_41_66 : decode prog_7_method_6_code 66 = .ok (.putfield 28, 3) := by decide +kernel
theorem d_41_69 : decode prog_7_method_6_code 69 = .ok (.aload_n 0, 1) := by decide +kernel
theorem d_41_70 : decode prog_7_method_6_code 70 = .ok (.aload_n 0, 1) := by decide +kernel
theorem d_41_71 : decode prog_7_method_6_code 71 = .ok (.getfield 38, 3) := by decide +kernel
theorem d_41_74 : decode prog_7_method_6_code 74 = .ok (.getfield 69, 3) := by decide +kernel
theorem d_41_77 : decode prog_7_method_6_code 77 = .ok (.newarray .int, 2) := by decide +kernel
theorem d_41_79 : decode prog_7_method_6_code 79 = .ok (.putfield 31, 3) := by decide +kernel
theorem d_41_82 : decode prog_7_method_6_code 82 = .ok (.aload_n 0, 1) := by decide +kernel
theorem d_41_83 : decode prog_7_method_6_code 83 = .ok (.aload_n 0, 1) := by decide +kernel
theorem d_41_84 : decode prog_7_method_6_code 84 = .ok (.getfield 38, 3) := by decide +kernel
theorem d_41_87 : decode prog_7_method_6_code 87 = .ok (.getfield 69, 3) := by decide +kernel
theorem d_41_90 : decode prog_7_method_6_code 90 = .ok (.newarray .boolean, 2) := by decide +kernel
theorem d_41_92 : decode prog_7_method_6_code 92 = .ok (.putfield 34, 3) := by decide +kernel
theorem d_41_95 : decode prog_7_method_6_code 95 = .ok (.iconst 0, 1) := by decide +kernel
theorem d_41_96 : decode prog_7_method_6_code 96 = .ok (.istore_n 1, 1) := by decide +kernel
theorem d_41_97 : decode prog_7_method_6_code 97 = .ok (.iload_n 1, 1) := by decide +kernel
theorem d_41_98 : decode prog_7_method_6_code 98 = .ok (.aload_n 0, 1) := by decide +kernel
theorem d_41_99 : decode prog_7_method_6_code 99 = .ok (.getfield 38, 3) := by decide +kernel
theorem d_41_102 : decode prog_7_method_6_code 102 = .ok (.getfield 69, 3) := by decide +kernel
theorem d_41_105 : decode prog_7_method_6_code 105 = .ok (.if_icmp .ge 16, 3) := by decide +kernel
theorem d_41_108 : decode prog_7_method_6_code 108 = .ok (.aload_n 0, 1) := by decide +kernel
theorem d_41_109 : decode prog_7_method_6_code 109 = .ok (.getfield 25, 3) := by decide +kernel
theorem d_41_112 : decode prog_7_method_6_code 112 = .ok (.iload_n 1, 1) := by decide +kernel
theorem d_41_113 : decode prog_7_method_6_code 113 = .ok (.iconst (-1), 1) := by decide +kernel
theorem d_41_114 : decode prog_7_method_6_code 114 = .ok (.iastore, 1) := by decide +kernel
theorem d_41_115 : decode prog_7_method_6_code 115 = .ok (.iinc 1 1, 3) := by decide +kernel
theorem d_41_118 : decode prog_7_method_6_code 118 = .ok (.goto (-21), 3) := by decide +kernel
theorem d_41_121 : decode prog_7_method_6_code 121 = .ok (.return_, 1) := by decide +kernel
theorem s_41_121 {Γ : m_G} : m_ok Γ m_tab 41 M_41 121 (g_41_121) := ok_rv (pc := 121) d_41_121 rfl
theorem s_41_97 {Γ : m_G} : m_ok Γ m_tab 41 M_41 97 (g_41_97) := ok_il_n (pc := 97) d_41_97 rfl (ok_al_n (pc := 98) d_41_98 rfl (ok_getf (pc := 99) d_41_99 w_95 (hc1 fo_17) (ok_getf (pc := 102) d_41_102 w_53 (hc1 fo_20) (ok_cige (pc := 105) (t := 121) d_41_105 rfl (by decide) rfl (ok_al_n (pc := 108) d_41_108 rfl (ok_getf (pc := 109) d_41_109 w_104 (hc1 fo_19) (ok_il_n (pc := 112) d_41_112 rfl (ok_ic (pc := 113) d_41_113 rfl (ok_iast (pc := 114) d_41_114 (ok_inc (pc := 115) d_41_115 rfl (by decide) (ok_go (pc := 118) (t := 97) d_41_118 rfl (by decide) rfl)))))))))))
theorem s_41_95 {Γ : m_G} : m_ok Γ m_tab 41 M_41 95 (g_41_95) := ok_ic (pc := 95) d_41_95 rfl (ok_is_n (pc := 96) d_41_96 rfl (by decide) (s_41_97))
theorem s_41_82 {Γ : m_G} : m_ok Γ m_tab 41 M_41 82 (g_41_82) := ok_al_n (pc := 82) d_41_82 rfl (ok_al_n (pc := 83) d_41_83 rfl (ok_getf (pc := 84) d_41_84 w_95 (hc1 fo_17) (ok_getf (pc := 87) d_41_87 w_53 (hc1 fo_20) (ok_newa (pc := 90) d_41_90 rfl w_134 (ok_putf (pc := 92) d_41_92 w_107 (hc1 ⟨_, _, _, tyX5, cl_5, in_5, by decide, rfl, rfl, rfl, tyX5_ok, nmX5, Or.inl rfl⟩) pd_3 vt_A (s_41_95))))))
theorem s_41_0 {Γ : m_G} : m_ok Γ m_tab 41 M_41 0 (g_41_0) := ok_al_n (pc := 0) d_41_0 rfl (ok_ic (pc := 1) d_41_1 rfl (ok_putf (pc := 2) d_41_2 w_100 (hc1 ⟨_, _, _, tyX5, cl_5, in_5, by decide, rfl, rfl, rfl, tyX5_ok, nmX5, Or.inl rfl⟩) pd_0 vt_I (ok_al_n (pc := 5) d_41_5 rfl (ok_ic (pc := 6) d_41_6 rfl (ok_putf (pc := 7) d_41_7 w_102 (hc1 ⟨_, _, _, tyX5, cl_5, in_5, by decide, rfl, rfl, rfl, tyX5_ok, nmX5, Or.inl rfl⟩) pd_0 vt_I (ok_al_n (pc := 10) d_41_10 rfl (ok_ic (pc := 11) d_41_11 rfl (ok_putf (pc := 12) d_41_12 w_108 (hc1 ⟨_, _, _, tyX5, cl_5, in_5, by decide, rfl, rfl, rfl, tyX5_ok, nmX5, Or.inl rfl⟩) pd_4 vt_Z (ok_al_n (pc := 15) d_41_15 rfl (ok_getf (pc := 16) d_41_16 w_101 (hc1 fo_21) (ok_len (pc := 19) d_41_19 (ok_al_n (pc := 20) d_41_20 rfl (ok_getf (pc := 21) d_41_21 w_95 (hc1 fo_17) (ok_getf (pc := 24) d_41_24 w_53 (hc1 fo_20) (ok_cige (pc := 27) (t := 95) d_41_27 rfl (by decide) rfl (ok_al_n (pc := 30) d_41_30 rfl (ok_al_n (pc := 31) d_41_31 rfl (ok_getf (pc := 32) d_41_32 w_95 (hc1 fo_17) (ok_getf (pc := 35) d_41_35 w_53 (hc1 fo_20) (ok_newa (pc := 38) d_41_38 rfl w_88 (ok_putf (pc := 40) d_41_40 w_101 (hc1 ⟨_, _, _, tyX5, cl_5, in_5, by decide, rfl, rfl, rfl, tyX5_ok, nmX5, Or.inl rfl⟩) pd_1 vt_A (ok_al_n (pc := 43) d_41_43 rfl (ok_al_n (pc := 44) d_41_44 rfl (ok_getf (pc := 45) d_41_45 w_95 (hc1 fo_17) (ok_getf (pc := 48) d_41_48 w_53 (hc1 fo_20) (ok_newa (pc := 51) d_41_51 rfl w_88 (ok_putf (pc := 53) d_41_53 w_104 (hc1 ⟨_, _, _, tyX5, cl_5, in_5, by decide, rfl, rfl, rfl, tyX5_ok, nmX5, Or.inl rfl⟩) pd_1 vt_A (ok_al_n (pc := 56) d_41_56 rfl (ok_al_n (pc := 57) d_41_57 rfl (ok_getf (pc := 58) d_41_58 w_95 (hc1 fo_17) (ok_getf (pc := 61) d_41_61 w_53 (hc1 fo_20) (ok_newa (pc := 64) d_41_64 rfl w_88 (ok_putf (pc := 66) d_41_66 w_105 (hc1 ⟨_, _, _, tyX5, cl_5, in_5, by decide, rfl, rfl, rfl, tyX5_ok, nmX5, Or.inl rfl⟩) pd_1 vt_A (ok_al_n (pc := 69) d_41_69 rfl (ok_al_n (pc := 70) d_41_70 rfl (ok_getf (pc := 71) d_41_71 w_95 (hc1 fo_17) (ok_getf (pc := 74) d_41_74 w_53 (hc1 fo_20) (ok_newa (pc := 77) d_41_77 rfl w_88 (ok_putf (pc := 79) d_41_79 w_106 (hc1 ⟨_, _, _, tyX5, cl_5, in_5, by decide, rfl, rfl, rfl, tyX5_ok, nmX5, Or.inl rfl⟩) pd_1 vt_A (s_41_82))))))))))))))))))))))))))))))))))))))))
theorem tst_41 {Γ : m_G} (q : Nat) : m_ts Γ (t_41 q) q := ts_n (ts_n (ts_l (k := 41) (pc := 0) tb_41 rfl (by decide) s_41_0) (ts_l (k := 41) (pc := 95) tb_41 rfl (by decide) s_41_95)) (ts_n (ts_l (k := 41) (pc := 97) tb_41 rfl (by decide) s_41_97) (ts_l (k := 41) (pc := 121) tb_41 rfl (by decide) s_41_121))
theorem d_42_0 : decode prog_7_method_7_code 0 = .ok (.aload_n 0, 1) := by decide +kernel
theorem d_42_1 : decode prog_7_method_7_code 1 = .ok (.getfield 63, 3) := by decide +kernel
theorem d_42_4 : decode prog_7_method_7_code 4 = .ok (.istore_n 3, 1) := by decide +kernel
theorem d_42_5 : decode prog_7_method_7_code 5 = .ok (.aload_n 0, 1) := by decide +kernel
theorem d_42_6 : decode prog_7_method_7_code 6 = .ok (.iconst (-1), 1) := by decide +kernel
theorem d_42_7 : decode prog_7_method_7_code 7 = .ok (.iload_n 1, 1) := by decide +kernel
theorem d_42_8 : decode prog_7_method_7_code 8 = .ok (.invokevirtual 72, 3) := by decide +kernel
theorem d_42_11 : decode prog_7_method_7_code 11 = .ok (.iload_n 3, 1) := by decide +kernel
theorem d_42_12 : decode prog_7_method_7_code 12 = .ok (.aload_n 0, 1) := by decide +kernel
theorem d_42_13 : decode prog_7_method_7_code 13 = .ok (.getfield 63, 3) := by decide +kernel
theorem d_42_16 : decode prog_7_method_7_code 16 = .ok (.if_icmp .ge 27, 3) := by decide +kernel
theorem d_42_19 : decode prog_7_method_7_code 19 = .ok (.iload_n 3, 1) := by decide +kernel
theorem d_42_20 : decode prog_7_method_7_code 20 = .ok (.sipush 4096, 3) := by decide +kernel
theorem d_42_23 : decode prog_7_method_7_code 23 = .ok (.if_icmp .ge 20, 3) := by decide +kernel
theorem d_42_26 : decode prog_7_method_7_code 26 = .ok (.aload_n 0, 1) := by decide +kernel
theorem d_42_27 : decode prog_7_method_7_code 27 = .ok (.aload_n 0, 1) := by decide +kernel
theorem d_42_28 : decode prog_7_method_7_code 28 = .ok (.getfield 22, 3) := by decide +kernel
theorem d_42_31 : decode prog_7_method_7_code 31 = .ok (.iload_n 3, 1) := by decide +kernel
theorem d_42_32 : decode prog_7_method_7_code 32 = .ok (.iaload, 1) := by decide +kernel
theorem d_42_33 : decode prog_7_method_7_code 33 = .ok (.iload_n 2, 1) := by decide +kernel
theorem d_42_34 : decode prog_7_method_7_code 34 = .ok (.invokevirtual 75, 3) := by decide +kernel
theorem d_42_37 : decode prog_7_method_7_code 37 = .ok (.iinc 3 1, 3) := by decide +kernel
theorem d_42_40 : decode prog_7_method_7_code 40 = .ok (.goto (-29), 3) := by decide +kernel
theorem d_42_43 : decode prog_7_method_7_code 43 = .ok (.return_, 1) := by decide +kernel
theorem s_42_43 {Γ : m_G} : m_ok Γ m_tab 42 M_42 43 (g_42_43) := ok_rv (pc := 43) d_42_43 rfl
theorem s_42_11 {Γ : m_G} : m_ok Γ m_tab 42 M_42 11 (g_42_11) := ok_il_n (pc := 11) d_42_11 rfl (ok_al_n (pc := 12) d_42_12 rfl (ok_getf (pc := 13) d_42_13 w_102 (hc1 fo_22) (ok_cige (pc := 16) (t := 43) d_42_16 rfl (by decide) rfl (ok_il_n (pc := 19) d_42_19 rfl (ok_si (pc := 20) d_42_20 rfl (ok_cige (pc := 23) (t := 43) d_42_23 rfl (by decide) rfl (ok_al_n (pc := 26) d_42_26 rfl (ok_al_n (pc := 27) d_42_27 rfl (ok_getf (pc := 28) d_42_28 w_101 (hc1 fo_21) (ok_il_n (pc := 31) d_42_31 rfl (ok_iald (pc := 32) d_42_32 (ok_il_n (pc := 33) d_42_33 rfl (ok_cvi (pc := 34) (k2 := 44) rfl rfl tb_44 (by decide) (by decide) rfl (go_V d_42_34 w_687 w_689 ws_30 w_3 w_690 nn_44 (by decide) cl_5 rfl) (ok_inc (pc := 37) d_42_37 rfl (by decide) (ok_go (pc := 40) (t := 11) d_42_40 rfl (by decide) rfl)))))))))))))))
theorem s_42_0 {Γ : m_G} : m_ok Γ m_tab 42 M_42 0 (g_42_0) := ok_al_n (pc := 0) d_42_0 rfl (ok_getf (pc := 1) d_42_1 w_102 (hc1 fo_22) (ok_is_n (pc := 4) d_42_4 rfl (by decide) (ok_al_n (pc := 5) d_42_5 rfl (ok_ic (pc := 6) d_42_6 rfl (ok_il_n (pc := 7) d_42_7 rfl (ok_cvi (pc := 8) (k2 := 43) rfl rfl tb_43 (by decide) (by decide) rfl (go_V d_42_8 w_679 w_681 ws_29 w_3 w_682 nn_43 (by decide) cl_5 rfl) (s_42_11)))))))
theorem tst_42 {Γ : m_G} (q : Nat) : m_ts Γ (t_42 q) q := ts_n (ts_l (k := 42) (pc := 0) tb_42 rfl (by decide) s_42_0) (ts_n (ts_l (k := 42) (pc := 11) tb_42 rfl (by decide) s_42_11) (ts_l (k := 42) (pc := 43) tb_42 rfl (by decide) s_42_43))
theorem d_43_0 : decode prog_7_method_8_code 0 = .ok (.aload_n 0, 1) := by decide +kernel
theorem d_43_1 : decode prog_7_method_8_code 1 = .ok (.getfield 38, 3) := by decide +kernel
theorem d_43_4 : decode prog_7_method_8_code 4 = .ok (.iload_n 2, 1) := by decide +kernel
theorem d_43_5 : decode prog_7_method_8_code 5 = .ok (.invokevirtual 50, 3) := by decide +kernel
theorem d_43_8 : decode prog_7_method_8_code 8 = .ok (.ifCond .eq 69, 3) := by decide +kernel
theorem d_43_11 : decode prog_7_method_8_code 11 = .ok (.aload_n 0, 1) := by decide +kernel
theorem d_43_12 : decode prog_7_method_8_code 12 = .ok (.getfield 25, 3) := by decide +kernel
theorem d_43_15 : decode prog_7_method_8_code 15 = .ok (.iload_n 2, 1) := by decide +kernel
theorem d_43_16 : decode prog_7_method_8_code 16 = .ok (.iaload, 1) := by decide +kernel
theorem d_43_17 : decode prog_7_method_8_code 17 = .ok (.iconst (-1), 1) := by decide +kernel
theorem d_43_18 : decode prog_7_method_8_code 18 = .ok (.if_icmp .ne 59, 3) := by decide +kernel
theorem d_43_21 : decode prog_7_method_8_code 21 = .ok (.aload_n 0, 1) := by decide +kernel
theorem d_43_22 : decode prog_7_method_8_code 22 = .ok (.getfield 25, 3) := by decide +kernel
theorem d_43_25 : decode prog_7_method_8_code 25 = .ok (.iload_n 2, 1) := by decide +kernel
theorem d_43_26 : decode prog_7_method_8_code 26 = .ok (.aload_n 0, 1) := by decide +kernel
theorem d_43_27 : decode prog_7_method_8_code 27 = .ok (.getfield 38, 3) := by decide +kernel
theorem d_43_30 : decode prog_7_method_8_code 30 = .ok (.iload_n 1, 1) := by decide +kernel
theorem d_43_31 : decode prog_7_method_8_code 31 = .ok (.invokevirtual 50, 3) := by decide +kernel
theorem d_43_34 : decode prog_7_method_8_code 34 = .ok (.ifCond .eq 14, 3) := by decide +kernel
theorem d_43_37 : decode prog_7_method_8_code 37 = .ok (.aload_n 0, 1) := by decide +kernel
theorem d_43_38 : decode prog_7_method_8_code 38 = .ok (.getfield 25, 3) := by decide +kernel
theorem d_43_41 : decode prog_7_method_8_code 41 = .ok (.iload_n 1, 1) := by decide +kernel
theorem d_43_42 : decode prog_7_method_8_code 42 = .ok (.iaload, 1) := by decide +kernel
theorem d_43_43 : decode prog_7_method_8_code 43 = .ok (.iconst 1, 1) := by decide +kernel
theorem d_43_44 : decode prog_7_method_8_code 44 = .ok (.iadd, 1) := by decide +kernel
theorem d_43_45 : decode prog_7_method_8_code 45 = .ok (.goto 4, 3) := by decide +kernel
theorem d_43_48 : decode prog_7_method_8_code 48 = .ok (.iconst 0, 1) := by decide +kernel
theorem d_43_49 : decode prog_7_method_8_code 49 = .ok (.iastore, 1) := by decide +kernel
theorem d_43_50 : decode prog_7_method_8_code 50 = .ok (.aload_n 0, 1) := by decide +kernel
theorem d_43_51 : decode prog_7_method_8_code 51 = .ok (.getfield 28, 3) := by decide +kernel
theorem d_43_54 : decode prog_7_method_8_code 54 = .ok (.iload_n 2, 1) := by decide +kernel
theorem d_43_55 : decode prog_7_method_8_code 55 = .ok (.iload_n 1, 1) := by decide +kernel
theorem d_43_56 : decode prog_7_method_8_code 56 = .ok (.iastore, 1) := by decide +kernel
theorem d_43_57 : decode prog_7_method_8_code 57 = .ok (.aload_n 0, 1) := by decide +kernel
theorem d_43_58 : decode prog_7_method_8_code 58 = .ok (.getfield 22, 3) := by decide +kernel
theorem d_43_61 : decode prog_7_method_8_code 61 = .ok (.aload_n 0, 1) := by decide +kernel
theorem d_43_62 : decode prog_7_method_8_code 62 = .ok (.getfield 63, 3) := by decide +kernel
theorem d_43_65 : decode prog_7_method_8_code 65 = .ok (.iload_n 2, 1) := by decide +kernel
theorem d_43_66 : decode prog_7_method_8_code 66 = .ok (.iastore, 1) := by decide +kernel
theorem d_43_67 : decode prog_7_method_8_code 67 = .ok (.aload_n 0, 1) := by decide +kernel
theorem d_43_68 : decode prog_7_method_8_code 68 = .ok (.dup, 1) := by decide +kernel
theorem d_43_69 : decode prog_7_method_8_code 69 = .ok (.getfield 63, 3) := by decide +kernel
theorem d_43_72 : decode prog_7_method_8_code 72 = .ok (.iconst 1, 1) := by decide +kernel
theorem d_43_73 : decode prog_7_method_8_code 73 = .ok (.iadd, 1) := by decide +kernel
theorem d_43_74 : decode prog_7_method_8_code 74 = .ok (.putfield 63, 3) := by decide +kernel
theorem d_43_77 : decode prog_7_method_8_code 77 = .ok (.return_, 1) := by decide +kernel
theorem s_43_77 {Γ : m_G} : m_ok Γ m_tab 43 M_43 77 (g_43_77) := ok_rv (pc := 77) d_43_77 rfl
theorem s_43_49 {Γ : m_G} : m_ok Γ m_tab 43 M_43 49 (g_43_49) := ok_iast (pc := 49) d_43_49 (ok_al_n (pc := 50) d_43_50 rfl (ok_getf (pc := 51) d_43_51 w_105 (hc1 fo_23) (ok_il_n (pc := 54) d_43_54 rfl (ok_il_n (pc := 55) d_43_55 rfl (ok_iast (pc := 56) d_43_56 (ok_al_n (pc := 57) d_43_57 rfl (ok_getf (pc := 58) d_43_58 w_101 (hc1 fo_21) (ok_al_n (pc := 61) d_43_61 rfl (ok_getf (pc := 62) d_43_62 w_102 (hc1 fo_22) (ok_il_n (pc := 65) d_43_65 rfl (ok_iast (pc := 66) d_43_66 (ok_al_n (pc := 67) d_43_67 rfl (ok_dup (pc := 68) d_43_68 (ok_getf (pc := 69) d_43_69 w_102 (hc1 fo_22) (ok_ic (pc := 72) d_43_72 rfl (ok_add (pc := 73) d_43_73 (ok_putf (pc := 74) d_43_74 w_102 (hc1 ⟨_, _, _, tyX5, cl_5, in_5, by decide, rfl, rfl, rfl, tyX5_ok, nmX5, Or.inl rfl⟩) pd_0 vt_I (s_43_77))))))))))))))))))
theorem s_43_48 {Γ : m_G} : m_ok Γ m_tab 43 M_43 48 (g_43_48) := ok_ic (pc := 48) d_43_48 rfl (s_43_49)
theorem s_43_0 {Γ : m_G} : m_ok Γ m_tab 43 M_43 0 (g_43_0) := ok_al_n (pc := 0) d_43_0 rfl (ok_getf (pc := 1) d_43_1 w_95 (hc1 fo_17) (ok_il_n (pc := 4) d_43_4 rfl (ok_cai (pc := 5) (k2 := 83) rfl rfl tb_83 (by decide) (by decide) rfl (go_V d_43_5 w_683 w_684 w_685 w_2 w_686 nn_83 (by decide) cl_10 rfl) (ok_czeq (pc := 8) (t := 77) d_43_8 rfl (by decide) rfl (ok_al_n (pc := 11) d_43_11 rfl (ok_getf (pc := 12) d_43_12 w_104 (hc1 fo_19) (ok_il_n (pc := 15) d_43_15 rfl (ok_iald (pc := 16) d_43_16 (ok_ic (pc := 17) d_43_17 rfl (ok_cine (pc := 18) (t := 77) d_43_18 rfl (by decide) rfl (ok_al_n (pc := 21) d_43_21 rfl (ok_getf (pc := 22) d_43_22 w_104 (hc1 fo_19) (ok_il_n (pc := 25) d_43_25 rfl (ok_al_n (pc := 26) d_43_26 rfl (ok_getf (pc := 27) d_43_27 w_95 (hc1 fo_17) (ok_il_n (pc := 30) d_43_30 rfl (ok_cai (pc := 31) (k2 := 83) rfl rfl tb_83 (by decide) (by decide) rfl (go_V d_43_31 w_683 w_684 w_685 w_2 w_686 nn_83 (by decide) cl_10 rfl) (ok_czeq (pc := 34) (t := 48) d_43_34 rfl (by decide) rfl (ok_al_n (pc := 37) d_43_37 rfl (ok_getf (pc := 38) d_43_38 w_104 (hc1 fo_19) (ok_il_n (pc := 41) d_43_41 rfl (ok_iald (pc := 42) d_43_42 (ok_ic (pc := 43) d_43_43 rfl (ok_add (pc := 44) d_43_44 (ok_go (pc := 45) (t := 49) d_43_45 rfl (by decide) rfl)))))))))))))))))))))))))
theorem tst_43 {Γ : m_G} (q : Nat) : m_ts Γ (t_43 q) q := ts_n (ts_n (ts_l (k := 43) (pc := 0) tb_43 rfl (by decide) s_43_0) (ts_l (k := 43) (pc := 48) tb_43 rfl (by decide) s_43_48)) (ts_n (ts_l (k := 43) (pc := 49) tb_43 rfl (by decide) s_43_49) (ts_l (k := 43) (pc := 77) tb_43 rfl (by decide) s_43_77))
theorem d_44_0 : decode prog_7_method_9_code 0 = .ok (.aload_n 0, 1) := by decide +kernel
theorem d_44_1 : decode prog_7_method_9_code 1 = .ok (.iload_n 1, 1) := by decide +kernel
theorem d_44_2 : decode prog_7_method_9_code 2 = .ok (.invokevirtual 78, 3) := by decide +kernel
theorem d_44_5 : decode prog_7_method_9_code 5 = .ok (.iconst 1, 1) := by decide +kernel
theorem d_44_6 : decode prog_7_method_9_code 6 = .ok (.istore_n 3, 1) := by decide +kernel
theorem d_44_7 : decode prog_7_method_9_code 7 = .ok (.iconst 0, 1) := by decide +kernel
theorem d_44_8 : decode prog_7_method_9_code 8 = .ok (.istore 4, 2) := by decide +kernel
theorem d_44_10 : decode prog_7_method_9_code 10 = .ok (.iload 4, 2) := by decide +kernel
theorem d_44_12 : decode prog_7_method_9_code 12 = .ok (.aload_n 0, 1) := by decide +kernel
theorem d_44_13 : decode prog_7_method_9_code 13 = .ok (.getfield 38, 3) := by decide +kernel
theorem d_44_16 : decode prog_7_method_9_code 16 = .ok (.getfield 82, 3) := by decide +kernel
theorem d_44_19 : decode prog_7_method_9_code 19 = .ok (.if_icmp .ge 169, 3) := by decide +kernel
theorem d_44_22 : decode prog_7_method_9_code 22 = .ok (.aload_n 0, 1) := by decide +kernel
theorem d_44_23 : decode prog_7_method_9_code 23 = .ok (.getfield 15, 3) := by decide +kernel
theorem d_44_26 : decode prog_7_method_9_code 26 = .ok (.iload 4, 2) := by decide +kernel
theorem d_44_28 : decode prog_7_method_9_code 28 = .ok (.iaload, 1) := by decide +kernel
theorem d_44_29 : decode prog_7_method_9_code 29 = .ok (.istore 5, 2) := by decide +kernel
theorem d_44_31 : decode prog_7_method_9_code 31 = .ok (.aload_n 0, 1) := by decide +kernel
theorem d_44_32 : decode prog_7_method_9_code 32 = .ok (.getfield 38, 3) := by decide +kernel
theorem d_44_35 : decode prog_7_method_9_code 35 = .ok (.aload_n 0, 1) := by decide +kernel
theorem d_44_36 : decode prog_7_method_9_code 36 = .ok (.getfield 38, 3) := by decide +kernel
theorem d_44_39 : decode prog_7_method_9_code 39 = .ok (.getfield 85, 3) := by decide +kernel
theorem d_44_42 : decode prog_7_method_9_code 42 = .ok (.iload 4, 2) := by decide +kernel
theorem d_44_44 : decode prog_7_method_9_code 44 = .ok (.iaload, 1) := by decide +kernel
theorem d_44_45 : decode prog_7_method_9_code 45 = .ok (.aload_n 0, 1) := by decide +kernel
theorem d_44_46 : decode prog_7_method_9_code 46 = .ok (.getfield 15, 3) := by decide +kernel
theorem d_44_49 : decode prog_7_method_9_code 49 = .ok (.invokevirtual 88, 3) := by decide +kernel
theorem d_44_52 : decode prog_7_method_9_code 52 = .ok (.istore 6, 2) := by decide +kernel
theorem d_44_54 : decode prog_7_method_9_code 54 = .ok (.iconst 0, 1) := by decide +kernel
theorem d_44_55 : decode prog_7_method_9_code 55 = .ok (.istore 7, 2) := by decide +kernel
theorem d_44_57 : decode prog_7_method_9_code 57 = .ok (.iload 7, 2) := by decide +kernel
theorem d_44_59 : decode prog_7_method_9_code 59 = .ok (.aload_n 0, 1) := by decide +kernel
theorem d_44_60 : decode prog_7_method_9_code 60 = .ok (.getfield 38, 3) := by decide +kernel
theorem d_44_63 : decode prog_7_method_9_code 63 = .ok (.getfield 92, 3) := by decide +kernel
theorem d_44_66 : decode prog_7_method_9_code 66 = .ok (.if_icmp .ge 106, 3) := by decide +kernel
theorem d_44_69 : decode prog_7_method_9_code 69 = .ok (.aload_n 0, 1) := by decide +kernel
theorem d_44_70 : decode prog_7_method_9_code 70 = .ok (.getfield 9, 3) := by decide +kernel
theorem d_44_73 : decode prog_7_method_9_code 73 = .ok (.iload 4, 2) := by decide +kernel
theorem d_44_75 : decode prog_7_method_9_code 75 = .ok (.iload 5, 2) := by decide +kernel
theorem d_44_77 : decode prog_7_method_9_code 77 = .ok (.iload 7, 2) := by decide +kernel
theorem d_44_79 : decode prog_7_method_9_code 79 = .ok (.invokestatic 46, 3) := by decide +kernel
theorem d_44_82 : decode prog_7_method_9_code 82 = .ok (.iaload, 1) := by decide +kernel
theorem d_44_83 : decode prog_7_method_9_code 83 = .ok (.istore 8, 2) := by decide +kernel
theorem d_44_85 : decode prog_7_method_9_code 85 = .ok (.iload 8, 2) := by decide +kernel
theorem d_44_87 : decode prog_7_method_9_code 87 = .ok (.ifCond .lt 79, 3) := by decide +kernel
theorem d_44_90 : decode prog_7_method_9_code 90 = .ok (.iload 6, 2) := by decide +kernel
theorem d_44_92 : decode prog_7_method_9_code 92 = .ok (.iload 7, 2) := by decide +kernel
theorem d_44_94 : decode prog_7_method_9_code 94 = .ok (.ishr, 1) := by decide +kernel
theorem d_44_95 : decode prog_7_method_9_code 95 = .ok (.iconst 1, 1) := by decide +kernel
theorem d_44_96 : decode prog_7_method_9_code 96 = .ok (.iand, 1) := by decide +kernel
theorem d_44_97 : decode prog_7_method_9_code 97 = .ok (.iconst 1, 1) := by decide +kernel
theorem d_44_98 : decode prog_7_method_9_code 98 = .ok (.if_icmp .ne 6, 3) := by decide +kernel
theorem d_44_101 : decode prog_7_method_9_code 101 = .ok (.goto 65, 3) := by decide +kernel
theorem d_44_104 : decode prog_7_method_9_code 104 = .ok (.iload_n 1, 1) := by decide +kernel
theorem d_44_105 : decode prog_7_method_9_code 105 = .ok (.iload 7, 2) := by decide +kernel
theorem d_44_107 : decode prog_7_method_9_code 107 = .ok (.iload 5, 2) := by decide +kernel
theorem d_44_109 : decode prog_7_method_9_code 109 = .ok (.isub, 1) := by decide +kernel
theorem d_44_110 : decode prog_7_method_9_code 110 = .ok (.iload_n 3, 1) := by decide +kernel
theorem d_44_111 : decode prog_7_method_9_code 111 = .ok (.imul, 1) := by decide +kernel
theorem d_44_112 : decode prog_7_method_9_code 112 = .ok (.iadd, 1) := by decide +kernel
theorem d_44_113 : decode prog_7_method_9_code 113 = .ok (.istore 9, 2) := by decide +kernel
theorem d_44_115 : decode prog_7_method_9_code 115 = .ok (.iload_n 2, 1) := by decide +kernel
theorem d_44_116 : decode prog_7_method_9_code 116 = .ok (.iconst 2, 1) := by decide +kernel
theorem d_44_117 : decode prog_7_method_9_code 117 = .ok (.if_icmp .ne 21, 3) := by decide +kernel
theorem d_44_120 : decode prog_7_method_9_code 120 = .ok (.aload_n 0, 1) := by decide +kernel
theorem d_44_121 : decode prog_7_method_9_code 121 = .ok (.iload 9, 2) := by decide +kernel
theorem d_44_123 : decode prog_7_method_9_code 123 = .ok (.aload_n 0, 1) := by decide +kernel
theorem d_44_124 : decode prog_7_method_9_code 124 = .ok (.getfield 31, 3) := by decide +kernel
theorem d_44_127 : decode prog_7_method_9_code 127 = .ok (.iload_n 1, 1) := by decide +kernel
theorem d_44_128 : decode prog_7_method_9_code 128 = .ok (.iaload, 1) := by decide +kernel
theorem d_44_129 : decode prog_7_method_9_code 129 = .ok (.iload 8, 2) := by decide +kernel
theorem d_44_131 : decode prog_7_method_9_code 131 = .ok (.iadd, 1) := by decide +kernel
theorem d_44_132 : decode prog_7_method_9_code 132 = .ok (.invokevirtual 95, 3) := by decide +kernel
theorem d_44_135 : decode prog_7_method_9_code 135 = .ok (.goto 31, 3) := by decide +kernel
theorem d_44_138 : decode prog_7_method_9_code 138 = .ok (.iload_n 2, 1) := by decide +kernel
theorem d_44_139 : decode prog_7_method_9_code 139 = .ok (.ifCond .eq 20, 3) := by decide +kernel
theorem d_44_142 : decode prog_7_method_9_code 142 = .ok (.aload_n 0, 1) := by decide +kernel
theorem d_44_143 : decode prog_7_method_9_code 143 = .ok (.getfield 9, 3) := by decide +kernel
theorem d_44_146 : decode prog_7_method_9_code 146 = .ok (.iload 4, 2) := by decide +kernel
theorem d_44_148 : decode prog_7_method_9_code 148 = .ok (.iload 7, 2) := by decide +kernel
theorem d_44_150 : decode prog_7_method_9_code 150 = .ok (.iload 5, 2) := by decide +kernel
theorem d_44_152 : decode prog_7_method_9_code 152 = .ok (.invokestatic 46, 3) := by decide +kernel
theorem d_44_155 : decode prog_7_method_9_code 155 = .ok (.iaload, 1) := by decide +kernel
theorem d_44_156 : decode prog_7_method_9_code 156 = .ok (.ifCond .lt 10, 3) := by decide +kernel
theorem d_44_159 : decode prog_7_method_9_code 159 = .ok (.aload_n 0, 1) := by decide +kernel
theorem d_44_160 : decode prog_7_method_9_code 160 = .ok (.iload_n 1, 1) := by decide +kernel
theorem d_44_161 : decode prog_7_method_9_code 161 = .ok (.iload 9, 2) := by decide +kernel
theorem d_44_163 : decode prog_7_method_9_code 163 = .ok (.invokevirtual 72, 3) := by decide +kernel
theorem d_44_166 : decode prog_7_method_9_code 166 = .ok (.iinc 7 1, 3) := by decide +kernel
theorem d_44_169 : decode prog_7_method_9_code 169 = .ok (.goto (-112), 3) := by decide +kernel
theorem d_44_172 : decode prog_7_method_9_code 172 = .ok (.iload_n 3, 1) := by decide +kernel
theorem d_44_173 : decode prog_7_method_9_code 173 = .ok (.aload_n 0, 1) := by decide +kernel
theorem d_44_174 : decode prog_7_method_9_code 174 = .ok (.getfield 38, 3) := by decide +kernel
theorem d_44_177 : decode prog_7_method_9_code 177 = .ok (.getfield 92, 3) := by decide +kernel
theorem d_44_180 : decode prog_7_method_9_code 180 = .ok (.imul, 1) := by decide +kernel
theorem d_44_181 : decode prog_7_method_9_code 181 = .ok (.istore_n 3, 1) := by decide +kernel
theorem d_44_182 : decode prog_7_method_9_code 182 = .ok (.iinc 4 1, 3) := by decide +kernel
theorem d_44_185 : decode prog_7_method_9_code 185 = .ok (.goto (-175), 3) := by decide +kernel
theorem d_44_188 : decode prog_7_method_9_code 188 = .ok (.return_, 1) := by decide +kernel
theorem s_44_188 {Γ : m_G} : m_ok Γ m_tab 44 M_44 188 (g_44_188) := ok_rv (pc := 188) d_44_188 rfl
theorem s_44_172 {Γ : m_G} : m_ok Γ m_tab 44 M_44 172 (g_44_172) := ok_il_n (pc := 172) d_44_172 rfl (ok_al_n (pc := 173) d_44_173 rfl (ok_getf (pc := 174) d_44_174 w_95 (hc1 fo_17) (ok_getf (pc := 177) d_44_177 w_50 (hc1 fo_24) (ok_mul (pc := 180) d_44_180 (ok_is_n (pc := 181) d_44_181 rfl (by decide) (ok_inc (pc := 182) d_44_182 rfl (by decide) (ok_go (pc := 185) (t := 10) d_44_185 rfl (by decide) rfl)))))))
theorem s_44_166 {Γ : m_G} : m_ok Γ m_tab 44 M_44 166 (g_44_166) := ok_inc (pc := 166) d_44_166 rfl (by decide) (ok_go (pc := 169) (t := 57) d_44_169 rfl (by decide) rfl)
theorem s_44_159 {Γ : m_G} : m_ok Γ m_tab 44 M_44 159 (g_44_159) := ok_al_n (pc := 159) d_44_159 rfl (ok_il_n (pc := 160) d_44_160 rfl (ok_il (pc := 161) d_44_161 (ok_cvi (pc := 163) (k2 := 43) rfl rfl tb_43 (by decide) (by decide) rfl (go_V d_44_163 w_679 w_681 ws_29 w_3 w_682 nn_43 (by decide) cl_5 rfl) (s_44_166))))
theorem s_44_138 {Γ : m_G} : m_ok Γ m_tab 44 M_44 138 (g_44_138) := ok_il_n (pc := 138) d_44_138 rfl (ok_czeq (pc := 139) (t := 159) d_44_139 rfl (by decide) rfl (ok_al_n (pc := 142) d_44_142 rfl (ok_getf (pc := 143) d_44_143 w_96 (hc1 fo_16) (ok_il (pc := 146) d_44_146 (ok_il (pc := 148) d_44_148 (ok_il (pc := 150) d_44_150 (ok_cat (pc := 152) (k2 := 39) rfl tb_39 (by decide) (by decide) rfl (go_S d_44_152 w_659 w_660 w_3 w_661 nn_39 (by decide)) (ok_iald (pc := 155) d_44_155 (ok_czlt (pc := 156) (t := 166) d_44_156 rfl (by decide) rfl (s_44_159))))))))))
theorem s_44_104 {Γ : m_G} : m_ok Γ m_tab 44 M_44 104 (g_44_104) := ok_il_n (pc := 104) d_44_104 rfl (ok_il (pc := 105) d_44_105 (ok_il (pc := 107) d_44_107 (ok_sub (pc := 109) d_44_109 (ok_il_n (pc := 110) d_44_110 rfl (ok_mul (pc := 111) d_44_111 (ok_add (pc := 112) d_44_112 (ok_is (pc := 113) d_44_113 (by decide) (ok_il_n (pc := 115) d_44_115 rfl (ok_ic (pc := 116) d_44_116 rfl (ok_cine (pc := 117) (t := 138) d_44_117 rfl (by decide) rfl (ok_al_n (pc := 120) d_44_120 rfl (ok_il (pc := 121) d_44_121 (ok_al_n (pc := 123) d_44_123 rfl (ok_getf (pc := 124) d_44_124 w_106 (hc1 fo_25) (ok_il_n (pc := 127) d_44_127 rfl (ok_iald (pc := 128) d_44_128 (ok_il (pc := 129) d_44_129 (ok_add (pc := 131) d_44_131 (ok_cvi (pc := 132) (k2 := 46) rfl rfl tb_46 (by decide) (by decide) rfl (go_V d_44_132 w_692 w_694 ws_31 w_3 w_695 nn_46 (by decide) cl_5 rfl) (ok_go (pc := 135) (t := 166) d_44_135 rfl (by decide) rfl))))))))))))))))))))
theorem s_44_57 {Γ : m_G} : m_ok Γ m_tab 44 M_44 57 (g_44_57) := ok_il (pc := 57) d_44_57 (ok_al_n (pc := 59) d_44_59 rfl (ok_getf (pc := 60) d_44_60 w_95 (hc1 fo_17) (ok_getf (pc := 63) d_44_63 w_50 (hc1 fo_24) (ok_cige (pc := 66) (t := 172) d_44_66 rfl (by decide) rfl (ok_al_n (pc := 69) d_44_69 rfl (ok_getf (pc := 70) d_44_70 w_96 (hc1 fo_16) (ok_il (pc := 73) d_44_73 (ok_il (pc := 75) d_44_75 (ok_il (pc := 77) d_44_77 (ok_cat (pc := 79) (k2 := 39) rfl tb_39 (by decide) (by decide) rfl (go_S d_44_79 w_659 w_660 w_3 w_661 nn_39 (by decide)) (ok_iald (pc := 82) d_44_82 (ok_is (pc := 83) d_44_83 (by decide) (ok_il (pc := 85) d_44_85 (ok_czlt (pc := 87) (t := 166) d_44_87 rfl (by decide) rfl (ok_il (pc := 90) d_44_90 (ok_il (pc := 92) d_44_92 (ok_shr (pc := 94) d_44_94 (ok_ic (pc := 95) d_44_95 rfl (ok_and (pc := 96) d_44_96 (ok_ic (pc := 97) d_44_97 rfl (ok_cine (pc := 98) (t := 104) d_44_98 rfl (by decide) rfl (ok_go (pc := 101) (t := 166) d_44_101 rfl (by decide) rfl))))))))))))))))))))))
theorem s_44_10 {Γ : m_G} : m_ok Γ m_tab 44 M_44 10 (g_44_10) := ok_il (pc := 10) d_44_10 (ok_al_n (pc := 12) d_44_12 rfl (ok_getf (pc := 13) d_44_13 w_95 (hc1 fo_17) (ok_getf (pc := 16) d_44_16 w_48 (hc1 fo_28) (ok_cige (pc := 19) (t := 188) d_44_19 rfl (by decide) rfl (ok_al_n (pc := 22) d_44_22 rfl (ok_getf (pc := 23) d_44_23 w_99 (hc1 fo_26) (ok_il (pc := 26) d_44_26 (ok_iald (pc := 28) d_44_28 (ok_is (pc := 29) d_44_29 (by decide) (ok_al_n (pc := 31) d_44_31 rfl (ok_getf (pc := 32) d_44_32 w_95 (hc1 fo_17) (ok_al_n (pc := 35) d_44_35 rfl (ok_getf (pc := 36) d_44_36 w_95 (hc1 fo_17) (ok_getf (pc := 39) d_44_39 w_56 (hc1 fo_27) (ok_il (pc := 42) d_44_42 (ok_iald (pc := 44) d_44_44 (ok_al_n (pc := 45) d_44_45 rfl (ok_getf (pc := 46) d_44_46 w_99 (hc1 fo_26) (ok_cai (pc := 49) (k2 := 85) rfl rfl tb_85 (by decide) (by decide) rfl (go_V d_44_49 w_691 w_588 w_589 w_2 w_590 nn_85 (by decide) cl_10 rfl) (ok_is (pc := 52) d_44_52 (by decide) (ok_ic (pc := 54) d_44_54 rfl (ok_is (pc := 55) d_44_55 (by decide) (s_44_57)))))))))))))))))))))))
theorem s_44_0 {Γ : m_G} : m_ok Γ m_tab 44 M_44 0 (g_44_0) := ok_al_n (pc := 0) d_44_0 rfl (ok_il_n (pc := 1) d_44_1 rfl (ok_cvi (pc := 2) (k2 := 45) rfl rfl tb_45 (by decide) (by decide) rfl (go_V d_44_2 w_670 w_672 ws_27 w_3 w_673 nn_45 (by decide) cl_5 rfl) (ok_ic (pc := 5) d_44_5 rfl (ok_is_n (pc := 6) d_44_6 rfl (by decide) (ok_ic (pc := 7) d_44_7 rfl (ok_is (pc := 8) d_44_8 (by decide) (s_44_10)))))))
theorem tst_44 {Γ : m_G} (q : Nat) : m_ts Γ (t_44 q) q := ts_n (ts_n (ts_n (ts_l (k := 44) (pc := 0) tb_44 rfl (by decide) s_44_0) (ts_l (k := 44) (pc := 10) tb_44 rfl (by decide) s_44_10)) (ts_n (ts_l (k := 44) (pc := 57) tb_44 rfl (by decide) s_44_57) (ts_l (k := 44) (pc := 104) tb_44 rfl (by decide) s_44_104))) (ts_n (ts_n (ts_l (k := 44) (pc := 138) tb_44 rfl (by decide) s_44_138) (ts_l (k := 44) (pc := 159) tb_44 rfl (by decide) s_44_159)) (ts_n (ts_l (k := 44) (pc := 166) tb_44 rfl (by decide) s_44_166) (ts_n (ts_l (k := 44) (pc := 172) tb_44 rfl (by decide) s_44_172) (ts_l (k := 44) (pc := 188) tb_44 rfl (by decide) s_44_188))))
theorem d_45_0 : decode prog_7_method_10_code 0 = .ok (.iload_n 1, 1) := by decide +kernel
theorem d_45_1 : decode prog_7_method_10_code 1 = .ok (.istore_n 2, 1) := by decide +kernel
theorem d_45_2 : decode prog_7_method_10_code 2 = .ok (.iconst 0, 1) := by decide +kernel
theorem d_45_3 : decode prog_7_method_10_code 3 = .ok (.istore_n 3, 1) := by decide +kernel
theorem d_45_4 : decode prog_7_method_10_code 4 = .ok (.iload_n 3, 1) := by decide +kernel
theorem d_45_5 : decode prog_7_method_10_code 5 = .ok (.aload_n 0, 1) := by decide +kernel
theorem d_45_6 : decode prog_7_method_10_code 6 = .ok (.getfield 38, 3) := by decide +kernel
theorem d_45_9 : decode prog_7_method_10_code 9 = .ok (.getfield 82, 3) := by decide +kernel
theorem d_45_12 : decode prog_7_method_10_code 12 = .ok (.if_icmp .ge 34, 3) := by decide +kernel
theorem d_45_15 : decode prog_7_method_10_code 15 = .ok (.aload_n 0, 1) := by decide +kernel
theorem d_45_16 : decode prog_7_method_10_code 16 = .ok (.getfield 15, 3) := by decide +kernel
theorem d_45_19 : decode prog_7_method_10_code 19 = .ok (.iload_n 3, 1) := by decide +kernel
theorem d_45_20 : decode prog_7_method_10_code 20 = .ok (.iload_n 2, 1) := by decide +kernel
theorem d_45_21 : decode prog_7_method_10_code 21 = .ok (.aload_n 0, 1) := by decide +kernel
theorem d_45_22 : decode prog_7_method_10_code 22 = .ok (.getfield 38, 3) := by decide +kernel
theorem d_45_25 : decode prog_7_method_10_code 25 = .ok (.getfield 92, 3) := by decide +kernel
theorem d_45_28 : decode prog_7_method_10_code 28 = .ok (.irem, 1) := by decide +kernel
theorem d_45_29 : decode prog_7_method_10_code 29 = .ok (.iastore, 1) := by decide +kernel
theorem d_45_30 : decode prog_7_method_10_code 30 = .ok (.iload_n 2, 1) := by decide +kernel
theorem d_45_31 : decode prog_7_method_10_code 31 = .ok (.aload_n 0, 1) := by decide +kernel
theorem d_45_32 : decode prog_7_method_10_code 32 = .ok (.getfield 38, 3) := by decide +kernel
theorem d_45_35 : decode prog_7_method_10_code 35 = .ok (.getfield 92, 3) := by decide +kernel
theorem d_45_38 : decode prog_7_method_10_code 38 = .ok (.idiv, 1) := by decide +kernel
theorem d_45_39 : decode prog_7_method_10_code 39 = .ok (.istore_n 2, 1) := by decide +kernel
theorem d_45_40 : decode prog_7_method_10_code 40 = .ok (.iinc 3 1, 3) := by decide +kernel
theorem d_45_43 : decode prog_7_method_10_code 43 = .ok (.goto (-39), 3) := by decide +kernel
theorem d_45_46 : decode prog_7_method_10_code 46 = .ok (.return_, 1) := by decide +kernel
theorem s_45_46 {Γ : m_G} : m_ok Γ m_tab 45 M_45 46 (g_45_46) := ok_rv (pc := 46) d_45_46 rfl
theorem s_45_4 {Γ : m_G} : m_ok Γ m_tab 45 M_45 4 (g_45_4) := ok_il_n (pc := 4) d_45_4 rfl (ok_al_n (pc := 5) d_45_5 rfl (ok_getf (pc := 6) d_45_6 w_95 (hc1 fo_17) (ok_getf (pc := 9) d_45_9 w_48 (hc1 fo_28) (ok_cige (pc := 12) (t := 46) d_45_12 rfl (by decide) rfl (ok_al_n (pc := 15) d_45_15 rfl (ok_getf (pc := 16) d_45_16 w_99 (hc1 fo_26) (ok_il_n (pc := 19) d_45_19 rfl (ok_il_n (pc := 20) d_45_20 rfl (ok_al_n (pc := 21) d_45_21 rfl (ok_getf (pc := 22) d_45_22 w_95 (hc1 fo_17) (ok_getf (pc := 25) d_45_25 w_50 (hc1 fo_24) (ok_rem (pc := 28) d_45_28 (ok_iast (pc := 29) d_45_29 (ok_il_n (pc := 30) d_45_30 rfl (ok_al_n (pc := 31) d_45_31 rfl (ok_getf (pc := 32) d_45_32 w_95 (hc1 fo_17) (ok_getf (pc := 35) d_45_35 w_50 (hc1 fo_24) (ok_div (pc := 38) d_45_38 (ok_is_n (pc := 39) d_45_39 rfl (by decide) (ok_inc (pc := 40) d_45_40 rfl (by decide) (ok_go (pc := 43) (t := 4) d_45_43 rfl (by decide) rfl)))))))))))))))))))))
theorem s_45_0 {Γ : m_G} : m_ok Γ m_tab 45 M_45 0 (g_45_0) := ok_il_n (pc := 0) d_45_0 rfl (ok_is_n (pc := 1) d_45_1 rfl (by decide) (ok_ic (pc := 2) d_45_2 rfl (ok_is_n (pc := 3) d_45_3 rfl (by decide) (s_45_4))))
theorem tst_45 {Γ : m_G} (q : Nat) : m_ts Γ (t_45 q) q := ts_n (ts_l (k := 45) (pc := 0) tb_45 rfl (by decide) s_45_0) (ts_n (ts_l (k := 45) (pc := 4) tb_45 rfl (by decide) s_45_4) (ts_l (k := 45) (pc := 46) tb_45 rfl (by decide) s_45_46))
theorem d_46_0 : decode prog_7_method_11_code 0 = .ok (.aload_n 0, 1) := by decide +kernel
theorem d_46_1 : decode prog_7_method_11_code 1 = .ok (.getfield 38, 3) := by decide +kernel
theorem d_46_4 : decode prog_7_method_11_code 4 = .ok (.iload_n 1, 1) := by decide +kernel
theorem d_46_5 : decode prog_7_method_11_code 5 = .ok (.invokevirtual 50, 3) := by decide +kernel
theorem d_46_8 : decode prog_7_method_11_code 8 = .ok (.ifCond .eq 37, 3) := by decide +kernel
theorem d_46_11 : decode prog_7_method_11_code 11 = .ok (.aload_n 0, 1) := by decide +kernel
theorem d_46_12 : decode prog_7_method_11_code 12 = .ok (.getfield 31, 3) := by decide +kernel
theorem d_46_15 : decode prog_7_method_11_code 15 = .ok (.iload_n 1, 1) := by decide +kernel
theorem d_46_16 : decode prog_7_method_11_code 16 = .ok (.iaload, 1) := by decide +kernel
theorem d_46_17 : decode prog_7_method_11_code 17 = .ok (.iconst (-1), 1) := by decide +kernel
theorem d_46_18 : decode prog_7_method_11_code 18 = .ok (.if_icmp .eq 13, 3) := by decide +kernel
theorem d_46_21 : decode prog_7_method_11_code 21 = .ok (.iload_n 2, 1) := by decide +kernel
theorem d_46_22 : decode prog_7_method_11_code 22 = .ok (.aload_n 0, 1) := by decide +kernel
theorem d_46_23 : decode prog_7_method_11_code 23 = .ok (.getfield 31, 3) := by decide +kernel
theorem d_46_26 : decode prog_7_method_11_code 26 = .ok (.iload_n 1, 1) := by decide +kernel
theorem d_46_27 : decode prog_7_method_11_code 27 = .ok (.iaload, 1) := by decide +kernel
theorem d_46_28 : decode prog_7_method_11_code 28 = .ok (.if_icmp .ge 17, 3) := by decide +kernel
theorem d_46_31 : decode prog_7_method_11_code 31 = .ok (.aload_n 0, 1) := by decide +kernel
theorem d_46_32 : decode prog_7_method_11_code 32 = .ok (.getfield 31, 3) := by decide +kernel
theorem d_46_35 : decode prog_7_method_11_code 35 = .ok (.iload_n 1, 1) := by decide +kernel
theorem d_46_36 : decode prog_7_method_11_code 36 = .ok (.iload_n 2, 1) := by decide +kernel
theorem d_46_37 : decode prog_7_method_11_code 37 = .ok (.iastore, 1) := by decide +kernel
theorem d_46_38 : decode prog_7_method_11_code 38 = .ok (.aload_n 0, 1) := by decide +kernel
theorem d_46_39 : decode prog_7_method_11_code 39 = .ok (.getfield 34, 3) := by decide +kernel
theorem d_46_42 : decode prog_7_method_11_code 42 = .ok (.iload_n 1, 1) := by decide +kernel
theorem d_46_43 : decode prog_7_method_11_code 43 = .ok (.iconst 1, 1) := by decide +kernel
theorem d_46_44 : decode prog_7_method_11_code 44 = .ok (.bastore, 1) := by decide +kernel
theorem d_46_45 : decode prog_7_method_11_code 45 = .ok (.return_, 1) := by decide +kernel
theorem s_46_45 {Γ : m_G} : m_ok Γ m_tab 46 M_46 45 (g_46_45) := ok_rv (pc := 45) d_46_45 rfl
theorem s_46_31 {Γ : m_G} : m_ok Γ m_tab 46 M_46 31 (g_46_31) := ok_al_n (pc := 31) d_46_31 rfl (ok_getf (pc := 32) d_46_32 w_106 (hc1 fo_25) (ok_il_n (pc := 35) d_46_35 rfl (ok_il_n (pc := 36) d_46_36 rfl (ok_iast (pc := 37) d_46_37 (ok_al_n (pc := 38) d_46_38 rfl (ok_getf (pc := 39) d_46_39 w_107 (hc1 fo_29) (ok_il_n (pc := 42) d_46_42 rfl (ok_ic (pc := 43) d_46_43 rfl (ok_zast (pc := 44) d_46_44 (s_46_45))))))))))
theorem s_46_0 {Γ : m_G} : m_ok Γ m_tab 46 M_46 0 (g_46_0) := ok_al_n (pc := 0) d_46_0 rfl (ok_getf (pc := 1) d_46_1 w_95 (hc1 fo_17) (ok_il_n (pc := 4) d_46_4 rfl (ok_cai (pc := 5) (k2 := 83) rfl rfl tb_83 (by decide) (by decide) rfl (go_V d_46_5 w_683 w_684 w_685 w_2 w_686 nn_83 (by decide) cl_10 rfl) (ok_czeq (pc := 8) (t := 45) d_46_8 rfl (by decide) rfl (ok_al_n (pc := 11) d_46_11 rfl (ok_getf (pc := 12) d_46_12 w_106 (hc1 fo_25) (ok_il_n (pc := 15) d_46_15 rfl (ok_iald (pc := 16) d_46_16 (ok_ic (pc := 17) d_46_17 rfl (ok_cieq (pc := 18) (t := 31) d_46_18 rfl (by decide) rfl (ok_il_n (pc := 21) d_46_21 rfl (ok_al_n (pc := 22) d_46_22 rfl (ok_getf (pc := 23) d_46_23 w_106 (hc1 fo_25) (ok_il_n (pc := 26) d_46_26 rfl (ok_iald (pc := 27) d_46_27 (ok_cige (pc := 28) (t := 45) d_46_28 rfl (by decide) rfl (s_46_31)))))))))))))))))
theorem tst_46 {Γ : m_G} (q : Nat) : m_ts Γ (t_46 q) q := ts_n (ts_l (k := 46) (pc := 0) tb_46 rfl (by decide) s_46_0) (ts_n (ts_l (k := 46) (pc := 31) tb_46 rfl (by decide) s_46_31) (ts_l (k := 46) (pc := 45) tb_46 rfl (by decide) s_46_45))
theorem d_47_0 : decode prog_7_method_12_code 0 = .ok (.aload_n 0, 1) := by decide +kernel
theorem d_47_1 : decode prog_7_method_12_code 1 = .ok (.getfield 66, 3) := by decide +kernel
theorem d_47_4 : decode prog_7_method_12_code 4 = .ok (.ifCond .ne 11, 3) := by decide +kernel
theorem d_47_7 : decode prog_7_method_12_code 7 = .ok (.aload_n 0, 1) := by decide +kernel
theorem d_47_8 : decode prog_7_method_12_code 8 = .ok (.getfield 18, 3) := by decide +kernel
theorem d_47_11 : decode prog_7_method_12_code 11 = .ok (.iconst (-1), 1) := by decide +kernel
theorem d_47_12 : decode prog_7_method_12_code 12 = .ok (.if_icmp .ne 4, 3) := by decide +kernel
theorem d_47_15 : decode prog_7_method_12_code 15 = .ok (.return_, 1) := by decide +kernel
theorem d_47_16 : decode prog_7_method_12_code 16 = .ok (.iconst 0, 1) := by decide +kernel
theorem d_47_17 : decode prog_7_method_12_code 17 = .ok (.istore_n 1, 1) := by decide +kernel
theorem d_47_18 : decode prog_7_method_12_code 18 = .ok (.iload_n 1, 1) := by decide +kernel
theorem d_47_19 : decode prog_7_method_12_code 19 = .ok (.aload_n 0, 1) := by decide +kernel
theorem d_47_20 : decode prog_7_method_12_code 20 = .ok (.getfield 38, 3) := by decide +kernel
theorem d_47_23 : decode prog_7_method_12_code 23 = .ok (.getfield 69, 3) := by decide +kernel
theorem d_47_26 : decode prog_7_method_12_code 26 = .ok (.if_icmp .ge 23, 3) := by decide +kernel
theorem d_47_29 : decode prog_7_method_12_code 29 = .ok (.aload_n 0, 1) := by decide +kernel
theorem d_47_30 : decode prog_7_method_12_code 30 = .ok (.getfield 31, 3) := by decide +kernel
theorem d_47_33 : decode prog_7_method_12_code 33 = .ok (.iload_n 1, 1) := by decide +kernel
theorem d_47_34 : decode prog_7_method_12_code 34 = .ok (.iconst (-1), 1) := by decide +kernel
theorem d_47_35 : decode prog_7_method_12_code 35 = .ok (.iastore, 1) := by decide +kernel
theorem d_47_36 : decode prog_7_method_12_code 36 = .ok (.aload_n 0, 1) := by decide +kernel
theorem d_47_37 : decode prog_7_method_12_code 37 = .ok (.getfield 34, 3) := by decide +kernel
theorem d_47_40 : decode prog_7_method_12_code 40 = .ok (.iload_n 1, 1) := by decide +kernel
theorem d_47_41 : decode prog_7_method_12_code 41 = .ok (.iconst 0, 1) := by decide +kernel
theorem d_47_42 : decode prog_7_method_12_code 42 = .ok (.bastore, 1) := by decide +kernel
theorem d_47_43 : decode prog_7_method_12_code 43 = .ok (.iinc 1 1, 3) := by decide +kernel
theorem d_47_46 : decode prog_7_method_12_code 46 = .ok (.goto (-28), 3) := by decide +kernel
theorem d_47_49 : decode prog_7_method_12_code 49 = .ok (.aload_n 0, 1) := by decide +kernel
theorem d_47_50 : decode prog_7_method_12_code 50 = .ok (.aload_n 0, 1) := by decide +kernel
theorem d_47_51 : decode prog_7_method_12_code 51 = .ok (.getfield 18, 3) := by decide +kernel
theorem d_47_54 : decode prog_7_method_12_code 54 = .ok (.iconst 0, 1) := by decide +kernel
theorem d_47_55 : decode prog_7_method_12_code 55 = .ok (.invokevirtual 95, 3) := by decide +kernel
theorem d_47_58 : decode prog_7_method_12_code 58 = .ok (.iconst 1, 1) := by decide +kernel
theorem d_47_59 : decode prog_7_method_12_code 59 = .ok (.istore_n 1, 1) := by decide +kernel
theorem d_47_60 : decode prog_7_method_12_code 60 = .ok (.iconst 0, 1) := by decide +kernel
theorem d_47_61 : decode prog_7_method_12_code 61 = .ok (.istore_n 2, 1) := by decide +kernel
theorem d_47_62 : decode prog_7_method_12_code 62 = .ok (.iload_n 1, 1) := by decide +kernel
theorem d_47_63 : decode prog_7_method_12_code 63 = .ok (.ifCond .eq 22, 3) := by decide +kernel
theorem d_47_66 : decode prog_7_method_12_code 66 = .ok (.iload_n 2, 1) := by decide +kernel
theorem d_47_67 : decode prog_7_method_12_code 67 = .ok (.aload_n 0, 1) := by decide +kernel
theorem d_47_68 : decode prog_7_method_12_code 68 = .ok (.getfield 63, 3) := by decide +kernel
theorem d_47_71 : decode prog_7_method_12_code 71 = .ok (.if_icmp .ge 14, 3) := by decide +kernel
theorem d_47_74 : decode prog_7_method_12_code 74 = .ok (.aload_n 0, 1) := by decide +kernel
theorem d_47_75 : decode prog_7_method_12_code 75 = .ok (.invokevirtual 98, 3) := by decide +kernel
theorem d_47_78 : decode prog_7_method_12_code 78 = .ok (.istore_n 1, 1) := by decide +kernel
theorem d_47_79 : decode prog_7_method_12_code 79 = .ok (.iinc 2 1, 3) := by decide +kernel
theorem d_47_82 : decode prog_7_method_12_code 82 = .ok (.goto (-20), 3) := by decide +kernel
theorem d_47_85 : decode prog_7_method_12_code 85 = .ok (.aload_n 0, 1) := by decide +kernel
theorem d_47_86 : decode prog_7_method_12_code 86 = .ok (.iconst 1, 1) := by decide +kernel
theorem d_47_87 : decode prog_7_method_12_code 87 = .ok (.putfield 66, 3) := by decide +kernel
theorem d_47_90 : decode prog_7_method_12_code 90 = .ok (.return_, 1) := by decide +kernel
theorem s_47_85 {Γ : m_G} : m_ok Γ m_tab 47 M_47 85 (g_47_85) := ok_al_n (pc := 85) d_47_85 rfl (ok_ic (pc := 86) d_47_86 rfl (ok_putf (pc := 87) d_47_87 w_108 (hc1 ⟨_, _, _, tyX5, cl_5, in_5, by decide, rfl, rfl, rfl, tyX5_ok, nmX5, Or.inl rfl⟩) pd_4 vt_Z (ok_rv (pc := 90) d_47_90 rfl)))
theorem s_47_62 {Γ : m_G} : m_ok Γ m_tab 47 M_47 62 (g_47_62) := ok_il_n (pc := 62) d_47_62 rfl (ok_czeq (pc := 63) (t := 85) d_47_63 rfl (by decide) rfl (ok_il_n (pc := 66) d_47_66 rfl (ok_al_n (pc := 67) d_47_67 rfl (ok_getf (pc := 68) d_47_68 w_102 (hc1 fo_22) (ok_cige (pc := 71) (t := 85) d_47_71 rfl (by decide) rfl (ok_al_n (pc := 74) d_47_74 rfl (ok_cai (pc := 75) (k2 := 48) rfl rfl tb_48 (by decide) (by decide) rfl (go_V d_47_75 w_750 w_752 ws_35 w_3 w_753 nn_48 (by decide) cl_5 rfl) (ok_is_n (pc := 78) d_47_78 rfl (by decide) (ok_inc (pc := 79) d_47_79 rfl (by decide) (ok_go (pc := 82) (t := 62) d_47_82 rfl (by decide) rfl))))))))))
theorem s_47_49 {Γ : m_G} : m_ok Γ m_tab 47 M_47 49 (g_47_49) := ok_al_n (pc := 49) d_47_49 rfl (ok_al_n (pc := 50) d_47_50 rfl (ok_getf (pc := 51) d_47_51 w_100 (hc1 fo_18) (ok_ic (pc := 54) d_47_54 rfl (ok_cvi (pc := 55) (k2 := 46) rfl rfl tb_46 (by decide) (by decide) rfl (go_V d_47_55 w_692 w_694 ws_31 w_3 w_695 nn_46 (by decide) cl_5 rfl) (ok_ic (pc := 58) d_47_58 rfl (ok_is_n (pc := 59) d_47_59 rfl (by decide) (ok_ic (pc := 60) d_47_60 rfl (ok_is_n (pc := 61) d_47_61 rfl (by decide) (s_47_62)))))))))
theorem s_47_18 {Γ : m_G} : m_ok Γ m_tab 47 M_47 18 (g_47_18) := ok_il_n (pc := 18) d_47_18 rfl (ok_al_n (pc := 19) d_47_19 rfl (ok_getf (pc := 20) d_47_20 w_95 (hc1 fo_17) (ok_getf (pc := 23) d_47_23 w_53 (hc1 fo_20) (ok_cige (pc := 26) (t := 49) d_47_26 rfl (by decide) rfl (ok_al_n (pc := 29) d_47_29 rfl (ok_getf (pc := 30) d_47_30 w_106 (hc1 fo_25) (ok_il_n (pc := 33) d_47_33 rfl (ok_ic (pc := 34) d_47_34 rfl (ok_iast (pc := 35) d_47_35 (ok_al_n (pc := 36) d_47_36 rfl (ok_getf (pc := 37) d_47_37 w_107 (hc1 fo_29) (ok_il_n (pc := 40) d_47_40 rfl (ok_ic (pc := 41) d_47_41 rfl (ok_zast (pc := 42) d_47_42 (ok_inc (pc := 43) d_47_43 rfl (by decide) (ok_go (pc := 46) (t := 18) d_47_46 rfl (by decide) rfl))))))))))))))))
theorem s_47_16 {Γ : m_G} : m_ok Γ m_tab 47 M_47 16 (g_47_16) := ok_ic (pc := 16) d_47_16 rfl (ok_is_n (pc := 17) d_47_17 rfl (by decide) (s_47_18))
theorem s_47_15 {Γ : m_G} : m_ok Γ m_tab 47 M_47 15 (g_47_15) := ok_rv (pc := 15) d_47_15 rfl
theorem s_47_0 {Γ : m_G} : m_ok Γ m_tab 47 M_47 0 (g_47_0) := ok_al_n (pc := 0) d_47_0 rfl (ok_getf (pc := 1) d_47_1 w_108 (hc1 fo_30) (ok_czne (pc := 4) (t := 15) d_47_4 rfl (by decide) rfl (ok_al_n (pc := 7) d_47_7 rfl (ok_getf (pc := 8) d_47_8 w_100 (hc1 fo_18) (ok_ic (pc := 11) d_47_11 rfl (ok_cine (pc := 12) (t := 16) d_47_12 rfl (by decide) rfl (s_47_15)))))))
theorem tst_47 {Γ : m_G} (q : Nat) : m_ts Γ (t_47 q) q := ts_n (ts_n (ts_l (k := 47) (pc := 0) tb_47 rfl (by decide) s_47_0) (ts_n (ts_l (k := 47) (pc := 15) tb_47 rfl (by decide) s_47_15) (ts_l (k := 47) (pc := 16) tb_47 rfl (by decide) s_47_16))) (ts_n (ts_n (ts_l (k := 47) (pc := 18) tb_47 rfl (by decide) s_47_18) (ts_l (k := 47) (pc := 49) tb_47 rfl (by decide) s_47_49)) (ts_n (ts_l (k := 47) (pc := 62) tb_47 rfl (by decide) s_47_62) (ts_l (k := 47) (pc := 85) tb_47 rfl (by decide) s_47_85)))
theorem d_48_0 : decode prog_7_method_13_code 0 = .ok (.iconst 0, 1) := by decide +kernel
theorem d_48_1 : decode prog_7_method_13_code 1 = .ok (.istore_n 1, 1) := by decide +kernel
theorem d_48_2 : decode prog_7_method_13_code 2 = .ok (.iconst 0, 1) := by decide +kernel
theorem d_48_3 : decode prog_7_method_13_code 3 = .ok (.istore_n 2, 1) := by decide +kernel
theorem d_48_4 : decode prog_7_method_13_code 4 = .ok (.iload_n 2, 1) := by decide +kernel
theorem d_48_5 : decode prog_7_method_13_code 5 = .ok (.aload_n 0, 1) := by decide +kernel
theorem d_48_6 : decode prog_7_method_13_code 6 = .ok (.getfield 63, 3) := by decide +kernel
theorem d_48_9 : decode prog_7_method_13_code 9 = .ok (.if_icmp .ge 48, 3) := by decide +kernel
theorem d_48_12 : decode prog_7_method_13_code 12 = .ok (.aload_n 0, 1) := by decide +kernel
theorem d_48_13 : decode prog_7_method_13_code 13 = .ok (.getfield 34, 3) := by decide +kernel
theorem d_48_16 : decode prog_7_method_13_code 16 = .ok (.aload_n 0, 1) := by decide +kernel
theorem d_48_17 : decode prog_7_method_13_code 17 = .ok (.getfield 22, 3) := by decide +kernel
theorem d_48_20 : decode prog_7_method_13_code 20 = .ok (.iload_n 2, 1) := by decide +kernel
theorem d_48_21 : decode prog_7_method_13_code 21 = .ok (.iaload, 1) := by decide +kernel
theorem d_48_22 : decode prog_7_method_13_code 22 = .ok (.baload, 1) := by decide +kernel
theorem d_48_23 : decode prog_7_method_13_code 23 = .ok (.ifCond .eq 28, 3) := by decide +kernel
theorem d_48_26 : decode prog_7_method_13_code 26 = .ok (.aload_n 0, 1) := by decide +kernel
theorem d_48_27 : decode prog_7_method_13_code 27 = .ok (.getfield 34, 3) := by decide +kernel
theorem d_48_30 : decode prog_7_method_13_code 30 = .ok (.aload_n 0, 1) := by decide +kernel
theorem d_48_31 : decode prog_7_method_13_code 31 = .ok (.getfield 22, 3) := by decide +kernel
theorem d_48_34 : decode prog_7_method_13_code 34 = .ok (.iload_n 2, 1) := by decide +kernel
theorem d_48_35 : decode prog_7_method_13_code 35 = .ok (.iaload, 1) := by decide +kernel
theorem d_48_36 : decode prog_7_method_13_code 36 = .ok (.iconst 0, 1) := by decide +kernel
theorem d_48_37 : decode prog_7_method_13_code 37 = .ok (.bastore, 1) := by decide +kernel
theorem d_48_38 : decode prog_7_method_13_code 38 = .ok (.aload_n 0, 1) := by decide +kernel
theorem d_48_39 : decode prog_7_method_13_code 39 = .ok (.aload_n 0, 1) := by decide +kernel
theorem d_48_40 : decode prog_7_method_13_code 40 = .ok (.getfield 22, 3) := by decide +kernel
theorem d_48_43 : decode prog_7_method_13_code 43 = .ok (.iload_n 2, 1) := by decide +kernel
theorem d_48_44 : decode prog_7_method_13_code 44 = .ok (.iaload, 1) := by decide +kernel
theorem d_48_45 : decode prog_7_method_13_code 45 = .ok (.iconst 2, 1) := by decide +kernel
theorem d_48_46 : decode prog_7_method_13_code 46 = .ok (.invokevirtual 75, 3) := by decide +kernel
theorem d_48_49 : decode prog_7_method_13_code 49 = .ok (.iconst 1, 1) := by decide +kernel
theorem d_48_50 : decode prog_7_method_13_code 50 = .ok (.istore_n 1, 1) := by decide +kernel
theorem d_48_51 : decode prog_7_method_13_code 51 = .ok (.iinc 2 1, 3) := by decide +kernel
theorem d_48_54 : decode prog_7_method_13_code 54 = .ok (.goto (-50), 3) := by decide +kernel
theorem d_48_57 : decode prog_7_method_13_code 57 = .ok (.iload_n 1, 1) := by decide +kernel
theorem d_48_58 : decode prog_7_method_13_code 58 = .ok (.ireturn, 1) := by decide +kernel
theorem s_48_57 {Γ : m_G} : m_ok Γ m_tab 48 M_48 57 (g_48_57) := ok_il_n (pc := 57) d_48_57 rfl (ok_rz (pc := 58) d_48_58 rfl)
theorem s_48_51 {Γ : m_G} : m_ok Γ m_tab 48 M_48 51 (g_48_51) := ok_inc (pc := 51) d_48_51 rfl (by decide) (ok_go (pc := 54) (t := 4) d_48_54 rfl (by decide) rfl)
theorem s_48_4 {Γ : m_G} : m_ok Γ m_tab 48 M_48 4 (g_48_4) := ok_il_n (pc := 4) d_48_4 rfl (ok_al_n (pc := 5) d_48_5 rfl (ok_getf (pc := 6) d_48_6 w_102 (hc1 fo_22) (ok_cige (pc := 9) (t := 57) d_48_9 rfl (by decide) rfl (ok_al_n (pc := 12) d_48_12 rfl (ok_getf (pc := 13) d_48_13 w_107 (hc1 fo_29) (ok_al_n (pc := 16) d_48_16 rfl (ok_getf (pc := 17) d_48_17 w_101 (hc1 fo_21) (ok_il_n (pc := 20) d_48_20 rfl (ok_iald (pc := 21) d_48_21 (ok_zald (pc := 22) d_48_22 (ok_czeq (pc := 23) (t := 51) d_48_23 rfl (by decide) rfl (ok_al_n (pc := 26) d_48_26 rfl (ok_getf (pc := 27) d_48_27 w_107 (hc1 fo_29) (ok_al_n (pc := 30) d_48_30 rfl (ok_getf (pc := 31) d_48_31 w_101 (hc1 fo_21) (ok_il_n (pc := 34) d_48_34 rfl (ok_iald (pc := 35) d_48_35 (ok_ic (pc := 36) d_48_36 rfl (ok_zast (pc := 37) d_48_37 (ok_al_n (pc := 38) d_48_38 rfl (ok_al_n (pc := 39) d_48_39 rfl (ok_getf (pc := 40) d_48_40 w_101 (hc1 fo_21) (ok_il_n (pc := 43) d_48_43 rfl (ok_iald (pc := 44) d_48_44 (ok_ic (pc := 45) d_48_45 rfl (ok_cvi (pc := 46) (k2 := 44) rfl rfl tb_44 (by decide) (by decide) rfl (go_V d_48_46 w_687 w_689 ws_30 w_3 w_690 nn_44 (by decide) cl_5 rfl) (ok_ic (pc := 49) d_48_49 rfl (ok_is_n (pc := 50) d_48_50 rfl (by decide) (s_48_51)))))))))))))))))))))))))))))
theorem s_48_0 {Γ : m_G} : m_ok Γ m_tab 48 M_48 0 (g_48_0) := ok_ic (pc := 0) d_48_0 rfl (ok_is_n (pc := 1) d_48_1 rfl (by decide) (ok_ic (pc := 2) d_48_2 rfl (ok_is_n (pc := 3) d_48_3 rfl (by decide) (s_48_4))))
theorem tst_48 {Γ : m_G} (q : Nat) : m_ts Γ (t_48 q) q := ts_n (ts_n (ts_l (k := 48) (pc := 0) tb_48 rfl (by decide) s_48_0) (ts_l (k := 48) (pc := 4) tb_48 rfl (by decide) s_48_4)) (ts_n (ts_l (k := 48) (pc := 51) tb_48 rfl (by decide) s_48_51) (ts_l (k := 48) (pc := 57) tb_48 rfl (by decide) s_48_57))
theorem d_49_0 : decode prog_7_method_14_code 0 = .ok (.aload_n 0, 1) := by decide +kernel
theorem d_49_1 : decode prog_7_method_14_code 1 = .ok (.invokevirtual 56, 3) := by decide +kernel
theorem d_49_4 : decode prog_7_method_14_code 4 = .ok (.iconst 0, 1) := by decide +kernel
theorem d_49_5 : decode prog_7_method_14_code 5 = .ok (.istore_n 1, 1) := by decide +kernel
theorem d_49_6 : decode prog_7_method_14_code 6 = .ok (.iconst 0, 1) := by decide +kernel
theorem d_49_7 : decode prog_7_method_14_code 7 = .ok (.istore_n 2, 1) := by decide +kernel
theorem d_49_8 : decode prog_7_method_14_code 8 = .ok (.iload_n 2, 1) := by decide +kernel
theorem d_49_9 : decode prog_7_method_14_code 9 = .ok (.aload_n 0, 1) := by decide +kernel
theorem d_49_10 : decode prog_7_method_14_code 10 = .ok (.getfield 38, 3) := by decide +kernel
theorem d_49_13 : decode prog_7_method_14_code 13 = .ok (.getfield 69, 3) := by decide +kernel
theorem d_49_16 : decode prog_7_method_14_code 16 = .ok (.if_icmp .ge 47, 3) := by decide +kernel
theorem d_49_19 : decode prog_7_method_14_code 19 = .ok (.aload_n 0, 1) := by decide +kernel
theorem d_49_20 : decode prog_7_method_14_code 20 = .ok (.iload_n 2, 1) := by decide +kernel
theorem d_49_21 : decode prog_7_method_14_code 21 = .ok (.invokevirtual 78, 3) := by decide +kernel
theorem d_49_24 : decode prog_7_method_14_code 24 = .ok (.aload_n 0, 1) := by decide +kernel
theorem d_49_25 : decode prog_7_method_14_code 25 = .ok (.getfield 25, 3) := by decide +kernel
theorem d_49_28 : decode prog_7_method_14_code 28 = .ok (.iload_n 2, 1) := by decide +kernel
theorem d_49_29 : decode prog_7_method_14_code 29 = .ok (.iaload, 1) := by decide +kernel
theorem d_49_30 : decode prog_7_method_14_code 30 = .ok (.iconst (-1), 1) := by decide +kernel
theorem d_49_31 : decode prog_7_method_14_code 31 = .ok (.if_icmp .ne 26, 3) := by decide +kernel
theorem d_49_34 : decode prog_7_method_14_code 34 = .ok (.aload_n 0, 1) := by decide +kernel
theorem d_49_35 : decode prog_7_method_14_code 35 = .ok (.getfield 38, 3) := by decide +kernel
theorem d_49_38 : decode prog_7_method_14_code 38 = .ok (.aload_n 0, 1) := by decide +kernel
theorem d_49_39 : decode prog_7_method_14_code 39 = .ok (.getfield 15, 3) := by decide +kernel
theorem d_49_42 : decode prog_7_method_14_code 42 = .ok (.invokevirtual 102, 3) := by decide +kernel
theorem d_49_45 : decode prog_7_method_14_code 45 = .ok (.ifCond .eq 12, 3) := by decide +kernel
theorem d_49_48 : decode prog_7_method_14_code 48 = .ok (.aload_n 0, 1) := by decide +kernel
theorem d_49_49 : decode prog_7_method_14_code 49 = .ok (.iload_n 2, 1) := by decide +kernel
theorem d_49_50 : decode prog_7_method_14_code 50 = .ok (.iconst 1, 1) := by decide +kernel
theorem d_49_51 : decode prog_7_method_14_code 51 = .ok (.invokevirtual 59, 3) := by decide +kernel
theorem d_49_54 : decode prog_7_method_14_code 54 = .ok (.iinc 1 1, 3) := by decide +kernel
theorem d_49_57 : decode prog_7_method_14_code 57 = .ok (.iinc 2 1, 3) := by decide +kernel
theorem d_49_60 : decode prog_7_method_14_code 60 = .ok (.goto (-52), 3) := by decide +kernel
theorem d_49_63 : decode prog_7_method_14_code 63 = .ok (.iload_n 1, 1) := by decide +kernel
theorem d_49_64 : decode prog_7_method_14_code 64 = .ok (.ireturn, 1) := by decide +kernel
theorem s_49_63 {Γ : m_G} : m_ok Γ m_tab 49 M_49 63 (g_49_63) := ok_il_n (pc := 63) d_49_63 rfl (ok_ri (pc := 64) d_49_64 rfl)
theorem s_49_57 {Γ : m_G} : m_ok Γ m_tab 49 M_49 57 (g_49_57) := ok_inc (pc := 57) d_49_57 rfl (by decide) (ok_go (pc := 60) (t := 8) d_49_60 rfl (by decide) rfl)
theorem s_49_8 {Γ : m_G} : m_ok Γ m_tab 49 M_49 8 (g_49_8) := ok_il_n (pc := 8) d_49_8 rfl (ok_al_n (pc := 9) d_49_9 rfl (ok_getf (pc := 10) d_49_10 w_95 (hc1 fo_17) (ok_getf (pc := 13) d_49_13 w_53 (hc1 fo_20) (ok_cige (pc := 16) (t := 63) d_49_16 rfl (by decide) rfl (ok_al_n (pc := 19) d_49_19 rfl (ok_il_n (pc := 20) d_49_20 rfl (ok_cvi (pc := 21) (k2 := 45) rfl rfl tb_45 (by decide) (by decide) rfl (go_V d_49_21 w_670 w_672 ws_27 w_3 w_673 nn_45 (by decide) cl_5 rfl) (ok_al_n (pc := 24) d_49_24 rfl (ok_getf (pc := 25) d_49_25 w_104 (hc1 fo_19) (ok_il_n (pc := 28) d_49_28 rfl (ok_iald (pc := 29) d_49_29 (ok_ic (pc := 30) d_49_30 rfl (ok_cine (pc := 31) (t := 57) d_49_31 rfl (by decide) rfl (ok_al_n (pc := 34) d_49_34 rfl (ok_getf (pc := 35) d_49_35 w_95 (hc1 fo_17) (ok_al_n (pc := 38) d_49_38 rfl (ok_getf (pc := 39) d_49_39 w_99 (hc1 fo_26) (ok_cai (pc := 42) (k2 := 86) rfl rfl tb_86 (by decide) (by decide) rfl (go_V d_49_42 w_674 w_584 w_585 w_2 w_586 nn_86 (by decide) cl_10 rfl) (ok_czeq (pc := 45) (t := 57) d_49_45 rfl (by decide) rfl (ok_al_n (pc := 48) d_49_48 rfl (ok_il_n (pc := 49) d_49_49 rfl (ok_ic (pc := 50) d_49_50 rfl (ok_cvi (pc := 51) (k2 := 42) rfl rfl tb_42 (by decide) (by decide) rfl (go_V d_49_51 w_675 w_677 ws_28 w_3 w_678 nn_42 (by decide) cl_5 rfl) (ok_inc (pc := 54) d_49_54 rfl (by decide) (s_49_57)))))))))))))))))))))))))
theorem s_49_0 {Γ : m_G} : m_ok Γ m_tab 49 M_49 0 (g_49_0) := ok_al_n (pc := 0) d_49_0 rfl (ok_cvi (pc := 1) (k2 := 41) rfl rfl tb_41 (by decide) (by decide) rfl (go_V d_49_1 w_666 w_668 ws_26 w_3 w_669 nn_41 (by decide) cl_5 rfl) (ok_ic (pc := 4) d_49_4 rfl (ok_is_n (pc := 5) d_49_5 rfl (by decide) (ok_ic (pc := 6) d_49_6 rfl (ok_is_n (pc := 7) d_49_7 rfl (by decide) (s_49_8))))))
theorem tst_49 {Γ : m_G} (q : Nat) : m_ts Γ (t_49 q) q := ts_n (ts_n (ts_l (k := 49) (pc := 0) tb_49 rfl (by decide) s_49_0) (ts_l (k := 49) (pc := 8) tb_49 rfl (by decide) s_49_8)) (ts_n (ts_l (k := 49) (pc := 57) tb_49 rfl (by decide) s_49_57) (ts_l (k := 49) (pc := 63) tb_49 rfl (by decide) s_49_63))
theorem d_50_0 : decode prog_7_method_15_code 0 = .ok (.aload_n 0, 1) := by decide +kernel
theorem d_50_1 : decode prog_7_method_15_code 1 = .ok (.getfield 63, 3) := by decide +kernel
theorem d_50_4 : decode prog_7_method_15_code 4 = .ok (.iconst 1, 1) := by decide +kernel
theorem d_50_5 : decode prog_7_method_15_code 5 = .ok (.if_icmp .ge 7, 3) := by decide +kernel
theorem d_50_8 : decode prog_7_method_15_code 8 = .ok (.iconst 0, 1) := by decide +kernel
theorem d_50_9 : decode prog_7_method_15_code 9 = .ok (.goto 19, 3) := by decide +kernel
theorem d_50_12 : decode prog_7_method_15_code 12 = .ok (.aload_n 0, 1) := by decide +kernel
theorem d_50_13 : decode prog_7_method_15_code 13 = .ok (.getfield 25, 3) := by decide +kernel
theorem d_50_16 : decode prog_7_method_15_code 16 = .ok (.aload_n 0, 1) := by decide +kernel
theorem d_50_17 : decode prog_7_method_15_code 17 = .ok (.getfield 22, 3) := by decide +kernel
theorem d_50_20 : decode prog_7_method_15_code 20 = .ok (.aload_n 0, 1) := by decide +kernel
theorem d_50_21 : decode prog_7_method_15_code 21 = .ok (.getfield 63, 3) := by decide +kernel
theorem d_50_24 : decode prog_7_method_15_code 24 = .ok (.iconst 1, 1) := by decide +kernel
theorem d_50_25 : decode prog_7_method_15_code 25 = .ok (.isub, 1) := by decide +kernel
theorem d_50_26 : decode prog_7_method_15_code 26 = .ok (.iaload, 1) := by decide +kernel
theorem d_50_27 : decode prog_7_method_15_code 27 = .ok (.iaload, 1) := by decide +kernel
theorem d_50_28 : decode prog_7_method_15_code 28 = .ok (.ireturn, 1) := by decide +kernel
theorem s_50_28 {Γ : m_G} : m_ok Γ m_tab 50 M_50 28 (g_50_28) := ok_ri (pc := 28) d_50_28 rfl
theorem s_50_12 {Γ : m_G} : m_ok Γ m_tab 50 M_50 12 (g_50_12) := ok_al_n (pc := 12) d_50_12 rfl (ok_getf (pc := 13) d_50_13 w_104 (hc1 fo_19) (ok_al_n (pc := 16) d_50_16 rfl (ok_getf (pc := 17) d_50_17 w_101 (hc1 fo_21) (ok_al_n (pc := 20) d_50_20 rfl (ok_getf (pc := 21) d_50_21 w_102 (hc1 fo_22) (ok_ic (pc := 24) d_50_24 rfl (ok_sub (pc := 25) d_50_25 (ok_iald (pc := 26) d_50_26 (ok_iald (pc := 27) d_50_27 (s_50_28))))))))))
theorem s_50_0 {Γ : m_G} : m_ok Γ m_tab 50 M_50 0 (g_50_0) := ok_al_n (pc := 0) d_50_0 rfl (ok_getf (pc := 1) d_50_1 w_102 (hc1 fo_22) (ok_ic (pc := 4) d_50_4 rfl (ok_cige (pc := 5) (t := 12) d_50_5 rfl (by decide) rfl (ok_ic (pc := 8) d_50_8 rfl (ok_go (pc := 9) (t := 28) d_50_9 rfl (by decide) rfl)))))
theorem tst_50 {Γ : m_G} (q : Nat) : m_ts Γ (t_50 q) q := ts_n (ts_l (k := 50) (pc := 0) tb_50 rfl (by decide) s_50_0) (ts_n (ts_l (k := 50) (pc := 12) tb_50 rfl (by decide) s_50_12) (ts_l (k := 50) (pc := 28) tb_50 rfl (by decide) s_50_28))
theorem d_51_0 : decode prog_7_method_16_code 0 = .ok (.iconst 1, 1) := by decide +kernel
theorem d_51_1 : decode prog_7_method_16_code 1 = .ok (.aload_n 0, 1) := by decide +kernel
theorem d_51_2 : decode prog_7_method_16_code 2 = .ok (.getfield 38, 3) := by decide +kernel
theorem d_51_5 : decode prog_7_method_16_code 5 = .ok (.getfield 82, 3) := by decide +kernel
theorem d_51_8 : decode prog_7_method_16_code 8 = .ok (.ishl, 1) := by decide +kernel
theorem d_51_9 : decode prog_7_method_16_code 9 = .ok (.iconst 1, 1) := by decide +kernel
theorem d_51_10 : decode prog_7_method_16_code 10 = .ok (.isub, 1) := by decide +kernel
theorem d_51_11 : decode prog_7_method_16_code 11 = .ok (.istore_n 1, 1) := by decide +kernel
theorem d_51_12 : decode prog_7_method_16_code 12 = .ok (.iconst 0, 1) := by decide +kernel
theorem d_51_13 : decode prog_7_method_16_code 13 = .ok (.istore_n 2, 1) := by decide +kernel
theorem d_51_14 : decode prog_7_method_16_code 14 = .ok (.iload_n 2, 1) := by decide +kernel
theorem d_51_15 : decode prog_7_method_16_code 15 = .ok (.aload_n 0, 1) := by decide +kernel
theorem d_51_16 : decode prog_7_method_16_code 16 = .ok (.getfield 63, 3) := by decide +kernel
theorem d_51_19 : decode prog_7_method_16_code 19 = .ok (.if_icmp .ge 64, 3) := by decide +kernel
theorem d_51_22 : decode prog_7_method_16_code 22 = .ok (.aload_n 0, 1) := by decide +kernel
theorem d_51_23 : decode prog_7_method_16_code 23 = .ok (.aload_n 0, 1) := by decide +kernel
theorem d_51_24 : decode prog_7_method_16_code 24 = .ok (.getfield 22, 3) := by decide +kernel
theorem d_51_27 : decode prog_7_method_16_code 27 = .ok (.iload_n 2, 1) := by decide +kernel
theorem d_51_28 : decode prog_7_method_16_code 28 = .ok (.iaload, 1) := by decide +kernel
theorem d_51_29 : decode prog_7_method_16_code 29 = .ok (.invokevirtual 78, 3) := by decide +kernel
theorem d_51_32 : decode prog_7_method_16_code 32 = .ok (.iconst 0, 1) := by decide +kernel
theorem d_51_33 : decode prog_7_method_16_code 33 = .ok (.istore_n 3, 1) := by decide +kernel
theorem d_51_34 : decode prog_7_method_16_code 34 = .ok (.iload_n 3, 1) := by decide +kernel
theorem d_51_35 : decode prog_7_method_16_code 35 = .ok (.aload_n 0, 1) := by decide +kernel
theorem d_51_36 : decode prog_7_method_16_code 36 = .ok (.getfield 38, 3) := by decide +kernel
theorem d_51_39 : decode prog_7_method_16_code 39 = .ok (.getfield 82, 3) := by decide +kernel
theorem d_51_42 : decode prog_7_method_16_code 42 = .ok (.if_icmp .ge 35, 3) := by decide +kernel
theorem d_51_45 : decode prog_7_method_16_code 45 = .ok (.aload_n 0, 1) := by decide +kernel
theorem d_51_46 : decode prog_7_method_16_code 46 = .ok (.getfield 15, 3) := by decide +kernel
theorem d_51_49 : decode prog_7_method_16_code 49 = .ok (.iload_n 3, 1) := by decide +kernel
theorem d_51_50 : decode prog_7_method_16_code 50 = .ok (.iaload, 1) := by decide +kernel
theorem d_51_51 : decode prog_7_method_16_code 51 = .ok (.aload_n 0, 1) := by decide +kernel
theorem d_51_52 : decode prog_7_method_16_code 52 = .ok (.getfield 38, 3) := by decide +kernel
theorem d_51_55 : decode prog_7_method_16_code 55 = .ok (.getfield 106, 3) := by decide +kernel
theorem d_51_58 : decode prog_7_method_16_code 58 = .ok (.iload_n 3, 1) := by decide +kernel
theorem d_51_59 : decode prog_7_method_16_code 59 = .ok (.iaload, 1) := by decide +kernel
theorem d_51_60 : decode prog_7_method_16_code 60 = .ok (.if_icmp .eq 11, 3) := by decide +kernel
theorem d_51_63 : decode prog_7_method_16_code 63 = .ok (.iload_n 1, 1) := by decide +kernel
theorem d_51_64 : decode prog_7_method_16_code 64 = .ok (.iconst 1, 1) := by decide +kernel
theorem d_51_65 : decode prog_7_method_16_code 65 = .ok (.iload_n 3, 1) := by decide +kernel
theorem d_51_66 : decode prog_7_method_16_code 66 = .ok (.ishl, 1) := by decide +kernel
theorem d_51_67 : decode prog_7_method_16_code 67 = .ok (.iconst (-1), 1) := by decide +kernel
theorem d_51_68 : decode prog_7_method_16_code 68 = .ok (.ixor, 1) := by decide +kernel
theorem d_51_69 : decode prog_7_method_16_code 69 = .ok (.iand, 1) := by decide +kernel
theorem d_51_70 : decode prog_7_method_16_code 70 = .ok (.istore_n 1, 1) := by decide +kernel
theorem d_51_71 : decode prog_7_method_16_code 71 = .ok (.iinc 3 1, 3) := by decide +kernel
theorem d_51_74 : decode prog_7_method_16_code 74 = .ok (.goto (-40), 3) := by decide +kernel
theorem d_51_77 : decode prog_7_method_16_code 77 = .ok (.iinc 2 1, 3) := by decide +kernel
theorem d_51_80 : decode prog_7_method_16_code 80 = .ok (.goto (-66), 3) := by decide +kernel
theorem d_51_83 : decode prog_7_method_16_code 83 = .ok (.iload_n 1, 1) := by decide +kernel
theorem d_51_84 : decode prog_7_method_16_code 84 = .ok (.ireturn, 1) := by decide +kernel
theorem s_51_83 {Γ : m_G} : m_ok Γ m_tab 51 M_51 83 (g_51_83) := ok_il_n (pc := 83) d_51_83 rfl (ok_ri (pc := 84) d_51_84 rfl)
theorem s_51_77 {Γ : m_G} : m_ok Γ m_tab 51 M_51 77 (g_51_77) := ok_inc (pc := 77) d_51_77 rfl (by decide) (ok_go (pc := 80) (t := 14) d_51_80 rfl (by decide) rfl)
theorem s_51_71 {Γ : m_G} : m_ok Γ m_tab 51 M_51 71 (g_51_71) := ok_inc (pc := 71) d_51_71 rfl (by decide) (ok_go (pc := 74) (t := 34) d_51_74 rfl (by decide) rfl)
theorem s_51_34 {Γ : m_G} : m_ok Γ m_tab 51 M_51 34 (g_51_34) := ok_il_n (pc := 34) d_51_34 rfl (ok_al_n (pc := 35) d_51_35 rfl (ok_getf (pc := 36) d_51_36 w_95 (hc1 fo_17) (ok_getf (pc := 39) d_51_39 w_48 (hc1 fo_28) (ok_cige (pc := 42) (t := 77) d_51_42 rfl (by decide) rfl (ok_al_n (pc := 45) d_51_45 rfl (ok_getf (pc := 46) d_51_46 w_99 (hc1 fo_26) (ok_il_n (pc := 49) d_51_49 rfl (ok_iald (pc := 50) d_51_50 (ok_al_n (pc := 51) d_51_51 rfl (ok_getf (pc := 52) d_51_52 w_95 (hc1 fo_17) (ok_getf (pc := 55) d_51_55 w_59 (hc1 fo_31) (ok_il_n (pc := 58) d_51_58 rfl (ok_iald (pc := 59) d_51_59 (ok_cieq (pc := 60) (t := 71) d_51_60 rfl (by decide) rfl (ok_il_n (pc := 63) d_51_63 rfl (ok_ic (pc := 64) d_51_64 rfl (ok_il_n (pc := 65) d_51_65 rfl (ok_shl (pc := 66) d_51_66 (ok_ic (pc := 67) d_51_67 rfl (ok_xor (pc := 68) d_51_68 (ok_and (pc := 69) d_51_69 (ok_is_n (pc := 70) d_51_70 rfl (by decide) (s_51_71)))))))))))))))))))))))
theorem s_51_14 {Γ : m_G} : m_ok Γ m_tab 51 M_51 14 (g_51_14) := ok_il_n (pc := 14) d_51_14 rfl (ok_al_n (pc := 15) d_51_15 rfl (ok_getf (pc := 16) d_51_16 w_102 (hc1 fo_22) (ok_cige (pc := 19) (t := 83) d_51_19 rfl (by decide) rfl (ok_al_n (pc := 22) d_51_22 rfl (ok_al_n (pc := 23) d_51_23 rfl (ok_getf (pc := 24) d_51_24 w_101 (hc1 fo_21) (ok_il_n (pc := 27) d_51_27 rfl (ok_iald (pc := 28) d_51_28 (ok_cvi (pc := 29) (k2 := 45) rfl rfl tb_45 (by decide) (by decide) rfl (go_V d_51_29 w_670 w_672 ws_27 w_3 w_673 nn_45 (by decide) cl_5 rfl) (ok_ic (pc := 32) d_51_32 rfl (ok_is_n (pc := 33) d_51_33 rfl (by decide) (s_51_34))))))))))))
theorem s_51_0 {Γ : m_G} : m_ok Γ m_tab 51 M_51 0 (g_51_0) := ok_ic (pc := 0) d_51_0 rfl (ok_al_n (pc := 1) d_51_1 rfl (ok_getf (pc := 2) d_51_2 w_95 (hc1 fo_17) (ok_getf (pc := 5) d_51_5 w_48 (hc1 fo_28) (ok_shl (pc := 8) d_51_8 (ok_ic (pc := 9) d_51_9 rfl (ok_sub (pc := 10) d_51_10 (ok_is_n (pc := 11) d_51_11 rfl (by decide) (ok_ic (pc := 12) d_51_12 rfl (ok_is_n (pc := 13) d_51_13 rfl (by decide) (s_51_14))))))))))
theorem tst_51 {Γ : m_G} (q : Nat) : m_ts Γ (t_51 q) q := ts_n (ts_n (ts_l (k := 51) (pc := 0) tb_51 rfl (by decide) s_51_0) (ts_n (ts_l (k := 51) (pc := 14) tb_51 rfl (by decide) s_51_14) (ts_l (k := 51) (pc := 34) tb_51 rfl (by decide) s_51_34))) (ts_n (ts_l (k := 51) (pc := 71) tb_51 rfl (by decide) s_51_71) (ts_n (ts_l (k := 51) (pc := 77) tb_51 rfl (by decide) s_51_77) (ts_l (k := 51) (pc := 83) tb_51 rfl (by decide) s_51_83)))
theorem d_52_0 : decode prog_7_method_17_code 0 = .ok (.aload_n 0, 1) := by decide +kernel
theorem d_52_1 : decode prog_7_method_17_code 1 = .ok (.getfield 38, 3) := by decide +kernel
theorem d_52_4 : decode prog_7_method_17_code 4 = .ok (.iload_n 1, 1) := by decide +kernel
theorem d_52_5 : decode prog_7_method_17_code 5 = .ok (.invokevirtual 50, 3) := by decide +kernel
theorem d_52_8 : decode prog_7_method_17_code 8 = .ok (.ifCond .eq 12, 3) := by decide +kernel
theorem d_52_11 : decode prog_7_method_17_code 11 = .ok (.aload_n 0, 1) := by decide +kernel
theorem d_52_12 : decode prog_7_method_17_code 12 = .ok (.getfield 25, 3) := by decide +kernel
theorem d_52_15 : decode prog_7_method_17_code 15 = .ok (.iload_n 1, 1) := by decide +kernel
theorem d_52_16 : decode prog_7_method_17_code 16 = .ok (.iaload, 1) := by decide +kernel
theorem d_52_17 : decode prog_7_method_17_code 17 = .ok (.goto 4, 3) := by decide +kernel
theorem d_52_20 : decode prog_7_method_17_code 20 = .ok (.iconst (-1), 1) := by decide +kernel
theorem d_52_21 : decode prog_7_method_17_code 21 = .ok (.ireturn, 1) := by decide +kernel
theorem s_52_21 {Γ : m_G} : m_ok Γ m_tab 52 M_52 21 (g_52_21) := ok_ri (pc := 21) d_52_21 rfl
theorem s_52_20 {Γ : m_G} : m_ok Γ m_tab 52 M_52 20 (g_52_20) := ok_ic (pc := 20) d_52_20 rfl (s_52_21)
theorem s_52_0 {Γ : m_G} : m_ok Γ m_tab 52 M_52 0 (g_52_0) := ok_al_n (pc := 0) d_52_0 rfl (ok_getf (pc := 1) d_52_1 w_95 (hc1 fo_17) (ok_il_n (pc := 4) d_52_4 rfl (ok_cai (pc := 5) (k2 := 83) rfl rfl tb_83 (by decide) (by decide) rfl (go_V d_52_5 w_683 w_684 w_685 w_2 w_686 nn_83 (by decide) cl_10 rfl) (ok_czeq (pc := 8) (t := 20) d_52_8 rfl (by decide) rfl (ok_al_n (pc := 11) d_52_11 rfl (ok_getf (pc := 12) d_52_12 w_104 (hc1 fo_19) (ok_il_n (pc := 15) d_52_15 rfl (ok_iald (pc := 16) d_52_16 (ok_go (pc := 17) (t := 21) d_52_17 rfl (by decide) rfl)))))))))
theorem tst_52 {Γ : m_G} (q : Nat) : m_ts Γ (t_52 q) q := ts_n (ts_l (k := 52) (pc := 0) tb_52 rfl (by decide) s_52_0) (ts_n (ts_l (k := 52) (pc := 20) tb_52 rfl (by decide) s_52_20) (ts_l (k := 52) (pc := 21) tb_52 rfl (by decide) s_52_21))
theorem d_53_0 : decode prog_7_method_18_code 0 = .ok (.aload_n 0, 1) := by decide +kernel
theorem d_53_1 : decode prog_7_method_18_code 1 = .ok (.iload_n 1, 1) := by decide +kernel
theorem d_53_2 : decode prog_7_method_18_code 2 = .ok (.invokevirtual 107, 3) := by decide +kernel
theorem d_53_5 : decode prog_7_method_18_code 5 = .ok (.istore_n 3, 1) := by decide +kernel
theorem d_53_6 : decode prog_7_method_18_code 6 = .ok (.iload_n 2, 1) := by decide +kernel
theorem d_53_7 : decode prog_7_method_18_code 7 = .ok (.ifCond .lt 8, 3) := by decide +kernel
theorem d_53_10 : decode prog_7_method_18_code 10 = .ok (.iload_n 2, 1) := by decide +kernel
theorem d_53_11 : decode prog_7_method_18_code 11 = .ok (.iload_n 3, 1) := by decide +kernel
theorem d_53_12 : decode prog_7_method_18_code 12 = .ok (.if_icmp .lt 5, 3) := by decide +kernel
theorem d_53_15 : decode prog_7_method_18_code 15 = .ok (.iconst (-1), 1) := by decide +kernel
theorem d_53_16 : decode prog_7_method_18_code 16 = .ok (.ireturn, 1) := by decide +kernel
theorem d_53_17 : decode prog_7_method_18_code 17 = .ok (.iload_n 1, 1) := by decide +kernel
theorem d_53_18 : decode prog_7_method_18_code 18 = .ok (.istore 4, 2) := by decide +kernel
theorem d_53_20 : decode prog_7_method_18_code 20 = .ok (.iload_n 3, 1) := by decide +kernel
theorem d_53_21 : decode prog_7_method_18_code 21 = .ok (.iconst 1, 1) := by decide +kernel
theorem d_53_22 : decode prog_7_method_18_code 22 = .ok (.isub, 1) := by decide +kernel
theorem d_53_23 : decode prog_7_method_18_code 23 = .ok (.istore 5, 2) := by decide +kernel
theorem d_53_25 : decode prog_7_method_18_code 25 = .ok (.iload 5, 2) := by decide +kernel
theorem d_53_27 : decode prog_7_method_18_code 27 = .ok (.iload_n 2, 1) := by decide +kernel
theorem d_53_28 : decode prog_7_method_18_code 28 = .ok (.if_icmp .le 30, 3) := by decide +kernel
theorem d_53_31 : decode prog_7_method_18_code 31 = .ok (.aload_n 0, 1) := by decide +kernel
theorem d_53_32 : decode prog_7_method_18_code 32 = .ok (.getfield 38, 3) := by decide +kernel
theorem d_53_35 : decode prog_7_method_18_code 35 = .ok (.iload 4, 2) := by decide +kernel
theorem d_53_37 : decode prog_7_method_18_code 37 = .ok (.invokevirtual 50, 3) := by decide +kernel
theorem d_53_40 : decode prog_7_method_18_code 40 = .ok (.ifCond .eq 18, 3) := by decide +kernel
theorem d_53_43 : decode prog_7_method_18_code 43 = .ok (.aload_n 0, 1) := by decide +kernel
theorem d_53_44 : decode prog_7_method_18_code 44 = .ok (.getfield 28, 3) := by decide +kernel
theorem d_53_47 : decode prog_7_method_18_code 47 = .ok (.iload 4, 2) := by decide +kernel
theorem d_53_49 : decode prog_7_method_18_code 49 = .ok (.iaload, 1) := by decide +kernel
theorem d_53_50 : decode prog_7_method_18_code 50 = .ok (.istore 4, 2) := by decide +kernel
theorem d_53_52 : decode prog_7_method_18_code 52 = .ok (.iinc 5 (-1), 3) := by decide +kernel
theorem d_53_55 : decode prog_7_method_18_code 55 = .ok (.goto (-30), 3) := by decide +kernel
theorem d_53_58 : decode prog_7_method_18_code 58 = .ok (.aload_n 0, 1) := by decide +kernel
theorem d_53_59 : decode prog_7_method_18_code 59 = .ok (.getfield 38, 3) := by decide +kernel
theorem d_53_62 : decode prog_7_method_18_code 62 = .ok (.iload 4, 2) := by decide +kernel
theorem d_53_64 : decode prog_7_method_18_code 64 = .ok (.invokevirtual 50, 3) := by decide +kernel
theorem d_53_67 : decode prog_7_method_18_code 67 = .ok (.ifCond .eq 19, 3) := by decide +kernel
theorem d_53_70 : decode prog_7_method_18_code 70 = .ok (.aload_n 0, 1) := by decide +kernel
theorem d_53_71 : decode prog_7_method_18_code 71 = .ok (.aload_n 0, 1) := by decide +kernel
theorem d_53_72 : decode prog_7_method_18_code 72 = .ok (.getfield 28, 3) := by decide +kernel
theorem d_53_75 : decode prog_7_method_18_code 75 = .ok (.iload 4, 2) := by decide +kernel
theorem d_53_77 : decode prog_7_method_18_code 77 = .ok (.iaload, 1) := by decide +kernel
theorem d_53_78 : decode prog_7_method_18_code 78 = .ok (.iload 4, 2) := by decide +kernel
theorem d_53_80 : decode prog_7_method_18_code 80 = .ok (.invokevirtual 111, 3) := by decide +kernel
theorem d_53_83 : decode prog_7_method_18_code 83 = .ok (.goto 4, 3) := by decide +kernel
theorem d_53_86 : decode prog_7_method_18_code 86 = .ok (.iconst (-1), 1) := by decide +kernel
theorem d_53_87 : decode prog_7_method_18_code 87 = .ok (.ireturn, 1) := by decide +kernel
theorem s_53_87 {Γ : m_G} : m_ok Γ m_tab 53 M_53 87 (g_53_87) := ok_ri (pc := 87) d_53_87 rfl
theorem s_53_86 {Γ : m_G} : m_ok Γ m_tab 53 M_53 86 (g_53_86) := ok_ic (pc := 86) d_53_86 rfl (s_53_87)
theorem s_53_58 {Γ : m_G} : m_ok Γ m_tab 53 M_53 58 (g_53_58) := ok_al_n (pc := 58) d_53_58 rfl (ok_getf (pc := 59) d_53_59 w_95 (hc1 fo_17) (ok_il (pc := 62) d_53_62 (ok_cai (pc := 64) (k2 := 83) rfl rfl tb_83 (by decide) (by decide) rfl (go_V d_53_64 w_683 w_684 w_685 w_2 w_686 nn_83 (by decide) cl_10 rfl) (ok_czeq (pc := 67) (t := 86) d_53_67 rfl (by decide) rfl (ok_al_n (pc := 70) d_53_70 rfl (ok_al_n (pc := 71) d_53_71 rfl (ok_getf (pc := 72) d_53_72 w_105 (hc1 fo_23) (ok_il (pc := 75) d_53_75 (ok_iald (pc := 77) d_53_77 (ok_il (pc := 78) d_53_78 (ok_cai (pc := 80) (k2 := 54) rfl rfl tb_54 (by decide) (by decide) rfl (go_V d_53_80 w_734 w_736 ws_33 w_3 w_737 nn_54 (by decide) cl_5 rfl) (ok_go (pc := 83) (t := 87) d_53_83 rfl (by decide) rfl))))))))))))
theorem s_53_25 {Γ : m_G} : m_ok Γ m_tab 53 M_53 25 (g_53_25) := ok_il (pc := 25) d_53_25 (ok_il_n (pc := 27) d_53_27 rfl (ok_cile (pc := 28) (t := 58) d_53_28 rfl (by decide) rfl (ok_al_n (pc := 31) d_53_31 rfl (ok_getf (pc := 32) d_53_32 w_95 (hc1 fo_17) (ok_il (pc := 35) d_53_35 (ok_cai (pc := 37) (k2 := 83) rfl rfl tb_83 (by decide) (by decide) rfl (go_V d_53_37 w_683 w_684 w_685 w_2 w_686 nn_83 (by decide) cl_10 rfl) (ok_czeq (pc := 40) (t := 58) d_53_40 rfl (by decide) rfl (ok_al_n (pc := 43) d_53_43 rfl (ok_getf (pc := 44) d_53_44 w_105 (hc1 fo_23) (ok_il (pc := 47) d_53_47 (ok_iald (pc := 49) d_53_49 (ok_is (pc := 50) d_53_50 (by decide) (ok_inc (pc := 52) d_53_52 rfl (by decide) (ok_go (pc := 55) (t := 25) d_53_55 rfl (by decide) rfl))))))))))))))
theorem s_53_17 {Γ : m_G} : m_ok Γ m_tab 53 M_53 17 (g_53_17) := ok_il_n (pc := 17) d_53_17 rfl (ok_is (pc := 18) d_53_18 (by decide) (ok_il_n (pc := 20) d_53_20 rfl (ok_ic (pc := 21) d_53_21 rfl (ok_sub (pc := 22) d_53_22 (ok_is (pc := 23) d_53_23 (by decide) (s_53_25))))))
theorem s_53_15 {Γ : m_G} : m_ok Γ m_tab 53 M_53 15 (g_53_15) := ok_ic (pc := 15) d_53_15 rfl (ok_ri (pc := 16) d_53_16 rfl)
theorem s_53_0 {Γ : m_G} : m_ok Γ m_tab 53 M_53 0 (g_53_0) := ok_al_n (pc := 0) d_53_0 rfl (ok_il_n (pc := 1) d_53_1 rfl (ok_cai (pc := 2) (k2 := 52) rfl rfl tb_52 (by decide) (by decide) rfl (go_V d_53_2 w_733 w_722 w_723 w_3 w_724 nn_52 (by decide) cl_5 rfl) (ok_is_n (pc := 5) d_53_5 rfl (by decide) (ok_il_n (pc := 6) d_53_6 rfl (ok_czlt (pc := 7) (t := 15) d_53_7 rfl (by decide) rfl (ok_il_n (pc := 10) d_53_10 rfl (ok_il_n (pc := 11) d_53_11 rfl (ok_cilt (pc := 12) (t := 17) d_53_12 rfl (by decide) rfl (s_53_15)))))))))
theorem tst_53 {Γ : m_G} (q : Nat) : m_ts Γ (t_53 q) q := ts_n (ts_n (ts_l (k := 53) (pc := 0) tb_53 rfl (by decide) s_53_0) (ts_n (ts_l (k := 53) (pc := 15) tb_53 rfl (by decide) s_53_15) (ts_l (k := 53) (pc := 17) tb_53 rfl (by decide) s_53_17))) (ts_n (ts_n (ts_l (k := 53) (pc := 25) tb_53 rfl (by decide) s_53_25) (ts_l (k := 53) (pc := 58) tb_53 rfl (by decide) s_53_58)) (ts_n (ts_l (k := 53) (pc := 86) tb_53 rfl (by decide) s_53_86) (ts_l (k := 53) (pc := 87) tb_53 rfl (by decide) s_53_87)))
theorem d_54_0 : decode prog_7_method_19_code 0 = .ok (.iload_n 1, 1) := by decide +kernel
theorem d_54_1 : decode prog_7_method_19_code 1 = .ok (.istore_n 3, 1) := by decide +kernel
theorem d_54_2 : decode prog_7_method_19_code 2 = .ok (.iload_n 2, 1) := by decide +kernel
theorem d_54_3 : decode prog_7_method_19_code 3 = .ok (.istore 4, 2) := by decide +kernel
theorem d_54_5 : decode prog_7_method_19_code 5 = .ok (.iconst 0, 1) := by decide +kernel
theorem d_54_6 : decode prog_7_method_19_code 6 = .ok (.istore 5, 2) := by decide +kernel
theorem d_54_8 : decode prog_7_method_19_code 8 = .ok (.iload 5, 2) := by decide +kernel
theorem d_54_10 : decode prog_7_method_19_code 10 = .ok (.aload_n 0, 1) := by decide +kernel
theorem d_54_11 : decode prog_7_method_19_code 11 = .ok (.getfield 38, 3) := by decide +kernel
theorem d_54_14 : decode prog_7_method_19_code 14 = .ok (.getfield 82, 3) := by decide +kernel
theorem d_54_17 : decode prog_7_method_19_code 17 = .ok (.if_icmp .ge 69, 3) := by decide +kernel
theorem d_54_20 : decode prog_7_method_19_code 20 = .ok (.iload_n 3, 1) := by decide +kernel
theorem d_54_21 : decode prog_7_method_19_code 21 = .ok (.aload_n 0, 1) := by decide +kernel
theorem d_54_22 : decode prog_7_method_19_code 22 = .ok (.getfield 38, 3) := by decide +kernel
theorem d_54_25 : decode prog_7_method_19_code 25 = .ok (.getfield 92, 3) := by decide +kernel
theorem d_54_28 : decode prog_7_method_19_code 28 = .ok (.irem, 1) := by decide +kernel
theorem d_54_29 : decode prog_7_method_19_code 29 = .ok (.iload 4, 2) := by decide +kernel
theorem d_54_31 : decode prog_7_method_19_code 31 = .ok (.aload_n 0, 1) := by decide +kernel
theorem d_54_32 : decode prog_7_method_19_code 32 = .ok (.getfield 38, 3) := by decide +kernel
theorem d_54_35 : decode prog_7_method_19_code 35 = .ok (.getfield 92, 3) := by decide +kernel
theorem d_54_38 : decode prog_7_method_19_code 38 = .ok (.irem, 1) := by decide +kernel
theorem d_54_39 : decode prog_7_method_19_code 39 = .ok (.if_icmp .eq 19, 3) := by decide +kernel
theorem d_54_42 : decode prog_7_method_19_code 42 = .ok (.iconst 5, 1) := by decide +kernel
theorem d_54_43 : decode prog_7_method_19_code 43 = .ok (.iload 5, 2) := by decide +kernel
theorem d_54_45 : decode prog_7_method_19_code 45 = .ok (.imul, 1) := by decide +kernel
theorem d_54_46 : decode prog_7_method_19_code 46 = .ok (.iload 4, 2) := by decide +kernel
theorem d_54_48 : decode prog_7_method_19_code 48 = .ok (.aload_n 0, 1) := by decide +kernel
theorem d_54_49 : decode prog_7_method_19_code 49 = .ok (.getfield 38, 3) := by decide +kernel
theorem d_54_52 : decode prog_7_method_19_code 52 = .ok (.getfield 92, 3) := by decide +kernel
theorem d_54_55 : decode prog_7_method_19_code 55 = .ok (.irem, 1) := by decide +kernel
theorem d_54_56 : decode prog_7_method_19_code 56 = .ok (.iadd, 1) := by decide +kernel
theorem d_54_57 : decode prog_7_method_19_code 57 = .ok (.ireturn, 1) := by decide +kernel
theorem d_54_58 : decode prog_7_method_19_code 58 = .ok (.iload_n 3, 1) := by decide +kernel
theorem d_54_59 : decode prog_7_method_19_code 59 = .ok (.aload_n 0, 1) := by decide +kernel
theorem d_54_60 : decode prog_7_method_19_code 60 = .ok (.getfield 38, 3) := by decide +kernel
theorem d_54_63 : decode prog_7_method_19_code 63 = .ok (.getfield 92, 3) := by decide +kernel
theorem d_54_66 : decode prog_7_method_19_code 66 = .ok (.idiv, 1) := by decide +kernel
theorem d_54_67 : decode prog_7_method_19_code 67 = .ok (.istore_n 3, 1) := by decide +kernel
theorem d_54_68 : decode prog_7_method_19_code 68 = .ok (.iload 4, 2) := by decide +kernel
theorem d_54_70 : decode prog_7_method_19_code 70 = .ok (.aload_n 0, 1) := by decide +kernel
theorem d_54_71 : decode prog_7_method_19_code 71 = .ok (.getfield 38, 3) := by decide +kernel
theorem d_54_74 : decode prog_7_method_19_code 74 = .ok (.getfield 92, 3) := by decide +kernel
theorem d_54_77 : decode prog_7_method_19_code 77 = .ok (.idiv, 1) := by decide +kernel
theorem d_54_78 : decode prog_7_method_19_code 78 = .ok (.istore 4, 2) := by decide +kernel
theorem d_54_80 : decode prog_7_method_19_code 80 = .ok (.iinc 5 1, 3) := by decide +kernel
theorem d_54_83 : decode prog_7_method_19_code 83 = .ok (.goto (-75), 3) := by decide +kernel
theorem d_54_86 : decode prog_7_method_19_code 86 = .ok (.iconst (-1), 1) := by decide +kernel
theorem d_54_87 : decode prog_7_method_19_code 87 = .ok (.ireturn, 1) := by decide +kernel
theorem s_54_86 {Γ : m_G} : m_ok Γ m_tab 54 M_54 86 (g_54_86) := ok_ic (pc := 86) d_54_86 rfl (ok_ri (pc := 87) d_54_87 rfl)
theorem s_54_58 {Γ : m_G} : m_ok Γ m_tab 54 M_54 58 (g_54_58) := ok_il_n (pc := 58) d_54_58 rfl (ok_al_n (pc := 59) d_54_59 rfl (ok_getf (pc := 60) d_54_60 w_95 (hc1 fo_17) (ok_getf (pc := 63) d_54_63 w_50 (hc1 fo_24) (ok_div (pc := 66) d_54_66 (ok_is_n (pc := 67) d_54_67 rfl (by decide) (ok_il (pc := 68) d_54_68 (ok_al_n (pc := 70) d_54_70 rfl (ok_getf (pc := 71) d_54_71 w_95 (hc1 fo_17) (ok_getf (pc := 74) d_54_74 w_50 (hc1 fo_24) (ok_div (pc := 77) d_54_77 (ok_is (pc := 78) d_54_78 (by decide) (ok_inc (pc := 80) d_54_80 rfl (by decide) (ok_go (pc := 83) (t := 8) d_54_83 rfl (by decide) rfl)))))))))))))
theorem s_54_8 {Γ : m_G} : m_ok Γ m_tab 54 M_54 8 (g_54_8) := ok_il (pc := 8) d_54_8 (ok_al_n (pc := 10) d_54_10 rfl (ok_getf (pc := 11) d_54_11 w_95 (hc1 fo_17) (ok_getf (pc := 14) d_54_14 w_48 (hc1 fo_28) (ok_cige (pc := 17) (t := 86) d_54_17 rfl (by decide) rfl (ok_il_n (pc := 20) d_54_20 rfl (ok_al_n (pc := 21) d_54_21 rfl (ok_getf (pc := 22) d_54_22 w_95 (hc1 fo_17) (ok_getf (pc := 25) d_54_25 w_50 (hc1 fo_24) (ok_rem (pc := 28) d_54_28 (ok_il (pc := 29) d_54_29 (ok_al_n (pc := 31) d_54_31 rfl (ok_getf (pc := 32) d_54_32 w_95 (hc1 fo_17) (ok_getf (pc := 35) d_54_35 w_50 (hc1 fo_24) (ok_rem (pc := 38) d_54_38 (ok_cieq (pc := 39) (t := 58) d_54_39 rfl (by decide) rfl (ok_ic (pc := 42) d_54_42 rfl (ok_il (pc := 43) d_54_43 (ok_mul (pc := 45) d_54_45 (ok_il (pc := 46) d_54_46 (ok_al_n (pc := 48) d_54_48 rfl (ok_getf (pc := 49) d_54_49 w_95 (hc1 fo_17) (ok_getf (pc := 52) d_54_52 w_50 (hc1 fo_24) (ok_rem (pc := 55) d_54_55 (ok_add (pc := 56) d_54_56 (ok_ri (pc := 57) d_54_57 rfl)))))))))))))))))))))))))
theorem s_54_0 {Γ : m_G} : m_ok Γ m_tab 54 M_54 0 (g_54_0) := ok_il_n (pc := 0) d_54_0 rfl (ok_is_n (pc := 1) d_54_1 rfl (by decide) (ok_il_n (pc := 2) d_54_2 rfl (ok_is (pc := 3) d_54_3 (by decide) (ok_ic (pc := 5) d_54_5 rfl (ok_is (pc := 6) d_54_6 (by decide) (s_54_8))))))
theorem tst_54 {Γ : m_G} (q : Nat) : m_ts Γ (t_54 q) q := ts_n (ts_n (ts_l (k := 54) (pc := 0) tb_54 rfl (by decide) s_54_0) (ts_l (k := 54) (pc := 8) tb_54 rfl (by decide) s_54_8)) (ts_n (ts_l (k := 54) (pc := 58) tb_54 rfl (by decide) s_54_58) (ts_l (k := 54) (pc := 86) tb_54 rfl (by decide) s_54_86))
theorem d_55_0 : decode prog_7_method_20_code 0 = .ok (.aload_n 0, 1) := by decide +kernel
theorem d_55_1 : decode prog_7_method_20_code 1 = .ok (.iload_n 1, 1) := by decide +kernel
theorem d_55_2 : decode prog_7_method_20_code 2 = .ok (.invokevirtual 107, 3) := by decide +kernel
theorem d_55_5 : decode prog_7_method_20_code 5 = .ok (.iconst (-1), 1) := by decide +kernel
theorem d_55_6 : decode prog_7_method_20_code 6 = .ok (.if_icmp .ne 5, 3) := by decide +kernel
theorem d_55_9 : decode prog_7_method_20_code 9 = .ok (.iconst (-1), 1) := by decide +kernel
theorem d_55_10 : decode prog_7_method_20_code 10 = .ok (.ireturn, 1) := by decide +kernel
theorem d_55_11 : decode prog_7_method_20_code 11 = .ok (.aload_n 0, 1) := by decide +kernel
theorem d_55_12 : decode prog_7_method_20_code 12 = .ok (.invokevirtual 115, 3) := by decide +kernel
theorem d_55_15 : decode prog_7_method_20_code 15 = .ok (.aload_n 0, 1) := by decide +kernel
theorem d_55_16 : decode prog_7_method_20_code 16 = .ok (.getfield 31, 3) := by decide +kernel
theorem d_55_19 : decode prog_7_method_20_code 19 = .ok (.iload_n 1, 1) := by decide +kernel
theorem d_55_20 : decode prog_7_method_20_code 20 = .ok (.iaload, 1) := by decide +kernel
theorem d_55_21 : decode prog_7_method_20_code 21 = .ok (.ireturn, 1) := by decide +kernel
theorem s_55_11 {Γ : m_G} : m_ok Γ m_tab 55 M_55 11 (g_55_11) := ok_al_n (pc := 11) d_55_11 rfl (ok_cvi (pc := 12) (k2 := 47) rfl rfl tb_47 (by decide) (by decide) rfl (go_V d_55_12 w_746 w_748 ws_34 w_3 w_749 nn_47 (by decide) cl_5 rfl) (ok_al_n (pc := 15) d_55_15 rfl (ok_getf (pc := 16) d_55_16 w_106 (hc1 fo_25) (ok_il_n (pc := 19) d_55_19 rfl (ok_iald (pc := 20) d_55_20 (ok_ri (pc := 21) d_55_21 rfl))))))
theorem s_55_0 {Γ : m_G} : m_ok Γ m_tab 55 M_55 0 (g_55_0) := ok_al_n (pc := 0) d_55_0 rfl (ok_il_n (pc := 1) d_55_1 rfl (ok_cai (pc := 2) (k2 := 52) rfl rfl tb_52 (by decide) (by decide) rfl (go_V d_55_2 w_733 w_722 w_723 w_3 w_724 nn_52 (by decide) cl_5 rfl) (ok_ic (pc := 5) d_55_5 rfl (ok_cine (pc := 6) (t := 11) d_55_6 rfl (by decide) rfl (ok_ic (pc := 9) d_55_9 rfl (ok_ri (pc := 10) d_55_10 rfl))))))
theorem tst_55 {Γ : m_G} (q : Nat) : m_ts Γ (t_55 q) q := ts_n (ts_l (k := 55) (pc := 0) tb_55 rfl (by decide) s_55_0) (ts_l (k := 55) (pc := 11) tb_55 rfl (by decide) s_55_11)
theorem d_56_0 : decode prog_7_method_21_code 0 = .ok (.aload_n 0, 1) := by decide +kernel
theorem d_56_1 : decode prog_7_method_21_code 1 = .ok (.iload_n 1, 1) := by decide +kernel
theorem d_56_2 : decode prog_7_method_21_code 2 = .ok (.invokevirtual 78, 3) := by decide +kernel
theorem d_56_5 : decode prog_7_method_21_code 5 = .ok (.iconst 0, 1) := by decide +kernel
theorem d_56_6 : decode prog_7_method_21_code 6 = .ok (.istore_n 2, 1) := by decide +kernel
theorem d_56_7 : decode prog_7_method_21_code 7 = .ok (.iconst 0, 1) := by decide +kernel
theorem d_56_8 : decode prog_7_method_21_code 8 = .ok (.istore_n 3, 1) := by decide +kernel
theorem d_56_9 : decode prog_7_method_21_code 9 = .ok (.iload_n 3, 1) := by decide +kernel
theorem d_56_10 : decode prog_7_method_21_code 10 = .ok (.aload_n 0, 1) := by decide +kernel
theorem d_56_11 : decode prog_7_method_21_code 11 = .ok (.getfield 38, 3) := by decide +kernel
theorem d_56_14 : decode prog_7_method_21_code 14 = .ok (.getfield 82, 3) := by decide +kernel
theorem d_56_17 : decode prog_7_method_21_code 17 = .ok (.if_icmp .ge 30, 3) := by decide +kernel
theorem d_56_20 : decode prog_7_method_21_code 20 = .ok (.aload_n 0, 1) := by decide +kernel
theorem d_56_21 : decode prog_7_method_21_code 21 = .ok (.getfield 15, 3) := by decide +kernel
theorem d_56_24 : decode prog_7_method_21_code 24 = .ok (.iload_n 3, 1) := by decide +kernel
theorem d_56_25 : decode prog_7_method_21_code 25 = .ok (.iaload, 1) := by decide +kernel
theorem d_56_26 : decode prog_7_method_21_code 26 = .ok (.aload_n 0, 1) := by decide +kernel
theorem d_56_27 : decode prog_7_method_21_code 27 = .ok (.getfield 38, 3) := by decide +kernel
theorem d_56_30 : decode prog_7_method_21_code 30 = .ok (.getfield 106, 3) := by decide +kernel
theorem d_56_33 : decode prog_7_method_21_code 33 = .ok (.iload_n 3, 1) := by decide +kernel
theorem d_56_34 : decode prog_7_method_21_code 34 = .ok (.iaload, 1) := by decide +kernel
theorem d_56_35 : decode prog_7_method_21_code 35 = .ok (.if_icmp .eq 6, 3) := by decide +kernel
theorem d_56_38 : decode prog_7_method_21_code 38 = .ok (.iinc 2 1, 3) := by decide +kernel
theorem d_56_41 : decode prog_7_method_21_code 41 = .ok (.iinc 3 1, 3) := by decide +kernel
theorem d_56_44 : decode prog_7_method_21_code 44 = .ok (.goto (-35), 3) := by decide +kernel
theorem d_56_47 : decode prog_7_method_21_code 47 = .ok (.iload_n 2, 1) := by decide +kernel
theorem d_56_48 : decode prog_7_method_21_code 48 = .ok (.ireturn, 1) := by decide +kernel
theorem s_56_47 {Γ : m_G} : m_ok Γ m_tab 56 M_56 47 (g_56_47) := ok_il_n (pc := 47) d_56_47 rfl (ok_ri (pc := 48) d_56_48 rfl)
theorem s_56_41 {Γ : m_G} : m_ok Γ m_tab 56 M_56 41 (g_56_41) := ok_inc (pc := 41) d_56_41 rfl (by decide) (ok_go (pc := 44) (t := 9) d_56_44 rfl (by decide) rfl)
theorem s_56_9 {Γ : m_G} : m_ok Γ m_tab 56 M_56 9 (g_56_9) := ok_il_n (pc := 9) d_56_9 rfl (ok_al_n (pc := 10) d_56_10 rfl (ok_getf (pc := 11) d_56_11 w_95 (hc1 fo_17) (ok_getf (pc := 14) d_56_14 w_48 (hc1 fo_28) (ok_cige (pc := 17) (t := 47) d_56_17 rfl (by decide) rfl (ok_al_n (pc := 20) d_56_20 rfl (ok_getf (pc := 21) d_56_21 w_99 (hc1 fo_26) (ok_il_n (pc := 24) d_56_24 rfl (ok_iald (pc := 25) d_56_25 (ok_al_n (pc := 26) d_56_26 rfl (ok_getf (pc := 27) d_56_27 w_95 (hc1 fo_17) (ok_getf (pc := 30) d_56_30 w_59 (hc1 fo_31) (ok_il_n (pc := 33) d_56_33 rfl (ok_iald (pc := 34) d_56_34 (ok_cieq (pc := 35) (t := 41) d_56_35 rfl (by decide) rfl (ok_inc (pc := 38) d_56_38 rfl (by decide) (s_56_41))))))))))))))))
theorem s_56_0 {Γ : m_G} : m_ok Γ m_tab 56 M_56 0 (g_56_0) := ok_al_n (pc := 0) d_56_0 rfl (ok_il_n (pc := 1) d_56_1 rfl (ok_cvi (pc := 2) (k2 := 45) rfl rfl tb_45 (by decide) (by decide) rfl (go_V d_56_2 w_670 w_672 ws_27 w_3 w_673 nn_45 (by decide) cl_5 rfl) (ok_ic (pc := 5) d_56_5 rfl (ok_is_n (pc := 6) d_56_6 rfl (by decide) (ok_ic (pc := 7) d_56_7 rfl (ok_is_n (pc := 8) d_56_8 rfl (by decide) (s_56_9)))))))
theorem tst_56 {Γ : m_G} (q : Nat) : m_ts Γ (t_56 q) q := ts_n (ts_n (ts_l (k := 56) (pc := 0) tb_56 rfl (by decide) s_56_0) (ts_l (k := 56) (pc := 9) tb_56 rfl (by decide) s_56_9)) (ts_n (ts_l (k := 56) (pc := 41) tb_56 rfl (by decide) s_56_41) (ts_l (k := 56) (pc := 47) tb_56 rfl (by decide) s_56_47))
theorem d_57_0 : decode prog_7_method_22_code 0 = .ok (.aload_n 0, 1) := by decide +kernel
theorem d_57_1 : decode prog_7_method_22_code 1 = .ok (.iload_n 1, 1) := by decide +kernel
theorem d_57_2 : decode prog_7_method_22_code 2 = .ok (.invokevirtual 78, 3) := by decide +kernel
theorem d_57_5 : decode prog_7_method_22_code 5 = .ok (.iconst 0, 1) := by decide +kernel
theorem d_57_6 : decode prog_7_method_22_code 6 = .ok (.istore_n 2, 1) := by decide +kernel
theorem d_57_7 : decode prog_7_method_22_code 7 = .ok (.iconst 0, 1) := by decide +kernel
theorem d_57_8 : decode prog_7_method_22_code 8 = .ok (.istore_n 3, 1) := by decide +kernel
theorem d_57_9 : decode prog_7_method_22_code 9 = .ok (.iload_n 3, 1) := by decide +kernel
theorem d_57_10 : decode prog_7_method_22_code 10 = .ok (.aload_n 0, 1) := by decide +kernel
theorem d_57_11 : decode prog_7_method_22_code 11 = .ok (.getfield 38, 3) := by decide +kernel
theorem d_57_14 : decode prog_7_method_22_code 14 = .ok (.getfield 82, 3) := by decide +kernel
theorem d_57_17 : decode prog_7_method_22_code 17 = .ok (.if_icmp .ge 30, 3) := by decide +kernel
theorem d_57_20 : decode prog_7_method_22_code 20 = .ok (.aload_n 0, 1) := by decide +kernel
theorem d_57_21 : decode prog_7_method_22_code 21 = .ok (.getfield 15, 3) := by decide +kernel
theorem d_57_24 : decode prog_7_method_22_code 24 = .ok (.iload_n 3, 1) := by decide +kernel
theorem d_57_25 : decode prog_7_method_22_code 25 = .ok (.iaload, 1) := by decide +kernel
theorem d_57_26 : decode prog_7_method_22_code 26 = .ok (.aload_n 0, 1) := by decide +kernel
theorem d_57_27 : decode prog_7_method_22_code 27 = .ok (.getfield 38, 3) := by decide +kernel
theorem d_57_30 : decode prog_7_method_22_code 30 = .ok (.getfield 118, 3) := by decide +kernel
theorem d_57_33 : decode prog_7_method_22_code 33 = .ok (.iload_n 3, 1) := by decide +kernel
theorem d_57_34 : decode prog_7_method_22_code 34 = .ok (.iaload, 1) := by decide +kernel
theorem d_57_35 : decode prog_7_method_22_code 35 = .ok (.if_icmp .ne 6, 3) := by decide +kernel
theorem d_57_38 : decode prog_7_method_22_code 38 = .ok (.iinc 2 1, 3) := by decide +kernel
theorem d_57_41 : decode prog_7_method_22_code 41 = .ok (.iinc 3 1, 3) := by decide +kernel
theorem d_57_44 : decode prog_7_method_22_code 44 = .ok (.goto (-35), 3) := by decide +kernel
theorem d_57_47 : decode prog_7_method_22_code 47 = .ok (.iload_n 2, 1) := by decide +kernel
theorem d_57_48 : decode prog_7_method_22_code 48 = .ok (.ireturn, 1) := by decide +kernel
theorem s_57_47 {Γ : m_G} : m_ok Γ m_tab 57 M_57 47 (g_57_47) := ok_il_n (pc := 47) d_57_47 rfl (ok_ri (pc := 48) d_57_48 rfl)
theorem s_57_41 {Γ : m_G} : m_ok Γ m_tab 57 M_57 41 (g_57_41) := ok_inc (pc := 41) d_57_41 rfl (by decide) (ok_go (pc := 44) (t := 9) d_57_44 rfl (by decide) rfl)
theorem s_57_9 {Γ : m_G} : m_ok Γ m_tab 57 M_57 9 (g_57_9) := ok_il_n (pc := 9) d_57_9 rfl (ok_al_n (pc := 10) d_57_10 rfl (ok_getf (pc := 11) d_57_11 w_95 (hc1 fo_17) (ok_getf (pc := 14) d_57_14 w_48 (hc1 fo_28) (ok_cige (pc := 17) (t := 47) d_57_17 rfl (by decide) rfl (ok_al_n (pc := 20) d_57_20 rfl (ok_getf (pc := 21) d_57_21 w_99 (hc1 fo_26) (ok_il_n (pc := 24) d_57_24 rfl (ok_iald (pc := 25) d_57_25 (ok_al_n (pc := 26) d_57_26 rfl (ok_getf (pc := 27) d_57_27 w_95 (hc1 fo_17) (ok_getf (pc := 30) d_57_30 w_62 (hc1 fo_32) (ok_il_n (pc := 33) d_57_33 rfl (ok_iald (pc := 34) d_57_34 (ok_cine (pc := 35) (t := 41) d_57_35 rfl (by decide) rfl (ok_inc (pc := 38) d_57_38 rfl (by decide) (s_57_41))))))))))))))))
theorem s_57_0 {Γ : m_G} : m_ok Γ m_tab 57 M_57 0 (g_57_0) := ok_al_n (pc := 0) d_57_0 rfl (ok_il_n (pc := 1) d_57_1 rfl (ok_cvi (pc := 2) (k2 := 45) rfl rfl tb_45 (by decide) (by decide) rfl (go_V d_57_2 w_670 w_672 ws_27 w_3 w_673 nn_45 (by decide) cl_5 rfl) (ok_ic (pc := 5) d_57_5 rfl (ok_is_n (pc := 6) d_57_6 rfl (by decide) (ok_ic (pc := 7) d_57_7 rfl (ok_is_n (pc := 8) d_57_8 rfl (by decide) (s_57_9)))))))
theorem tst_57 {Γ : m_G} (q : Nat) : m_ts Γ (t_57 q) q := ts_n (ts_n (ts_l (k := 57) (pc := 0) tb_57 rfl (by decide) s_57_0) (ts_l (k := 57) (pc := 9) tb_57 rfl (by decide) s_57_9)) (ts_n (ts_l (k := 57) (pc := 41) tb_57 rfl (by decide) s_57_41) (ts_l (k := 57) (pc := 47) tb_57 rfl (by decide) s_57_47))
theorem d_58_0 : decode prog_7_method_23_code 0 = .ok (.iconst (-1), 1) := by decide +kernel
theorem d_58_1 : decode prog_7_method_23_code 1 = .ok (.istore_n 1, 1) := by decide +kernel
theorem d_58_2 : decode prog_7_method_23_code 2 = .ok (.iconst 0, 1) := by decide +kernel
theorem d_58_3 : decode prog_7_method_23_code 3 = .ok (.istore_n 2, 1) := by decide +kernel
theorem d_58_4 : decode prog_7_method_23_code 4 = .ok (.iconst 0, 1) := by decide +kernel
theorem d_58_5 : decode prog_7_method_23_code 5 = .ok (.istore_n 3, 1) := by decide +kernel
theorem d_58_6 : decode prog_7_method_23_code 6 = .ok (.iload_n 3, 1) := by decide +kernel
theorem d_58_7 : decode prog_7_method_23_code 7 = .ok (.aload_n 0, 1) := by decide +kernel
theorem d_58_8 : decode prog_7_method_23_code 8 = .ok (.getfield 63, 3) := by decide +kernel
theorem d_58_11 : decode prog_7_method_23_code 11 = .ok (.if_icmp .ge 78, 3) := by decide +kernel
theorem d_58_14 : decode prog_7_method_23_code 14 = .ok (.aload_n 0, 1) := by decide +kernel
theorem d_58_15 : decode prog_7_method_23_code 15 = .ok (.aload_n 0, 1) := by decide +kernel
theorem d_58_16 : decode prog_7_method_23_code 16 = .ok (.getfield 22, 3) := by decide +kernel
theorem d_58_19 : decode prog_7_method_23_code 19 = .ok (.iload_n 3, 1) := by decide +kernel
theorem d_58_20 : decode prog_7_method_23_code 20 = .ok (.iaload, 1) := by decide +kernel
theorem d_58_21 : decode prog_7_method_23_code 21 = .ok (.invokevirtual 121, 3) := by decide +kernel
theorem d_58_24 : decode prog_7_method_23_code 24 = .ok (.istore 4, 2) := by decide +kernel
theorem d_58_26 : decode prog_7_method_23_code 26 = .ok (.iload_n 1, 1) := by decide +kernel
theorem d_58_27 : decode prog_7_method_23_code 27 = .ok (.iconst (-1), 1) := by decide +kernel
theorem d_58_28 : decode prog_7_method_23_code 28 = .ok (.if_icmp .eq 45, 3) := by decide +kernel
theorem d_58_31 : decode prog_7_method_23_code 31 = .ok (.iload 4, 2) := by decide +kernel
theorem d_58_33 : decode prog_7_method_23_code 33 = .ok (.iload_n 2, 1) := by decide +kernel
theorem d_58_34 : decode prog_7_method_23_code 34 = .ok (.if_icmp .gt 39, 3) := by decide +kernel
theorem d_58_37 : decode prog_7_method_23_code 37 = .ok (.iload 4, 2) := by decide +kernel
theorem d_58_39 : decode prog_7_method_23_code 39 = .ok (.iload_n 2, 1) := by decide +kernel
theorem d_58_40 : decode prog_7_method_23_code 40 = .ok (.if_icmp .ne 43, 3) := by decide +kernel
theorem d_58_43 : decode prog_7_method_23_code 43 = .ok (.aload_n 0, 1) := by decide +kernel
theorem d_58_44 : decode prog_7_method_23_code 44 = .ok (.getfield 25, 3) := by decide +kernel
theorem d_58_47 : decode prog_7_method_23_code 47 = .ok (.aload_n 0, 1) := by decide +kernel
theorem d_58_48 : decode prog_7_method_23_code 48 = .ok (.getfield 22, 3) := by decide +kernel
theorem d_58_51 : decode prog_7_method_23_code 51 = .ok (.iload_n 3, 1) := by decide +kernel
theorem d_58_52 : decode prog_7_method_23_code 52 = .ok (.iaload, 1) := by decide +kernel
theorem d_58_53 : decode prog_7_method_23_code 53 = .ok (.iaload, 1) := by decide +kernel
theorem d_58_54 : decode prog_7_method_23_code 54 = .ok (.aload_n 0, 1) := by decide +kernel
theorem d_58_55 : decode prog_7_method_23_code 55 = .ok (.getfield 25, 3) := by decide +kernel
theorem d_58_58 : decode prog_7_method_23_code 58 = .ok (.iload_n 1, 1) := by decide +kernel
theorem d_58_59 : decode prog_7_method_23_code 59 = .ok (.iaload, 1) := by decide +kernel
theorem d_58_60 : decode prog_7_method_23_code 60 = .ok (.if_icmp .ne 23, 3) := by decide +kernel
theorem d_58_63 : decode prog_7_method_23_code 63 = .ok (.aload_n 0, 1) := by decide +kernel
theorem d_58_64 : decode prog_7_method_23_code 64 = .ok (.getfield 22, 3) := by decide +kernel
theorem d_58_67 : decode prog_7_method_23_code 67 = .ok (.iload_n 3, 1) := by decide +kernel
theorem d_58_68 : decode prog_7_method_23_code 68 = .ok (.iaload, 1) := by decide +kernel
theorem d_58_69 : decode prog_7_method_23_code 69 = .ok (.iload_n 1, 1) := by decide +kernel
theorem d_58_70 : decode prog_7_method_23_code 70 = .ok (.if_icmp .ge 13, 3) := by decide +kernel
theorem d_58_73 : decode prog_7_method_23_code 73 = .ok (.aload_n 0, 1) := by decide +kernel
theorem d_58_74 : decode prog_7_method_23_code 74 = .ok (.getfield 22, 3) := by decide +kernel
theorem d_58_77 : decode prog_7_method_23_code 77 = .ok (.iload_n 3, 1) := by decide +kernel
theorem d_58_78 : decode prog_7_method_23_code 78 = .ok (.iaload, 1) := by decide +kernel
theorem d_58_79 : decode prog_7_method_23_code 79 = .ok (.istore_n 1, 1) := by decide +kernel
theorem d_58_80 : decode prog_7_method_23_code 80 = .ok (.iload 4, 2) := by decide +kernel
theorem d_58_82 : decode prog_7_method_23_code 82 = .ok (.istore_n 2, 1) := by decide +kernel
theorem d_58_83 : decode prog_7_method_23_code 83 = .ok (.iinc 3 1, 3) := by decide +kernel
theorem d_58_86 : decode prog_7_method_23_code 86 = .ok (.goto (-80), 3) := by decide +kernel
theorem d_58_89 : decode prog_7_method_23_code 89 = .ok (.iload_n 1, 1) := by decide +kernel
theorem d_58_90 : decode prog_7_method_23_code 90 = .ok (.ireturn, 1) := by decide +kernel
theorem s_58_89 {Γ : m_G} : m_ok Γ m_tab 58 M_58 89 (g_58_89) := ok_il_n (pc := 89) d_58_89 rfl (ok_ri (pc := 90) d_58_90 rfl)
theorem s_58_83 {Γ : m_G} : m_ok Γ m_tab 58 M_58 83 (g_58_83) := ok_inc (pc := 83) d_58_83 rfl (by decide) (ok_go (pc := 86) (t := 6) d_58_86 rfl (by decide) rfl)
theorem s_58_73 {Γ : m_G} : m_ok Γ m_tab 58 M_58 73 (g_58_73) := ok_al_n (pc := 73) d_58_73 rfl (ok_getf (pc := 74) d_58_74 w_101 (hc1 fo_21) (ok_il_n (pc := 77) d_58_77 rfl (ok_iald (pc := 78) d_58_78 (ok_is_n (pc := 79) d_58_79 rfl (by decide) (ok_il (pc := 80) d_58_80 (ok_is_n (pc := 82) d_58_82 rfl (by decide) (s_58_83)))))))
theorem s_58_6 {Γ : m_G} : m_ok Γ m_tab 58 M_58 6 (g_58_6) := ok_il_n (pc := 6) d_58_6 rfl (ok_al_n (pc := 7) d_58_7 rfl (ok_getf (pc := 8) d_58_8 w_102 (hc1 fo_22) (ok_cige (pc := 11) (t := 89) d_58_11 rfl (by decide) rfl (ok_al_n (pc := 14) d_58_14 rfl (ok_al_n (pc := 15) d_58_15 rfl (ok_getf (pc := 16) d_58_16 w_101 (hc1 fo_21) (ok_il_n (pc := 19) d_58_19 rfl (ok_iald (pc := 20) d_58_20 (ok_cai (pc := 21) (k2 := 57) rfl rfl tb_57 (by decide) (by decide) rfl (go_V d_58_21 w_762 w_763 w_764 w_3 w_765 nn_57 (by decide) cl_5 rfl) (ok_is (pc := 24) d_58_24 (by decide) (ok_il_n (pc := 26) d_58_26 rfl (ok_ic (pc := 27) d_58_27 rfl (ok_cieq (pc := 28) (t := 73) d_58_28 rfl (by decide) rfl (ok_il (pc := 31) d_58_31 (ok_il_n (pc := 33) d_58_33 rfl (ok_cigt (pc := 34) (t := 73) d_58_34 rfl (by decide) rfl (ok_il (pc := 37) d_58_37 (ok_il_n (pc := 39) d_58_39 rfl (ok_cine (pc := 40) (t := 83) d_58_40 rfl (by decide) rfl (ok_al_n (pc := 43) d_58_43 rfl (ok_getf (pc := 44) d_58_44 w_104 (hc1 fo_19) (ok_al_n (pc := 47) d_58_47 rfl (ok_getf (pc := 48) d_58_48 w_101 (hc1 fo_21) (ok_il_n (pc := 51) d_58_51 rfl (ok_iald (pc := 52) d_58_52 (ok_iald (pc := 53) d_58_53 (ok_al_n (pc := 54) d_58_54 rfl (ok_getf (pc := 55) d_58_55 w_104 (hc1 fo_19) (ok_il_n (pc := 58) d_58_58 rfl (ok_iald (pc := 59) d_58_59 (ok_cine (pc := 60) (t := 83) d_58_60 rfl (by decide) rfl (ok_al_n (pc := 63) d_58_63 rfl (ok_getf (pc := 64) d_58_64 w_101 (hc1 fo_21) (ok_il_n (pc := 67) d_58_67 rfl (ok_iald (pc := 68) d_58_68 (ok_il_n (pc := 69) d_58_69 rfl (ok_cige (pc := 70) (t := 83) d_58_70 rfl (by decide) rfl (s_58_73))))))))))))))))))))))))))))))))))))))
theorem s_58_0 {Γ : m_G} : m_ok Γ m_tab 58 M_58 0 (g_58_0) := ok_ic (pc := 0) d_58_0 rfl (ok_is_n (pc := 1) d_58_1 rfl (by decide) (ok_ic (pc := 2) d_58_2 rfl (ok_is_n (pc := 3) d_58_3 rfl (by decide) (ok_ic (pc := 4) d_58_4 rfl (ok_is_n (pc := 5) d_58_5 rfl (by decide) (s_58_6))))))
theorem tst_58 {Γ : m_G} (q : Nat) : m_ts Γ (t_58 q) q := ts_n (ts_n (ts_l (k := 58) (pc := 0) tb_58 rfl (by decide) s_58_0) (ts_l (k := 58) (pc := 6) tb_58 rfl (by decide) s_58_6)) (ts_n (ts_l (k := 58) (pc := 73) tb_58 rfl (by decide) s_58_73) (ts_n (ts_l (k := 58) (pc := 83) tb_58 rfl (by decide) s_58_83) (ts_l (k := 58) (pc := 89) tb_58 rfl (by decide) s_58_89)))
theorem d_59_0 : decode prog_7_method_24_code 0 = .ok (.aload_n 0, 1) := by decide +kernel
theorem d_59_1 : decode prog_7_method_24_code 1 = .ok (.getfield 38, 3) := by decide +kernel
theorem d_59_4 : decode prog_7_method_24_code 4 = .ok (.iload_n 1, 1) := by decide +kernel
theorem d_59_5 : decode prog_7_method_24_code 5 = .ok (.invokevirtual 50, 3) := by decide +kernel
theorem d_59_8 : decode prog_7_method_24_code 8 = .ok (.ifCond .eq 13, 3) := by decide +kernel
theorem d_59_11 : decode prog_7_method_24_code 11 = .ok (.aload_n 0, 1) := by decide +kernel
theorem d_59_12 : decode prog_7_method_24_code 12 = .ok (.getfield 31, 3) := by decide +kernel
theorem d_59_15 : decode prog_7_method_24_code 15 = .ok (.iload_n 1, 1) := by decide +kernel
theorem d_59_16 : decode prog_7_method_24_code 16 = .ok (.iaload, 1) := by decide +kernel
theorem d_59_17 : decode prog_7_method_24_code 17 = .ok (.ineg, 1) := by decide +kernel
theorem d_59_18 : decode prog_7_method_24_code 18 = .ok (.goto 4, 3) := by decide +kernel
theorem d_59_21 : decode prog_7_method_24_code 21 = .ok (.iconst 0, 1) := by decide +kernel
theorem d_59_22 : decode prog_7_method_24_code 22 = .ok (.istore_n 3, 1) := by decide +kernel
theorem d_59_23 : decode prog_7_method_24_code 23 = .ok (.aload_n 0, 1) := by decide +kernel
theorem d_59_24 : decode prog_7_method_24_code 24 = .ok (.iload_n 1, 1) := by decide +kernel
theorem d_59_25 : decode prog_7_method_24_code 25 = .ok (.invokevirtual 78, 3) := by decide +kernel
theorem d_59_28 : decode prog_7_method_24_code 28 = .ok (.iconst 0, 1) := by decide +kernel
theorem d_59_29 : decode prog_7_method_24_code 29 = .ok (.istore 4, 2) := by decide +kernel
theorem d_59_31 : decode prog_7_method_24_code 31 = .ok (.iload 4, 2) := by decide +kernel
theorem d_59_33 : decode prog_7_method_24_code 33 = .ok (.aload_n 0, 1) := by decide +kernel
theorem d_59_34 : decode prog_7_method_24_code 34 = .ok (.getfield 38, 3) := by decide +kernel
theorem d_59_37 : decode prog_7_method_24_code 37 = .ok (.getfield 82, 3) := by decide +kernel
theorem d_59_40 : decode prog_7_method_24_code 40 = .ok (.if_icmp .ge 36, 3) := by decide +kernel
theorem d_59_43 : decode prog_7_method_24_code 43 = .ok (.aload_n 0, 1) := by decide +kernel
theorem d_59_44 : decode prog_7_method_24_code 44 = .ok (.getfield 15, 3) := by decide +kernel
theorem d_59_47 : decode prog_7_method_24_code 47 = .ok (.iload 4, 2) := by decide +kernel
theorem d_59_49 : decode prog_7_method_24_code 49 = .ok (.iaload, 1) := by decide +kernel
theorem d_59_50 : decode prog_7_method_24_code 50 = .ok (.aload_n 0, 1) := by decide +kernel
theorem d_59_51 : decode prog_7_method_24_code 51 = .ok (.getfield 38, 3) := by decide +kernel
theorem d_59_54 : decode prog_7_method_24_code 54 = .ok (.getfield 118, 3) := by decide +kernel
theorem d_59_57 : decode prog_7_method_24_code 57 = .ok (.iload 4, 2) := by decide +kernel
theorem d_59_59 : decode prog_7_method_24_code 59 = .ok (.iaload, 1) := by decide +kernel
theorem d_59_60 : decode prog_7_method_24_code 60 = .ok (.if_icmp .ne 10, 3) := by decide +kernel
theorem d_59_63 : decode prog_7_method_24_code 63 = .ok (.iload_n 3, 1) := by decide +kernel
theorem d_59_64 : decode prog_7_method_24_code 64 = .ok (.aload_n 2, 1) := by decide +kernel
theorem d_59_65 : decode prog_7_method_24_code 65 = .ok (.iload 4, 2) := by decide +kernel
theorem d_59_67 : decode prog_7_method_24_code 67 = .ok (.iaload, 1) := by decide +kernel
theorem d_59_68 : decode prog_7_method_24_code 68 = .ok (.iadd, 1) := by decide +kernel
theorem d_59_69 : decode prog_7_method_24_code 69 = .ok (.istore_n 3, 1) := by decide +kernel
theorem d_59_70 : decode prog_7_method_24_code 70 = .ok (.iinc 4 1, 3) := by decide +kernel
theorem d_59_73 : decode prog_7_method_24_code 73 = .ok (.goto (-42), 3) := by decide +kernel
theorem d_59_76 : decode prog_7_method_24_code 76 = .ok (.iload_n 3, 1) := by decide +kernel
theorem d_59_77 : decode prog_7_method_24_code 77 = .ok (.ireturn, 1) := by decide +kernel
theorem s_59_76 {Γ : m_G} : m_ok Γ m_tab 59 M_59 76 (g_59_76) := ok_il_n (pc := 76) d_59_76 rfl (ok_ri (pc := 77) d_59_77 rfl)
theorem s_59_70 {Γ : m_G} : m_ok Γ m_tab 59 M_59 70 (g_59_70) := ok_inc (pc := 70) d_59_70 rfl (by decide) (ok_go (pc := 73) (t := 31) d_59_73 rfl (by decide) rfl)
theorem s_59_31 {Γ : m_G} : m_ok Γ m_tab 59 M_59 31 (g_59_31) := ok_il (pc := 31) d_59_31 (ok_al_n (pc := 33) d_59_33 rfl (ok_getf (pc := 34) d_59_34 w_95 (hc1 fo_17) (ok_getf (pc := 37) d_59_37 w_48 (hc1 fo_28) (ok_cige (pc := 40) (t := 76) d_59_40 rfl (by decide) rfl (ok_al_n (pc := 43) d_59_43 rfl (ok_getf (pc := 44) d_59_44 w_99 (hc1 fo_26) (ok_il (pc := 47) d_59_47 (ok_iald (pc := 49) d_59_49 (ok_al_n (pc := 50) d_59_50 rfl (ok_getf (pc := 51) d_59_51 w_95 (hc1 fo_17) (ok_getf (pc := 54) d_59_54 w_62 (hc1 fo_32) (ok_il (pc := 57) d_59_57 (ok_iald (pc := 59) d_59_59 (ok_cine (pc := 60) (t := 70) d_59_60 rfl (by decide) rfl (ok_il_n (pc := 63) d_59_63 rfl (ok_al_n (pc := 64) d_59_64 rfl (ok_il (pc := 65) d_59_65 (ok_iald (pc := 67) d_59_67 (ok_add (pc := 68) d_59_68 (ok_is_n (pc := 69) d_59_69 rfl (by decide) (s_59_70)))))))))))))))))))))
theorem s_59_22 {Γ : m_G} : m_ok Γ m_tab 59 M_59 22 (g_59_22) := ok_is_n (pc := 22) d_59_22 rfl (by decide) (ok_al_n (pc := 23) d_59_23 rfl (ok_il_n (pc := 24) d_59_24 rfl (ok_cvi (pc := 25) (k2 := 45) rfl rfl tb_45 (by decide) (by decide) rfl (go_V d_59_25 w_670 w_672 ws_27 w_3 w_673 nn_45 (by decide) cl_5 rfl) (ok_ic (pc := 28) d_59_28 rfl (ok_is (pc := 29) d_59_29 (by decide) (s_59_31))))))
theorem s_59_21 {Γ : m_G} : m_ok Γ m_tab 59 M_59 21 (g_59_21) := ok_ic (pc := 21) d_59_21 rfl (s_59_22)
theorem s_59_0 {Γ : m_G} : m_ok Γ m_tab 59 M_59 0 (g_59_0) := ok_al_n (pc := 0) d_59_0 rfl (ok_getf (pc := 1) d_59_1 w_95 (hc1 fo_17) (ok_il_n (pc := 4) d_59_4 rfl (ok_cai (pc := 5) (k2 := 83) rfl rfl tb_83 (by decide) (by decide) rfl (go_V d_59_5 w_683 w_684 w_685 w_2 w_686 nn_83 (by decide) cl_10 rfl) (ok_czeq (pc := 8) (t := 21) d_59_8 rfl (by decide) rfl (ok_al_n (pc := 11) d_59_11 rfl (ok_getf (pc := 12) d_59_12 w_106 (hc1 fo_25) (ok_il_n (pc := 15) d_59_15 rfl (ok_iald (pc := 16) d_59_16 (ok_neg (pc := 17) d_59_17 (ok_go (pc := 18) (t := 22) d_59_18 rfl (by decide) rfl))))))))))
theorem tst_59 {Γ : m_G} (q : Nat) : m_ts Γ (t_59 q) q := ts_n (ts_n (ts_l (k := 59) (pc := 0) tb_59 rfl (by decide) s_59_0) (ts_n (ts_l (k := 59) (pc := 21) tb_59 rfl (by decide) s_59_21) (ts_l (k := 59) (pc := 22) tb_59 rfl (by decide) s_59_22))) (ts_n (ts_l (k := 59) (pc := 31) tb_59 rfl (by decide) s_59_31) (ts_n (ts_l (k := 59) (pc := 70) tb_59 rfl (by decide) s_59_70) (ts_l (k := 59) (pc := 76) tb_59 rfl (by decide) s_59_76)))
theorem d_60_0 : decode prog_7_method_25_code 0 = .ok (.aload_n 0, 1) := by decide +kernel
theorem d_60_1 : decode prog_7_method_25_code 1 = .ok (.invokevirtual 115, 3) := by decide +kernel
theorem d_60_4 : decode prog_7_method_25_code 4 = .ok (.iconst (-1), 1) := by decide +kernel
theorem d_60_5 : decode prog_7_method_25_code 5 = .ok (.istore_n 2, 1) := by decide +kernel
theorem d_60_6 : decode prog_7_method_25_code 6 = .ok (.iconst 0, 1) := by decide +kernel
theorem d_60_7 : decode prog_7_method_25_code 7 = .ok (.istore_n 3, 1) := by decide +kernel
theorem d_60_8 : decode prog_7_method_25_code 8 = .ok (.iconst 0, 1) := by decide +kernel
theorem d_60_9 : decode prog_7_method_25_code 9 = .ok (.istore 4, 2) := by decide +kernel
theorem d_60_11 : decode prog_7_method_25_code 11 = .ok (.iload 4, 2) := by decide +kernel
theorem d_60_13 : decode prog_7_method_25_code 13 = .ok (.aload_n 0, 1) := by decide +kernel
theorem d_60_14 : decode prog_7_method_25_code 14 = .ok (.getfield 63, 3) := by decide +kernel
theorem d_60_17 : decode prog_7_method_25_code 17 = .ok (.if_icmp .ge 62, 3) := by decide +kernel
theorem d_60_20 : decode prog_7_method_25_code 20 = .ok (.aload_n 0, 1) := by decide +kernel
theorem d_60_21 : decode prog_7_method_25_code 21 = .ok (.aload_n 0, 1) := by decide +kernel
theorem d_60_22 : decode prog_7_method_25_code 22 = .ok (.getfield 22, 3) := by decide +kernel
theorem d_60_25 : decode prog_7_method_25_code 25 = .ok (.iload 4, 2) := by decide +kernel
theorem d_60_27 : decode prog_7_method_25_code 27 = .ok (.iaload, 1) := by decide +kernel
theorem d_60_28 : decode prog_7_method_25_code 28 = .ok (.aload_n 1, 1) := by decide +kernel
theorem d_60_29 : decode prog_7_method_25_code 29 = .ok (.invokevirtual 124, 3) := by decide +kernel
theorem d_60_32 : decode prog_7_method_25_code 32 = .ok (.istore 5, 2) := by decide +kernel
theorem d_60_34 : decode prog_7_method_25_code 34 = .ok (.iload_n 2, 1) := by decide +kernel
theorem d_60_35 : decode prog_7_method_25_code 35 = .ok (.iconst (-1), 1) := by decide +kernel
theorem d_60_36 : decode prog_7_method_25_code 36 = .ok (.if_icmp .eq 26, 3) := by decide +kernel
theorem d_60_39 : decode prog_7_method_25_code 39 = .ok (.iload 5, 2) := by decide +kernel
theorem d_60_41 : decode prog_7_method_25_code 41 = .ok (.iload_n 3, 1) := by decide +kernel
theorem d_60_42 : decode prog_7_method_25_code 42 = .ok (.if_icmp .gt 20, 3) := by decide +kernel
theorem d_60_45 : decode prog_7_method_25_code 45 = .ok (.iload 5, 2) := by decide +kernel
theorem d_60_47 : decode prog_7_method_25_code 47 = .ok (.iload_n 3, 1) := by decide +kernel
theorem d_60_48 : decode prog_7_method_25_code 48 = .ok (.if_icmp .ne 25, 3) := by decide +kernel
theorem d_60_51 : decode prog_7_method_25_code 51 = .ok (.aload_n 0, 1) := by decide +kernel
theorem d_60_52 : decode prog_7_method_25_code 52 = .ok (.getfield 22, 3) := by decide +kernel
theorem d_60_55 : decode prog_7_method_25_code 55 = .ok (.iload 4, 2) := by decide +kernel
theorem d_60_57 : decode prog_7_method_25_code 57 = .ok (.iaload, 1) := by decide +kernel
theorem d_60_58 : decode prog_7_method_25_code 58 = .ok (.iload_n 2, 1) := by decide +kernel
theorem d_60_59 : decode prog_7_method_25_code 59 = .ok (.if_icmp .ge 14, 3) := by decide +kernel
theorem d_60_62 : decode prog_7_method_25_code 62 = .ok (.aload_n 0, 1) := by decide +kernel
theorem d_60_63 : decode prog_7_method_25_code 63 = .ok (.getfield 22, 3) := by decide +kernel
theorem d_60_66 : decode prog_7_method_25_code 66 = .ok (.iload 4, 2) := by decide +kernel
theorem d_60_68 : decode prog_7_method_25_code 68 = .ok (.iaload, 1) := by decide +kernel
theorem d_60_69 : decode prog_7_method_25_code 69 = .ok (.istore_n 2, 1) := by decide +kernel
theorem d_60_70 : decode prog_7_method_25_code 70 = .ok (.iload 5, 2) := by decide +kernel
theorem d_60_72 : decode prog_7_method_25_code 72 = .ok (.istore_n 3, 1) := by decide +kernel
theorem d_60_73 : decode prog_7_method_25_code 73 = .ok (.iinc 4 1, 3) := by decide +kernel
theorem d_60_76 : decode prog_7_method_25_code 76 = .ok (.goto (-65), 3) := by decide +kernel
theorem d_60_79 : decode prog_7_method_25_code 79 = .ok (.iload_n 2, 1) := by decide +kernel
theorem d_60_80 : decode prog_7_method_25_code 80 = .ok (.ireturn, 1) := by decide +kernel
theorem s_60_79 {Γ : m_G} : m_ok Γ m_tab 60 M_60 79 (g_60_79) := ok_il_n (pc := 79) d_60_79 rfl (ok_ri (pc := 80) d_60_80 rfl)
theorem s_60_73 {Γ : m_G} : m_ok Γ m_tab 60 M_60 73 (g_60_73) := ok_inc (pc := 73) d_60_73 rfl (by decide) (ok_go (pc := 76) (t := 11) d_60_76 rfl (by decide) rfl)
theorem s_60_62 {Γ : m_G} : m_ok Γ m_tab 60 M_60 62 (g_60_62) := ok_al_n (pc := 62) d_60_62 rfl (ok_getf (pc := 63) d_60_63 w_101 (hc1 fo_21) (ok_il (pc := 66) d_60_66 (ok_iald (pc := 68) d_60_68 (ok_is_n (pc := 69) d_60_69 rfl (by decide) (ok_il (pc := 70) d_60_70 (ok_is_n (pc := 72) d_60_72 rfl (by decide) (s_60_73)))))))
theorem s_60_11 {Γ : m_G} : m_ok Γ m_tab 60 M_60 11 (g_60_11) := ok_il (pc := 11) d_60_11 (ok_al_n (pc := 13) d_60_13 rfl (ok_getf (pc := 14) d_60_14 w_102 (hc1 fo_22) (ok_cige (pc := 17) (t := 79) d_60_17 rfl (by decide) rfl (ok_al_n (pc := 20) d_60_20 rfl (ok_al_n (pc := 21) d_60_21 rfl (ok_getf (pc := 22) d_60_22 w_101 (hc1 fo_21) (ok_il (pc := 25) d_60_25 (ok_iald (pc := 27) d_60_27 (ok_al_n (pc := 28) d_60_28 rfl (ok_cai (pc := 29) (k2 := 59) rfl rfl tb_59 (by decide) (by decide) rfl (go_V d_60_29 w_805 w_806 w_807 w_3 w_808 nn_59 (by decide) cl_5 rfl) (ok_is (pc := 32) d_60_32 (by decide) (ok_il_n (pc := 34) d_60_34 rfl (ok_ic (pc := 35) d_60_35 rfl (ok_cieq (pc := 36) (t := 62) d_60_36 rfl (by decide) rfl (ok_il (pc := 39) d_60_39 (ok_il_n (pc := 41) d_60_41 rfl (ok_cigt (pc := 42) (t := 62) d_60_42 rfl (by decide) rfl (ok_il (pc := 45) d_60_45 (ok_il_n (pc := 47) d_60_47 rfl (ok_cine (pc := 48) (t := 73) d_60_48 rfl (by decide) rfl (ok_al_n (pc := 51) d_60_51 rfl (ok_getf (pc := 52) d_60_52 w_101 (hc1 fo_21) (ok_il (pc := 55) d_60_55 (ok_iald (pc := 57) d_60_57 (ok_il_n (pc := 58) d_60_58 rfl (ok_cige (pc := 59) (t := 73) d_60_59 rfl (by decide) rfl (s_60_62)))))))))))))))))))))))))))
theorem s_60_0 {Γ : m_G} : m_ok Γ m_tab 60 M_60 0 (g_60_0) := ok_al_n (pc := 0) d_60_0 rfl (ok_cvi (pc := 1) (k2 := 47) rfl rfl tb_47 (by decide) (by decide) rfl (go_V d_60_1 w_746 w_748 ws_34 w_3 w_749 nn_47 (by decide) cl_5 rfl) (ok_ic (pc := 4) d_60_4 rfl (ok_is_n (pc := 5) d_60_5 rfl (by decide) (ok_ic (pc := 6) d_60_6 rfl (ok_is_n (pc := 7) d_60_7 rfl (by decide) (ok_ic (pc := 8) d_60_8 rfl (ok_is (pc := 9) d_60_9 (by decide) (s_60_11))))))))
theorem tst_60 {Γ : m_G} (q : Nat) : m_ts Γ (t_60 q) q := ts_n (ts_n (ts_l (k := 60) (pc := 0) tb_60 rfl (by decide) s_60_0) (ts_l (k := 60) (pc := 11) tb_60 rfl (by decide) s_60_11)) (ts_n (ts_l (k := 60) (pc := 62) tb_60 rfl (by decide) s_60_62) (ts_n (ts_l (k := 60) (pc := 73) tb_60 rfl (by decide) s_60_73) (ts_l (k := 60) (pc := 79) tb_60 rfl (by decide) s_60_79)))
theorem d_61_0 : decode prog_8_method_1_code 0 = .ok (.aload_n 0, 1) := by decide +kernel
theorem d_61_1 : decode prog_8_method_1_code 1 = .ok (.invokespecial 1, 3) := by decide +kernel
theorem d_61_4 : decode prog_8_method_1_code 4 = .ok (.aload_n 0, 1) := by decide +kernel
theorem d_61_5 : decode prog_8_method_1_code 5 = .ok (.iload_n 1, 1) := by decide +kernel
theorem d_61_6 : decode prog_8_method_1_code 6 = .ok (.putfield 7, 3) := by decide +kernel
theorem d_61_9 : decode prog_8_method_1_code 9 = .ok (.aload_n 0, 1) := by decide +kernel
theorem d_61_10 : decode prog_8_method_1_code 10 = .ok (.iload_n 2, 1) := by decide +kernel
theorem d_61_11 : decode prog_8_method_1_code 11 = .ok (.newarray .int, 2) := by decide +kernel
theorem d_61_13 : decode prog_8_method_1_code 13 = .ok (.putfield 13, 3) := by decide +kernel
theorem d_61_16 : decode prog_8_method_1_code 16 = .ok (.return_, 1) := by decide +kernel
theorem s_61_0 {Γ : m_G} : m_ok Γ m_tab 61 M_61 0 (g_61_0) := ok_al_n (pc := 0) d_61_0 rfl (ok_oi (pc := 1) d_61_1 w_851 w_27 w_28 (ok_al_n (pc := 4) d_61_4 rfl (ok_il_n (pc := 5) d_61_5 rfl (ok_putf (pc := 6) d_61_6 w_852 (hc1 ⟨_, _, _, tyX6, cl_6, in_6, by decide, rfl, rfl, rfl, tyX6_ok, nmX6, Or.inr ⟨rfl, rfl, rfl⟩⟩) pd_0 vt_I (ok_al_n (pc := 9) d_61_9 rfl (ok_il_n (pc := 10) d_61_10 rfl (ok_newa (pc := 11) d_61_11 rfl w_88 (ok_putf (pc := 13) d_61_13 w_854 (hc1 ⟨_, _, _, tyX6, cl_6, in_6, by decide, rfl, rfl, rfl, tyX6_ok, nmX6, Or.inr ⟨rfl, rfl, rfl⟩⟩) pd_1 vt_A (ok_rv (pc := 16) d_61_16 rfl)))))))))
theorem tst_61 {Γ : m_G} (q : Nat) : m_ts Γ (t_61 q) q := ts_l (k := 61) (pc := 0) tb_61 rfl (by decide) s_61_0
theorem d_62_0 : decode prog_8_method_2_code 0 = .ok (.iload_n 1, 1) := by decide +kernel
theorem d_62_1 : decode prog_8_method_2_code 1 = .ok (.ifCond .lt 16, 3) := by decide +kernel
theorem d_62_4 : decode prog_8_method_2_code 4 = .ok (.iload_n 1, 1) := by decide +kernel
theorem d_62_5 : decode prog_8_method_2_code 5 = .ok (.aload_n 0, 1) := by decide +kernel
theorem d_62_6 : decode prog_8_method_2_code 6 = .ok (.getfield 13, 3) := by decide +kernel
theorem d_62_9 : decode prog_8_method_2_code 9 = .ok (.arraylength, 1) := by decide +kernel
theorem d_62_10 : decode prog_8_method_2_code 10 = .ok (.if_icmp .ge 7, 3) := by decide +kernel
theorem d_62_13 : decode prog_8_method_2_code 13 = .ok (.iconst 1, 1) := by decide +kernel
theorem d_62_14 : decode prog_8_method_2_code 14 = .ok (.goto 4, 3) := by decide +kernel
theorem d_62_17 : decode prog_8_method_2_code 17 = .ok (.iconst 0, 1) := by decide +kernel
theorem d_62_18 : decode prog_8_method_2_code 18 = .ok (.ireturn, 1) := by decide +kernel
theorem s_62_18 {Γ : m_G} : m_ok Γ m_tab 62 M_62 18 (g_62_18) := ok_rz (pc := 18) d_62_18 rfl
theorem s_62_17 {Γ : m_G} : m_ok Γ m_tab 62 M_62 17 (g_62_17) := ok_ic (pc := 17) d_62_17 rfl (s_62_18)
theorem s_62_0 {Γ : m_G} : m_ok Γ m_tab 62 M_62 0 (g_62_0) := ok_il_n (pc := 0) d_62_0 rfl (ok_czlt (pc := 1) (t := 17) d_62_1 rfl (by decide) rfl (ok_il_n (pc := 4) d_62_4 rfl (ok_al_n (pc := 5) d_62_5 rfl (ok_getf (pc := 6) d_62_6 w_854 (hc1 fo_33) (ok_len (pc := 9) d_62_9 (ok_cige (pc := 10) (t := 17) d_62_10 rfl (by decide) rfl (ok_ic (pc := 13) d_62_13 rfl (ok_go (pc := 14) (t := 18) d_62_14 rfl (by decide) rfl))))))))
theorem tst_62 {Γ : m_G} (q : Nat) : m_ts Γ (t_62 q) q := ts_n (ts_l (k := 62) (pc := 0) tb_62 rfl (by decide) s_62_0) (ts_n (ts_l (k := 62) (pc := 17) tb_62 rfl (by decide) s_62_17) (ts_l (k := 62) (pc := 18) tb_62 rfl (by decide) s_62_18))
theorem d_63_0 : decode prog_8_method_3_code 0 = .ok (.iload_n 1, 1) := by decide +kernel
theorem d_63_1 : decode prog_8_method_3_code 1 = .ok (.ifCond .lt 31, 3) := by decide +kernel
theorem d_63_4 : decode prog_8_method_3_code 4 = .ok (.iload_n 2, 1) := by decide +kernel
theorem d_63_5 : decode prog_8_method_3_code 5 = .ok (.ifCond .lt 27, 3) := by decide +kernel
theorem d_63_8 : decode prog_8_method_3_code 8 = .ok (.iload_n 1, 1) := by decide +kernel
theorem d_63_9 : decode prog_8_method_3_code 9 = .ok (.aload_n 0, 1) := by decide +kernel
theorem d_63_10 : decode prog_8_method_3_code 10 = .ok (.getfield 13, 3) := by decide +kernel
theorem d_63_13 : decode prog_8_method_3_code 13 = .ok (.arraylength, 1) := by decide +kernel
theorem d_63_14 : decode prog_8_method_3_code 14 = .ok (.if_icmp .gt 18, 3) := by decide +kernel
theorem d_63_17 : decode prog_8_method_3_code 17 = .ok (.iload_n 2, 1) := by decide +kernel
theorem d_63_18 : decode prog_8_method_3_code 18 = .ok (.aload_n 0, 1) := by decide +kernel
theorem d_63_19 : decode prog_8_method_3_code 19 = .ok (.getfield 13, 3) := by decide +kernel
theorem d_63_22 : decode prog_8_method_3_code 22 = .ok (.arraylength, 1) := by decide +kernel
theorem d_63_23 : decode prog_8_method_3_code 23 = .ok (.iload_n 1, 1) := by decide +kernel
theorem d_63_24 : decode prog_8_method_3_code 24 = .ok (.isub, 1) := by decide +kernel
theorem d_63_25 : decode prog_8_method_3_code 25 = .ok (.if_icmp .gt 7, 3) := by decide +kernel
theorem d_63_28 : decode prog_8_method_3_code 28 = .ok (.iconst 1, 1) := by decide +kernel
theorem d_63_29 : decode prog_8_method_3_code 29 = .ok (.goto 4, 3) := by decide +kernel
theorem d_63_32 : decode prog_8_method_3_code 32 = .ok (.iconst 0, 1) := by decide +kernel
theorem d_63_33 : decode prog_8_method_3_code 33 = .ok (.ireturn, 1) := by decide +kernel
theorem s_63_33 {Γ : m_G} : m_ok Γ m_tab 63 M_63 33 (g_63_33) := ok_rz (pc := 33) d_63_33 rfl
theorem s_63_32 {Γ : m_G} : m_ok Γ m_tab 63 M_63 32 (g_63_32) := ok_ic (pc := 32) d_63_32 rfl (s_63_33)
theorem s_63_0 {Γ : m_G} : m_ok Γ m_tab 63 M_63 0 (g_63_0) := ok_il_n (pc := 0) d_63_0 rfl (ok_czlt (pc := 1) (t := 32) d_63_1 rfl (by decide) rfl (ok_il_n (pc := 4) d_63_4 rfl (ok_czlt (pc := 5) (t := 32) d_63_5 rfl (by decide) rfl (ok_il_n (pc := 8) d_63_8 rfl (ok_al_n (pc := 9) d_63_9 rfl (ok_getf (pc := 10) d_63_10 w_854 (hc1 fo_33) (ok_len (pc := 13) d_63_13 (ok_cigt (pc := 14) (t := 32) d_63_14 rfl (by decide) rfl (ok_il_n (pc := 17) d_63_17 rfl (ok_al_n (pc := 18) d_63_18 rfl (ok_getf (pc := 19) d_63_19 w_854 (hc1 fo_33) (ok_len (pc := 22) d_63_22 (ok_il_n (pc := 23) d_63_23 rfl (ok_sub (pc := 24) d_63_24 (ok_cigt (pc := 25) (t := 32) d_63_25 rfl (by decide) rfl (ok_ic (pc := 28) d_63_28 rfl (ok_go (pc := 29) (t := 33) d_63_29 rfl (by decide) rfl)))))))))))))))))
theorem tst_63 {Γ : m_G} (q : Nat) : m_ts Γ (t_63 q) q := ts_n (ts_l (k := 63) (pc := 0) tb_63 rfl (by decide) s_63_0) (ts_n (ts_l (k := 63) (pc := 32) tb_63 rfl (by decide) s_63_32) (ts_l (k := 63) (pc := 33) tb_63 rfl (by decide) s_63_33))
theorem d_64_0 : decode prog_8_method_4_code 0 = .ok (.aload_n 0, 1) := by decide +kernel
theorem d_64_1 : decode prog_8_method_4_code 1 = .ok (.getfield 13, 3) := by decide +kernel
theorem d_64_4 : decode prog_8_method_4_code 4 = .ok (.iload_n 1, 1) := by decide +kernel
theorem d_64_5 : decode prog_8_method_4_code 5 = .ok (.aload_n 0, 1) := by decide +kernel
theorem d_64_6 : decode prog_8_method_4_code 6 = .ok (.getfield 7, 3) := by decide +kernel
theorem d_64_9 : decode prog_8_method_4_code 9 = .ok (.ifCond .ne 8, 3) := by decide +kernel
theorem d_64_12 : decode prog_8_method_4_code 12 = .ok (.iload_n 2, 1) := by decide +kernel
theorem d_64_13 : decode prog_8_method_4_code 13 = .ok (.i2b, 1) := by decide +kernel
theorem d_64_14 : decode prog_8_method_4_code 14 = .ok (.goto 17, 3) := by decide +kernel
theorem d_64_17 : decode prog_8_method_4_code 17 = .ok (.aload_n 0, 1) := by decide +kernel
theorem d_64_18 : decode prog_8_method_4_code 18 = .ok (.getfield 7, 3) := by decide +kernel
theorem d_64_21 : decode prog_8_method_4_code 21 = .ok (.iconst 1, 1) := by decide +kernel
theorem d_64_22 : decode prog_8_method_4_code 22 = .ok (.if_icmp .ne 8, 3) := by decide +kernel
theorem d_64_25 : decode prog_8_method_4_code 25 = .ok (.iload_n 2, 1) := by decide +kernel
theorem d_64_26 : decode prog_8_method_4_code 26 = .ok (.i2s, 1) := by decide +kernel
theorem d_64_27 : decode prog_8_method_4_code 27 = .ok (.goto 4, 3) := by decide +kernel
theorem d_64_30 : decode prog_8_method_4_code 30 = .ok (.iload_n 2, 1) := by decide +kernel
theorem d_64_31 : decode prog_8_method_4_code 31 = .ok (.iastore, 1) := by decide +kernel
theorem d_64_32 : decode prog_8_method_4_code 32 = .ok (.return_, 1) := by decide +kernel
theorem s_64_31 {Γ : m_G} : m_ok Γ m_tab 64 M_64 31 (g_64_31) := ok_iast (pc := 31) d_64_31 (ok_rv (pc := 32) d_64_32 rfl)
theorem s_64_30 {Γ : m_G} : m_ok Γ m_tab 64 M_64 30 (g_64_30) := ok_il_n (pc := 30) d_64_30 rfl (s_64_31)
theorem s_64_17 {Γ : m_G} : m_ok Γ m_tab 64 M_64 17 (g_64_17) := ok_al_n (pc := 17) d_64_17 rfl (ok_getf (pc := 18) d_64_18 w_852 (hc1 fo_34) (ok_ic (pc := 21) d_64_21 rfl (ok_cine (pc := 22) (t := 30) d_64_22 rfl (by decide) rfl (ok_il_n (pc := 25) d_64_25 rfl (ok_i2s (pc := 26) d_64_26 (ok_go (pc := 27) (t := 31) d_64_27 rfl (by decide) rfl))))))
theorem s_64_0 {Γ : m_G} : m_ok Γ m_tab 64 M_64 0 (g_64_0) := ok_al_n (pc := 0) d_64_0 rfl (ok_getf (pc := 1) d_64_1 w_854 (hc1 fo_33) (ok_il_n (pc := 4) d_64_4 rfl (ok_al_n (pc := 5) d_64_5 rfl (ok_getf (pc := 6) d_64_6 w_852 (hc1 fo_34) (ok_czne (pc := 9) (t := 17) d_64_9 rfl (by decide) rfl (ok_il_n (pc := 12) d_64_12 rfl (ok_i2b (pc := 13) d_64_13 (ok_go (pc := 14) (t := 31) d_64_14 rfl (by decide) rfl))))))))
theorem tst_64 {Γ : m_G} (q : Nat) : m_ts Γ (t_64 q) q := ts_n (ts_n (ts_l (k := 64) (pc := 0) tb_64 rfl (by decide) s_64_0) (ts_l (k := 64) (pc := 17) tb_64 rfl (by decide) s_64_17)) (ts_n (ts_l (k := 64) (pc := 30) tb_64 rfl (by decide) s_64_30) (ts_l (k := 64) (pc := 31) tb_64 rfl (by decide) s_64_31))
theorem d_65_0 : decode prog_9_method_1_code 0 = .ok (.aload_n 0, 1) := by decide +kernel
theorem d_65_1 : decode prog_9_method_1_code 1 = .ok (.iload_n 1, 1) := by decide +kernel
theorem d_65_2 : decode prog_9_method_1_code 2 = .ok (.invokespecial 1, 3) := by decide +kernel
theorem d_65_5 : decode prog_9_method_1_code 5 = .ok (.return_, 1) := by decide +kernel
theorem s_65_0 {Γ : m_G} : m_ok Γ m_tab 65 M_65 0 (g_65_0) := ok_al_n (pc := 0) d_65_0 rfl (ok_il_n (pc := 1) d_65_1 rfl (ok_cvr (pc := 2) (k2 := 9) rfl rfl tb_9 (by decide) (by decide) rfl (go_I d_65_2 w_480 w_456 w_12 w_457 rfl rfl nn_9 (by decide)) (ok_rv (pc := 5) d_65_5 rfl)))
theorem tst_65 {Γ : m_G} (q : Nat) : m_ts Γ (t_65 q) q := ts_l (k := 65) (pc := 0) tb_65 rfl (by decide) s_65_0
theorem d_66_0 : decode prog_9_method_2_code 0 = .ok (.aload_n 0, 1) := by decide +kernel
theorem d_66_1 : decode prog_9_method_2_code 1 = .ok (.getfield 7, 3) := by decide +kernel
theorem d_66_4 : decode prog_9_method_2_code 4 = .ok (.iconst 3, 1) := by decide +kernel
theorem d_66_5 : decode prog_9_method_2_code 5 = .ok (.iadd, 1) := by decide +kernel
theorem d_66_6 : decode prog_9_method_2_code 6 = .ok (.ireturn, 1) := by decide +kernel
theorem s_66_0 {Γ : m_G} : m_ok Γ m_tab 66 M_66 0 (g_66_0) := ok_al_n (pc := 0) d_66_0 rfl (ok_getf (pc := 1) d_66_1 w_466 (hcf (List.forall_mem_cons.mpr ⟨fo_37, List.forall_mem_cons.mpr ⟨fo_36, List.forall_mem_cons.mpr ⟨fo_35, fun _ h => absurd h List.not_mem_nil⟩⟩⟩)) (ok_ic (pc := 4) d_66_4 rfl (ok_add (pc := 5) d_66_5 (ok_ri (pc := 6) d_66_6 rfl))))
theorem tst_66 {Γ : m_G} (q : Nat) : m_ts Γ (t_66 q) q := ts_l (k := 66) (pc := 0) tb_66 rfl (by decide) s_66_0
theorem d_67_0 : decode prog_9_method_3_code 0 = .ok (.iload_n 1, 1) := by decide +kernel
theorem d_67_1 : decode prog_9_method_3_code 1 = .ok (.aload_n 0, 1) := by decide +kernel
theorem d_67_2 : decode prog_9_method_3_code 2 = .ok (.getfield 13, 3) := by decide +kernel
theorem d_67_5 : decode prog_9_method_3_code 5 = .ok (.bipush 6, 2) := by decide +kernel
theorem d_67_7 : decode prog_9_method_3_code 7 = .ok (.irem, 1) := by decide +kernel
theorem d_67_8 : decode prog_9_method_3_code 8 = .ok (.if_icmp .eq 7, 3) := by decide +kernel
theorem d_67_11 : decode prog_9_method_3_code 11 = .ok (.iconst 1, 1) := by decide +kernel
theorem d_67_12 : decode prog_9_method_3_code 12 = .ok (.goto 4, 3) := by decide +kernel
theorem d_67_15 : decode prog_9_method_3_code 15 = .ok (.iconst 0, 1) := by decide +kernel
theorem d_67_16 : decode prog_9_method_3_code 16 = .ok (.ireturn, 1) := by decide +kernel
theorem s_67_16 {Γ : m_G} : m_ok Γ m_tab 67 M_67 16 (g_67_16) := ok_rz (pc := 16) d_67_16 rfl
theorem s_67_15 {Γ : m_G} : m_ok Γ m_tab 67 M_67 15 (g_67_15) := ok_ic (pc := 15) d_67_15 rfl (s_67_16)
theorem s_67_0 {Γ : m_G} : m_ok Γ m_tab 67 M_67 0 (g_67_0) := ok_il_n (pc := 0) d_67_0 rfl (ok_al_n (pc := 1) d_67_1 rfl (ok_getf (pc := 2) d_67_2 w_462 (hcf (List.forall_mem_cons.mpr ⟨fo_40, List.forall_mem_cons.mpr ⟨fo_39, List.forall_mem_cons.mpr ⟨fo_38, fun _ h => absurd h List.not_mem_nil⟩⟩⟩)) (ok_bi (pc := 5) d_67_5 rfl (ok_rem (pc := 7) d_67_7 (ok_cieq (pc := 8) (t := 15) d_67_8 rfl (by decide) rfl (ok_ic (pc := 11) d_67_11 rfl (ok_go (pc := 12) (t := 16) d_67_12 rfl (by decide) rfl)))))))
theorem tst_67 {Γ : m_G} (q : Nat) : m_ts Γ (t_67 q) q := ts_n (ts_l (k := 67) (pc := 0) tb_67 rfl (by decide) s_67_0) (ts_n (ts_l (k := 67) (pc := 15) tb_67 rfl (by decide) s_67_15) (ts_l (k := 67) (pc := 16) tb_67 rfl (by decide) s_67_16))
theorem d_68_0 : decode prog_10_method_1_code 0 = .ok (.aload_n 0, 1) := by decide +kernel
theorem d_68_1 : decode prog_10_method_1_code 1 = .ok (.iload_n 1, 1) := by decide +kernel
theorem d_68_2 : decode prog_10_method_1_code 2 = .ok (.invokespecial 1, 3) := by decide +kernel
theorem d_68_5 : decode prog_10_method_1_code 5 = .ok (.return_, 1) := by decide +kernel
theorem s_68_0 {Γ : m_G} : m_ok Γ m_tab 68 M_68 0 (g_68_0) := ok_al_n (pc := 0) d_68_0 rfl (ok_il_n (pc := 1) d_68_1 rfl (ok_cvr (pc := 2) (k2 := 9) rfl rfl tb_9 (by decide) (by decide) rfl (go_I d_68_2 w_455 w_456 w_12 w_457 rfl rfl nn_9 (by decide)) (ok_rv (pc := 5) d_68_5 rfl)))
theorem tst_68 {Γ : m_G} (q : Nat) : m_ts Γ (t_68 q) q := ts_l (k := 68) (pc := 0) tb_68 rfl (by decide) s_68_0
theorem d_69_0 : decode prog_10_method_2_code 0 = .ok (.aload_n 0, 1) := by decide +kernel
theorem d_69_1 : decode prog_10_method_2_code 1 = .ok (.getfield 7, 3) := by decide +kernel
theorem d_69_4 : decode prog_10_method_2_code 4 = .ok (.iload_n 1, 1) := by decide +kernel
theorem d_69_5 : decode prog_10_method_2_code 5 = .ok (.iconst 1, 1) := by decide +kernel
theorem d_69_6 : decode prog_10_method_2_code 6 = .ok (.iadd, 1) := by decide +kernel
theorem d_69_7 : decode prog_10_method_2_code 7 = .ok (.imul, 1) := by decide +kernel
theorem d_69_8 : decode prog_10_method_2_code 8 = .ok (.ireturn, 1) := by decide +kernel
theorem s_69_0 {Γ : m_G} : m_ok Γ m_tab 69 M_69 0 (g_69_0) := ok_al_n (pc := 0) d_69_0 rfl (ok_getf (pc := 1) d_69_1 w_468 (hcf (List.forall_mem_cons.mpr ⟨fo_42, List.forall_mem_cons.mpr ⟨fo_41, fun _ h => absurd h List.not_mem_nil⟩⟩)) (ok_il_n (pc := 4) d_69_4 rfl (ok_ic (pc := 5) d_69_5 rfl (ok_add (pc := 6) d_69_6 (ok_mul (pc := 7) d_69_7 (ok_ri (pc := 8) d_69_8 rfl))))))
theorem tst_69 {Γ : m_G} (q : Nat) : m_ts Γ (t_69 q) q := ts_l (k := 69) (pc := 0) tb_69 rfl (by decide) s_69_0
theorem d_70_0 : decode prog_11_method_1_code 0 = .ok (.aload_n 0, 1) := by decide +kernel
theorem d_70_1 : decode prog_11_method_1_code 1 = .ok (.invokespecial 3, 3) := by decide +kernel
theorem d_70_4 : decode prog_11_method_1_code 4 = .ok (.aload_n 0, 1) := by decide +kernel
theorem d_70_5 : decode prog_11_method_1_code 5 = .ok (.bipush 31, 2) := by decide +kernel
theorem d_70_7 : decode prog_11_method_1_code 7 = .ok (.newarray .int, 2) := by decide +kernel
theorem d_70_9 : decode prog_11_method_1_code 9 = .ok (.putfield 9, 3) := by decide +kernel
theorem d_70_12 : decode prog_11_method_1_code 12 = .ok (.aload_n 0, 1) := by decide +kernel
theorem d_70_13 : decode prog_11_method_1_code 13 = .ok (.aload_n 1, 1) := by decide +kernel
theorem d_70_14 : decode prog_11_method_1_code 14 = .ok (.putfield 15, 3) := by decide +kernel
theorem d_70_17 : decode prog_11_method_1_code 17 = .ok (.aload_n 0, 1) := by decide +kernel
theorem d_70_18 : decode prog_11_method_1_code 18 = .ok (.iload_n 2, 1) := by decide +kernel
theorem d_70_19 : decode prog_11_method_1_code 19 = .ok (.putfield 18, 3) := by decide +kernel
theorem d_70_22 : decode prog_11_method_1_code 22 = .ok (.aload_n 0, 1) := by decide +kernel
theorem d_70_23 : decode prog_11_method_1_code 23 = .ok (.iload_n 3, 1) := by decide +kernel
theorem d_70_24 : decode prog_11_method_1_code 24 = .ok (.putfield 22, 3) := by decide +kernel
theorem d_70_27 : decode prog_11_method_1_code 27 = .ok (.return_, 1) := by decide +kernel
theorem s_70_0 {Γ : m_G} : m_ok Γ m_tab 70 M_70 0 (g_70_0) := ok_al_n (pc := 0) d_70_0 rfl (ok_oi (pc := 1) d_70_1 w_337 w_27 w_28 (ok_al_n (pc := 4) d_70_4 rfl (ok_bi (pc := 5) d_70_5 rfl (ok_newa (pc := 7) d_70_7 rfl w_88 (ok_putf (pc := 9) d_70_9 w_341 (hc1 ⟨_, _, _, tyX9, cl_9, in_9, by decide, rfl, rfl, rfl, tyX9_ok, nmX9, Or.inr ⟨rfl, rfl, rfl⟩⟩) pd_1 vt_A (ok_al_n (pc := 12) d_70_12 rfl (ok_al_n (pc := 13) d_70_13 rfl (ok_putf (pc := 14) d_70_14 w_338 (hc1 ⟨_, _, _, tyX9, cl_9, in_9, by decide, rfl, rfl, rfl, tyX9_ok, nmX9, Or.inr ⟨rfl, rfl, rfl⟩⟩) pd_1 vt_A (ok_al_n (pc := 17) d_70_17 rfl (ok_il_n (pc := 18) d_70_18 rfl (ok_putf (pc := 19) d_70_19 w_339 (hc1 ⟨_, _, _, tyX9, cl_9, in_9, by decide, rfl, rfl, rfl, tyX9_ok, nmX9, Or.inr ⟨rfl, rfl, rfl⟩⟩) pd_0 vt_I (ok_al_n (pc := 22) d_70_22 rfl (ok_il_n (pc := 23) d_70_23 rfl (ok_putf (pc := 24) d_70_24 w_340 (hc1 ⟨_, _, _, tyX9, cl_9, in_9, by decide, rfl, rfl, rfl, tyX9_ok, nmX9, Or.inr ⟨rfl, rfl, rfl⟩⟩) pd_0 vt_I (ok_rv (pc := 27) d_70_27 rfl)))))))))))))))
theorem tst_70 {Γ : m_G} (q : Nat) : m_ts Γ (t_70 q) q := ts_l (k := 70) (pc := 0) tb_70 rfl (by decide) s_70_0
theorem d_71_0 : decode prog_11_method_2_code 0 = .ok (.aload_n 0, 1) := by decide +kernel
theorem d_71_1 : decode prog_11_method_2_code 1 = .ok (.iconst 0, 1) := by decide +kernel
theorem d_71_2 : decode prog_11_method_2_code 2 = .ok (.aload_n 0, 1) := by decide +kernel
theorem d_71_3 : decode prog_11_method_2_code 3 = .ok (.getfield 18, 3) := by decide +kernel
theorem d_71_6 : decode prog_11_method_2_code 6 = .ok (.aload_n 1, 1) := by decide +kernel
theorem d_71_7 : decode prog_11_method_2_code 7 = .ok (.invokevirtual 25, 3) := by decide +kernel
theorem d_71_10 : decode prog_11_method_2_code 10 = .ok (.ireturn, 1) := by decide +kernel
theorem s_71_0 {Γ : m_G} : m_ok Γ m_tab 71 M_71 0 (g_71_0) := ok_al_n (pc := 0) d_71_0 rfl (ok_ic (pc := 1) d_71_1 rfl (ok_al_n (pc := 2) d_71_2 rfl (ok_getf (pc := 3) d_71_3 w_339 (hc1 fo_43) (ok_al_n (pc := 6) d_71_6 rfl (ok_cai (pc := 7) (k2 := 74) rfl rfl tb_74 (by decide) (by decide) rfl (go_V d_71_7 w_622 w_624 ws_23 w_10 w_625 nn_74 (by decide) cl_9 rfl) (ok_ri (pc := 10) d_71_10 rfl))))))
theorem tst_71 {Γ : m_G} (q : Nat) : m_ts Γ (t_71 q) q := ts_l (k := 71) (pc := 0) tb_71 rfl (by decide) s_71_0
theorem d_72_0 : decode prog_11_method_3_code 0 = .ok (.aload_n 0, 1) := by decide +kernel
theorem d_72_1 : decode prog_11_method_3_code 1 = .ok (.aload_n 0, 1) := by decide +kernel
theorem d_72_2 : decode prog_11_method_3_code 2 = .ok (.getfield 18, 3) := by decide +kernel
theorem d_72_5 : decode prog_11_method_3_code 5 = .ok (.aload_n 0, 1) := by decide +kernel
theorem d_72_6 : decode prog_11_method_3_code 6 = .ok (.getfield 22, 3) := by decide +kernel
theorem d_72_9 : decode prog_11_method_3_code 9 = .ok (.aload_n 1, 1) := by decide +kernel
theorem d_72_10 : decode prog_11_method_3_code 10 = .ok (.invokevirtual 25, 3) := by decide +kernel
theorem d_72_13 : decode prog_11_method_3_code 13 = .ok (.ireturn, 1) := by decide +kernel
theorem s_72_0 {Γ : m_G} : m_ok Γ m_tab 72 M_72 0 (g_72_0) := ok_al_n (pc := 0) d_72_0 rfl (ok_al_n (pc := 1) d_72_1 rfl (ok_getf (pc := 2) d_72_2 w_339 (hc1 fo_43) (ok_al_n (pc := 5) d_72_5 rfl (ok_getf (pc := 6) d_72_6 w_340 (hc1 fo_44) (ok_al_n (pc := 9) d_72_9 rfl (ok_cai (pc := 10) (k2 := 74) rfl rfl tb_74 (by decide) (by decide) rfl (go_V d_72_10 w_622 w_624 ws_23 w_10 w_625 nn_74 (by decide) cl_9 rfl) (ok_ri (pc := 13) d_72_13 rfl)))))))
theorem tst_72 {Γ : m_G} (q : Nat) : m_ts Γ (t_72 q) q := ts_l (k := 72) (pc := 0) tb_72 rfl (by decide) s_72_0
theorem d_73_0 : decode prog_11_method_4_code 0 = .ok (.aload_n 0, 1) := by decide +kernel
theorem d_73_1 : decode prog_11_method_4_code 1 = .ok (.aload_n 0, 1) := by decide +kernel
theorem d_73_2 : decode prog_11_method_4_code 2 = .ok (.getfield 22, 3) := by decide +kernel
theorem d_73_5 : decode prog_11_method_4_code 5 = .ok (.aload_n 0, 1) := by decide +kernel
theorem d_73_6 : decode prog_11_method_4_code 6 = .ok (.getfield 15, 3) := by decide +kernel
theorem d_73_9 : decode prog_11_method_4_code 9 = .ok (.arraylength, 1) := by decide +kernel
theorem d_73_10 : decode prog_11_method_4_code 10 = .ok (.aload_n 1, 1) := by decide +kernel
theorem d_73_11 : decode prog_11_method_4_code 11 = .ok (.invokevirtual 25, 3) := by decide +kernel
theorem d_73_14 : decode prog_11_method_4_code 14 = .ok (.ireturn, 1) := by decide +kernel
theorem s_73_0 {Γ : m_G} : m_ok Γ m_tab 73 M_73 0 (g_73_0) := ok_al_n (pc := 0) d_73_0 rfl (ok_al_n (pc := 1) d_73_1 rfl (ok_getf (pc := 2) d_73_2 w_340 (hc1 fo_44) (ok_al_n (pc := 5) d_73_5 rfl (ok_getf (pc := 6) d_73_6 w_338 (hc1 fo_45) (ok_len (pc := 9) d_73_9 (ok_al_n (pc := 10) d_73_10 rfl (ok_cai (pc := 11) (k2 := 74) rfl rfl tb_74 (by decide) (by decide) rfl (go_V d_73_11 w_622 w_624 ws_23 w_10 w_625 nn_74 (by decide) cl_9 rfl) (ok_ri (pc := 14) d_73_14 rfl))))))))
theorem tst_73 {Γ : m_G} (q : Nat) : m_ts Γ (t_73 q) q := ts_l (k := 73) (pc := 0) tb_73 rfl (by decide) s_73_0
theorem d_74_0 : decode prog_11_method_5_code 0 = .ok (.iconst 0, 1) := by decide +kernel
theorem d_74_1 : decode prog_11_method_5_code 1 = .ok (.istore 4, 2) := by decide +kernel
theorem d_74_3 : decode prog_11_method_5_code 3 = .ok (.iload_n 1, 1) := by decide +kernel
theorem d_74_4 : decode prog_11_method_5_code 4 = .ok (.istore 5, 2) := by decide +kernel
theorem d_74_6 : decode prog_11_method_5_code 6 = .ok (.iload 5, 2) := by decide +kernel
theorem d_74_8 : decode prog_11_method_5_code 8 = .ok (.iload_n 2, 1) := by decide +kernel
theorem d_74_9 : decode prog_11_method_5_code 9 = .ok (.if_icmp .ge 185, 3) := by decide +kernel
theorem d_74_12 : decode prog_11_method_5_code 12 = .ok (.aload_n 0, 1) := by decide +kernel
theorem d_74_13 : decode prog_11_method_5_code 13 = .ok (.getfield 15, 3) := by decide +kernel
theorem d_74_16 : decode prog_11_method_5_code 16 = .ok (.iload 5, 2) := by decide +kernel
theorem d_74_18 : decode prog_11_method_5_code 18 = .ok (.iaload, 1) := by decide +kernel
theorem d_74_19 : decode prog_11_method_5_code 19 = .ok (.istore 6, 2) := by decide +kernel
theorem d_74_21 : decode prog_11_method_5_code 21 = .ok (.iload 6, 2) := by decide +kernel
theorem d_74_23 : decode prog_11_method_5_code 23 = .ok (.bipush 32, 2) := by decide +kernel
theorem d_74_25 : decode prog_11_method_5_code 25 = .ok (.if_icmp .ge 10, 3) := by decide +kernel
theorem d_74_28 : decode prog_11_method_5_code 28 = .ok (.iload 6, 2) := by decide +kernel
theorem d_74_30 : decode prog_11_method_5_code 30 = .ok (.bipush 6, 2) := by decide +kernel
theorem d_74_32 : decode prog_11_method_5_code 32 = .ok (.if_icmp .ge 44, 3) := by decide +kernel
theorem d_74_35 : decode prog_11_method_5_code 35 = .ok (.iload 4, 2) := by decide +kernel
theorem d_74_37 : decode prog_11_method_5_code 37 = .ok (.bipush 31, 2) := by decide +kernel
theorem d_74_39 : decode prog_11_method_5_code 39 = .ok (.if_icmp .lt 5, 3) := by decide +kernel
theorem d_74_42 : decode prog_11_method_5_code 42 = .ok (.iconst 0, 1) := by decide +kernel
theorem d_74_43 : decode prog_11_method_5_code 43 = .ok (.ireturn, 1) := by decide +kernel
theorem d_74_44 : decode prog_11_method_5_code 44 = .ok (.aload_n 0, 1) := by decide +kernel
theorem d_74_45 : decode prog_11_method_5_code 45 = .ok (.getfield 9, 3) := by decide +kernel
theorem d_74_48 : decode prog_11_method_5_code 48 = .ok (.iload 4, 2) := by decide +kernel
theorem d_74_50 : decode prog_11_method_5_code 50 = .ok (.iload 6, 2) := by decide +kernel
theorem d_74_52 : decode prog_11_method_5_code 52 = .ok (.bipush 32, 2) := by decide +kernel
theorem d_74_54 : decode prog_11_method_5_code 54 = .ok (.if_icmp .lt 11, 3) := by decide +kernel
theorem d_74_57 : decode prog_11_method_5_code 57 = .ok (.iload 6, 2) := by decide +kernel
theorem d_74_59 : decode prog_11_method_5_code 59 = .ok (.bipush 32, 2) := by decide +kernel
theorem d_74_61 : decode prog_11_method_5_code 61 = .ok (.isub, 1) := by decide +kernel
theorem d_74_62 : decode prog_11_method_5_code 62 = .ok (.goto 7, 3) := by decide +kernel
theorem d_74_65 : decode prog_11_method_5_code 65 = .ok (.aload_n 3, 1) := by decide +kernel
theorem d_74_66 : decode prog_11_method_5_code 66 = .ok (.iload 6, 2) := by decide +kernel
theorem d_74_68 : decode prog_11_method_5_code 68 = .ok (.iaload, 1) := by decide +kernel
theorem d_74_69 : decode prog_11_method_5_code 69 = .ok (.iastore, 1) := by decide +kernel
theorem d_74_70 : decode prog_11_method_5_code 70 = .ok (.iinc 4 1, 3) := by decide +kernel
theorem d_74_73 : decode prog_11_method_5_code 73 = .ok (.goto 115, 3) := by decide +kernel
theorem d_74_76 : decode prog_11_method_5_code 76 = .ok (.iload 6, 2) := by decide +kernel
theorem d_74_78 : decode prog_11_method_5_code 78 = .ok (.bipush 8, 2) := by decide +kernel
theorem d_74_80 : decode prog_11_method_5_code 80 = .ok (.if_icmp .eq 10, 3) := by decide +kernel
theorem d_74_83 : decode prog_11_method_5_code 83 = .ok (.iload 6, 2) := by decide +kernel
theorem d_74_85 : decode prog_11_method_5_code 85 = .ok (.bipush 14, 2) := by decide +kernel
theorem d_74_87 : decode prog_11_method_5_code 87 = .ok (.if_icmp .ne 60, 3) := by decide +kernel
theorem d_74_90 : decode prog_11_method_5_code 90 = .ok (.iload 4, 2) := by decide +kernel
theorem d_74_92 : decode prog_11_method_5_code 92 = .ok (.iconst 1, 1) := by decide +kernel
theorem d_74_93 : decode prog_11_method_5_code 93 = .ok (.if_icmp .ge 5, 3) := by decide +kernel
theorem d_74_96 : decode prog_11_method_5_code 96 = .ok (.iconst 0, 1) := by decide +kernel
theorem d_74_97 : decode prog_11_method_5_code 97 = .ok (.ireturn, 1) := by decide +kernel
theorem d_74_98 : decode prog_11_method_5_code 98 = .ok (.aload_n 0, 1) := by decide +kernel
theorem d_74_99 : decode prog_11_method_5_code 99 = .ok (.getfield 9, 3) := by decide +kernel
theorem d_74_102 : decode prog_11_method_5_code 102 = .ok (.iload 4, 2) := by decide +kernel
theorem d_74_104 : decode prog_11_method_5_code 104 = .ok (.iconst 1, 1) := by decide +kernel
theorem d_74_105 : decode prog_11_method_5_code 105 = .ok (.isub, 1) := by decide +kernel
theorem d_74_106 : decode prog_11_method_5_code 106 = .ok (.iload 6, 2) := by decide +kernel
theorem d_74_108 : decode prog_11_method_5_code 108 = .ok (.bipush 14, 2) := by decide +kernel
theorem d_74_110 : decode prog_11_method_5_code 110 = .ok (.if_icmp .ne 16, 3) := by decide +kernel
theorem d_74_113 : decode prog_11_method_5_code 113 = .ok (.aload_n 0, 1) := by decide +kernel
theorem d_74_114 : decode prog_11_method_5_code 114 = .ok (.getfield 9, 3) := by decide +kernel
theorem d_74_117 : decode prog_11_method_5_code 117 = .ok (.iload 4, 2) := by decide +kernel
theorem d_74_119 : decode prog_11_method_5_code 119 = .ok (.iconst 1, 1) := by decide +kernel
theorem d_74_120 : decode prog_11_method_5_code 120 = .ok (.isub, 1) := by decide +kernel
theorem d_74_121 : decode prog_11_method_5_code 121 = .ok (.iaload, 1) := by decide +kernel
theorem d_74_122 : decode prog_11_method_5_code 122 = .ok (.ineg, 1) := by decide +kernel
theorem d_74_123 : decode prog_11_method_5_code 123 = .ok (.goto 20, 3) := by decide +kernel
theorem d_74_126 : decode prog_11_method_5_code 126 = .ok (.aload_n 0, 1) := by decide +kernel
theorem d_74_127 : decode prog_11_method_5_code 127 = .ok (.getfield 9, 3) := by decide +kernel
theorem d_74_130 : decode prog_11_method_5_code 130 = .ok (.iload 4, 2) := by decide +kernel
theorem d_74_132 : decode prog_11_method_5_code 132 = .ok (.iconst 1, 1) := by decide +kernel
theorem d_74_133 : decode prog_11_method_5_code 133 = .ok (.isub, 1) := by decide +kernel
theorem d_74_134 : decode prog_11_method_5_code 134 = .ok (.iaload, 1) := by decide +kernel
theorem d_74_135 : decode prog_11_method_5_code 135 = .ok (.ifCond .ne 7, 3) := by decide +kernel
theorem d_74_138 : decode prog_11_method_5_code 138 = .ok (.iconst 1, 1) := by decide +kernel
theorem d_74_139 : decode prog_11_method_5_code 139 = .ok (.goto 4, 3) := by decide +kernel
theorem d_74_142 : decode prog_11_method_5_code 142 = .ok (.iconst 0, 1) := by decide +kernel
theorem d_74_143 : decode prog_11_method_5_code 143 = .ok (.iastore, 1) := by decide +kernel
theorem d_74_144 : decode prog_11_method_5_code 144 = .ok (.goto 44, 3) := by decide +kernel
theorem d_74_147 : decode prog_11_method_5_code 147 = .ok (.iload 4, 2) := by decide +kernel
theorem d_74_149 : decode prog_11_method_5_code 149 = .ok (.iconst 2, 1) := by decide +kernel
theorem d_74_150 : decode prog_11_method_5_code 150 = .ok (.if_icmp .ge 5, 3) := by decide +kernel
theorem d_74_153 : decode prog_11_method_5_code 153 = .ok (.iconst 0, 1) := by decide +kernel
theorem d_74_154 : decode prog_11_method_5_code 154 = .ok (.ireturn, 1) := by decide +kernel
theorem d_74_155 : decode prog_11_method_5_code 155 = .ok (.iinc 4 (-1), 3) := by decide +kernel
theorem d_74_158 : decode prog_11_method_5_code 158 = .ok (.aload_n 0, 1) := by decide +kernel
theorem d_74_159 : decode prog_11_method_5_code 159 = .ok (.getfield 9, 3) := by decide +kernel
theorem d_74_162 : decode prog_11_method_5_code 162 = .ok (.iload 4, 2) := by decide +kernel
theorem d_74_164 : decode prog_11_method_5_code 164 = .ok (.iconst 1, 1) := by decide +kernel
theorem d_74_165 : decode prog_11_method_5_code 165 = .ok (.isub, 1) := by decide +kernel
theorem d_74_166 : decode prog_11_method_5_code 166 = .ok (.iload 6, 2) := by decide +kernel
theorem d_74_168 : decode prog_11_method_5_code 168 = .ok (.aload_n 0, 1) := by decide +kernel
theorem d_74_169 : decode prog_11_method_5_code 169 = .ok (.getfield 9, 3) := by decide +kernel
theorem d_74_172 : decode prog_11_method_5_code 172 = .ok (.iload 4, 2) := by decide +kernel
theorem d_74_174 : decode prog_11_method_5_code 174 = .ok (.iconst 1, 1) := by decide +kernel
theorem d_74_175 : decode prog_11_method_5_code 175 = .ok (.isub, 1) := by decide +kernel
theorem d_74_176 : decode prog_11_method_5_code 176 = .ok (.iaload, 1) := by decide +kernel
theorem d_74_177 : decode prog_11_method_5_code 177 = .ok (.aload_n 0, 1) := by decide +kernel
theorem d_74_178 : decode prog_11_method_5_code 178 = .ok (.getfield 9, 3) := by decide +kernel
theorem d_74_181 : decode prog_11_method_5_code 181 = .ok (.iload 4, 2) := by decide +kernel
theorem d_74_183 : decode prog_11_method_5_code 183 = .ok (.iaload, 1) := by decide +kernel
theorem d_74_184 : decode prog_11_method_5_code 184 = .ok (.invokestatic 29, 3) := by decide +kernel
theorem d_74_187 : decode prog_11_method_5_code 187 = .ok (.iastore, 1) := by decide +kernel
theorem d_74_188 : decode prog_11_method_5_code 188 = .ok (.iinc 5 1, 3) := by decide +kernel
theorem d_74_191 : decode prog_11_method_5_code 191 = .ok (.goto (-185), 3) := by decide +kernel
theorem d_74_194 : decode prog_11_method_5_code 194 = .ok (.iload 4, 2) := by decide +kernel
theorem d_74_196 : decode prog_11_method_5_code 196 = .ok (.iconst 1, 1) := by decide +kernel
theorem d_74_197 : decode prog_11_method_5_code 197 = .ok (.if_icmp .ne 12, 3) := by decide +kernel
theorem d_74_200 : decode prog_11_method_5_code 200 = .ok (.aload_n 0, 1) := by decide +kernel
theorem d_74_201 : decode prog_11_method_5_code 201 = .ok (.getfield 9, 3) := by decide +kernel
theorem d_74_204 : decode prog_11_method_5_code 204 = .ok (.iconst 0, 1) := by decide +kernel
theorem d_74_205 : decode prog_11_method_5_code 205 = .ok (.iaload, 1) := by decide +kernel
theorem d_74_206 : decode prog_11_method_5_code 206 = .ok (.goto 4, 3) := by decide +kernel
theorem d_74_209 : decode prog_11_method_5_code 209 = .ok (.iconst 0, 1) := by decide +kernel
theorem d_74_210 : decode prog_11_method_5_code 210 = .ok (.ireturn, 1) := by decide +kernel
theorem s_74_210 {Γ : m_G} : m_ok Γ m_tab 74 M_74 210 (g_74_210) := ok_ri (pc := 210) d_74_210 rfl
theorem s_74_209 {Γ : m_G} : m_ok Γ m_tab 74 M_74 209 (g_74_209) := ok_ic (pc := 209) d_74_209 rfl (s_74_210)
theorem s_74_194 {Γ : m_G} : m_ok Γ m_tab 74 M_74 194 (g_74_194) := ok_il (pc := 194) d_74_194 (ok_ic (pc := 196) d_74_196 rfl (ok_cine (pc := 197) (t := 209) d_74_197 rfl (by decide) rfl (ok_al_n (pc := 200) d_74_200 rfl (ok_getf (pc := 201) d_74_201 w_341 (hc1 fo_46) (ok_ic (pc := 204) d_74_204 rfl (ok_iald (pc := 205) d_74_205 (ok_go (pc := 206) (t := 210) d_74_206 rfl (by decide) rfl)))))))
theorem s_74_188 {Γ : m_G} : m_ok Γ m_tab 74 M_74 188 (g_74_188) := ok_inc (pc := 188) d_74_188 rfl (by decide) (ok_go (pc := 191) (t := 6) d_74_191 rfl (by decide) rfl)
theorem s_74_155 {Γ : m_G} : m_ok Γ m_tab 74 M_74 155 (g_74_155) := ok_inc (pc := 155) d_74_155 rfl (by decide) (ok_al_n (pc := 158) d_74_158 rfl (ok_getf (pc := 159) d_74_159 w_341 (hc1 fo_46) (ok_il (pc := 162) d_74_162 (ok_ic (pc := 164) d_74_164 rfl (ok_sub (pc := 165) d_74_165 (ok_il (pc := 166) d_74_166 (ok_al_n (pc := 168) d_74_168 rfl (ok_getf (pc := 169) d_74_169 w_341 (hc1 fo_46) (ok_il (pc := 172) d_74_172 (ok_ic (pc := 174) d_74_174 rfl (ok_sub (pc := 175) d_74_175 (ok_iald (pc := 176) d_74_176 (ok_al_n (pc := 177) d_74_177 rfl (ok_getf (pc := 178) d_74_178 w_341 (hc1 fo_46) (ok_il (pc := 181) d_74_181 (ok_iald (pc := 183) d_74_183 (ok_cat (pc := 184) (k2 := 75) rfl tb_75 (by decide) (by decide) rfl (go_S d_74_184 w_626 w_627 w_10 w_628 nn_75 (by decide)) (ok_iast (pc := 187) d_74_187 (s_74_188)))))))))))))))))))
theorem s_74_147 {Γ : m_G} : m_ok Γ m_tab 74 M_74 147 (g_74_147) := ok_il (pc := 147) d_74_147 (ok_ic (pc := 149) d_74_149 rfl (ok_cige (pc := 150) (t := 155) d_74_150 rfl (by decide) rfl (ok_ic (pc := 153) d_74_153 rfl (ok_ri (pc := 154) d_74_154 rfl))))
theorem s_74_143 {Γ : m_G} : m_ok Γ m_tab 74 M_74 143 (g_74_143) := ok_iast (pc := 143) d_74_143 (ok_go (pc := 144) (t := 188) d_74_144 rfl (by decide) rfl)
theorem s_74_142 {Γ : m_G} : m_ok Γ m_tab 74 M_74 142 (g_74_142) := ok_ic (pc := 142) d_74_142 rfl (s_74_143)
theorem s_74_126 {Γ : m_G} : m_ok Γ m_tab 74 M_74 126 (g_74_126) := ok_al_n (pc := 126) d_74_126 rfl (ok_getf (pc := 127) d_74_127 w_341 (hc1 fo_46) (ok_il (pc := 130) d_74_130 (ok_ic (pc := 132) d_74_132 rfl (ok_sub (pc := 133) d_74_133 (ok_iald (pc := 134) d_74_134 (ok_czne (pc := 135) (t := 142) d_74_135 rfl (by decide) rfl (ok_ic (pc := 138) d_74_138 rfl (ok_go (pc := 139) (t := 143) d_74_139 rfl (by decide) rfl))))))))
theorem s_74_98 {Γ : m_G} : m_ok Γ m_tab 74 M_74 98 (g_74_98) := ok_al_n (pc := 98) d_74_98 rfl (ok_getf (pc := 99) d_74_99 w_341 (hc1 fo_46) (ok_il (pc := 102) d_74_102 (ok_ic (pc := 104) d_74_104 rfl (ok_sub (pc := 105) d_74_105 (ok_il (pc := 106) d_74_106 (ok_bi (pc := 108) d_74_108 rfl (ok_cine (pc := 110) (t := 126) d_74_110 rfl (by decide) rfl (ok_al_n (pc := 113) d_74_113 rfl (ok_getf (pc := 114) d_74_114 w_341 (hc1 fo_46) (ok_il (pc := 117) d_74_117 (ok_ic (pc := 119) d_74_119 rfl (ok_sub (pc := 120) d_74_120 (ok_iald (pc := 121) d_74_121 (ok_neg (pc := 122) d_74_122 (ok_go (pc := 123) (t := 143) d_74_123 rfl (by decide) rfl)))))))))))))))
theorem s_74_90 {Γ : m_G} : m_ok Γ m_tab 74 M_74 90 (g_74_90) := ok_il (pc := 90) d_74_90 (ok_ic (pc := 92) d_74_92 rfl (ok_cige (pc := 93) (t := 98) d_74_93 rfl (by decide) rfl (ok_ic (pc := 96) d_74_96 rfl (ok_ri (pc := 97) d_74_97 rfl))))
theorem s_74_76 {Γ : m_G} : m_ok Γ m_tab 74 M_74 76 (g_74_76) := ok_il (pc := 76) d_74_76 (ok_bi (pc := 78) d_74_78 rfl (ok_cieq (pc := 80) (t := 90) d_74_80 rfl (by decide) rfl (ok_il (pc := 83) d_74_83 (ok_bi (pc := 85) d_74_85 rfl (ok_cine (pc := 87) (t := 147) d_74_87 rfl (by decide) rfl (s_74_90))))))
theorem s_74_69 {Γ : m_G} : m_ok Γ m_tab 74 M_74 69 (g_74_69) := ok_iast (pc := 69) d_74_69 (ok_inc (pc := 70) d_74_70 rfl (by decide) (ok_go (pc := 73) (t := 188) d_74_73 rfl (by decide) rfl))
theorem s_74_65 {Γ : m_G} : m_ok Γ m_tab 74 M_74 65 (g_74_65) := ok_al_n (pc := 65) d_74_65 rfl (ok_il (pc := 66) d_74_66 (ok_iald (pc := 68) d_74_68 (s_74_69)))
theorem s_74_44 {Γ : m_G} : m_ok Γ m_tab 74 M_74 44 (g_74_44) := ok_al_n (pc := 44) d_74_44 rfl (ok_getf (pc := 45) d_74_45 w_341 (hc1 fo_46) (ok_il (pc := 48) d_74_48 (ok_il (pc := 50) d_74_50 (ok_bi (pc := 52) d_74_52 rfl (ok_cilt (pc := 54) (t := 65) d_74_54 rfl (by decide) rfl (ok_il (pc := 57) d_74_57 (ok_bi (pc := 59) d_74_59 rfl (ok_sub (pc := 61) d_74_61 (ok_go (pc := 62) (t := 69) d_74_62 rfl (by decide) rfl)))))))))
theorem s_74_35 {Γ : m_G} : m_ok Γ m_tab 74 M_74 35 (g_74_35) := ok_il (pc := 35) d_74_35 (ok_bi (pc := 37) d_74_37 rfl (ok_cilt (pc := 39) (t := 44) d_74_39 rfl (by decide) rfl (ok_ic (pc := 42) d_74_42 rfl (ok_ri (pc := 43) d_74_43 rfl))))
theorem s_74_6 {Γ : m_G} : m_ok Γ m_tab 74 M_74 6 (g_74_6) := ok_il (pc := 6) d_74_6 (ok_il_n (pc := 8) d_74_8 rfl (ok_cige (pc := 9) (t := 194) d_74_9 rfl (by decide) rfl (ok_al_n (pc := 12) d_74_12 rfl (ok_getf (pc := 13) d_74_13 w_338 (hc1 fo_45) (ok_il (pc := 16) d_74_16 (ok_iald (pc := 18) d_74_18 (ok_is (pc := 19) d_74_19 (by decide) (ok_il (pc := 21) d_74_21 (ok_bi (pc := 23) d_74_23 rfl (ok_cige (pc := 25) (t := 35) d_74_25 rfl (by decide) rfl (ok_il (pc := 28) d_74_28 (ok_bi (pc := 30) d_74_30 rfl (ok_cige (pc := 32) (t := 76) d_74_32 rfl (by decide) rfl (s_74_35))))))))))))))
theorem s_74_0 {Γ : m_G} : m_ok Γ m_tab 74 M_74 0 (g_74_0) := ok_ic (pc := 0) d_74_0 rfl (ok_is (pc := 1) d_74_1 (by decide) (ok_il_n (pc := 3) d_74_3 rfl (ok_is (pc := 4) d_74_4 (by decide) (s_74_6))))
theorem tst_74l {Γ : m_G} (q : Nat) : m_ts Γ (t_74l q) q := ts_n (ts_n (ts_n (ts_l (k := 74) (pc := 0) tb_74 rfl (by decide) s_74_0) (ts_l (k := 74) (pc := 6) tb_74 rfl (by decide) s_74_6)) (ts_n (ts_l (k := 74) (pc := 35) tb_74 rfl (by decide) s_74_35) (ts_l (k := 74) (pc := 44) tb_74 rfl (by decide) s_74_44))) (ts_n (ts_n (ts_l (k := 74) (pc := 65) tb_74 rfl (by decide) s_74_65) (ts_l (k := 74) (pc := 69) tb_74 rfl (by decide) s_74_69)) (ts_n (ts_l (k := 74) (pc := 76) tb_74 rfl (by decide) s_74_76) (ts_n (ts_l (k := 74) (pc := 90) tb_74 rfl (by decide) s_74_90) (ts_l (k := 74) (pc := 98) tb_74 rfl (by decide) s_74_98))))
theorem tst_74r {Γ : m_G} (q : Nat) : m_ts Γ (t_74r q) q := ts_n (ts_n (ts_n (ts_l (k := 74) (pc := 126) tb_74 rfl (by decide) s_74_126) (ts_l (k := 74) (pc := 142) tb_74 rfl (by decide) s_74_142)) (ts_n (ts_l (k := 74) (pc := 143) tb_74 rfl (by decide) s_74_143) (ts_l (k := 74) (pc := 147) tb_74 rfl (by decide) s_74_147))) (ts_n (ts_n (ts_l (k := 74) (pc := 155) tb_74 rfl (by decide) s_74_155) (ts_l (k := 74) (pc := 188) tb_74 rfl (by decide) s_74_188)) (ts_n (ts_l (k := 74) (pc := 194) tb_74 rfl (by decide) s_74_194) (ts_n (ts_l (k := 74) (pc := 209) tb_74 rfl (by decide) s_74_209) (ts_l (k := 74) (pc := 210) tb_74 rfl (by decide) s_74_210))))
theorem tst_74 {Γ : m_G} (q : Nat) : m_ts Γ (t_74 q) q := ts_n (tst_74l q) (tst_74r q)
theorem d_75_0 : decode prog_11_method_6_code 0 = .ok (.iload_n 0, 1) := by decide +kernel
theorem d_75_1 : decode prog_11_method_6_code 1 = .ok (.tableswitch 101 6 12 #[43, 57, 101, 71, 82, 93, 97], 43) := by decide +kernel
theorem d_75_44 : decode prog_11_method_6_code 44 = .ok (.iload_n 1, 1) := by decide +kernel
theorem d_75_45 : decode prog_11_method_6_code 45 = .ok (.ifCond .ne 7, 3) := by decide +kernel
theorem d_75_48 : decode prog_11_method_6_code 48 = .ok (.iload_n 2, 1) := by decide +kernel
theorem d_75_49 : decode prog_11_method_6_code 49 = .ok (.ifCond .eq 7, 3) := by decide +kernel
theorem d_75_52 : decode prog_11_method_6_code 52 = .ok (.iconst 1, 1) := by decide +kernel
theorem d_75_53 : decode prog_11_method_6_code 53 = .ok (.goto 4, 3) := by decide +kernel
theorem d_75_56 : decode prog_11_method_6_code 56 = .ok (.iconst 0, 1) := by decide +kernel
theorem d_75_57 : decode prog_11_method_6_code 57 = .ok (.ireturn, 1) := by decide +kernel
theorem d_75_58 : decode prog_11_method_6_code 58 = .ok (.iload_n 1, 1) := by decide +kernel
theorem d_75_59 : decode prog_11_method_6_code 59 = .ok (.ifCond .eq 11, 3) := by decide +kernel
theorem d_75_62 : decode prog_11_method_6_code 62 = .ok (.iload_n 2, 1) := by decide +kernel
theorem d_75_63 : decode prog_11_method_6_code 63 = .ok (.ifCond .eq 7, 3) := by decide +kernel
theorem d_75_66 : decode prog_11_method_6_code 66 = .ok (.iconst 1, 1) := by decide +kernel
theorem d_75_67 : decode prog_11_method_6_code 67 = .ok (.goto 4, 3) := by decide +kernel
theorem d_75_70 : decode prog_11_method_6_code 70 = .ok (.iconst 0, 1) := by decide +kernel
theorem d_75_71 : decode prog_11_method_6_code 71 = .ok (.ireturn, 1) := by decide +kernel
theorem d_75_72 : decode prog_11_method_6_code 72 = .ok (.iload_n 1, 1) := by decide +kernel
theorem d_75_73 : decode prog_11_method_6_code 73 = .ok (.iload_n 2, 1) := by decide +kernel
theorem d_75_74 : decode prog_11_method_6_code 74 = .ok (.if_icmp .ge 7, 3) := by decide +kernel
theorem d_75_77 : decode prog_11_method_6_code 77 = .ok (.iconst 1, 1) := by decide +kernel
theorem d_75_78 : decode prog_11_method_6_code 78 = .ok (.goto 4, 3) := by decide +kernel
theorem d_75_81 : decode prog_11_method_6_code 81 = .ok (.iconst 0, 1) := by decide +kernel
theorem d_75_82 : decode prog_11_method_6_code 82 = .ok (.ireturn, 1) := by decide +kernel
theorem d_75_83 : decode prog_11_method_6_code 83 = .ok (.iload_n 1, 1) := by decide +kernel
theorem d_75_84 : decode prog_11_method_6_code 84 = .ok (.iload_n 2, 1) := by decide +kernel
theorem d_75_85 : decode prog_11_method_6_code 85 = .ok (.if_icmp .ne 7, 3) := by decide +kernel
theorem d_75_88 : decode prog_11_method_6_code 88 = .ok (.iconst 1, 1) := by decide +kernel
theorem d_75_89 : decode prog_11_method_6_code 89 = .ok (.goto 4, 3) := by decide +kernel
theorem d_75_92 : decode prog_11_method_6_code 92 = .ok (.iconst 0, 1) := by decide +kernel
theorem d_75_93 : decode prog_11_method_6_code 93 = .ok (.ireturn, 1) := by decide +kernel
theorem d_75_94 : decode prog_11_method_6_code 94 = .ok (.iload_n 1, 1) := by decide +kernel
theorem d_75_95 : decode prog_11_method_6_code 95 = .ok (.iload_n 2, 1) := by decide +kernel
theorem d_75_96 : decode prog_11_method_6_code 96 = .ok (.iadd, 1) := by decide +kernel
theorem d_75_97 : decode prog_11_method_6_code 97 = .ok (.ireturn, 1) := by decide +kernel
theorem d_75_98 : decode prog_11_method_6_code 98 = .ok (.iload_n 1, 1) := by decide +kernel
theorem d_75_99 : decode prog_11_method_6_code 99 = .ok (.iload_n 2, 1) := by decide +kernel
theorem d_75_100 : decode prog_11_method_6_code 100 = .ok (.isub, 1) := by decide +kernel
theorem d_75_101 : decode prog_11_method_6_code 101 = .ok (.ireturn, 1) := by decide +kernel
theorem d_75_102 : decode prog_11_method_6_code 102 = .ok (.iload_n 1, 1) := by decide +kernel
theorem d_75_103 : decode prog_11_method_6_code 103 = .ok (.iload_n 2, 1) := by decide +kernel
theorem d_75_104 : decode prog_11_method_6_code 104 = .ok (.imul, 1) := by decide +kernel
theorem d_75_105 : decode prog_11_method_6_code 105 = .ok (.ireturn, 1) := by decide +kernel
theorem s_75_102 {Γ : m_G} : m_ok Γ m_tab 75 M_75 102 (g_75_102) := ok_il_n (pc := 102) d_75_102 rfl (ok_il_n (pc := 103) d_75_103 rfl (ok_mul (pc := 104) d_75_104 (ok_ri (pc := 105) d_75_105 rfl)))
theorem s_75_98 {Γ : m_G} : m_ok Γ m_tab 75 M_75 98 (g_75_98) := ok_il_n (pc := 98) d_75_98 rfl (ok_il_n (pc := 99) d_75_99 rfl (ok_sub (pc := 100) d_75_100 (ok_ri (pc := 101) d_75_101 rfl)))
theorem s_75_94 {Γ : m_G} : m_ok Γ m_tab 75 M_75 94 (g_75_94) := ok_il_n (pc := 94) d_75_94 rfl (ok_il_n (pc := 95) d_75_95 rfl (ok_add (pc := 96) d_75_96 (ok_ri (pc := 97) d_75_97 rfl)))
theorem s_75_93 {Γ : m_G} : m_ok Γ m_tab 75 M_75 93 (g_75_93) := ok_ri (pc := 93) d_75_93 rfl
theorem s_75_92 {Γ : m_G} : m_ok Γ m_tab 75 M_75 92 (g_75_92) := ok_ic (pc := 92) d_75_92 rfl (s_75_93)
theorem s_75_83 {Γ : m_G} : m_ok Γ m_tab 75 M_75 83 (g_75_83) := ok_il_n (pc := 83) d_75_83 rfl (ok_il_n (pc := 84) d_75_84 rfl (ok_cine (pc := 85) (t := 92) d_75_85 rfl (by decide) rfl (ok_ic (pc := 88) d_75_88 rfl (ok_go (pc := 89) (t := 93) d_75_89 rfl (by decide) rfl))))
theorem s_75_82 {Γ : m_G} : m_ok Γ m_tab 75 M_75 82 (g_75_82) := ok_ri (pc := 82) d_75_82 rfl
theorem s_75_81 {Γ : m_G} : m_ok Γ m_tab 75 M_75 81 (g_75_81) := ok_ic (pc := 81) d_75_81 rfl (s_75_82)
theorem s_75_72 {Γ : m_G} : m_ok Γ m_tab 75 M_75 72 (g_75_72) := ok_il_n (pc := 72) d_75_72 rfl (ok_il_n (pc := 73) d_75_73 rfl (ok_cige (pc := 74) (t := 81) d_75_74 rfl (by decide) rfl (ok_ic (pc := 77) d_75_77 rfl (ok_go (pc := 78) (t := 82) d_75_78 rfl (by decide) rfl))))
theorem s_75_71 {Γ : m_G} : m_ok Γ m_tab 75 M_75 71 (g_75_71) := ok_ri (pc := 71) d_75_71 rfl
theorem s_75_70 {Γ : m_G} : m_ok Γ m_tab 75 M_75 70 (g_75_70) := ok_ic (pc := 70) d_75_70 rfl (s_75_71)
theorem s_75_58 {Γ : m_G} : m_ok Γ m_tab 75 M_75 58 (g_75_58) := ok_il_n (pc := 58) d_75_58 rfl (ok_czeq (pc := 59) (t := 70) d_75_59 rfl (by decide) rfl (ok_il_n (pc := 62) d_75_62 rfl (ok_czeq (pc := 63) (t := 70) d_75_63 rfl (by decide) rfl (ok_ic (pc := 66) d_75_66 rfl (ok_go (pc := 67) (t := 71) d_75_67 rfl (by decide) rfl)))))
theorem s_75_57 {Γ : m_G} : m_ok Γ m_tab 75 M_75 57 (g_75_57) := ok_ri (pc := 57) d_75_57 rfl
theorem s_75_56 {Γ : m_G} : m_ok Γ m_tab 75 M_75 56 (g_75_56) := ok_ic (pc := 56) d_75_56 rfl (s_75_57)
theorem s_75_52 {Γ : m_G} : m_ok Γ m_tab 75 M_75 52 (g_75_52) := ok_ic (pc := 52) d_75_52 rfl (ok_go (pc := 53) (t := 57) d_75_53 rfl (by decide) rfl)
theorem s_75_44 {Γ : m_G} : m_ok Γ m_tab 75 M_75 44 (g_75_44) := ok_il_n (pc := 44) d_75_44 rfl (ok_czne (pc := 45) (t := 52) d_75_45 rfl (by decide) rfl (ok_il_n (pc := 48) d_75_48 rfl (ok_czeq (pc := 49) (t := 56) d_75_49 rfl (by decide) rfl (s_75_52))))
theorem s_75_0 {Γ : m_G} : m_ok Γ m_tab 75 M_75 0 (g_75_0) := ok_il_n (pc := 0) d_75_0 rfl (ok_tsw (pc := 1) d_75_1 rfl rfl (by decide +kernel) (by decide +kernel) (by decide) (by decide) (by decide +kernel) (by decide))
theorem tst_75l {Γ : m_G} (q : Nat) : m_ts Γ (t_75l q) q := ts_n (ts_n (ts_n (ts_l (k := 75) (pc := 0) tb_75 rfl (by decide) s_75_0) (ts_l (k := 75) (pc := 44) tb_75 rfl (by decide) s_75_44)) (ts_n (ts_l (k := 75) (pc := 52) tb_75 rfl (by decide) s_75_52) (ts_l (k := 75) (pc := 56) tb_75 rfl (by decide) s_75_56))) (ts_n (ts_n (ts_l (k := 75) (pc := 57) tb_75 rfl (by decide) s_75_57) (ts_l (k := 75) (pc := 58) tb_75 rfl (by decide) s_75_58)) (ts_n (ts_l (k := 75) (pc := 70) tb_75 rfl (by decide) s_75_70) (ts_l (k := 75) (pc := 71) tb_75 rfl (by decide) s_75_71)))
theorem tst_75r {Γ : m_G} (q : Nat) : m_ts Γ (t_75r q) q := ts_n (ts_n (ts_n (ts_l (k := 75) (pc := 72) tb_75 rfl (by decide) s_75_72) (ts_l (k := 75) (pc := 81) tb_75 rfl (by decide) s_75_81)) (ts_n (ts_l (k := 75) (pc := 82) tb_75 rfl (by decide) s_75_82) (ts_l (k := 75) (pc := 83) tb_75 rfl (by decide) s_75_83))) (ts_n (ts_n (ts_l (k := 75) (pc := 92) tb_75 rfl (by decide) s_75_92) (ts_l (k := 75) (pc := 93) tb_75 rfl (by decide) s_75_93)) (ts_n (ts_l (k := 75) (pc := 94) tb_75 rfl (by decide) s_75_94) (ts_n (ts_l (k := 75) (pc := 98) tb_75 rfl (by decide) s_75_98) (ts_l (k := 75) (pc := 102) tb_75 rfl (by decide) s_75_102))))
theorem tst_75 {Γ : m_G} (q : Nat) : m_ts Γ (t_75 q) q := ts_n (tst_75l q) (tst_75r q)
theorem d_76_0 : decode prog_12_method_1_code 0 = .ok (.aload_n 0, 1) := by decide +kernel
theorem d_76_1 : decode prog_12_method_1_code 1 = .ok (.invokespecial 3, 3) := by decide +kernel
theorem d_76_4 : decode prog_12_method_1_code 4 = .ok (.aload_n 0, 1) := by decide +kernel
theorem d_76_5 : decode prog_12_method_1_code 5 = .ok (.bipush 6, 2) := by decide +kernel
theorem d_76_7 : decode prog_12_method_1_code 7 = .ok (.newarray .int, 2) := by decide +kernel
theorem d_76_9 : decode prog_12_method_1_code 9 = .ok (.putfield 9, 3) := by decide +kernel
theorem d_76_12 : decode prog_12_method_1_code 12 = .ok (.aload_n 0, 1) := by decide +kernel
theorem d_76_13 : decode prog_12_method_1_code 13 = .ok (.bipush 6, 2) := by decide +kernel
theorem d_76_15 : decode prog_12_method_1_code 15 = .ok (.newarray .int, 2) := by decide +kernel
theorem d_76_17 : decode prog_12_method_1_code 17 = .ok (.putfield 15, 3) := by decide +kernel
theorem d_76_20 : decode prog_12_method_1_code 20 = .ok (.aload_n 0, 1) := by decide +kernel
theorem d_76_21 : decode prog_12_method_1_code 21 = .ok (.bipush 6, 2) := by decide +kernel
theorem d_76_23 : decode prog_12_method_1_code 23 = .ok (.newarray .int, 2) := by decide +kernel
theorem d_76_25 : decode prog_12_method_1_code 25 = .ok (.putfield 18, 3) := by decide +kernel
theorem d_76_28 : decode prog_12_method_1_code 28 = .ok (.aload_n 0, 1) := by decide +kernel
theorem d_76_29 : decode prog_12_method_1_code 29 = .ok (.iconst 4, 1) := by decide +kernel
theorem d_76_30 : decode prog_12_method_1_code 30 = .ok (.iconst 3, 1) := by decide +kernel
theorem d_76_31 : decode prog_12_method_1_code 31 = .ok (.invokevirtual 21, 3) := by decide +kernel
theorem d_76_34 : decode prog_12_method_1_code 34 = .ok (.return_, 1) := by decide +kernel
theorem s_76_0 {Γ : m_G} : m_ok Γ m_tab 76 M_76 0 (g_76_0) := ok_al_n (pc := 0) d_76_0 rfl (ok_oi (pc := 1) d_76_1 w_34 w_27 w_28 (ok_al_n (pc := 4) d_76_4 rfl (ok_bi (pc := 5) d_76_5 rfl (ok_newa (pc := 7) d_76_7 rfl w_88 (ok_putf (pc := 9) d_76_9 w_54 (hc1 ⟨_, _, _, tyX10, cl_10, in_10, by decide, rfl, rfl, rfl, tyX10_ok, nmX10, Or.inr ⟨rfl, rfl, rfl⟩⟩) pd_1 vt_A (ok_al_n (pc := 12) d_76_12 rfl (ok_bi (pc := 13) d_76_13 rfl (ok_newa (pc := 15) d_76_15 rfl w_88 (ok_putf (pc := 17) d_76_17 w_57 (hc1 ⟨_, _, _, tyX10, cl_10, in_10, by decide, rfl, rfl, rfl, tyX10_ok, nmX10, Or.inr ⟨rfl, rfl, rfl⟩⟩) pd_1 vt_A (ok_al_n (pc := 20) d_76_20 rfl (ok_bi (pc := 21) d_76_21 rfl (ok_newa (pc := 23) d_76_23 rfl w_88 (ok_putf (pc := 25) d_76_25 w_60 (hc1 ⟨_, _, _, tyX10, cl_10, in_10, by decide, rfl, rfl, rfl, tyX10_ok, nmX10, Or.inr ⟨rfl, rfl, rfl⟩⟩) pd_1 vt_A (ok_al_n (pc := 28) d_76_28 rfl (ok_ic (pc := 29) d_76_29 rfl (ok_ic (pc := 30) d_76_30 rfl (ok_cvi (pc := 31) (k2 := 77) rfl rfl tb_77 (by decide) (by decide) rfl (go_V d_76_31 w_35 w_36 w_37 w_2 w_38 nn_77 (by decide) cl_10 rfl) (ok_rv (pc := 34) d_76_34 rfl))))))))))))))))))
theorem tst_76 {Γ : m_G} (q : Nat) : m_ts Γ (t_76 q) q := ts_l (k := 76) (pc := 0) tb_76 rfl (by decide) s_76_0
theorem d_77_0 : decode prog_12_method_2_code 0 = .ok (.aload_n 0, 1) := by decide +kernel
theorem d_77_1 : decode prog_12_method_2_code 1 = .ok (.iload_n 1, 1) := by decide +kernel
theorem d_77_2 : decode prog_12_method_2_code 2 = .ok (.putfield 25, 3) := by decide +kernel
theorem d_77_5 : decode prog_12_method_2_code 5 = .ok (.aload_n 0, 1) := by decide +kernel
theorem d_77_6 : decode prog_12_method_2_code 6 = .ok (.iload_n 2, 1) := by decide +kernel
theorem d_77_7 : decode prog_12_method_2_code 7 = .ok (.putfield 29, 3) := by decide +kernel
theorem d_77_10 : decode prog_12_method_2_code 10 = .ok (.aload_n 0, 1) := by decide +kernel
theorem d_77_11 : decode prog_12_method_2_code 11 = .ok (.iload_n 1, 1) := by decide +kernel
theorem d_77_12 : decode prog_12_method_2_code 12 = .ok (.iload_n 2, 1) := by decide +kernel
theorem d_77_13 : decode prog_12_method_2_code 13 = .ok (.invokestatic 32, 3) := by decide +kernel
theorem d_77_16 : decode prog_12_method_2_code 16 = .ok (.putfield 36, 3) := by decide +kernel
theorem d_77_19 : decode prog_12_method_2_code 19 = .ok (.iconst 0, 1) := by decide +kernel
theorem d_77_20 : decode prog_12_method_2_code 20 = .ok (.istore_n 3, 1) := by decide +kernel
theorem d_77_21 : decode prog_12_method_2_code 21 = .ok (.iload_n 3, 1) := by decide +kernel
theorem d_77_22 : decode prog_12_method_2_code 22 = .ok (.bipush 6, 2) := by decide +kernel
theorem d_77_24 : decode prog_12_method_2_code 24 = .ok (.if_icmp .ge 32, 3) := by decide +kernel
theorem d_77_27 : decode prog_12_method_2_code 27 = .ok (.aload_n 0, 1) := by decide +kernel
theorem d_77_28 : decode prog_12_method_2_code 28 = .ok (.getfield 9, 3) := by decide +kernel
theorem d_77_31 : decode prog_12_method_2_code 31 = .ok (.iload_n 3, 1) := by decide +kernel
theorem d_77_32 : decode prog_12_method_2_code 32 = .ok (.iconst 0, 1) := by decide +kernel
theorem d_77_33 : decode prog_12_method_2_code 33 = .ok (.iastore, 1) := by decide +kernel
theorem d_77_34 : decode prog_12_method_2_code 34 = .ok (.aload_n 0, 1) := by decide +kernel
theorem d_77_35 : decode prog_12_method_2_code 35 = .ok (.getfield 15, 3) := by decide +kernel
theorem d_77_38 : decode prog_12_method_2_code 38 = .ok (.iload_n 3, 1) := by decide +kernel
theorem d_77_39 : decode prog_12_method_2_code 39 = .ok (.iload_n 3, 1) := by decide +kernel
theorem d_77_40 : decode prog_12_method_2_code 40 = .ok (.iconst 2, 1) := by decide +kernel
theorem d_77_41 : decode prog_12_method_2_code 41 = .ok (.irem, 1) := by decide +kernel
theorem d_77_42 : decode prog_12_method_2_code 42 = .ok (.iastore, 1) := by decide +kernel
theorem d_77_43 : decode prog_12_method_2_code 43 = .ok (.aload_n 0, 1) := by decide +kernel
theorem d_77_44 : decode prog_12_method_2_code 44 = .ok (.getfield 18, 3) := by decide +kernel
theorem d_77_47 : decode prog_12_method_2_code 47 = .ok (.iload_n 3, 1) := by decide +kernel
theorem d_77_48 : decode prog_12_method_2_code 48 = .ok (.iconst (-1), 1) := by decide +kernel
theorem d_77_49 : decode prog_12_method_2_code 49 = .ok (.iastore, 1) := by decide +kernel
theorem d_77_50 : decode prog_12_method_2_code 50 = .ok (.iinc 3 1, 3) := by decide +kernel
theorem d_77_53 : decode prog_12_method_2_code 53 = .ok (.goto (-32), 3) := by decide +kernel
theorem d_77_56 : decode prog_12_method_2_code 56 = .ok (.iconst 0, 1) := by decide +kernel
theorem d_77_57 : decode prog_12_method_2_code 57 = .ok (.istore_n 3, 1) := by decide +kernel
theorem d_77_58 : decode prog_12_method_2_code 58 = .ok (.iload_n 3, 1) := by decide +kernel
theorem d_77_59 : decode prog_12_method_2_code 59 = .ok (.iconst 1, 1) := by decide +kernel
theorem d_77_60 : decode prog_12_method_2_code 60 = .ok (.iadd, 1) := by decide +kernel
theorem d_77_61 : decode prog_12_method_2_code 61 = .ok (.iload_n 1, 1) := by decide +kernel
theorem d_77_62 : decode prog_12_method_2_code 62 = .ok (.if_icmp .ge 18, 3) := by decide +kernel
theorem d_77_65 : decode prog_12_method_2_code 65 = .ok (.aload_n 0, 1) := by decide +kernel
theorem d_77_66 : decode prog_12_method_2_code 66 = .ok (.iload_n 3, 1) := by decide +kernel
theorem d_77_67 : decode prog_12_method_2_code 67 = .ok (.iload_n 3, 1) := by decide +kernel
theorem d_77_68 : decode prog_12_method_2_code 68 = .ok (.iconst 1, 1) := by decide +kernel
theorem d_77_69 : decode prog_12_method_2_code 69 = .ok (.iadd, 1) := by decide +kernel
theorem d_77_70 : decode prog_12_method_2_code 70 = .ok (.iconst 1, 1) := by decide +kernel
theorem d_77_71 : decode prog_12_method_2_code 71 = .ok (.invokevirtual 39, 3) := by decide +kernel
theorem d_77_74 : decode prog_12_method_2_code 74 = .ok (.iinc 3 1, 3) := by decide +kernel
theorem d_77_77 : decode prog_12_method_2_code 77 = .ok (.goto (-19), 3) := by decide +kernel
theorem d_77_80 : decode prog_12_method_2_code 80 = .ok (.aload_n 0, 1) := by decide +kernel
theorem d_77_81 : decode prog_12_method_2_code 81 = .ok (.iconst 0, 1) := by decide +kernel
theorem d_77_82 : decode prog_12_method_2_code 82 = .ok (.putfield 43, 3) := by decide +kernel
theorem d_77_85 : decode prog_12_method_2_code 85 = .ok (.aload_n 0, 1) := by decide +kernel
theorem d_77_86 : decode prog_12_method_2_code 86 = .ok (.iconst 0, 1) := by decide +kernel
theorem d_77_87 : decode prog_12_method_2_code 87 = .ok (.putfield 46, 3) := by decide +kernel
theorem d_77_90 : decode prog_12_method_2_code 90 = .ok (.return_, 1) := by decide +kernel
theorem s_77_80 {Γ : m_G} : m_ok Γ m_tab 77 M_77 80 (g_77_80) := ok_al_n (pc := 80) d_77_80 rfl (ok_ic (pc := 81) d_77_81 rfl (ok_putf (pc := 82) d_77_82 w_63 (hc1 ⟨_, _, _, tyX10, cl_10, in_10, by decide, rfl, rfl, rfl, tyX10_ok, nmX10, Or.inl rfl⟩) pd_0 vt_I (ok_al_n (pc := 85) d_77_85 rfl (ok_ic (pc := 86) d_77_86 rfl (ok_putf (pc := 87) d_77_87 w_65 (hc1 ⟨_, _, _, tyX10, cl_10, in_10, by decide, rfl, rfl, rfl, tyX10_ok, nmX10, Or.inl rfl⟩) pd_0 vt_I (ok_rv (pc := 90) d_77_90 rfl))))))
theorem s_77_58 {Γ : m_G} : m_ok Γ m_tab 77 M_77 58 (g_77_58) := ok_il_n (pc := 58) d_77_58 rfl (ok_ic (pc := 59) d_77_59 rfl (ok_add (pc := 60) d_77_60 (ok_il_n (pc := 61) d_77_61 rfl (ok_cige (pc := 62) (t := 80) d_77_62 rfl (by decide) rfl (ok_al_n (pc := 65) d_77_65 rfl (ok_il_n (pc := 66) d_77_66 rfl (ok_il_n (pc := 67) d_77_67 rfl (ok_ic (pc := 68) d_77_68 rfl (ok_add (pc := 69) d_77_69 (ok_ic (pc := 70) d_77_70 rfl (ok_cvi (pc := 71) (k2 := 79) rfl rfl tb_79 (by decide) (by decide) rfl (go_V d_77_71 w_42 w_43 w_44 w_2 w_45 nn_79 (by decide) cl_10 rfl) (ok_inc (pc := 74) d_77_74 rfl (by decide) (ok_go (pc := 77) (t := 58) d_77_77 rfl (by decide) rfl)))))))))))))
theorem s_77_56 {Γ : m_G} : m_ok Γ m_tab 77 M_77 56 (g_77_56) := ok_ic (pc := 56) d_77_56 rfl (ok_is_n (pc := 57) d_77_57 rfl (by decide) (s_77_58))
theorem s_77_21 {Γ : m_G} : m_ok Γ m_tab 77 M_77 21 (g_77_21) := ok_il_n (pc := 21) d_77_21 rfl (ok_bi (pc := 22) d_77_22 rfl (ok_cige (pc := 24) (t := 56) d_77_24 rfl (by decide) rfl (ok_al_n (pc := 27) d_77_27 rfl (ok_getf (pc := 28) d_77_28 w_54 (hc1 fo_27) (ok_il_n (pc := 31) d_77_31 rfl (ok_ic (pc := 32) d_77_32 rfl (ok_iast (pc := 33) d_77_33 (ok_al_n (pc := 34) d_77_34 rfl (ok_getf (pc := 35) d_77_35 w_57 (hc1 fo_31) (ok_il_n (pc := 38) d_77_38 rfl (ok_il_n (pc := 39) d_77_39 rfl (ok_ic (pc := 40) d_77_40 rfl (ok_rem (pc := 41) d_77_41 (ok_iast (pc := 42) d_77_42 (ok_al_n (pc := 43) d_77_43 rfl (ok_getf (pc := 44) d_77_44 w_60 (hc1 fo_32) (ok_il_n (pc := 47) d_77_47 rfl (ok_ic (pc := 48) d_77_48 rfl (ok_iast (pc := 49) d_77_49 (ok_inc (pc := 50) d_77_50 rfl (by decide) (ok_go (pc := 53) (t := 21) d_77_53 rfl (by decide) rfl)))))))))))))))))))))
theorem s_77_0 {Γ : m_G} : m_ok Γ m_tab 77 M_77 0 (g_77_0) := ok_al_n (pc := 0) d_77_0 rfl (ok_il_n (pc := 1) d_77_1 rfl (ok_putf (pc := 2) d_77_2 w_46 (hc1 ⟨_, _, _, tyX10, cl_10, in_10, by decide, rfl, rfl, rfl, tyX10_ok, nmX10, Or.inl rfl⟩) pd_0 vt_I (ok_al_n (pc := 5) d_77_5 rfl (ok_il_n (pc := 6) d_77_6 rfl (ok_putf (pc := 7) d_77_7 w_49 (hc1 ⟨_, _, _, tyX10, cl_10, in_10, by decide, rfl, rfl, rfl, tyX10_ok, nmX10, Or.inl rfl⟩) pd_0 vt_I (ok_al_n (pc := 10) d_77_10 rfl (ok_il_n (pc := 11) d_77_11 rfl (ok_il_n (pc := 12) d_77_12 rfl (ok_cat (pc := 13) (k2 := 124) rfl tb_124 (by decide) (by decide) rfl (go_SN (host := "NeverLike") d_77_13 (by decide +kernel) w_40 w_1 w_41 nn_124 (by decide)) (ok_putf (pc := 16) d_77_16 w_52 (hc1 ⟨_, _, _, tyX10, cl_10, in_10, by decide, rfl, rfl, rfl, tyX10_ok, nmX10, Or.inl rfl⟩) pd_0 vt_I (ok_ic (pc := 19) d_77_19 rfl (ok_is_n (pc := 20) d_77_20 rfl (by decide) (s_77_21)))))))))))))
theorem tst_77 {Γ : m_G} (q : Nat) : m_ts Γ (t_77 q) q := ts_n (ts_n (ts_l (k := 77) (pc := 0) tb_77 rfl (by decide) s_77_0) (ts_l (k := 77) (pc := 21) tb_77 rfl (by decide) s_77_21)) (ts_n (ts_l (k := 77) (pc := 56) tb_77 rfl (by decide) s_77_56) (ts_n (ts_l (k := 77) (pc := 58) tb_77 rfl (by decide) s_77_58) (ts_l (k := 77) (pc := 80) tb_77 rfl (by decide) s_77_80)))
theorem d_78_0 : decode prog_12_method_3_code 0 = .ok (.aload_n 1, 1) := by decide +kernel
theorem d_78_1 : decode prog_12_method_3_code 1 = .ok (.getfield 15, 3) := by decide +kernel
theorem d_78_4 : decode prog_12_method_3_code 4 = .ok (.iconst 0, 1) := by decide +kernel
theorem d_78_5 : decode prog_12_method_3_code 5 = .ok (.aload_n 0, 1) := by decide +kernel
theorem d_78_6 : decode prog_12_method_3_code 6 = .ok (.getfield 15, 3) := by decide +kernel
theorem d_78_9 : decode prog_12_method_3_code 9 = .ok (.iconst 0, 1) := by decide +kernel
theorem d_78_10 : decode prog_12_method_3_code 10 = .ok (.bipush 6, 2) := by decide +kernel
theorem d_78_12 : decode prog_12_method_3_code 12 = .ok (.invokestatic 49, 3) := by decide +kernel
theorem d_78_15 : decode prog_12_method_3_code 15 = .ok (.aload_n 1, 1) := by decide +kernel
theorem d_78_16 : decode prog_12_method_3_code 16 = .ok (.getfield 18, 3) := by decide +kernel
theorem d_78_19 : decode prog_12_method_3_code 19 = .ok (.iconst 0, 1) := by decide +kernel
theorem d_78_20 : decode prog_12_method_3_code 20 = .ok (.aload_n 0, 1) := by decide +kernel
theorem d_78_21 : decode prog_12_method_3_code 21 = .ok (.getfield 18, 3) := by decide +kernel
theorem d_78_24 : decode prog_12_method_3_code 24 = .ok (.iconst 0, 1) := by decide +kernel
theorem d_78_25 : decode prog_12_method_3_code 25 = .ok (.bipush 6, 2) := by decide +kernel
theorem d_78_27 : decode prog_12_method_3_code 27 = .ok (.invokestatic 49, 3) := by decide +kernel
theorem d_78_30 : decode prog_12_method_3_code 30 = .ok (.aload_n 0, 1) := by decide +kernel
theorem d_78_31 : decode prog_12_method_3_code 31 = .ok (.aload_n 1, 1) := by decide +kernel
theorem d_78_32 : decode prog_12_method_3_code 32 = .ok (.getfield 43, 3) := by decide +kernel
theorem d_78_35 : decode prog_12_method_3_code 35 = .ok (.putfield 43, 3) := by decide +kernel
theorem d_78_38 : decode prog_12_method_3_code 38 = .ok (.aload_n 0, 1) := by decide +kernel
theorem d_78_39 : decode prog_12_method_3_code 39 = .ok (.aload_n 1, 1) := by decide +kernel
theorem d_78_40 : decode prog_12_method_3_code 40 = .ok (.getfield 46, 3) := by decide +kernel
theorem d_78_43 : decode prog_12_method_3_code 43 = .ok (.putfield 46, 3) := by decide +kernel
theorem d_78_46 : decode prog_12_method_3_code 46 = .ok (.aload_n 0, 1) := by decide +kernel
theorem d_78_47 : decode prog_12_method_3_code 47 = .ok (.aload_n 1, 1) := by decide +kernel
theorem d_78_48 : decode prog_12_method_3_code 48 = .ok (.getfield 55, 3) := by decide +kernel
theorem d_78_51 : decode prog_12_method_3_code 51 = .ok (.putfield 55, 3) := by decide +kernel
theorem d_78_54 : decode prog_12_method_3_code 54 = .ok (.return_, 1) := by decide +kernel
theorem s_78_0 {Γ : m_G} : m_ok Γ m_tab 78 M_78 0 (g_78_0) := ok_al_n (pc := 0) d_78_0 rfl (ok_getf (pc := 1) d_78_1 w_57 (hc1 fo_31) (ok_ic (pc := 4) d_78_4 rfl (ok_al_n (pc := 5) d_78_5 rfl (ok_getf (pc := 6) d_78_6 w_57 (hc1 fo_31) (ok_ic (pc := 9) d_78_9 rfl (ok_bi (pc := 10) d_78_10 rfl (ok_copy (pc := 12) d_78_12 w_834 w_331 w_330 w_9 (ok_al_n (pc := 15) d_78_15 rfl (ok_getf (pc := 16) d_78_16 w_60 (hc1 fo_32) (ok_ic (pc := 19) d_78_19 rfl (ok_al_n (pc := 20) d_78_20 rfl (ok_getf (pc := 21) d_78_21 w_60 (hc1 fo_32) (ok_ic (pc := 24) d_78_24 rfl (ok_bi (pc := 25) d_78_25 rfl (ok_copy (pc := 27) d_78_27 w_834 w_331 w_330 w_9 (ok_al_n (pc := 30) d_78_30 rfl (ok_al_n (pc := 31) d_78_31 rfl (ok_getf (pc := 32) d_78_32 w_63 (hc1 fo_49) (ok_putf (pc := 35) d_78_35 w_63 (hc1 ⟨_, _, _, tyX10, cl_10, in_10, by decide, rfl, rfl, rfl, tyX10_ok, nmX10, Or.inl rfl⟩) pd_0 vt_I (ok_al_n (pc := 38) d_78_38 rfl (ok_al_n (pc := 39) d_78_39 rfl (ok_getf (pc := 40) d_78_40 w_65 (hc1 fo_48) (ok_putf (pc := 43) d_78_43 w_65 (hc1 ⟨_, _, _, tyX10, cl_10, in_10, by decide, rfl, rfl, rfl, tyX10_ok, nmX10, Or.inl rfl⟩) pd_0 vt_I (ok_al_n (pc := 46) d_78_46 rfl (ok_al_n (pc := 47) d_78_47 rfl (ok_getf (pc := 48) d_78_48 w_67 (hc1 fo_47) (ok_putf (pc := 51) d_78_51 w_67 (hc1 ⟨_, _, _, tyX10, cl_10, in_10, by decide, rfl, rfl, rfl, tyX10_ok, nmX10, Or.inl rfl⟩) pd_0 vt_I (ok_rv (pc := 54) d_78_54 rfl))))))))))))))))))))))))))))
theorem tst_78 {Γ : m_G} (q : Nat) : m_ts Γ (t_78 q) q := ts_l (k := 78) (pc := 0) tb_78 rfl (by decide) s_78_0
theorem d_79_0 : decode prog_12_method_4_code 0 = .ok (.aload_n 0, 1) := by decide +kernel
theorem d_79_1 : decode prog_12_method_4_code 1 = .ok (.getfield 9, 3) := by decide +kernel
theorem d_79_4 : decode prog_12_method_4_code 4 = .ok (.iload_n 1, 1) := by decide +kernel
theorem d_79_5 : decode prog_12_method_4_code 5 = .ok (.aload_n 0, 1) := by decide +kernel
theorem d_79_6 : decode prog_12_method_4_code 6 = .ok (.getfield 9, 3) := by decide +kernel
theorem d_79_9 : decode prog_12_method_4_code 9 = .ok (.iload_n 1, 1) := by decide +kernel
theorem d_79_10 : decode prog_12_method_4_code 10 = .ok (.iaload, 1) := by decide +kernel
theorem d_79_11 : decode prog_12_method_4_code 11 = .ok (.iconst 1, 1) := by decide +kernel
theorem d_79_12 : decode prog_12_method_4_code 12 = .ok (.iload_n 2, 1) := by decide +kernel
theorem d_79_13 : decode prog_12_method_4_code 13 = .ok (.ishl, 1) := by decide +kernel
theorem d_79_14 : decode prog_12_method_4_code 14 = .ok (.iconst (-1), 1) := by decide +kernel
theorem d_79_15 : decode prog_12_method_4_code 15 = .ok (.ixor, 1) := by decide +kernel
theorem d_79_16 : decode prog_12_method_4_code 16 = .ok (.iand, 1) := by decide +kernel
theorem d_79_17 : decode prog_12_method_4_code 17 = .ok (.iload_n 3, 1) := by decide +kernel
theorem d_79_18 : decode prog_12_method_4_code 18 = .ok (.ifCond .eq 9, 3) := by decide +kernel
theorem d_79_21 : decode prog_12_method_4_code 21 = .ok (.iconst 1, 1) := by decide +kernel
theorem d_79_22 : decode prog_12_method_4_code 22 = .ok (.iload_n 2, 1) := by decide +kernel
theorem d_79_23 : decode prog_12_method_4_code 23 = .ok (.ishl, 1) := by decide +kernel
theorem d_79_24 : decode prog_12_method_4_code 24 = .ok (.goto 4, 3) := by decide +kernel
theorem d_79_27 : decode prog_12_method_4_code 27 = .ok (.iconst 0, 1) := by decide +kernel
theorem d_79_28 : decode prog_12_method_4_code 28 = .ok (.ior, 1) := by decide +kernel
theorem d_79_29 : decode prog_12_method_4_code 29 = .ok (.iastore, 1) := by decide +kernel
theorem d_79_30 : decode prog_12_method_4_code 30 = .ok (.aload_n 0, 1) := by decide +kernel
theorem d_79_31 : decode prog_12_method_4_code 31 = .ok (.getfield 9, 3) := by decide +kernel
theorem d_79_34 : decode prog_12_method_4_code 34 = .ok (.iload_n 2, 1) := by decide +kernel
theorem d_79_35 : decode prog_12_method_4_code 35 = .ok (.aload_n 0, 1) := by decide +kernel
theorem d_79_36 : decode prog_12_method_4_code 36 = .ok (.getfield 9, 3) := by decide +kernel
theorem d_79_39 : decode prog_12_method_4_code 39 = .ok (.iload_n 2, 1) := by decide +kernel
theorem d_79_40 : decode prog_12_method_4_code 40 = .ok (.iaload, 1) := by decide +kernel
theorem d_79_41 : decode prog_12_method_4_code 41 = .ok (.iconst 1, 1) := by decide +kernel
theorem d_79_42 : decode prog_12_method_4_code 42 = .ok (.iload_n 1, 1) := by decide +kernel
theorem d_79_43 : decode prog_12_method_4_code 43 = .ok (.ishl, 1) := by decide +kernel
theorem d_79_44 : decode prog_12_method_4_code 44 = .ok (.iconst (-1), 1) := by decide +kernel
theorem d_79_45 : decode prog_12_method_4_code 45 = .ok (.ixor, 1) := by decide +kernel
theorem d_79_46 : decode prog_12_method_4_code 46 = .ok (.iand, 1) := by decide +kernel
theorem d_79_47 : decode prog_12_method_4_code 47 = .ok (.iload_n 3, 1) := by decide +kernel
theorem d_79_48 : decode prog_12_method_4_code 48 = .ok (.ifCond .eq 9, 3) := by decide +kernel
theorem d_79_51 : decode prog_12_method_4_code 51 = .ok (.iconst 1, 1) := by decide +kernel
theorem d_79_52 : decode prog_12_method_4_code 52 = .ok (.iload_n 1, 1) := by decide +kernel
theorem d_79_53 : decode prog_12_method_4_code 53 = .ok (.ishl, 1) := by decide +kernel
theorem d_79_54 : decode prog_12_method_4_code 54 = .ok (.goto 4, 3) := by decide +kernel
theorem d_79_57 : decode prog_12_method_4_code 57 = .ok (.iconst 0, 1) := by decide +kernel
theorem d_79_58 : decode prog_12_method_4_code 58 = .ok (.ior, 1) := by decide +kernel
theorem d_79_59 : decode prog_12_method_4_code 59 = .ok (.iastore, 1) := by decide +kernel
theorem d_79_60 : decode prog_12_method_4_code 60 = .ok (.return_, 1) := by decide +kernel
theorem s_79_58 {Γ : m_G} : m_ok Γ m_tab 79 M_79 58 (g_79_58) := ok_or (pc := 58) d_79_58 (ok_iast (pc := 59) d_79_59 (ok_rv (pc := 60) d_79_60 rfl))
theorem s_79_57 {Γ : m_G} : m_ok Γ m_tab 79 M_79 57 (g_79_57) := ok_ic (pc := 57) d_79_57 rfl (s_79_58)
theorem s_79_28 {Γ : m_G} : m_ok Γ m_tab 79 M_79 28 (g_79_28) := ok_or (pc := 28) d_79_28 (ok_iast (pc := 29) d_79_29 (ok_al_n (pc := 30) d_79_30 rfl (ok_getf (pc := 31) d_79_31 w_54 (hc1 fo_27) (ok_il_n (pc := 34) d_79_34 rfl (ok_al_n (pc := 35) d_79_35 rfl (ok_getf (pc := 36) d_79_36 w_54 (hc1 fo_27) (ok_il_n (pc := 39) d_79_39 rfl (ok_iald (pc := 40) d_79_40 (ok_ic (pc := 41) d_79_41 rfl (ok_il_n (pc := 42) d_79_42 rfl (ok_shl (pc := 43) d_79_43 (ok_ic (pc := 44) d_79_44 rfl (ok_xor (pc := 45) d_79_45 (ok_and (pc := 46) d_79_46 (ok_il_n (pc := 47) d_79_47 rfl (ok_czeq (pc := 48) (t := 57) d_79_48 rfl (by decide) rfl (ok_ic (pc := 51) d_79_51 rfl (ok_il_n (pc := 52) d_79_52 rfl (ok_shl (pc := 53) d_79_53 (ok_go (pc := 54) (t := 58) d_79_54 rfl (by decide) rfl))))))))))))))))))))
theorem s_79_27 {Γ : m_G} : m_ok Γ m_tab 79 M_79 27 (g_79_27) := ok_ic (pc := 27) d_79_27 rfl (s_79_28)
theorem s_79_0 {Γ : m_G} : m_ok Γ m_tab 79 M_79 0 (g_79_0) := ok_al_n (pc := 0) d_79_0 rfl (ok_getf (pc := 1) d_79_1 w_54 (hc1 fo_27) (ok_il_n (pc := 4) d_79_4 rfl (ok_al_n (pc := 5) d_79_5 rfl (ok_getf (pc := 6) d_79_6 w_54 (hc1 fo_27) (ok_il_n (pc := 9) d_79_9 rfl (ok_iald (pc := 10) d_79_10 (ok_ic (pc := 11) d_79_11 rfl (ok_il_n (pc := 12) d_79_12 rfl (ok_shl (pc := 13) d_79_13 (ok_ic (pc := 14) d_79_14 rfl (ok_xor (pc := 15) d_79_15 (ok_and (pc := 16) d_79_16 (ok_il_n (pc := 17) d_79_17 rfl (ok_czeq (pc := 18) (t := 27) d_79_18 rfl (by decide) rfl (ok_ic (pc := 21) d_79_21 rfl (ok_il_n (pc := 22) d_79_22 rfl (ok_shl (pc := 23) d_79_23 (ok_go (pc := 24) (t := 28) d_79_24 rfl (by decide) rfl))))))))))))))))))
theorem tst_79 {Γ : m_G} (q : Nat) : m_ts Γ (t_79 q) q := ts_n (ts_n (ts_l (k := 79) (pc := 0) tb_79 rfl (by decide) s_79_0) (ts_l (k := 79) (pc := 27) tb_79 rfl (by decide) s_79_27)) (ts_n (ts_l (k := 79) (pc := 28) tb_79 rfl (by decide) s_79_28) (ts_n (ts_l (k := 79) (pc := 57) tb_79 rfl (by decide) s_79_57) (ts_l (k := 79) (pc := 58) tb_79 rfl (by decide) s_79_58)))
theorem d_80_0 : decode prog_12_method_5_code 0 = .ok (.iload_n 1, 1) := by decide +kernel
theorem d_80_1 : decode prog_12_method_5_code 1 = .ok (.ifCond .lt 15, 3) := by decide +kernel
theorem d_80_4 : decode prog_12_method_5_code 4 = .ok (.iload_n 1, 1) := by decide +kernel
theorem d_80_5 : decode prog_12_method_5_code 5 = .ok (.aload_n 0, 1) := by decide +kernel
theorem d_80_6 : decode prog_12_method_5_code 6 = .ok (.getfield 25, 3) := by decide +kernel
theorem d_80_9 : decode prog_12_method_5_code 9 = .ok (.if_icmp .ge 7, 3) := by decide +kernel
theorem d_80_12 : decode prog_12_method_5_code 12 = .ok (.iconst 1, 1) := by decide +kernel
theorem d_80_13 : decode prog_12_method_5_code 13 = .ok (.goto 4, 3) := by decide +kernel
theorem d_80_16 : decode prog_12_method_5_code 16 = .ok (.iconst 0, 1) := by decide +kernel
theorem d_80_17 : decode prog_12_method_5_code 17 = .ok (.ireturn, 1) := by decide +kernel
theorem s_80_17 {Γ : m_G} : m_ok Γ m_tab 80 M_80 17 (g_80_17) := ok_rz (pc := 17) d_80_17 rfl
theorem s_80_16 {Γ : m_G} : m_ok Γ m_tab 80 M_80 16 (g_80_16) := ok_ic (pc := 16) d_80_16 rfl (s_80_17)
theorem s_80_0 {Γ : m_G} : m_ok Γ m_tab 80 M_80 0 (g_80_0) := ok_il_n (pc := 0) d_80_0 rfl (ok_czlt (pc := 1) (t := 16) d_80_1 rfl (by decide) rfl (ok_il_n (pc := 4) d_80_4 rfl (ok_al_n (pc := 5) d_80_5 rfl (ok_getf (pc := 6) d_80_6 w_46 (hc1 fo_28) (ok_cige (pc := 9) (t := 16) d_80_9 rfl (by decide) rfl (ok_ic (pc := 12) d_80_12 rfl (ok_go (pc := 13) (t := 17) d_80_13 rfl (by decide) rfl)))))))
theorem tst_80 {Γ : m_G} (q : Nat) : m_ts Γ (t_80 q) q := ts_n (ts_l (k := 80) (pc := 0) tb_80 rfl (by decide) s_80_0) (ts_n (ts_l (k := 80) (pc := 16) tb_80 rfl (by decide) s_80_16) (ts_l (k := 80) (pc := 17) tb_80 rfl (by decide) s_80_17))
theorem d_81_0 : decode prog_12_method_6_code 0 = .ok (.aload_n 0, 1) := by decide +kernel
theorem d_81_1 : decode prog_12_method_6_code 1 = .ok (.iload_n 1, 1) := by decide +kernel
theorem d_81_2 : decode prog_12_method_6_code 2 = .ok (.invokevirtual 58, 3) := by decide +kernel
theorem d_81_5 : decode prog_12_method_6_code 5 = .ok (.ifCond .eq 20, 3) := by decide +kernel
theorem d_81_8 : decode prog_12_method_6_code 8 = .ok (.aload_n 0, 1) := by decide +kernel
theorem d_81_9 : decode prog_12_method_6_code 9 = .ok (.iload_n 2, 1) := by decide +kernel
theorem d_81_10 : decode prog_12_method_6_code 10 = .ok (.invokevirtual 58, 3) := by decide +kernel
theorem d_81_13 : decode prog_12_method_6_code 13 = .ok (.ifCond .eq 12, 3) := by decide +kernel
theorem d_81_16 : decode prog_12_method_6_code 16 = .ok (.iload_n 1, 1) := by decide +kernel
theorem d_81_17 : decode prog_12_method_6_code 17 = .ok (.iload_n 2, 1) := by decide +kernel
theorem d_81_18 : decode prog_12_method_6_code 18 = .ok (.if_icmp .eq 7, 3) := by decide +kernel
theorem d_81_21 : decode prog_12_method_6_code 21 = .ok (.iconst 1, 1) := by decide +kernel
theorem d_81_22 : decode prog_12_method_6_code 22 = .ok (.goto 4, 3) := by decide +kernel
theorem d_81_25 : decode prog_12_method_6_code 25 = .ok (.iconst 0, 1) := by decide +kernel
theorem d_81_26 : decode prog_12_method_6_code 26 = .ok (.ireturn, 1) := by decide +kernel
theorem s_81_26 {Γ : m_G} : m_ok Γ m_tab 81 M_81 26 (g_81_26) := ok_rz (pc := 26) d_81_26 rfl
theorem s_81_25 {Γ : m_G} : m_ok Γ m_tab 81 M_81 25 (g_81_25) := ok_ic (pc := 25) d_81_25 rfl (s_81_26)
theorem s_81_0 {Γ : m_G} : m_ok Γ m_tab 81 M_81 0 (g_81_0) := ok_al_n (pc := 0) d_81_0 rfl (ok_il_n (pc := 1) d_81_1 rfl (ok_cai (pc := 2) (k2 := 80) rfl rfl tb_80 (by decide) (by decide) rfl (go_V d_81_2 w_411 w_412 w_413 w_2 w_414 nn_80 (by decide) cl_10 rfl) (ok_czeq (pc := 5) (t := 25) d_81_5 rfl (by decide) rfl (ok_al_n (pc := 8) d_81_8 rfl (ok_il_n (pc := 9) d_81_9 rfl (ok_cai (pc := 10) (k2 := 80) rfl rfl tb_80 (by decide) (by decide) rfl (go_V d_81_10 w_411 w_412 w_413 w_2 w_414 nn_80 (by decide) cl_10 rfl) (ok_czeq (pc := 13) (t := 25) d_81_13 rfl (by decide) rfl (ok_il_n (pc := 16) d_81_16 rfl (ok_il_n (pc := 17) d_81_17 rfl (ok_cieq (pc := 18) (t := 25) d_81_18 rfl (by decide) rfl (ok_ic (pc := 21) d_81_21 rfl (ok_go (pc := 22) (t := 26) d_81_22 rfl (by decide) rfl))))))))))))
theorem tst_81 {Γ : m_G} (q : Nat) : m_ts Γ (t_81 q) q := ts_n (ts_l (k := 81) (pc := 0) tb_81 rfl (by decide) s_81_0) (ts_n (ts_l (k := 81) (pc := 25) tb_81 rfl (by decide) s_81_25) (ts_l (k := 81) (pc := 26) tb_81 rfl (by decide) s_81_26))
theorem d_82_0 : decode prog_12_method_7_code 0 = .ok (.iload_n 1, 1) := by decide +kernel
theorem d_82_1 : decode prog_12_method_7_code 1 = .ok (.ifCond .lt 15, 3) := by decide +kernel
theorem d_82_4 : decode prog_12_method_7_code 4 = .ok (.iload_n 1, 1) := by decide +kernel
theorem d_82_5 : decode prog_12_method_7_code 5 = .ok (.aload_n 0, 1) := by decide +kernel
theorem d_82_6 : decode prog_12_method_7_code 6 = .ok (.getfield 29, 3) := by decide +kernel
theorem d_82_9 : decode prog_12_method_7_code 9 = .ok (.if_icmp .ge 7, 3) := by decide +kernel
theorem d_82_12 : decode prog_12_method_7_code 12 = .ok (.iconst 1, 1) := by decide +kernel
theorem d_82_13 : decode prog_12_method_7_code 13 = .ok (.goto 4, 3) := by decide +kernel
theorem d_82_16 : decode prog_12_method_7_code 16 = .ok (.iconst 0, 1) := by decide +kernel
theorem d_82_17 : decode prog_12_method_7_code 17 = .ok (.ireturn, 1) := by decide +kernel
theorem s_82_17 {Γ : m_G} : m_ok Γ m_tab 82 M_82 17 (g_82_17) := ok_rz (pc := 17) d_82_17 rfl
theorem s_82_16 {Γ : m_G} : m_ok Γ m_tab 82 M_82 16 (g_82_16) := ok_ic (pc := 16) d_82_16 rfl (s_82_17)
theorem s_82_0 {Γ : m_G} : m_ok Γ m_tab 82 M_82 0 (g_82_0) := ok_il_n (pc := 0) d_82_0 rfl (ok_czlt (pc := 1) (t := 16) d_82_1 rfl (by decide) rfl (ok_il_n (pc := 4) d_82_4 rfl (ok_al_n (pc := 5) d_82_5 rfl (ok_getf (pc := 6) d_82_6 w_49 (hc1 fo_24) (ok_cige (pc := 9) (t := 16) d_82_9 rfl (by decide) rfl (ok_ic (pc := 12) d_82_12 rfl (ok_go (pc := 13) (t := 17) d_82_13 rfl (by decide) rfl)))))))
theorem tst_82 {Γ : m_G} (q : Nat) : m_ts Γ (t_82 q) q := ts_n (ts_l (k := 82) (pc := 0) tb_82 rfl (by decide) s_82_0) (ts_n (ts_l (k := 82) (pc := 16) tb_82 rfl (by decide) s_82_16) (ts_l (k := 82) (pc := 17) tb_82 rfl (by decide) s_82_17))
theorem d_83_0 : decode prog_12_method_8_code 0 = .ok (.iload_n 1, 1) := by decide +kernel
theorem d_83_1 : decode prog_12_method_8_code 1 = .ok (.ifCond .lt 15, 3) := by decide +kernel
theorem d_83_4 : decode prog_12_method_8_code 4 = .ok (.iload_n 1, 1) := by decide +kernel
theorem d_83_5 : decode prog_12_method_8_code 5 = .ok (.aload_n 0, 1) := by decide +kernel
theorem d_83_6 : decode prog_12_method_8_code 6 = .ok (.getfield 36, 3) := by decide +kernel
theorem d_83_9 : decode prog_12_method_8_code 9 = .ok (.if_icmp .ge 7, 3) := by decide +kernel
theorem d_83_12 : decode prog_12_method_8_code 12 = .ok (.iconst 1, 1) := by decide +kernel
theorem d_83_13 : decode prog_12_method_8_code 13 = .ok (.goto 4, 3) := by decide +kernel
theorem d_83_16 : decode prog_12_method_8_code 16 = .ok (.iconst 0, 1) := by decide +kernel
theorem d_83_17 : decode prog_12_method_8_code 17 = .ok (.ireturn, 1) := by decide +kernel
theorem s_83_17 {Γ : m_G} : m_ok Γ m_tab 83 M_83 17 (g_83_17) := ok_rz (pc := 17) d_83_17 rfl
theorem s_83_16 {Γ : m_G} : m_ok Γ m_tab 83 M_83 16 (g_83_16) := ok_ic (pc := 16) d_83_16 rfl (s_83_17)
theorem s_83_0 {Γ : m_G} : m_ok Γ m_tab 83 M_83 0 (g_83_0) := ok_il_n (pc := 0) d_83_0 rfl (ok_czlt (pc := 1) (t := 16) d_83_1 rfl (by decide) rfl (ok_il_n (pc := 4) d_83_4 rfl (ok_al_n (pc := 5) d_83_5 rfl (ok_getf (pc := 6) d_83_6 w_52 (hc1 fo_20) (ok_cige (pc := 9) (t := 16) d_83_9 rfl (by decide) rfl (ok_ic (pc := 12) d_83_12 rfl (ok_go (pc := 13) (t := 17) d_83_13 rfl (by decide) rfl)))))))
theorem tst_83 {Γ : m_G} (q : Nat) : m_ts Γ (t_83 q) q := ts_n (ts_l (k := 83) (pc := 0) tb_83 rfl (by decide) s_83_0) (ts_n (ts_l (k := 83) (pc := 16) tb_83 rfl (by decide) s_83_16) (ts_l (k := 83) (pc := 17) tb_83 rfl (by decide) s_83_17))
theorem d_84_0 : decode prog_12_method_9_code 0 = .ok (.aload_n 0, 1) := by decide +kernel
theorem d_84_1 : decode prog_12_method_9_code 1 = .ok (.getfield 43, 3) := by decide +kernel
theorem d_84_4 : decode prog_12_method_9_code 4 = .ok (.iload_n 1, 1) := by decide +kernel
theorem d_84_5 : decode prog_12_method_9_code 5 = .ok (.ishr, 1) := by decide +kernel
theorem d_84_6 : decode prog_12_method_9_code 6 = .ok (.iconst 1, 1) := by decide +kernel
theorem d_84_7 : decode prog_12_method_9_code 7 = .ok (.iand, 1) := by decide +kernel
theorem d_84_8 : decode prog_12_method_9_code 8 = .ok (.ireturn, 1) := by decide +kernel
theorem s_84_0 {Γ : m_G} : m_ok Γ m_tab 84 M_84 0 (g_84_0) := ok_al_n (pc := 0) d_84_0 rfl (ok_getf (pc := 1) d_84_1 w_63 (hc1 fo_49) (ok_il_n (pc := 4) d_84_4 rfl (ok_shr (pc := 5) d_84_5 (ok_ic (pc := 6) d_84_6 rfl (ok_and (pc := 7) d_84_7 (ok_ri (pc := 8) d_84_8 rfl))))))
theorem tst_84 {Γ : m_G} (q : Nat) : m_ts Γ (t_84 q) q := ts_l (k := 84) (pc := 0) tb_84 rfl (by decide) s_84_0
theorem d_85_0 : decode prog_12_method_10_code 0 = .ok (.iconst 0, 1) := by decide +kernel
theorem d_85_1 : decode prog_12_method_10_code 1 = .ok (.istore_n 3, 1) := by decide +kernel
theorem d_85_2 : decode prog_12_method_10_code 2 = .ok (.iconst 0, 1) := by decide +kernel
theorem d_85_3 : decode prog_12_method_10_code 3 = .ok (.istore 4, 2) := by decide +kernel
theorem d_85_5 : decode prog_12_method_10_code 5 = .ok (.iload 4, 2) := by decide +kernel
theorem d_85_7 : decode prog_12_method_10_code 7 = .ok (.aload_n 0, 1) := by decide +kernel
theorem d_85_8 : decode prog_12_method_10_code 8 = .ok (.getfield 25, 3) := by decide +kernel
theorem d_85_11 : decode prog_12_method_10_code 11 = .ok (.if_icmp .ge 28, 3) := by decide +kernel
theorem d_85_14 : decode prog_12_method_10_code 14 = .ok (.iload_n 1, 1) := by decide +kernel
theorem d_85_15 : decode prog_12_method_10_code 15 = .ok (.iload 4, 2) := by decide +kernel
theorem d_85_17 : decode prog_12_method_10_code 17 = .ok (.ishr, 1) := by decide +kernel
theorem d_85_18 : decode prog_12_method_10_code 18 = .ok (.iconst 1, 1) := by decide +kernel
theorem d_85_19 : decode prog_12_method_10_code 19 = .ok (.iand, 1) := by decide +kernel
theorem d_85_20 : decode prog_12_method_10_code 20 = .ok (.iconst 1, 1) := by decide +kernel
theorem d_85_21 : decode prog_12_method_10_code 21 = .ok (.if_icmp .ne 12, 3) := by decide +kernel
theorem d_85_24 : decode prog_12_method_10_code 24 = .ok (.iload_n 3, 1) := by decide +kernel
theorem d_85_25 : decode prog_12_method_10_code 25 = .ok (.iconst 1, 1) := by decide +kernel
theorem d_85_26 : decode prog_12_method_10_code 26 = .ok (.aload_n 2, 1) := by decide +kernel
theorem d_85_27 : decode prog_12_method_10_code 27 = .ok (.iload 4, 2) := by decide +kernel
theorem d_85_29 : decode prog_12_method_10_code 29 = .ok (.iaload, 1) := by decide +kernel
theorem d_85_30 : decode prog_12_method_10_code 30 = .ok (.ishl, 1) := by decide +kernel
theorem d_85_31 : decode prog_12_method_10_code 31 = .ok (.ior, 1) := by decide +kernel
theorem d_85_32 : decode prog_12_method_10_code 32 = .ok (.istore_n 3, 1) := by decide +kernel
theorem d_85_33 : decode prog_12_method_10_code 33 = .ok (.iinc 4 1, 3) := by decide +kernel
theorem d_85_36 : decode prog_12_method_10_code 36 = .ok (.goto (-31), 3) := by decide +kernel
theorem d_85_39 : decode prog_12_method_10_code 39 = .ok (.iload_n 3, 1) := by decide +kernel
theorem d_85_40 : decode prog_12_method_10_code 40 = .ok (.ireturn, 1) := by decide +kernel
theorem s_85_39 {Γ : m_G} : m_ok Γ m_tab 85 M_85 39 (g_85_39) := ok_il_n (pc := 39) d_85_39 rfl (ok_ri (pc := 40) d_85_40 rfl)
theorem s_85_33 {Γ : m_G} : m_ok Γ m_tab 85 M_85 33 (g_85_33) := ok_inc (pc := 33) d_85_33 rfl (by decide) (ok_go (pc := 36) (t := 5) d_85_36 rfl (by decide) rfl)
theorem s_85_5 {Γ : m_G} : m_ok Γ m_tab 85 M_85 5 (g_85_5) := ok_il (pc := 5) d_85_5 (ok_al_n (pc := 7) d_85_7 rfl (ok_getf (pc := 8) d_85_8 w_46 (hc1 fo_28) (ok_cige (pc := 11) (t := 39) d_85_11 rfl (by decide) rfl (ok_il_n (pc := 14) d_85_14 rfl (ok_il (pc := 15) d_85_15 (ok_shr (pc := 17) d_85_17 (ok_ic (pc := 18) d_85_18 rfl (ok_and (pc := 19) d_85_19 (ok_ic (pc := 20) d_85_20 rfl (ok_cine (pc := 21) (t := 33) d_85_21 rfl (by decide) rfl (ok_il_n (pc := 24) d_85_24 rfl (ok_ic (pc := 25) d_85_25 rfl (ok_al_n (pc := 26) d_85_26 rfl (ok_il (pc := 27) d_85_27 (ok_iald (pc := 29) d_85_29 (ok_shl (pc := 30) d_85_30 (ok_or (pc := 31) d_85_31 (ok_is_n (pc := 32) d_85_32 rfl (by decide) (s_85_33)))))))))))))))))))
theorem s_85_0 {Γ : m_G} : m_ok Γ m_tab 85 M_85 0 (g_85_0) := ok_ic (pc := 0) d_85_0 rfl (ok_is_n (pc := 1) d_85_1 rfl (by decide) (ok_ic (pc := 2) d_85_2 rfl (ok_is (pc := 3) d_85_3 (by decide) (s_85_5))))
theorem tst_85 {Γ : m_G} (q : Nat) : m_ts Γ (t_85 q) q := ts_n (ts_n (ts_l (k := 85) (pc := 0) tb_85 rfl (by decide) s_85_0) (ts_l (k := 85) (pc := 5) tb_85 rfl (by decide) s_85_5)) (ts_n (ts_l (k := 85) (pc := 33) tb_85 rfl (by decide) s_85_33) (ts_l (k := 85) (pc := 39) tb_85 rfl (by decide) s_85_39))
theorem d_86_0 : decode prog_12_method_11_code 0 = .ok (.iconst 0, 1) := by decide +kernel
theorem d_86_1 : decode prog_12_method_11_code 1 = .ok (.istore_n 2, 1) := by decide +kernel
theorem d_86_2 : decode prog_12_method_11_code 2 = .ok (.iload_n 2, 1) := by decide +kernel
theorem d_86_3 : decode prog_12_method_11_code 3 = .ok (.aload_n 0, 1) := by decide +kernel
theorem d_86_4 : decode prog_12_method_11_code 4 = .ok (.getfield 25, 3) := by decide +kernel
theorem d_86_7 : decode prog_12_method_11_code 7 = .ok (.if_icmp .ge 32, 3) := by decide +kernel
theorem d_86_10 : decode prog_12_method_11_code 10 = .ok (.aload_n 0, 1) := by decide +kernel
theorem d_86_11 : decode prog_12_method_11_code 11 = .ok (.aload_n 0, 1) := by decide +kernel
theorem d_86_12 : decode prog_12_method_11_code 12 = .ok (.getfield 9, 3) := by decide +kernel
theorem d_86_15 : decode prog_12_method_11_code 15 = .ok (.iload_n 2, 1) := by decide +kernel
theorem d_86_16 : decode prog_12_method_11_code 16 = .ok (.iaload, 1) := by decide +kernel
theorem d_86_17 : decode prog_12_method_11_code 17 = .ok (.aload_n 1, 1) := by decide +kernel
theorem d_86_18 : decode prog_12_method_11_code 18 = .ok (.invokevirtual 62, 3) := by decide +kernel
theorem d_86_21 : decode prog_12_method_11_code 21 = .ok (.aload_n 1, 1) := by decide +kernel
theorem d_86_22 : decode prog_12_method_11_code 22 = .ok (.iload_n 2, 1) := by decide +kernel
theorem d_86_23 : decode prog_12_method_11_code 23 = .ok (.iaload, 1) := by decide +kernel
theorem d_86_24 : decode prog_12_method_11_code 24 = .ok (.ishr, 1) := by decide +kernel
theorem d_86_25 : decode prog_12_method_11_code 25 = .ok (.iconst 1, 1) := by decide +kernel
theorem d_86_26 : decode prog_12_method_11_code 26 = .ok (.iand, 1) := by decide +kernel
theorem d_86_27 : decode prog_12_method_11_code 27 = .ok (.iconst 1, 1) := by decide +kernel
theorem d_86_28 : decode prog_12_method_11_code 28 = .ok (.if_icmp .ne 5, 3) := by decide +kernel
theorem d_86_31 : decode prog_12_method_11_code 31 = .ok (.iconst 0, 1) := by decide +kernel
theorem d_86_32 : decode prog_12_method_11_code 32 = .ok (.ireturn, 1) := by decide +kernel
theorem d_86_33 : decode prog_12_method_11_code 33 = .ok (.iinc 2 1, 3) := by decide +kernel
theorem d_86_36 : decode prog_12_method_11_code 36 = .ok (.goto (-34), 3) := by decide +kernel
theorem d_86_39 : decode prog_12_method_11_code 39 = .ok (.iconst 1, 1) := by decide +kernel
theorem d_86_40 : decode prog_12_method_11_code 40 = .ok (.ireturn, 1) := by decide +kernel
theorem s_86_39 {Γ : m_G} : m_ok Γ m_tab 86 M_86 39 (g_86_39) := ok_ic (pc := 39) d_86_39 rfl (ok_rz (pc := 40) d_86_40 rfl)
theorem s_86_33 {Γ : m_G} : m_ok Γ m_tab 86 M_86 33 (g_86_33) := ok_inc (pc := 33) d_86_33 rfl (by decide) (ok_go (pc := 36) (t := 2) d_86_36 rfl (by decide) rfl)
theorem s_86_2 {Γ : m_G} : m_ok Γ m_tab 86 M_86 2 (g_86_2) := ok_il_n (pc := 2) d_86_2 rfl (ok_al_n (pc := 3) d_86_3 rfl (ok_getf (pc := 4) d_86_4 w_46 (hc1 fo_28) (ok_cige (pc := 7) (t := 39) d_86_7 rfl (by decide) rfl (ok_al_n (pc := 10) d_86_10 rfl (ok_al_n (pc := 11) d_86_11 rfl (ok_getf (pc := 12) d_86_12 w_54 (hc1 fo_27) (ok_il_n (pc := 15) d_86_15 rfl (ok_iald (pc := 16) d_86_16 (ok_al_n (pc := 17) d_86_17 rfl (ok_cai (pc := 18) (k2 := 85) rfl rfl tb_85 (by decide) (by decide) rfl (go_V d_86_18 w_587 w_588 w_589 w_2 w_590 nn_85 (by decide) cl_10 rfl) (ok_al_n (pc := 21) d_86_21 rfl (ok_il_n (pc := 22) d_86_22 rfl (ok_iald (pc := 23) d_86_23 (ok_shr (pc := 24) d_86_24 (ok_ic (pc := 25) d_86_25 rfl (ok_and (pc := 26) d_86_26 (ok_ic (pc := 27) d_86_27 rfl (ok_cine (pc := 28) (t := 33) d_86_28 rfl (by decide) rfl (ok_ic (pc := 31) d_86_31 rfl (ok_rz (pc := 32) d_86_32 rfl))))))))))))))))))))
theorem s_86_0 {Γ : m_G} : m_ok Γ m_tab 86 M_86 0 (g_86_0) := ok_ic (pc := 0) d_86_0 rfl (ok_is_n (pc := 1) d_86_1 rfl (by decide) (s_86_2))
theorem tst_86 {Γ : m_G} (q : Nat) : m_ts Γ (t_86 q) q := ts_n (ts_n (ts_l (k := 86) (pc := 0) tb_86 rfl (by decide) s_86_0) (ts_l (k := 86) (pc := 2) tb_86 rfl (by decide) s_86_2)) (ts_n (ts_l (k := 86) (pc := 33) tb_86 rfl (by decide) s_86_33) (ts_l (k := 86) (pc := 39) tb_86 rfl (by decide) s_86_39))
theorem d_87_0 : decode prog_12_method_12_code 0 = .ok (.iconst 0, 1) := by decide +kernel
theorem d_87_1 : decode prog_12_method_12_code 1 = .ok (.istore_n 2, 1) := by decide +kernel
theorem d_87_2 : decode prog_12_method_12_code 2 = .ok (.aload_n 0, 1) := by decide +kernel
theorem d_87_3 : decode prog_12_method_12_code 3 = .ok (.getfield 25, 3) := by decide +kernel
theorem d_87_6 : decode prog_12_method_12_code 6 = .ok (.iconst 1, 1) := by decide +kernel
theorem d_87_7 : decode prog_12_method_12_code 7 = .ok (.isub, 1) := by decide +kernel
theorem d_87_8 : decode prog_12_method_12_code 8 = .ok (.istore_n 3, 1) := by decide +kernel
theorem d_87_9 : decode prog_12_method_12_code 9 = .ok (.iload_n 3, 1) := by decide +kernel
theorem d_87_10 : decode prog_12_method_12_code 10 = .ok (.ifCond .lt 20, 3) := by decide +kernel
theorem d_87_13 : decode prog_12_method_12_code 13 = .ok (.iload_n 2, 1) := by decide +kernel
theorem d_87_14 : decode prog_12_method_12_code 14 = .ok (.aload_n 0, 1) := by decide +kernel
theorem d_87_15 : decode prog_12_method_12_code 15 = .ok (.getfield 29, 3) := by decide +kernel
theorem d_87_18 : decode prog_12_method_12_code 18 = .ok (.imul, 1) := by decide +kernel
theorem d_87_19 : decode prog_12_method_12_code 19 = .ok (.aload_n 1, 1) := by decide +kernel
theorem d_87_20 : decode prog_12_method_12_code 20 = .ok (.iload_n 3, 1) := by decide +kernel
theorem d_87_21 : decode prog_12_method_12_code 21 = .ok (.iaload, 1) := by decide +kernel
theorem d_87_22 : decode prog_12_method_12_code 22 = .ok (.iadd, 1) := by decide +kernel
theorem d_87_23 : decode prog_12_method_12_code 23 = .ok (.istore_n 2, 1) := by decide +kernel
theorem d_87_24 : decode prog_12_method_12_code 24 = .ok (.iinc 3 (-1), 3) := by decide +kernel
theorem d_87_27 : decode prog_12_method_12_code 27 = .ok (.goto (-18), 3) := by decide +kernel
theorem d_87_30 : decode prog_12_method_12_code 30 = .ok (.iload_n 2, 1) := by decide +kernel
theorem d_87_31 : decode prog_12_method_12_code 31 = .ok (.ireturn, 1) := by decide +kernel
theorem s_87_30 {Γ : m_G} : m_ok Γ m_tab 87 M_87 30 (g_87_30) := ok_il_n (pc := 30) d_87_30 rfl (ok_ri (pc := 31) d_87_31 rfl)
theorem s_87_9 {Γ : m_G} : m_ok Γ m_tab 87 M_87 9 (g_87_9) := ok_il_n (pc := 9) d_87_9 rfl (ok_czlt (pc := 10) (t := 30) d_87_10 rfl (by decide) rfl (ok_il_n (pc := 13) d_87_13 rfl (ok_al_n (pc := 14) d_87_14 rfl (ok_getf (pc := 15) d_87_15 w_49 (hc1 fo_24) (ok_mul (pc := 18) d_87_18 (ok_al_n (pc := 19) d_87_19 rfl (ok_il_n (pc := 20) d_87_20 rfl (ok_iald (pc := 21) d_87_21 (ok_add (pc := 22) d_87_22 (ok_is_n (pc := 23) d_87_23 rfl (by decide) (ok_inc (pc := 24) d_87_24 rfl (by decide) (ok_go (pc := 27) (t := 9) d_87_27 rfl (by decide) rfl))))))))))))
theorem s_87_0 {Γ : m_G} : m_ok Γ m_tab 87 M_87 0 (g_87_0) := ok_ic (pc := 0) d_87_0 rfl (ok_is_n (pc := 1) d_87_1 rfl (by decide) (ok_al_n (pc := 2) d_87_2 rfl (ok_getf (pc := 3) d_87_3 w_46 (hc1 fo_28) (ok_ic (pc := 6) d_87_6 rfl (ok_sub (pc := 7) d_87_7 (ok_is_n (pc := 8) d_87_8 rfl (by decide) (s_87_9)))))))
theorem tst_87 {Γ : m_G} (q : Nat) : m_ts Γ (t_87 q) q := ts_n (ts_l (k := 87) (pc := 0) tb_87 rfl (by decide) s_87_0) (ts_n (ts_l (k := 87) (pc := 9) tb_87 rfl (by decide) s_87_9) (ts_l (k := 87) (pc := 30) tb_87 rfl (by decide) s_87_30))
theorem d_88_0 : decode prog_1_method_1_code 0 = .ok (.aload_n 0, 1) := by decide +kernel
theorem d_88_1 : decode prog_1_method_1_code 1 = .ok (.invokespecial 1, 3) := by decide +kernel
theorem d_88_4 : decode prog_1_method_1_code 4 = .ok (.aload_n 0, 1) := by decide +kernel
theorem d_88_5 : decode prog_1_method_1_code 5 = .ok (.new 7, 3) := by decide +kernel
theorem d_88_8 : decode prog_1_method_1_code 8 = .ok (.dup, 1) := by decide +kernel
theorem d_88_9 : decode prog_1_method_1_code 9 = .ok (.invokespecial 9, 3) := by decide +kernel
theorem d_88_12 : decode prog_1_method_1_code 12 = .ok (.putfield 10, 3) := by decide +kernel
theorem d_88_15 : decode prog_1_method_1_code 15 = .ok (.aload_n 0, 1) := by decide +kernel
theorem d_88_16 : decode prog_1_method_1_code 16 = .ok (.new 7, 3) := by decide +kernel
theorem d_88_19 : decode prog_1_method_1_code 19 = .ok (.dup, 1) := by decide +kernel
theorem d_88_20 : decode prog_1_method_1_code 20 = .ok (.invokespecial 9, 3) := by decide +kernel
theorem d_88_23 : decode prog_1_method_1_code 23 = .ok (.putfield 16, 3) := by decide +kernel
theorem d_88_26 : decode prog_1_method_1_code 26 = .ok (.aload_n 0, 1) := by decide +kernel
theorem d_88_27 : decode prog_1_method_1_code 27 = .ok (.new 19, 3) := by decide +kernel
theorem d_88_30 : decode prog_1_method_1_code 30 = .ok (.dup, 1) := by decide +kernel
theorem d_88_31 : decode prog_1_method_1_code 31 = .ok (.aload_n 0, 1) := by decide +kernel
theorem d_88_32 : decode prog_1_method_1_code 32 = .ok (.getfield 10, 3) := by decide +kernel
theorem d_88_35 : decode prog_1_method_1_code 35 = .ok (.invokespecial 21, 3) := by decide +kernel
theorem d_88_38 : decode prog_1_method_1_code 38 = .ok (.putfield 24, 3) := by decide +kernel
theorem d_88_41 : decode prog_1_method_1_code 41 = .ok (.aload_n 0, 1) := by decide +kernel
theorem d_88_42 : decode prog_1_method_1_code 42 = .ok (.iconst 5, 1) := by decide +kernel
theorem d_88_43 : decode prog_1_method_1_code 43 = .ok (.anewarray 28, 3) := by decide +kernel
theorem d_88_46 : decode prog_1_method_1_code 46 = .ok (.putfield 30, 3) := by decide +kernel
theorem d_88_49 : decode prog_1_method_1_code 49 = .ok (.aload_n 0, 1) := by decide +kernel
theorem d_88_50 : decode prog_1_method_1_code 50 = .ok (.new 34, 3) := by decide +kernel
theorem d_88_53 : decode prog_1_method_1_code 53 = .ok (.dup, 1) := by decide +kernel
theorem d_88_54 : decode prog_1_method_1_code 54 = .ok (.invokespecial 36, 3) := by decide +kernel
theorem d_88_57 : decode prog_1_method_1_code 57 = .ok (.putfield 37, 3) := by decide +kernel
theorem d_88_60 : decode prog_1_method_1_code 60 = .ok (.aload_n 0, 1) := by decide +kernel
theorem d_88_61 : decode prog_1_method_1_code 61 = .ok (.bipush 6, 2) := by decide +kernel
theorem d_88_63 : decode prog_1_method_1_code 63 = .ok (.anewarray 41, 3) := by decide +kernel
theorem d_88_66 : decode prog_1_method_1_code 66 = .ok (.putfield 43, 3) := by decide +kernel
theorem d_88_69 : decode prog_1_method_1_code 69 = .ok (.aload_n 0, 1) := by decide +kernel
theorem d_88_70 : decode prog_1_method_1_code 70 = .ok (.iconst 4, 1) := by decide +kernel
theorem d_88_71 : decode prog_1_method_1_code 71 = .ok (.anewarray 47, 3) := by decide +kernel
theorem d_88_74 : decode prog_1_method_1_code 74 = .ok (.putfield 49, 3) := by decide +kernel
theorem d_88_77 : decode prog_1_method_1_code 77 = .ok (.aload_n 0, 1) := by decide +kernel
theorem d_88_78 : decode prog_1_method_1_code 78 = .ok (.bipush 6, 2) := by decide +kernel
theorem d_88_80 : decode prog_1_method_1_code 80 = .ok (.newarray .int, 2) := by decide +kernel
theorem d_88_82 : decode prog_1_method_1_code 82 = .ok (.putfield 53, 3) := by decide +kernel
theorem d_88_85 : decode prog_1_method_1_code 85 = .ok (.aload_n 0, 1) := by decide +kernel
theorem d_88_86 : decode prog_1_method_1_code 86 = .ok (.bipush 6, 2) := by decide +kernel
theorem d_88_88 : decode prog_1_method_1_code 88 = .ok (.newarray .int, 2) := by decide +kernel
theorem d_88_90 : decode prog_1_method_1_code 90 = .ok (.putfield 57, 3) := by decide +kernel
theorem d_88_93 : decode prog_1_method_1_code 93 = .ok (.aload_n 0, 1) := by decide +kernel
theorem d_88_94 : decode prog_1_method_1_code 94 = .ok (.bipush 6, 2) := by decide +kernel
theorem d_88_96 : decode prog_1_method_1_code 96 = .ok (.newarray .int, 2) := by decide +kernel
theorem d_88_98 : decode prog_1_method_1_code 98 = .ok (.putfield 60, 3) := by decide +kernel
theorem d_88_101 : decode prog_1_method_1_code 101 = .ok (.iconst 0, 1) := by decide +kernel
theorem d_88_102 : decode prog_1_method_1_code 102 = .ok (.istore_n 1, 1) := by decide +kernel
theorem d_88_103 : decode prog_1_method_1_code 103 = .ok (.iload_n 1, 1) := by decide +kernel
theorem d_88_104 : decode prog_1_method_1_code 104 = .ok (.ldc 63, 2) := by decide +kernel
theorem d_88_106 : decode prog_1_method_1_code 106 = .ok (.invokevirtual 65, 3) := by decide +kernel
theorem d_88_109 : decode prog_1_method_1_code 109 = .ok (.if_icmp .ge 23, 3) := by decide +kernel
theorem d_88_112 : decode prog_1_method_1_code 112 = .ok (.aload_n 0, 1) := by decide +kernel
theorem d_88_113 : decode prog_1_method_1_code 113 = .ok (.getfield 37, 3) := by decide +kernel
theorem d_88_116 : decode prog_1_method_1_code 116 = .ok (.ldc 63, 2) := by decide +kernel
theorem d_88_118 : decode prog_1_method_1_code 118 = .ok (.iload_n 1, 1) := by decide +kernel
theorem d_88_119 : decode prog_1_method_1_code 119 = .ok (.invokevirtual 71, 3) := by decide +kernel
theorem d_88_122 : decode prog_1_method_1_code 122 = .ok (.invokevirtual 75, 3) := by decide +kernel
theorem d_88_125 : decode prog_1_method_1_code 125 = .ok (.pop, 1) := by decide +kernel
theorem d_88_126 : decode prog_1_method_1_code 126 = .ok (.iinc 1 1, 3) := by decide +kernel
theorem d_88_129 : decode prog_1_method_1_code 129 = .ok (.goto (-26), 3) := by decide +kernel
theorem d_88_132 : decode prog_1_method_1_code 132 = .ok (.aload_n 0, 1) := by decide +kernel
theorem d_88_133 : decode prog_1_method_1_code 133 = .ok (.getfield 43, 3) := by decide +kernel
theorem d_88_136 : decode prog_1_method_1_code 136 = .ok (.iconst 0, 1) := by decide +kernel
theorem d_88_137 : decode prog_1_method_1_code 137 = .ok (.aload_n 0, 1) := by decide +kernel
theorem d_88_138 : decode prog_1_method_1_code 138 = .ok (.getfield 37, 3) := by decide +kernel
theorem d_88_141 : decode prog_1_method_1_code 141 = .ok (.invokevirtual 79, 3) := by decide +kernel
theorem d_88_144 : decode prog_1_method_1_code 144 = .ok (.aastore, 1) := by decide +kernel
theorem d_88_145 : decode prog_1_method_1_code 145 = .ok (.aload_n 0, 1) := by decide +kernel
theorem d_88_146 : decode prog_1_method_1_code 146 = .ok (.iconst 1, 1) := by decide +kernel
theorem d_88_147 : decode prog_1_method_1_code 147 = .ok (.putfield 83, 3) := by decide +kernel
theorem d_88_150 : decode prog_1_method_1_code 150 = .ok (.return_, 1) := by decide +kernel
theorem s_88_132 {Γ : m_G} : m_ok Γ m_tab 88 M_88 132 (g_88_132) := ok_al_n (pc := 132) d_88_132 rfl (ok_getf (pc := 133) d_88_133 w_359 (hc1 fo_51) (ok_ic (pc := 136) d_88_136 rfl (ok_al_n (pc := 137) d_88_137 rfl (ok_getf (pc := 138) d_88_138 w_358 (hc1 fo_50) (ok_cai (pc := 141) (k2 := 15) rfl rfl tb_15 (by decide) (by decide) rfl (go_V d_88_141 w_230 w_231 w_232 w_4 w_233 nn_15 (by decide) cl_4 rfl) (ok_aast (pc := 144) d_88_144 rfl as_9 (ok_al_n (pc := 145) d_88_145 rfl (ok_ic (pc := 146) d_88_146 rfl (ok_putf (pc := 147) d_88_147 w_360 (hc1 ⟨_, _, _, tyX11, cl_11, in_11, by decide, rfl, rfl, rfl, tyX11_ok, nmX11, Or.inl rfl⟩) pd_0 vt_I (ok_rv (pc := 150) d_88_150 rfl))))))))))
theorem s_88_103 {Γ : m_G} : m_ok Γ m_tab 88 M_88 103 (g_88_103) := ok_il_n (pc := 103) d_88_103 rfl (ok_str (j := 0) (pc := 104) d_88_104 rfl (ok_sl (pc := 106) d_88_106 w_178 (ok_cige (pc := 109) (t := 132) d_88_109 rfl (by decide) rfl (ok_al_n (pc := 112) d_88_112 rfl (ok_getf (pc := 113) d_88_113 w_358 (hc1 fo_50) (ok_str (j := 0) (pc := 116) d_88_116 rfl (ok_il_n (pc := 118) d_88_118 rfl (ok_sch (pc := 119) d_88_119 w_188 (ok_cai (pc := 122) (k2 := 13) rfl rfl tb_13 (by decide) (by decide) rfl (go_V d_88_122 w_226 w_227 w_228 w_4 w_229 nn_13 (by decide) cl_4 rfl) (ok_pop (pc := 125) d_88_125 (ok_inc (pc := 126) d_88_126 rfl (by decide) (ok_go (pc := 129) (t := 103) d_88_129 rfl (by decide) rfl))))))))))))
theorem s_88_85 {Γ : m_G} : m_ok Γ m_tab 88 M_88 85 (g_88_85) := ok_al_n (pc := 85) d_88_85 rfl (ok_bi (pc := 86) d_88_86 rfl (ok_newa (pc := 88) d_88_88 rfl w_88 (ok_putf (pc := 90) d_88_90 w_363 (hc1 ⟨_, _, _, tyX11, cl_11, in_11, by decide, rfl, rfl, rfl, tyX11_ok, nmX11, Or.inr ⟨rfl, rfl, rfl⟩⟩) pd_1 vt_A (ok_al_n (pc := 93) d_88_93 rfl (ok_bi (pc := 94) d_88_94 rfl (ok_newa (pc := 96) d_88_96 rfl w_88 (ok_putf (pc := 98) d_88_98 w_364 (hc1 ⟨_, _, _, tyX11, cl_11, in_11, by decide, rfl, rfl, rfl, tyX11_ok, nmX11, Or.inr ⟨rfl, rfl, rfl⟩⟩) pd_1 vt_A (ok_ic (pc := 101) d_88_101 rfl (ok_is_n (pc := 102) d_88_102 rfl (by decide) (s_88_103))))))))))
theorem s_88_0 {Γ : m_G} : m_ok Γ m_tab 88 M_88 0 (g_88_0) := ok_al_n (pc := 0) d_88_0 rfl (ok_oi (pc := 1) d_88_1 w_26 w_27 w_28 (ok_al_n (pc := 4) d_88_4 rfl (ok_new (pc := 5) d_88_5 w_29 w_30 w_2 cl_10 in_10 tyX10_ok df_10 dd_10 (ok_dup (pc := 8) d_88_8 (ok_cvr (pc := 9) (k2 := 76) rfl rfl tb_76 (by decide) (by decide) rfl (go_I d_88_9 w_31 w_32 w_2 w_33 rfl rfl nn_76 (by decide)) (ok_putf (pc := 12) d_88_12 w_352 (hc1 ⟨_, _, _, tyX11, cl_11, in_11, by decide, rfl, rfl, rfl, tyX11_ok, nmX11, Or.inr ⟨rfl, rfl, rfl⟩⟩) pd_2 vt_R (ok_al_n (pc := 15) d_88_15 rfl (ok_new (pc := 16) d_88_16 w_29 w_30 w_2 cl_10 in_10 tyX10_ok df_10 dd_10 (ok_dup (pc := 19) d_88_19 (ok_cvr (pc := 20) (k2 := 76) rfl rfl tb_76 (by decide) (by decide) rfl (go_I d_88_20 w_31 w_32 w_2 w_33 rfl rfl nn_76 (by decide)) (ok_putf (pc := 23) d_88_23 w_353 (hc1 ⟨_, _, _, tyX11, cl_11, in_11, by decide, rfl, rfl, rfl, tyX11_ok, nmX11, Or.inr ⟨rfl, rfl, rfl⟩⟩) pd_2 vt_R (ok_al_n (pc := 26) d_88_26 rfl (ok_new (pc := 27) d_88_27 w_89 w_90 w_3 cl_5 in_5 tyX5_ok df_5 dd_5 (ok_dup (pc := 30) d_88_30 (ok_al_n (pc := 31) d_88_31 rfl (ok_getf (pc := 32) d_88_32 w_352 (hc1 fo_52) (ok_cvr (pc := 35) (k2 := 36) rfl rfl tb_36 (by decide) (by decide) rfl (go_I d_88_35 w_91 w_92 w_3 w_93 rfl rfl nn_36 (by decide)) (ok_putf (pc := 38) d_88_38 w_355 (hc1 ⟨_, _, _, tyX11, cl_11, in_11, by decide, rfl, rfl, rfl, tyX11_ok, nmX11, Or.inr ⟨rfl, rfl, rfl⟩⟩) pd_9 vt_R (ok_al_n (pc := 41) d_88_41 rfl (ok_ic (pc := 42) d_88_42 rfl (ok_anew (pc := 43) d_88_43 w_135 rfl (fun _ _ h => h.2.2.2.2.2.2.1) (ok_putf (pc := 46) d_88_46 w_356 (hc1 ⟨_, _, _, tyX11, cl_11, in_11, by decide, rfl, rfl, rfl, tyX11_ok, nmX11, Or.inr ⟨rfl, rfl, rfl⟩⟩) pd_8 vt_A (ok_al_n (pc := 49) d_88_49 rfl (ok_new (pc := 50) d_88_50 w_137 w_138 w_4 cl_4 in_4 tyX4_ok df_4 dd_4 (ok_dup (pc := 53) d_88_53 (ok_cvr (pc := 54) (k2 := 12) rfl rfl tb_12 (by decide) (by decide) rfl (go_IN (host := "NeverLike") d_88_54 (by decide +kernel) w_140 w_4 w_141 rfl rfl nn_12 (by decide)) (ok_putf (pc := 57) d_88_57 w_358 (hc1 ⟨_, _, _, tyX11, cl_11, in_11, by decide, rfl, rfl, rfl, tyX11_ok, nmX11, Or.inr ⟨rfl, rfl, rfl⟩⟩) pd_7 vt_R (ok_al_n (pc := 60) d_88_60 rfl (ok_bi (pc := 61) d_88_61 rfl (ok_anew (pc := 63) d_88_63 w_173 rfl (fun _ _ h => h.2.2.2.2.2.2.2.1) (ok_putf (pc := 66) d_88_66 w_359 (hc1 ⟨_, _, _, tyX11, cl_11, in_11, by decide, rfl, rfl, rfl, tyX11_ok, nmX11, Or.inr ⟨rfl, rfl, rfl⟩⟩) pd_6 vt_A (ok_al_n (pc := 69) d_88_69 rfl (ok_ic (pc := 70) d_88_70 rfl (ok_anew (pc := 71) d_88_71 w_175 rfl (fun _ _ h => h.2.2.2.2.2.2.2.2.1) (ok_putf (pc := 74) d_88_74 w_361 (hc1 ⟨_, _, _, tyX11, cl_11, in_11, by decide, rfl, rfl, rfl, tyX11_ok, nmX11, Or.inr ⟨rfl, rfl, rfl⟩⟩) pd_5 vt_A (ok_al_n (pc := 77) d_88_77 rfl (ok_bi (pc := 78) d_88_78 rfl (ok_newa (pc := 80) d_88_80 rfl w_88 (ok_putf (pc := 82) d_88_82 w_362 (hc1 ⟨_, _, _, tyX11, cl_11, in_11, by decide, rfl, rfl, rfl, tyX11_ok, nmX11, Or.inr ⟨rfl, rfl, rfl⟩⟩) pd_1 vt_A (s_88_85))))))))))))))))))))))))))))))))))))))))
theorem tst_88 {Γ : m_G} (q : Nat) : m_ts Γ (t_88 q) q := ts_n (ts_l (k := 88) (pc := 0) tb_88 rfl (by decide) s_88_0) (ts_n (ts_l (k := 88) (pc := 103) tb_88 rfl (by decide) s_88_103) (ts_l (k := 88) (pc := 132) tb_88 rfl (by decide) s_88_132))
theorem d_89_0 : decode prog_1_method_2_code 0 = .ok (.iload_n 1, 1) := by decide +kernel
theorem d_89_1 : decode prog_1_method_2_code 1 = .ok (.iconst 1, 1) := by decide +kernel
theorem d_89_2 : decode prog_1_method_2_code 2 = .ok (.if_icmp .lt 30, 3) := by decide +kernel
theorem d_89_5 : decode prog_1_method_2_code 5 = .ok (.iload_n 1, 1) := by decide +kernel
theorem d_89_6 : decode prog_1_method_2_code 6 = .ok (.bipush 6, 2) := by decide +kernel
theorem d_89_8 : decode prog_1_method_2_code 8 = .ok (.if_icmp .gt 24, 3) := by decide +kernel
theorem d_89_11 : decode prog_1_method_2_code 11 = .ok (.iload_n 2, 1) := by decide +kernel
theorem d_89_12 : decode prog_1_method_2_code 12 = .ok (.iconst 2, 1) := by decide +kernel
theorem d_89_13 : decode prog_1_method_2_code 13 = .ok (.if_icmp .lt 19, 3) := by decide +kernel
theorem d_89_16 : decode prog_1_method_2_code 16 = .ok (.iload_n 2, 1) := by decide +kernel
theorem d_89_17 : decode prog_1_method_2_code 17 = .ok (.iconst 5, 1) := by decide +kernel
theorem d_89_18 : decode prog_1_method_2_code 18 = .ok (.if_icmp .gt 14, 3) := by decide +kernel
theorem d_89_21 : decode prog_1_method_2_code 21 = .ok (.iload_n 1, 1) := by decide +kernel
theorem d_89_22 : decode prog_1_method_2_code 22 = .ok (.iload_n 2, 1) := by decide +kernel
theorem d_89_23 : decode prog_1_method_2_code 23 = .ok (.invokestatic 87, 3) := by decide +kernel
theorem d_89_26 : decode prog_1_method_2_code 26 = .ok (.sipush 4096, 3) := by decide +kernel
theorem d_89_29 : decode prog_1_method_2_code 29 = .ok (.if_icmp .le 6, 3) := by decide +kernel
theorem d_89_32 : decode prog_1_method_2_code 32 = .ok (.bipush (-2), 2) := by decide +kernel
theorem d_89_34 : decode prog_1_method_2_code 34 = .ok (.ireturn, 1) := by decide +kernel
theorem d_89_35 : decode prog_1_method_2_code 35 = .ok (.aload_n 0, 1) := by decide +kernel
theorem d_89_36 : decode prog_1_method_2_code 36 = .ok (.getfield 10, 3) := by decide +kernel
theorem d_89_39 : decode prog_1_method_2_code 39 = .ok (.getfield 91, 3) := by decide +kernel
theorem d_89_42 : decode prog_1_method_2_code 42 = .ok (.istore_n 3, 1) := by decide +kernel
theorem d_89_43 : decode prog_1_method_2_code 43 = .ok (.aload_n 0, 1) := by decide +kernel
theorem d_89_44 : decode prog_1_method_2_code 44 = .ok (.getfield 10, 3) := by decide +kernel
theorem d_89_47 : decode prog_1_method_2_code 47 = .ok (.iload_n 1, 1) := by decide +kernel
theorem d_89_48 : decode prog_1_method_2_code 48 = .ok (.iload_n 2, 1) := by decide +kernel
theorem d_89_49 : decode prog_1_method_2_code 49 = .ok (.invokevirtual 94, 3) := by decide +kernel
theorem d_89_52 : decode prog_1_method_2_code 52 = .ok (.aload_n 0, 1) := by decide +kernel
theorem d_89_53 : decode prog_1_method_2_code 53 = .ok (.iconst 0, 1) := by decide +kernel
theorem d_89_54 : decode prog_1_method_2_code 54 = .ok (.putfield 98, 3) := by decide +kernel
theorem d_89_57 : decode prog_1_method_2_code 57 = .ok (.aload_n 0, 1) := by decide +kernel
theorem d_89_58 : decode prog_1_method_2_code 58 = .ok (.getfield 37, 3) := by decide +kernel
theorem d_89_61 : decode prog_1_method_2_code 61 = .ok (.invokevirtual 102, 3) := by decide +kernel
theorem d_89_64 : decode prog_1_method_2_code 64 = .ok (.iconst 0, 1) := by decide +kernel
theorem d_89_65 : decode prog_1_method_2_code 65 = .ok (.istore 4, 2) := by decide +kernel
theorem d_89_67 : decode prog_1_method_2_code 67 = .ok (.iload 4, 2) := by decide +kernel
theorem d_89_69 : decode prog_1_method_2_code 69 = .ok (.iconst 4, 1) := by decide +kernel
theorem d_89_70 : decode prog_1_method_2_code 70 = .ok (.if_icmp .ge 17, 3) := by decide +kernel
theorem d_89_73 : decode prog_1_method_2_code 73 = .ok (.aload_n 0, 1) := by decide +kernel
theorem d_89_74 : decode prog_1_method_2_code 74 = .ok (.getfield 49, 3) := by decide +kernel
theorem d_89_77 : decode prog_1_method_2_code 77 = .ok (.iload 4, 2) := by decide +kernel
theorem d_89_79 : decode prog_1_method_2_code 79 = .ok (.aconst_null, 1) := by decide +kernel
theorem d_89_80 : decode prog_1_method_2_code 80 = .ok (.aastore, 1) := by decide +kernel
theorem d_89_81 : decode prog_1_method_2_code 81 = .ok (.iinc 4 1, 3) := by decide +kernel
theorem d_89_84 : decode prog_1_method_2_code 84 = .ok (.goto (-17), 3) := by decide +kernel
theorem d_89_87 : decode prog_1_method_2_code 87 = .ok (.aload_n 0, 1) := by decide +kernel
theorem d_89_88 : decode prog_1_method_2_code 88 = .ok (.getfield 24, 3) := by decide +kernel
theorem d_89_91 : decode prog_1_method_2_code 91 = .ok (.invokevirtual 105, 3) := by decide +kernel
theorem d_89_94 : decode prog_1_method_2_code 94 = .ok (.iload_n 3, 1) := by decide +kernel
theorem d_89_95 : decode prog_1_method_2_code 95 = .ok (.ireturn, 1) := by decide +kernel
theorem s_89_87 {Γ : m_G} : m_ok Γ m_tab 89 M_89 87 (g_89_87) := ok_al_n (pc := 87) d_89_87 rfl (ok_getf (pc := 88) d_89_88 w_355 (hc1 fo_53) (ok_cvi (pc := 91) (k2 := 37) rfl rfl tb_37 (by decide) (by decide) rfl (go_V d_89_91 w_399 w_400 w_401 w_3 w_402 nn_37 (by decide) cl_5 rfl) (ok_il_n (pc := 94) d_89_94 rfl (ok_ri (pc := 95) d_89_95 rfl))))
theorem s_89_67 {Γ : m_G} : m_ok Γ m_tab 89 M_89 67 (g_89_67) := ok_il (pc := 67) d_89_67 (ok_ic (pc := 69) d_89_69 rfl (ok_cige (pc := 70) (t := 87) d_89_70 rfl (by decide) rfl (ok_al_n (pc := 73) d_89_73 rfl (ok_getf (pc := 74) d_89_74 w_361 (hc1 fo_54) (ok_il (pc := 77) d_89_77 (ok_nul (pc := 79) d_89_79 (ok_aast (pc := 80) d_89_80 rfl as_6 (ok_inc (pc := 81) d_89_81 rfl (by decide) (ok_go (pc := 84) (t := 67) d_89_84 rfl (by decide) rfl)))))))))
theorem s_89_35 {Γ : m_G} : m_ok Γ m_tab 89 M_89 35 (g_89_35) := ok_al_n (pc := 35) d_89_35 rfl (ok_getf (pc := 36) d_89_36 w_352 (hc1 fo_52) (ok_getf (pc := 39) d_89_39 w_47 (hc1 fo_28) (ok_is_n (pc := 42) d_89_42 rfl (by decide) (ok_al_n (pc := 43) d_89_43 rfl (ok_getf (pc := 44) d_89_44 w_352 (hc1 fo_52) (ok_il_n (pc := 47) d_89_47 rfl (ok_il_n (pc := 48) d_89_48 rfl (ok_cvi (pc := 49) (k2 := 77) rfl rfl tb_77 (by decide) (by decide) rfl (go_V d_89_49 w_397 w_36 w_37 w_2 w_38 nn_77 (by decide) cl_10 rfl) (ok_al_n (pc := 52) d_89_52 rfl (ok_ic (pc := 53) d_89_53 rfl (ok_putf (pc := 54) d_89_54 w_354 (hc1 ⟨_, _, _, tyX11, cl_11, in_11, by decide, rfl, rfl, rfl, tyX11_ok, nmX11, Or.inl rfl⟩) pd_4 vt_Z (ok_al_n (pc := 57) d_89_57 rfl (ok_getf (pc := 58) d_89_58 w_358 (hc1 fo_50) (ok_cvi (pc := 61) (k2 := 14) rfl rfl tb_14 (by decide) (by decide) rfl (go_V d_89_61 w_398 w_326 w_327 w_4 w_328 nn_14 (by decide) cl_4 rfl) (ok_ic (pc := 64) d_89_64 rfl (ok_is (pc := 65) d_89_65 (by decide) (s_89_67)))))))))))))))))
theorem s_89_32 {Γ : m_G} : m_ok Γ m_tab 89 M_89 32 (g_89_32) := ok_bi (pc := 32) d_89_32 rfl (ok_ri (pc := 34) d_89_34 rfl)
theorem s_89_0 {Γ : m_G} : m_ok Γ m_tab 89 M_89 0 (g_89_0) := ok_il_n (pc := 0) d_89_0 rfl (ok_ic (pc := 1) d_89_1 rfl (ok_cilt (pc := 2) (t := 32) d_89_2 rfl (by decide) rfl (ok_il_n (pc := 5) d_89_5 rfl (ok_bi (pc := 6) d_89_6 rfl (ok_cigt (pc := 8) (t := 32) d_89_8 rfl (by decide) rfl (ok_il_n (pc := 11) d_89_11 rfl (ok_ic (pc := 12) d_89_12 rfl (ok_cilt (pc := 13) (t := 32) d_89_13 rfl (by decide) rfl (ok_il_n (pc := 16) d_89_16 rfl (ok_ic (pc := 17) d_89_17 rfl (ok_cigt (pc := 18) (t := 32) d_89_18 rfl (by decide) rfl (ok_il_n (pc := 21) d_89_21 rfl (ok_il_n (pc := 22) d_89_22 rfl (ok_cat (pc := 23) (k2 := 124) rfl tb_124 (by decide) (by decide) rfl (go_S d_89_23 w_396 w_40 w_1 w_41 nn_124 (by decide)) (ok_si (pc := 26) d_89_26 rfl (ok_cile (pc := 29) (t := 35) d_89_29 rfl (by decide) rfl (s_89_32)))))))))))))))))
theorem tst_89 {Γ : m_G} (q : Nat) : m_ts Γ (t_89 q) q := ts_n (ts_n (ts_l (k := 89) (pc := 0) tb_89 rfl (by decide) s_89_0) (ts_l (k := 89) (pc := 32) tb_89 rfl (by decide) s_89_32)) (ts_n (ts_l (k := 89) (pc := 35) tb_89 rfl (by decide) s_89_35) (ts_n (ts_l (k := 89) (pc := 67) tb_89 rfl (by decide) s_89_67) (ts_l (k := 89) (pc := 87) tb_89 rfl (by decide) s_89_87)))
theorem d_90_0 : decode prog_1_method_3_code 0 = .ok (.aload_n 0, 1) := by decide +kernel
theorem d_90_1 : decode prog_1_method_3_code 1 = .ok (.getfield 10, 3) := by decide +kernel
theorem d_90_4 : decode prog_1_method_3_code 4 = .ok (.iload_n 1, 1) := by decide +kernel
theorem d_90_5 : decode prog_1_method_3_code 5 = .ok (.iload_n 2, 1) := by decide +kernel
theorem d_90_6 : decode prog_1_method_3_code 6 = .ok (.invokevirtual 108, 3) := by decide +kernel
theorem d_90_9 : decode prog_1_method_3_code 9 = .ok (.ifCond .eq 10, 3) := by decide +kernel
theorem d_90_12 : decode prog_1_method_3_code 12 = .ok (.iload_n 3, 1) := by decide +kernel
theorem d_90_13 : decode prog_1_method_3_code 13 = .ok (.invokestatic 112, 3) := by decide +kernel
theorem d_90_16 : decode prog_1_method_3_code 16 = .ok (.ifCond .ne 6, 3) := by decide +kernel
theorem d_90_19 : decode prog_1_method_3_code 19 = .ok (.bipush (-2), 2) := by decide +kernel
theorem d_90_21 : decode prog_1_method_3_code 21 = .ok (.ireturn, 1) := by decide +kernel
theorem d_90_22 : decode prog_1_method_3_code 22 = .ok (.aload_n 0, 1) := by decide +kernel
theorem d_90_23 : decode prog_1_method_3_code 23 = .ok (.getfield 10, 3) := by decide +kernel
theorem d_90_26 : decode prog_1_method_3_code 26 = .ok (.getfield 115, 3) := by decide +kernel
theorem d_90_29 : decode prog_1_method_3_code 29 = .ok (.iload_n 1, 1) := by decide +kernel
theorem d_90_30 : decode prog_1_method_3_code 30 = .ok (.iaload, 1) := by decide +kernel
theorem d_90_31 : decode prog_1_method_3_code 31 = .ok (.iload_n 2, 1) := by decide +kernel
theorem d_90_32 : decode prog_1_method_3_code 32 = .ok (.ishr, 1) := by decide +kernel
theorem d_90_33 : decode prog_1_method_3_code 33 = .ok (.iconst 1, 1) := by decide +kernel
theorem d_90_34 : decode prog_1_method_3_code 34 = .ok (.iand, 1) := by decide +kernel
theorem d_90_35 : decode prog_1_method_3_code 35 = .ok (.istore 4, 2) := by decide +kernel
theorem d_90_37 : decode prog_1_method_3_code 37 = .ok (.aload_n 0, 1) := by decide +kernel
theorem d_90_38 : decode prog_1_method_3_code 38 = .ok (.getfield 10, 3) := by decide +kernel
theorem d_90_41 : decode prog_1_method_3_code 41 = .ok (.iload_n 1, 1) := by decide +kernel
theorem d_90_42 : decode prog_1_method_3_code 42 = .ok (.iload_n 2, 1) := by decide +kernel
theorem d_90_43 : decode prog_1_method_3_code 43 = .ok (.iload_n 3, 1) := by decide +kernel
theorem d_90_44 : decode prog_1_method_3_code 44 = .ok (.iconst 1, 1) := by decide +kernel
theorem d_90_45 : decode prog_1_method_3_code 45 = .ok (.if_icmp .ne 7, 3) := by decide +kernel
theorem d_90_48 : decode prog_1_method_3_code 48 = .ok (.iconst 1, 1) := by decide +kernel
theorem d_90_49 : decode prog_1_method_3_code 49 = .ok (.goto 4, 3) := by decide +kernel
theorem d_90_52 : decode prog_1_method_3_code 52 = .ok (.iconst 0, 1) := by decide +kernel
theorem d_90_53 : decode prog_1_method_3_code 53 = .ok (.invokevirtual 118, 3) := by decide +kernel
theorem d_90_56 : decode prog_1_method_3_code 56 = .ok (.aload_n 0, 1) := by decide +kernel
theorem d_90_57 : decode prog_1_method_3_code 57 = .ok (.getfield 24, 3) := by decide +kernel
theorem d_90_60 : decode prog_1_method_3_code 60 = .ok (.invokevirtual 105, 3) := by decide +kernel
theorem d_90_63 : decode prog_1_method_3_code 63 = .ok (.iload 4, 2) := by decide +kernel
theorem d_90_65 : decode prog_1_method_3_code 65 = .ok (.ireturn, 1) := by decide +kernel
theorem s_90_53 {Γ : m_G} : m_ok Γ m_tab 90 M_90 53 (g_90_53) := ok_cvi (pc := 53) (k2 := 79) rfl rfl tb_79 (by decide) (by decide) rfl (go_V d_90_53 w_418 w_43 w_44 w_2 w_45 nn_79 (by decide) cl_10 rfl) (ok_al_n (pc := 56) d_90_56 rfl (ok_getf (pc := 57) d_90_57 w_355 (hc1 fo_53) (ok_cvi (pc := 60) (k2 := 37) rfl rfl tb_37 (by decide) (by decide) rfl (go_V d_90_60 w_399 w_400 w_401 w_3 w_402 nn_37 (by decide) cl_5 rfl) (ok_il (pc := 63) d_90_63 (ok_ri (pc := 65) d_90_65 rfl)))))
theorem s_90_52 {Γ : m_G} : m_ok Γ m_tab 90 M_90 52 (g_90_52) := ok_ic (pc := 52) d_90_52 rfl (s_90_53)
theorem s_90_22 {Γ : m_G} : m_ok Γ m_tab 90 M_90 22 (g_90_22) := ok_al_n (pc := 22) d_90_22 rfl (ok_getf (pc := 23) d_90_23 w_352 (hc1 fo_52) (ok_getf (pc := 26) d_90_26 w_55 (hc1 fo_27) (ok_il_n (pc := 29) d_90_29 rfl (ok_iald (pc := 30) d_90_30 (ok_il_n (pc := 31) d_90_31 rfl (ok_shr (pc := 32) d_90_32 (ok_ic (pc := 33) d_90_33 rfl (ok_and (pc := 34) d_90_34 (ok_is (pc := 35) d_90_35 (by decide) (ok_al_n (pc := 37) d_90_37 rfl (ok_getf (pc := 38) d_90_38 w_352 (hc1 fo_52) (ok_il_n (pc := 41) d_90_41 rfl (ok_il_n (pc := 42) d_90_42 rfl (ok_il_n (pc := 43) d_90_43 rfl (ok_ic (pc := 44) d_90_44 rfl (ok_cine (pc := 45) (t := 52) d_90_45 rfl (by decide) rfl (ok_ic (pc := 48) d_90_48 rfl (ok_go (pc := 49) (t := 53) d_90_49 rfl (by decide) rfl))))))))))))))))))
theorem s_90_19 {Γ : m_G} : m_ok Γ m_tab 90 M_90 19 (g_90_19) := ok_bi (pc := 19) d_90_19 rfl (ok_ri (pc := 21) d_90_21 rfl)
theorem s_90_0 {Γ : m_G} : m_ok Γ m_tab 90 M_90 0 (g_90_0) := ok_al_n (pc := 0) d_90_0 rfl (ok_getf (pc := 1) d_90_1 w_352 (hc1 fo_52) (ok_il_n (pc := 4) d_90_4 rfl (ok_il_n (pc := 5) d_90_5 rfl (ok_cai (pc := 6) (k2 := 81) rfl rfl tb_81 (by decide) (by decide) rfl (go_V d_90_6 w_407 w_408 w_409 w_2 w_410 nn_81 (by decide) cl_10 rfl) (ok_czeq (pc := 9) (t := 19) d_90_9 rfl (by decide) rfl (ok_il_n (pc := 12) d_90_12 rfl (ok_cat (pc := 13) (k2 := 122) rfl tb_122 (by decide) (by decide) rfl (go_S d_90_13 w_415 w_416 w_1 w_417 nn_122 (by decide)) (ok_czne (pc := 16) (t := 22) d_90_16 rfl (by decide) rfl (s_90_19)))))))))
theorem tst_90 {Γ : m_G} (q : Nat) : m_ts Γ (t_90 q) q := ts_n (ts_n (ts_l (k := 90) (pc := 0) tb_90 rfl (by decide) s_90_0) (ts_l (k := 90) (pc := 19) tb_90 rfl (by decide) s_90_19)) (ts_n (ts_l (k := 90) (pc := 22) tb_90 rfl (by decide) s_90_22) (ts_n (ts_l (k := 90) (pc := 52) tb_90 rfl (by decide) s_90_52) (ts_l (k := 90) (pc := 53) tb_90 rfl (by decide) s_90_53)))
theorem d_91_0 : decode prog_1_method_4_code 0 = .ok (.iload_n 1, 1) := by decide +kernel
theorem d_91_1 : decode prog_1_method_4_code 1 = .ok (.iconst 3, 1) := by decide +kernel
theorem d_91_2 : decode prog_1_method_4_code 2 = .ok (.if_icmp .ne 16, 3) := by decide +kernel
theorem d_91_5 : decode prog_1_method_4_code 5 = .ok (.iload_n 3, 1) := by decide +kernel
theorem d_91_6 : decode prog_1_method_4_code 6 = .ok (.sipush 999, 3) := by decide +kernel
theorem d_91_9 : decode prog_1_method_4_code 9 = .ok (.invokestatic 122, 3) := by decide +kernel
theorem d_91_12 : decode prog_1_method_4_code 12 = .ok (.ifCond .ne 19, 3) := by decide +kernel
theorem d_91_15 : decode prog_1_method_4_code 15 = .ok (.goto 13, 3) := by decide +kernel
theorem d_91_18 : decode prog_1_method_4_code 18 = .ok (.aload_n 0, 1) := by decide +kernel
theorem d_91_19 : decode prog_1_method_4_code 19 = .ok (.iload_n 1, 1) := by decide +kernel
theorem d_91_20 : decode prog_1_method_4_code 20 = .ok (.iload_n 2, 1) := by decide +kernel
theorem d_91_21 : decode prog_1_method_4_code 21 = .ok (.iload_n 3, 1) := by decide +kernel
theorem d_91_22 : decode prog_1_method_4_code 22 = .ok (.invokevirtual 125, 3) := by decide +kernel
theorem d_91_25 : decode prog_1_method_4_code 25 = .ok (.ifCond .ne 6, 3) := by decide +kernel
theorem d_91_28 : decode prog_1_method_4_code 28 = .ok (.bipush (-2), 2) := by decide +kernel
theorem d_91_30 : decode prog_1_method_4_code 30 = .ok (.ireturn, 1) := by decide +kernel
theorem d_91_31 : decode prog_1_method_4_code 31 = .ok (.aload_n 0, 1) := by decide +kernel
theorem d_91_32 : decode prog_1_method_4_code 32 = .ok (.getfield 24, 3) := by decide +kernel
theorem d_91_35 : decode prog_1_method_4_code 35 = .ok (.invokevirtual 105, 3) := by decide +kernel
theorem d_91_38 : decode prog_1_method_4_code 38 = .ok (.iload_n 1, 1) := by decide +kernel
theorem d_91_39 : decode prog_1_method_4_code 39 = .ok (.tableswitch 110 0 2 #[25, 49, 73], 25) := by decide +kernel
theorem d_91_64 : decode prog_1_method_4_code 64 = .ok (.aload_n 0, 1) := by decide +kernel
theorem d_91_65 : decode prog_1_method_4_code 65 = .ok (.getfield 10, 3) := by decide +kernel
theorem d_91_68 : decode prog_1_method_4_code 68 = .ok (.getfield 129, 3) := by decide +kernel
theorem d_91_71 : decode prog_1_method_4_code 71 = .ok (.iload_n 2, 1) := by decide +kernel
theorem d_91_72 : decode prog_1_method_4_code 72 = .ok (.iaload, 1) := by decide +kernel
theorem d_91_73 : decode prog_1_method_4_code 73 = .ok (.istore 4, 2) := by decide +kernel
theorem d_91_75 : decode prog_1_method_4_code 75 = .ok (.aload_n 0, 1) := by decide +kernel
theorem d_91_76 : decode prog_1_method_4_code 76 = .ok (.getfield 10, 3) := by decide +kernel
theorem d_91_79 : decode prog_1_method_4_code 79 = .ok (.getfield 129, 3) := by decide +kernel
theorem d_91_82 : decode prog_1_method_4_code 82 = .ok (.iload_n 2, 1) := by decide +kernel
theorem d_91_83 : decode prog_1_method_4_code 83 = .ok (.iload_n 3, 1) := by decide +kernel
theorem d_91_84 : decode prog_1_method_4_code 84 = .ok (.iastore, 1) := by decide +kernel
theorem d_91_85 : decode prog_1_method_4_code 85 = .ok (.iload 4, 2) := by decide +kernel
theorem d_91_87 : decode prog_1_method_4_code 87 = .ok (.ireturn, 1) := by decide +kernel
theorem d_91_88 : decode prog_1_method_4_code 88 = .ok (.aload_n 0, 1) := by decide +kernel
theorem d_91_89 : decode prog_1_method_4_code 89 = .ok (.getfield 10, 3) := by decide +kernel
theorem d_91_92 : decode prog_1_method_4_code 92 = .ok (.getfield 132, 3) := by decide +kernel
theorem d_91_95 : decode prog_1_method_4_code 95 = .ok (.iload_n 2, 1) := by decide +kernel
theorem d_91_96 : decode prog_1_method_4_code 96 = .ok (.iaload, 1) := by decide +kernel
theorem d_91_97 : decode prog_1_method_4_code 97 = .ok (.istore 4, 2) := by decide +kernel
theorem d_91_99 : decode prog_1_method_4_code 99 = .ok (.aload_n 0, 1) := by decide +kernel
theorem d_91_100 : decode prog_1_method_4_code 100 = .ok (.getfield 10, 3) := by decide +kernel
theorem d_91_103 : decode prog_1_method_4_code 103 = .ok (.getfield 132, 3) := by decide +kernel
theorem d_91_106 : decode prog_1_method_4_code 106 = .ok (.iload_n 2, 1) := by decide +kernel
theorem d_91_107 : decode prog_1_method_4_code 107 = .ok (.iload_n 3, 1) := by decide +kernel
theorem d_91_108 : decode prog_1_method_4_code 108 = .ok (.iastore, 1) := by decide +kernel
theorem d_91_109 : decode prog_1_method_4_code 109 = .ok (.iload 4, 2) := by decide +kernel
theorem d_91_111 : decode prog_1_method_4_code 111 = .ok (.ireturn, 1) := by decide +kernel
theorem d_91_112 : decode prog_1_method_4_code 112 = .ok (.aload_n 0, 1) := by decide +kernel
theorem d_91_113 : decode prog_1_method_4_code 113 = .ok (.getfield 10, 3) := by decide +kernel
theorem d_91_116 : decode prog_1_method_4_code 116 = .ok (.iload_n 2, 1) := by decide +kernel
theorem d_91_117 : decode prog_1_method_4_code 117 = .ok (.invokevirtual 135, 3) := by decide +kernel
theorem d_91_120 : decode prog_1_method_4_code 120 = .ok (.istore 4, 2) := by decide +kernel
theorem d_91_122 : decode prog_1_method_4_code 122 = .ok (.aload_n 0, 1) := by decide +kernel
theorem d_91_123 : decode prog_1_method_4_code 123 = .ok (.getfield 10, 3) := by decide +kernel
theorem d_91_126 : decode prog_1_method_4_code 126 = .ok (.aload_n 0, 1) := by decide +kernel
theorem d_91_127 : decode prog_1_method_4_code 127 = .ok (.getfield 10, 3) := by decide +kernel
theorem d_91_130 : decode prog_1_method_4_code 130 = .ok (.getfield 139, 3) := by decide +kernel
theorem d_91_133 : decode prog_1_method_4_code 133 = .ok (.iconst 1, 1) := by decide +kernel
theorem d_91_134 : decode prog_1_method_4_code 134 = .ok (.iload_n 2, 1) := by decide +kernel
theorem d_91_135 : decode prog_1_method_4_code 135 = .ok (.ishl, 1) := by decide +kernel
theorem d_91_136 : decode prog_1_method_4_code 136 = .ok (.iconst (-1), 1) := by decide +kernel
theorem d_91_137 : decode prog_1_method_4_code 137 = .ok (.ixor, 1) := by decide +kernel
theorem d_91_138 : decode prog_1_method_4_code 138 = .ok (.iand, 1) := by decide +kernel
theorem d_91_139 : decode prog_1_method_4_code 139 = .ok (.iload_n 3, 1) := by decide +kernel
theorem d_91_140 : decode prog_1_method_4_code 140 = .ok (.iload_n 2, 1) := by decide +kernel
theorem d_91_141 : decode prog_1_method_4_code 141 = .ok (.ishl, 1) := by decide +kernel
theorem d_91_142 : decode prog_1_method_4_code 142 = .ok (.ior, 1) := by decide +kernel
theorem d_91_143 : decode prog_1_method_4_code 143 = .ok (.putfield 139, 3) := by decide +kernel
theorem d_91_146 : decode prog_1_method_4_code 146 = .ok (.iload 4, 2) := by decide +kernel
theorem d_91_148 : decode prog_1_method_4_code 148 = .ok (.ireturn, 1) := by decide +kernel
theorem d_91_149 : decode prog_1_method_4_code 149 = .ok (.aload_n 0, 1) := by decide +kernel
theorem d_91_150 : decode prog_1_method_4_code 150 = .ok (.getfield 10, 3) := by decide +kernel
theorem d_91_153 : decode prog_1_method_4_code 153 = .ok (.getfield 142, 3) := by decide +kernel
theorem d_91_156 : decode prog_1_method_4_code 156 = .ok (.istore 4, 2) := by decide +kernel
theorem d_91_158 : decode prog_1_method_4_code 158 = .ok (.aload_n 0, 1) := by decide +kernel
theorem d_91_159 : decode prog_1_method_4_code 159 = .ok (.getfield 10, 3) := by decide +kernel
theorem d_91_162 : decode prog_1_method_4_code 162 = .ok (.iload_n 3, 1) := by decide +kernel
theorem d_91_163 : decode prog_1_method_4_code 163 = .ok (.putfield 142, 3) := by decide +kernel
theorem d_91_166 : decode prog_1_method_4_code 166 = .ok (.iload 4, 2) := by decide +kernel
theorem d_91_168 : decode prog_1_method_4_code 168 = .ok (.ireturn, 1) := by decide +kernel
theorem s_91_149 {Γ : m_G} : m_ok Γ m_tab 91 M_91 149 (g_91_149) := ok_al_n (pc := 149) d_91_149 rfl (ok_getf (pc := 150) d_91_150 w_352 (hc1 fo_52) (ok_getf (pc := 153) d_91_153 w_66 (hc1 fo_48) (ok_is (pc := 156) d_91_156 (by decide) (ok_al_n (pc := 158) d_91_158 rfl (ok_getf (pc := 159) d_91_159 w_352 (hc1 fo_52) (ok_il_n (pc := 162) d_91_162 rfl (ok_putf (pc := 163) d_91_163 w_66 (hc1 ⟨_, _, _, tyX10, cl_10, in_10, by decide, rfl, rfl, rfl, tyX10_ok, nmX10, Or.inl rfl⟩) pd_0 vt_I (ok_il (pc := 166) d_91_166 (ok_ri (pc := 168) d_91_168 rfl)))))))))
theorem s_91_112 {Γ : m_G} : m_ok Γ m_tab 91 M_91 112 (g_91_112) := ok_al_n (pc := 112) d_91_112 rfl (ok_getf (pc := 113) d_91_113 w_352 (hc1 fo_52) (ok_il_n (pc := 116) d_91_116 rfl (ok_cai (pc := 117) (k2 := 84) rfl rfl tb_84 (by decide) (by decide) rfl (go_V d_91_117 w_435 w_436 w_437 w_2 w_438 nn_84 (by decide) cl_10 rfl) (ok_is (pc := 120) d_91_120 (by decide) (ok_al_n (pc := 122) d_91_122 rfl (ok_getf (pc := 123) d_91_123 w_352 (hc1 fo_52) (ok_al_n (pc := 126) d_91_126 rfl (ok_getf (pc := 127) d_91_127 w_352 (hc1 fo_52) (ok_getf (pc := 130) d_91_130 w_64 (hc1 fo_49) (ok_ic (pc := 133) d_91_133 rfl (ok_il_n (pc := 134) d_91_134 rfl (ok_shl (pc := 135) d_91_135 (ok_ic (pc := 136) d_91_136 rfl (ok_xor (pc := 137) d_91_137 (ok_and (pc := 138) d_91_138 (ok_il_n (pc := 139) d_91_139 rfl (ok_il_n (pc := 140) d_91_140 rfl (ok_shl (pc := 141) d_91_141 (ok_or (pc := 142) d_91_142 (ok_putf (pc := 143) d_91_143 w_64 (hc1 ⟨_, _, _, tyX10, cl_10, in_10, by decide, rfl, rfl, rfl, tyX10_ok, nmX10, Or.inl rfl⟩) pd_0 vt_I (ok_il (pc := 146) d_91_146 (ok_ri (pc := 148) d_91_148 rfl))))))))))))))))))))))
theorem s_91_88 {Γ : m_G} : m_ok Γ m_tab 91 M_91 88 (g_91_88) := ok_al_n (pc := 88) d_91_88 rfl (ok_getf (pc := 89) d_91_89 w_352 (hc1 fo_52) (ok_getf (pc := 92) d_91_92 w_61 (hc1 fo_32) (ok_il_n (pc := 95) d_91_95 rfl (ok_iald (pc := 96) d_91_96 (ok_is (pc := 97) d_91_97 (by decide) (ok_al_n (pc := 99) d_91_99 rfl (ok_getf (pc := 100) d_91_100 w_352 (hc1 fo_52) (ok_getf (pc := 103) d_91_103 w_61 (hc1 fo_32) (ok_il_n (pc := 106) d_91_106 rfl (ok_il_n (pc := 107) d_91_107 rfl (ok_iast (pc := 108) d_91_108 (ok_il (pc := 109) d_91_109 (ok_ri (pc := 111) d_91_111 rfl)))))))))))))
theorem s_91_64 {Γ : m_G} : m_ok Γ m_tab 91 M_91 64 (g_91_64) := ok_al_n (pc := 64) d_91_64 rfl (ok_getf (pc := 65) d_91_65 w_352 (hc1 fo_52) (ok_getf (pc := 68) d_91_68 w_58 (hc1 fo_31) (ok_il_n (pc := 71) d_91_71 rfl (ok_iald (pc := 72) d_91_72 (ok_is (pc := 73) d_91_73 (by decide) (ok_al_n (pc := 75) d_91_75 rfl (ok_getf (pc := 76) d_91_76 w_352 (hc1 fo_52) (ok_getf (pc := 79) d_91_79 w_58 (hc1 fo_31) (ok_il_n (pc := 82) d_91_82 rfl (ok_il_n (pc := 83) d_91_83 rfl (ok_iast (pc := 84) d_91_84 (ok_il (pc := 85) d_91_85 (ok_ri (pc := 87) d_91_87 rfl)))))))))))))
theorem s_91_31 {Γ : m_G} : m_ok Γ m_tab 91 M_91 31 (g_91_31) := ok_al_n (pc := 31) d_91_31 rfl (ok_getf (pc := 32) d_91_32 w_355 (hc1 fo_53) (ok_cvi (pc := 35) (k2 := 37) rfl rfl tb_37 (by decide) (by decide) rfl (go_V d_91_35 w_399 w_400 w_401 w_3 w_402 nn_37 (by decide) cl_5 rfl) (ok_il_n (pc := 38) d_91_38 rfl (ok_tsw (pc := 39) d_91_39 rfl rfl (by decide +kernel) (by decide +kernel) (by decide) (by decide) (by decide +kernel) (by decide)))))
theorem s_91_28 {Γ : m_G} : m_ok Γ m_tab 91 M_91 28 (g_91_28) := ok_bi (pc := 28) d_91_28 rfl (ok_ri (pc := 30) d_91_30 rfl)
theorem s_91_18 {Γ : m_G} : m_ok Γ m_tab 91 M_91 18 (g_91_18) := ok_al_n (pc := 18) d_91_18 rfl (ok_il_n (pc := 19) d_91_19 rfl (ok_il_n (pc := 20) d_91_20 rfl (ok_il_n (pc := 21) d_91_21 rfl (ok_cai (pc := 22) (k2 := 125) rfl rfl tb_125 (by decide) (by decide) rfl (go_V d_91_22 w_426 w_428 ws_17 w_1 w_429 nn_125 (by decide) cl_11 rfl) (ok_czne (pc := 25) (t := 31) d_91_25 rfl (by decide) rfl (s_91_28))))))
theorem s_91_0 {Γ : m_G} : m_ok Γ m_tab 91 M_91 0 (g_91_0) := ok_il_n (pc := 0) d_91_0 rfl (ok_ic (pc := 1) d_91_1 rfl (ok_cine (pc := 2) (t := 18) d_91_2 rfl (by decide) rfl (ok_il_n (pc := 5) d_91_5 rfl (ok_si (pc := 6) d_91_6 rfl (ok_cat (pc := 9) (k2 := 121) rfl tb_121 (by decide) (by decide) rfl (go_S d_91_9 w_423 w_424 w_1 w_425 nn_121 (by decide)) (ok_czne (pc := 12) (t := 31) d_91_12 rfl (by decide) rfl (ok_go (pc := 15) (t := 28) d_91_15 rfl (by decide) rfl)))))))
theorem tst_91 {Γ : m_G} (q : Nat) : m_ts Γ (t_91 q) q := ts_n (ts_n (ts_n (ts_l (k := 91) (pc := 0) tb_91 rfl (by decide) s_91_0) (ts_l (k := 91) (pc := 18) tb_91 rfl (by decide) s_91_18)) (ts_n (ts_l (k := 91) (pc := 28) tb_91 rfl (by decide) s_91_28) (ts_l (k := 91) (pc := 31) tb_91 rfl (by decide) s_91_31))) (ts_n (ts_n (ts_l (k := 91) (pc := 64) tb_91 rfl (by decide) s_91_64) (ts_l (k := 91) (pc := 88) tb_91 rfl (by decide) s_91_88)) (ts_n (ts_l (k := 91) (pc := 112) tb_91 rfl (by decide) s_91_112) (ts_l (k := 91) (pc := 149) tb_91 rfl (by decide) s_91_149)))
