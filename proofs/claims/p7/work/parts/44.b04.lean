theorem d_173_0 : decode prog_14_method_35_code 0 = .ok (.aload_n 0, 1) := by decide +kernel
theorem d_173_1 : decode prog_14_method_35_code 1 = .ok (.bipush 7, 2) := by decide +kernel
theorem d_173_3 : decode prog_14_method_35_code 3 = .ok (.invokevirtual 197, 3) := by decide +kernel
theorem d_173_6 : decode prog_14_method_35_code 6 = .ok (.aload_n 0, 1) := by decide +kernel
theorem d_173_7 : decode prog_14_method_35_code 7 = .ok (.getfield 160, 3) := by decide +kernel
theorem d_173_10 : decode prog_14_method_35_code 10 = .ok (.bipush 102, 2) := by decide +kernel
theorem d_173_12 : decode prog_14_method_35_code 12 = .ok (.if_icmp .ne 13, 3) := by decide +kernel
theorem d_173_15 : decode prog_14_method_35_code 15 = .ok (.aload_n 0, 1) := by decide +kernel
theorem d_173_16 : decode prog_14_method_35_code 16 = .ok (.getfield 163, 3) := by decide +kernel
theorem d_173_19 : decode prog_14_method_35_code 19 = .ok (.invokestatic 200, 3) := by decide +kernel
theorem d_173_22 : decode prog_14_method_35_code 22 = .ok (.goto 50, 3) := by decide +kernel
theorem d_173_25 : decode prog_14_method_35_code 25 = .ok (.aload_n 0, 1) := by decide +kernel
theorem d_173_26 : decode prog_14_method_35_code 26 = .ok (.getfield 160, 3) := by decide +kernel
theorem d_173_29 : decode prog_14_method_35_code 29 = .ok (.bipush 101, 2) := by decide +kernel
theorem d_173_31 : decode prog_14_method_35_code 31 = .ok (.if_icmp .ne 17, 3) := by decide +kernel
theorem d_173_34 : decode prog_14_method_35_code 34 = .ok (.aload_n 0, 1) := by decide +kernel
theorem d_173_35 : decode prog_14_method_35_code 35 = .ok (.getfield 163, 3) := by decide +kernel
theorem d_173_38 : decode prog_14_method_35_code 38 = .ok (.bipush 9, 2) := by decide +kernel
theorem d_173_40 : decode prog_14_method_35_code 40 = .ok (.if_icmp .ne 8, 3) := by decide +kernel
theorem d_173_43 : decode prog_14_method_35_code 43 = .ok (.bipush 7, 2) := by decide +kernel
theorem d_173_45 : decode prog_14_method_35_code 45 = .ok (.goto 27, 3) := by decide +kernel
theorem d_173_48 : decode prog_14_method_35_code 48 = .ok (.aload_n 0, 1) := by decide +kernel
theorem d_173_49 : decode prog_14_method_35_code 49 = .ok (.getfield 160, 3) := by decide +kernel
theorem d_173_52 : decode prog_14_method_35_code 52 = .ok (.bipush 101, 2) := by decide +kernel
theorem d_173_54 : decode prog_14_method_35_code 54 = .ok (.if_icmp .ne 17, 3) := by decide +kernel
theorem d_173_57 : decode prog_14_method_35_code 57 = .ok (.aload_n 0, 1) := by decide +kernel
theorem d_173_58 : decode prog_14_method_35_code 58 = .ok (.getfield 163, 3) := by decide +kernel
theorem d_173_61 : decode prog_14_method_35_code 61 = .ok (.bipush 10, 2) := by decide +kernel
theorem d_173_63 : decode prog_14_method_35_code 63 = .ok (.if_icmp .ne 8, 3) := by decide +kernel
theorem d_173_66 : decode prog_14_method_35_code 66 = .ok (.bipush 6, 2) := by decide +kernel
theorem d_173_68 : decode prog_14_method_35_code 68 = .ok (.goto 4, 3) := by decide +kernel
theorem d_173_71 : decode prog_14_method_35_code 71 = .ok (.iconst 0, 1) := by decide +kernel
theorem d_173_72 : decode prog_14_method_35_code 72 = .ok (.istore_n 1, 1) := by decide +kernel
theorem d_173_73 : decode prog_14_method_35_code 73 = .ok (.iload_n 1, 1) := by decide +kernel
theorem d_173_74 : decode prog_14_method_35_code 74 = .ok (.ifCond .eq 51, 3) := by decide +kernel
theorem d_173_77 : decode prog_14_method_35_code 77 = .ok (.iload_n 1, 1) := by decide +kernel
theorem d_173_78 : decode prog_14_method_35_code 78 = .ok (.iconst 4, 1) := by decide +kernel
theorem d_173_79 : decode prog_14_method_35_code 79 = .ok (.if_icmp .eq 8, 3) := by decide +kernel
theorem d_173_82 : decode prog_14_method_35_code 82 = .ok (.iload_n 1, 1) := by decide +kernel
theorem d_173_83 : decode prog_14_method_35_code 83 = .ok (.iconst 5, 1) := by decide +kernel
theorem d_173_84 : decode prog_14_method_35_code 84 = .ok (.if_icmp .ne 26, 3) := by decide +kernel
theorem d_173_87 : decode prog_14_method_35_code 87 = .ok (.aload_n 0, 1) := by decide +kernel
theorem d_173_88 : decode prog_14_method_35_code 88 = .ok (.iconst 5, 1) := by decide +kernel
theorem d_173_89 : decode prog_14_method_35_code 89 = .ok (.invokevirtual 197, 3) := by decide +kernel
theorem d_173_92 : decode prog_14_method_35_code 92 = .ok (.aload_n 0, 1) := by decide +kernel
theorem d_173_93 : decode prog_14_method_35_code 93 = .ok (.invokevirtual 179, 3) := by decide +kernel
theorem d_173_96 : decode prog_14_method_35_code 96 = .ok (.iconst 4, 1) := by decide +kernel
theorem d_173_97 : decode prog_14_method_35_code 97 = .ok (.if_icmp .eq 11, 3) := by decide +kernel
theorem d_173_100 : decode prog_14_method_35_code 100 = .ok (.aload_n 0, 1) := by decide +kernel
theorem d_173_101 : decode prog_14_method_35_code 101 = .ok (.invokevirtual 179, 3) := by decide +kernel
theorem d_173_104 : decode prog_14_method_35_code 104 = .ok (.iconst 5, 1) := by decide +kernel
theorem d_173_105 : decode prog_14_method_35_code 105 = .ok (.if_icmp .ne 13, 3) := by decide +kernel
theorem d_173_108 : decode prog_14_method_35_code 108 = .ok (.iconst (-1), 1) := by decide +kernel
theorem d_173_109 : decode prog_14_method_35_code 109 = .ok (.ireturn, 1) := by decide +kernel
theorem d_173_110 : decode prog_14_method_35_code 110 = .ok (.aload_n 0, 1) := by decide +kernel
theorem d_173_111 : decode prog_14_method_35_code 111 = .ok (.iload_n 1, 1) := by decide +kernel
theorem d_173_112 : decode prog_14_method_35_code 112 = .ok (.invokestatic 183, 3) := by decide +kernel
theorem d_173_115 : decode prog_14_method_35_code 115 = .ok (.invokevirtual 197, 3) := by decide +kernel
theorem d_173_118 : decode prog_14_method_35_code 118 = .ok (.aload_n 0, 1) := by decide +kernel
theorem d_173_119 : decode prog_14_method_35_code 119 = .ok (.iload_n 1, 1) := by decide +kernel
theorem d_173_120 : decode prog_14_method_35_code 120 = .ok (.invokevirtual 194, 3) := by decide +kernel
theorem d_173_123 : decode prog_14_method_35_code 123 = .ok (.iconst 1, 1) := by decide +kernel
theorem d_173_124 : decode prog_14_method_35_code 124 = .ok (.ireturn, 1) := by decide +kernel
theorem d_173_125 : decode prog_14_method_35_code 125 = .ok (.aload_n 0, 1) := by decide +kernel
theorem d_173_126 : decode prog_14_method_35_code 126 = .ok (.getfield 160, 3) := by decide +kernel
theorem d_173_129 : decode prog_14_method_35_code 129 = .ok (.bipush 102, 2) := by decide +kernel
theorem d_173_131 : decode prog_14_method_35_code 131 = .ok (.if_icmp .ne 21, 3) := by decide +kernel
theorem d_173_134 : decode prog_14_method_35_code 134 = .ok (.aload_n 0, 1) := by decide +kernel
theorem d_173_135 : decode prog_14_method_35_code 135 = .ok (.getfield 163, 3) := by decide +kernel
theorem d_173_138 : decode prog_14_method_35_code 138 = .ok (.bipush 59, 2) := by decide +kernel
theorem d_173_140 : decode prog_14_method_35_code 140 = .ok (.if_icmp .eq 14, 3) := by decide +kernel
theorem d_173_143 : decode prog_14_method_35_code 143 = .ok (.aload_n 0, 1) := by decide +kernel
theorem d_173_144 : decode prog_14_method_35_code 144 = .ok (.getfield 163, 3) := by decide +kernel
theorem d_173_147 : decode prog_14_method_35_code 147 = .ok (.bipush 41, 2) := by decide +kernel
theorem d_173_149 : decode prog_14_method_35_code 149 = .ok (.if_icmp .eq 5, 3) := by decide +kernel
theorem d_173_152 : decode prog_14_method_35_code 152 = .ok (.iconst (-1), 1) := by decide +kernel
theorem d_173_153 : decode prog_14_method_35_code 153 = .ok (.ireturn, 1) := by decide +kernel
theorem d_173_154 : decode prog_14_method_35_code 154 = .ok (.aload_n 0, 1) := by decide +kernel
theorem d_173_155 : decode prog_14_method_35_code 155 = .ok (.iconst 1, 1) := by decide +kernel
theorem d_173_156 : decode prog_14_method_35_code 156 = .ok (.invokevirtual 197, 3) := by decide +kernel
theorem d_173_159 : decode prog_14_method_35_code 159 = .ok (.aload_n 0, 1) := by decide +kernel
theorem d_173_160 : decode prog_14_method_35_code 160 = .ok (.getfield 163, 3) := by decide +kernel
theorem d_173_163 : decode prog_14_method_35_code 163 = .ok (.bipush 59, 2) := by decide +kernel
theorem d_173_165 : decode prog_14_method_35_code 165 = .ok (.if_icmp .ne 16, 3) := by decide +kernel
theorem d_173_168 : decode prog_14_method_35_code 168 = .ok (.aload_n 0, 1) := by decide +kernel
theorem d_173_169 : decode prog_14_method_35_code 169 = .ok (.getfield 173, 3) := by decide +kernel
theorem d_173_172 : decode prog_14_method_35_code 172 = .ok (.ifCond .ne 7, 3) := by decide +kernel
theorem d_173_175 : decode prog_14_method_35_code 175 = .ok (.iconst 2, 1) := by decide +kernel
theorem d_173_176 : decode prog_14_method_35_code 176 = .ok (.goto 4, 3) := by decide +kernel
theorem d_173_179 : decode prog_14_method_35_code 179 = .ok (.iconst (-1), 1) := by decide +kernel
theorem d_173_180 : decode prog_14_method_35_code 180 = .ok (.ireturn, 1) := by decide +kernel
theorem d_173_181 : decode prog_14_method_35_code 181 = .ok (.aload_n 0, 1) := by decide +kernel
theorem d_173_182 : decode prog_14_method_35_code 182 = .ok (.getfield 173, 3) := by decide +kernel
theorem d_173_185 : decode prog_14_method_35_code 185 = .ok (.ifCond .ne 5, 3) := by decide +kernel
theorem d_173_188 : decode prog_14_method_35_code 188 = .ok (.iconst (-1), 1) := by decide +kernel
theorem d_173_189 : decode prog_14_method_35_code 189 = .ok (.ireturn, 1) := by decide +kernel
theorem d_173_190 : decode prog_14_method_35_code 190 = .ok (.aload_n 0, 1) := by decide +kernel
theorem d_173_191 : decode prog_14_method_35_code 191 = .ok (.dup, 1) := by decide +kernel
theorem d_173_192 : decode prog_14_method_35_code 192 = .ok (.getfield 173, 3) := by decide +kernel
theorem d_173_195 : decode prog_14_method_35_code 195 = .ok (.iconst 1, 1) := by decide +kernel
theorem d_173_196 : decode prog_14_method_35_code 196 = .ok (.isub, 1) := by decide +kernel
theorem d_173_197 : decode prog_14_method_35_code 197 = .ok (.putfield 173, 3) := by decide +kernel
theorem d_173_200 : decode prog_14_method_35_code 200 = .ok (.aload_n 0, 1) := by decide +kernel
theorem d_173_201 : decode prog_14_method_35_code 201 = .ok (.dup, 1) := by decide +kernel
theorem d_173_202 : decode prog_14_method_35_code 202 = .ok (.getfield 176, 3) := by decide +kernel
theorem d_173_205 : decode prog_14_method_35_code 205 = .ok (.iconst 1, 1) := by decide +kernel
theorem d_173_206 : decode prog_14_method_35_code 206 = .ok (.isub, 1) := by decide +kernel
theorem d_173_207 : decode prog_14_method_35_code 207 = .ok (.putfield 176, 3) := by decide +kernel
theorem d_173_210 : decode prog_14_method_35_code 210 = .ok (.iconst 0, 1) := by decide +kernel
theorem d_173_211 : decode prog_14_method_35_code 211 = .ok (.ireturn, 1) := by decide +kernel
theorem s_173_190 {Γ : m_G} : m_ok Γ m_tab 173 M_173 190 (g_173_190) := ok_al_n (pc := 190) d_173_190 rfl (ok_dup (pc := 191) d_173_191 (ok_getf (pc := 192) d_173_192 w_938 (hc1 fo_90) (ok_ic (pc := 195) d_173_195 rfl (ok_sub (pc := 196) d_173_196 (ok_putf (pc := 197) d_173_197 w_938 (hc1 ⟨_, _, _, tyX12, cl_12, in_12, by decide, rfl, rfl, rfl, tyX12_ok, nmX12, Or.inl rfl⟩) pd_0 vt_I (ok_al_n (pc := 200) d_173_200 rfl (ok_dup (pc := 201) d_173_201 (ok_getf (pc := 202) d_173_202 w_937 (hc1 fo_92) (ok_ic (pc := 205) d_173_205 rfl (ok_sub (pc := 206) d_173_206 (ok_putf (pc := 207) d_173_207 w_937 (hc1 ⟨_, _, _, tyX12, cl_12, in_12, by decide, rfl, rfl, rfl, tyX12_ok, nmX12, Or.inl rfl⟩) pd_0 vt_I (ok_ic (pc := 210) d_173_210 rfl (ok_ri (pc := 211) d_173_211 rfl)))))))))))))
theorem s_173_181 {Γ : m_G} : m_ok Γ m_tab 173 M_173 181 (g_173_181) := ok_al_n (pc := 181) d_173_181 rfl (ok_getf (pc := 182) d_173_182 w_938 (hc1 fo_90) (ok_czne (pc := 185) (t := 190) d_173_185 rfl (by decide) rfl (ok_ic (pc := 188) d_173_188 rfl (ok_ri (pc := 189) d_173_189 rfl))))
theorem s_173_180 {Γ : m_G} : m_ok Γ m_tab 173 M_173 180 (g_173_180) := ok_ri (pc := 180) d_173_180 rfl
theorem s_173_179 {Γ : m_G} : m_ok Γ m_tab 173 M_173 179 (g_173_179) := ok_ic (pc := 179) d_173_179 rfl (s_173_180)
theorem s_173_154 {Γ : m_G} : m_ok Γ m_tab 173 M_173 154 (g_173_154) := ok_al_n (pc := 154) d_173_154 rfl (ok_ic (pc := 155) d_173_155 rfl (ok_cvi (pc := 156) (k2 := 168) rfl rfl tb_168 (by decide) (by decide) rfl (go_V d_173_156 w_1144 w_1146 ws_55 w_11 w_1147 nn_168 (by decide) cl_12 rfl) (ok_al_n (pc := 159) d_173_159 rfl (ok_getf (pc := 160) d_173_160 w_936 (hc1 fo_89) (ok_bi (pc := 163) d_173_163 rfl (ok_cine (pc := 165) (t := 181) d_173_165 rfl (by decide) rfl (ok_al_n (pc := 168) d_173_168 rfl (ok_getf (pc := 169) d_173_169 w_938 (hc1 fo_90) (ok_czne (pc := 172) (t := 179) d_173_172 rfl (by decide) rfl (ok_ic (pc := 175) d_173_175 rfl (ok_go (pc := 176) (t := 180) d_173_176 rfl (by decide) rfl)))))))))))
theorem s_173_152 {Γ : m_G} : m_ok Γ m_tab 173 M_173 152 (g_173_152) := ok_ic (pc := 152) d_173_152 rfl (ok_ri (pc := 153) d_173_153 rfl)
theorem s_173_125 {Γ : m_G} : m_ok Γ m_tab 173 M_173 125 (g_173_125) := ok_al_n (pc := 125) d_173_125 rfl (ok_getf (pc := 126) d_173_126 w_934 (hc1 fo_93) (ok_bi (pc := 129) d_173_129 rfl (ok_cine (pc := 131) (t := 152) d_173_131 rfl (by decide) rfl (ok_al_n (pc := 134) d_173_134 rfl (ok_getf (pc := 135) d_173_135 w_936 (hc1 fo_89) (ok_bi (pc := 138) d_173_138 rfl (ok_cieq (pc := 140) (t := 154) d_173_140 rfl (by decide) rfl (ok_al_n (pc := 143) d_173_143 rfl (ok_getf (pc := 144) d_173_144 w_936 (hc1 fo_89) (ok_bi (pc := 147) d_173_147 rfl (ok_cieq (pc := 149) (t := 154) d_173_149 rfl (by decide) rfl (s_173_152))))))))))))
theorem s_173_118 {Γ : m_G} : m_ok Γ m_tab 173 M_173 118 (g_173_118) := ok_al_n (pc := 118) d_173_118 rfl (ok_il_n (pc := 119) d_173_119 rfl (ok_cvi (pc := 120) (k2 := 166) rfl rfl tb_166 (by decide) (by decide) rfl (go_V d_173_120 w_1136 w_1138 ws_53 w_11 w_1139 nn_166 (by decide) cl_12 rfl) (ok_ic (pc := 123) d_173_123 rfl (ok_ri (pc := 124) d_173_124 rfl))))
theorem s_173_110 {Γ : m_G} : m_ok Γ m_tab 173 M_173 110 (g_173_110) := ok_al_n (pc := 110) d_173_110 rfl (ok_il_n (pc := 111) d_173_111 rfl (ok_cat (pc := 112) (k2 := 169) rfl tb_169 (by decide) (by decide) rfl (go_S d_173_112 w_1148 w_1149 w_11 w_1150 nn_169 (by decide)) (ok_cvi (pc := 115) (k2 := 168) rfl rfl tb_168 (by decide) (by decide) rfl (go_V d_173_115 w_1144 w_1146 ws_55 w_11 w_1147 nn_168 (by decide) cl_12 rfl) (s_173_118))))
theorem s_173_108 {Γ : m_G} : m_ok Γ m_tab 173 M_173 108 (g_173_108) := ok_ic (pc := 108) d_173_108 rfl (ok_ri (pc := 109) d_173_109 rfl)
theorem s_173_87 {Γ : m_G} : m_ok Γ m_tab 173 M_173 87 (g_173_87) := ok_al_n (pc := 87) d_173_87 rfl (ok_ic (pc := 88) d_173_88 rfl (ok_cvi (pc := 89) (k2 := 168) rfl rfl tb_168 (by decide) (by decide) rfl (go_V d_173_89 w_1144 w_1146 ws_55 w_11 w_1147 nn_168 (by decide) cl_12 rfl) (ok_al_n (pc := 92) d_173_92 rfl (ok_cai (pc := 93) (k2 := 165) rfl rfl tb_165 (by decide) (by decide) rfl (go_V d_173_93 w_1132 w_1134 ws_52 w_11 w_1135 nn_165 (by decide) cl_12 rfl) (ok_ic (pc := 96) d_173_96 rfl (ok_cieq (pc := 97) (t := 108) d_173_97 rfl (by decide) rfl (ok_al_n (pc := 100) d_173_100 rfl (ok_cai (pc := 101) (k2 := 165) rfl rfl tb_165 (by decide) (by decide) rfl (go_V d_173_101 w_1132 w_1134 ws_52 w_11 w_1135 nn_165 (by decide) cl_12 rfl) (ok_ic (pc := 104) d_173_104 rfl (ok_cine (pc := 105) (t := 118) d_173_105 rfl (by decide) rfl (s_173_108)))))))))))
theorem s_173_72 {Γ : m_G} : m_ok Γ m_tab 173 M_173 72 (g_173_72) := ok_is_n (pc := 72) d_173_72 rfl (by decide) (ok_il_n (pc := 73) d_173_73 rfl (ok_czeq (pc := 74) (t := 125) d_173_74 rfl (by decide) rfl (ok_il_n (pc := 77) d_173_77 rfl (ok_ic (pc := 78) d_173_78 rfl (ok_cieq (pc := 79) (t := 87) d_173_79 rfl (by decide) rfl (ok_il_n (pc := 82) d_173_82 rfl (ok_ic (pc := 83) d_173_83 rfl (ok_cine (pc := 84) (t := 110) d_173_84 rfl (by decide) rfl (s_173_87)))))))))
theorem s_173_71 {Γ : m_G} : m_ok Γ m_tab 173 M_173 71 (g_173_71) := ok_ic (pc := 71) d_173_71 rfl (s_173_72)
theorem s_173_48 {Γ : m_G} : m_ok Γ m_tab 173 M_173 48 (g_173_48) := ok_al_n (pc := 48) d_173_48 rfl (ok_getf (pc := 49) d_173_49 w_934 (hc1 fo_93) (ok_bi (pc := 52) d_173_52 rfl (ok_cine (pc := 54) (t := 71) d_173_54 rfl (by decide) rfl (ok_al_n (pc := 57) d_173_57 rfl (ok_getf (pc := 58) d_173_58 w_936 (hc1 fo_89) (ok_bi (pc := 61) d_173_61 rfl (ok_cine (pc := 63) (t := 71) d_173_63 rfl (by decide) rfl (ok_bi (pc := 66) d_173_66 rfl (ok_go (pc := 68) (t := 72) d_173_68 rfl (by decide) rfl)))))))))
theorem s_173_25 {Γ : m_G} : m_ok Γ m_tab 173 M_173 25 (g_173_25) := ok_al_n (pc := 25) d_173_25 rfl (ok_getf (pc := 26) d_173_26 w_934 (hc1 fo_93) (ok_bi (pc := 29) d_173_29 rfl (ok_cine (pc := 31) (t := 48) d_173_31 rfl (by decide) rfl (ok_al_n (pc := 34) d_173_34 rfl (ok_getf (pc := 35) d_173_35 w_936 (hc1 fo_89) (ok_bi (pc := 38) d_173_38 rfl (ok_cine (pc := 40) (t := 48) d_173_40 rfl (by decide) rfl (ok_bi (pc := 43) d_173_43 rfl (ok_go (pc := 45) (t := 72) d_173_45 rfl (by decide) rfl)))))))))
theorem s_173_0 {Γ : m_G} : m_ok Γ m_tab 173 M_173 0 (g_173_0) := ok_al_n (pc := 0) d_173_0 rfl (ok_bi (pc := 1) d_173_1 rfl (ok_cvi (pc := 3) (k2 := 168) rfl rfl tb_168 (by decide) (by decide) rfl (go_V d_173_3 w_1144 w_1146 ws_55 w_11 w_1147 nn_168 (by decide) cl_12 rfl) (ok_al_n (pc := 6) d_173_6 rfl (ok_getf (pc := 7) d_173_7 w_934 (hc1 fo_93) (ok_bi (pc := 10) d_173_10 rfl (ok_cine (pc := 12) (t := 25) d_173_12 rfl (by decide) rfl (ok_al_n (pc := 15) d_173_15 rfl (ok_getf (pc := 16) d_173_16 w_936 (hc1 fo_89) (ok_cat (pc := 19) (k2 := 172) rfl tb_172 (by decide) (by decide) rfl (go_S d_173_19 w_1155 w_1156 w_11 w_1157 nn_172 (by decide)) (ok_go (pc := 22) (t := 72) d_173_22 rfl (by decide) rfl))))))))))
theorem tst_173 {Γ : m_G} (q : Nat) : m_ts Γ (t_173 q) q := ts_n (ts_n (ts_n (ts_n (ts_l (k := 173) (pc := 0) tb_173 rfl (by decide) s_173_0) (ts_l (k := 173) (pc := 25) tb_173 rfl (by decide) s_173_25)) (ts_n (ts_l (k := 173) (pc := 48) tb_173 rfl (by decide) s_173_48) (ts_l (k := 173) (pc := 71) tb_173 rfl (by decide) s_173_71))) (ts_n (ts_n (ts_l (k := 173) (pc := 72) tb_173 rfl (by decide) s_173_72) (ts_l (k := 173) (pc := 87) tb_173 rfl (by decide) s_173_87)) (ts_n (ts_l (k := 173) (pc := 108) tb_173 rfl (by decide) s_173_108) (ts_l (k := 173) (pc := 110) tb_173 rfl (by decide) s_173_110)))) (ts_n (ts_n (ts_n (ts_l (k := 173) (pc := 118) tb_173 rfl (by decide) s_173_118) (ts_l (k := 173) (pc := 125) tb_173 rfl (by decide) s_173_125)) (ts_n (ts_l (k := 173) (pc := 152) tb_173 rfl (by decide) s_173_152) (ts_l (k := 173) (pc := 154) tb_173 rfl (by decide) s_173_154))) (ts_n (ts_n (ts_l (k := 173) (pc := 179) tb_173 rfl (by decide) s_173_179) (ts_l (k := 173) (pc := 180) tb_173 rfl (by decide) s_173_180)) (ts_n (ts_l (k := 173) (pc := 181) tb_173 rfl (by decide) s_173_181) (ts_l (k := 173) (pc := 190) tb_173 rfl (by decide) s_173_190))))
theorem d_174_0 : decode prog_14_method_36_code 0 = .ok (.aload_n 0, 1) := by decide +kernel
theorem d_174_1 : decode prog_14_method_36_code 1 = .ok (.getfield 43, 3) := by decide +kernel
theorem d_174_4 : decode prog_14_method_36_code 4 = .ok (.aload_n 0, 1) := by decide +kernel
theorem d_174_5 : decode prog_14_method_36_code 5 = .ok (.getfield 141, 3) := by decide +kernel
theorem d_174_8 : decode prog_14_method_36_code 8 = .ok (.iconst 0, 1) := by decide +kernel
theorem d_174_9 : decode prog_14_method_36_code 9 = .ok (.iastore, 1) := by decide +kernel
theorem d_174_10 : decode prog_14_method_36_code 10 = .ok (.aload_n 0, 1) := by decide +kernel
theorem d_174_11 : decode prog_14_method_36_code 11 = .ok (.iconst 0, 1) := by decide +kernel
theorem d_174_12 : decode prog_14_method_36_code 12 = .ok (.putfield 173, 3) := by decide +kernel
theorem d_174_15 : decode prog_14_method_36_code 15 = .ok (.aload_n 0, 1) := by decide +kernel
theorem d_174_16 : decode prog_14_method_36_code 16 = .ok (.iconst 0, 1) := by decide +kernel
theorem d_174_17 : decode prog_14_method_36_code 17 = .ok (.putfield 176, 3) := by decide +kernel
theorem d_174_20 : decode prog_14_method_36_code 20 = .ok (.iconst 1, 1) := by decide +kernel
theorem d_174_21 : decode prog_14_method_36_code 21 = .ok (.istore_n 1, 1) := by decide +kernel
theorem d_174_22 : decode prog_14_method_36_code 22 = .ok (.iload_n 1, 1) := by decide +kernel
theorem d_174_23 : decode prog_14_method_36_code 23 = .ok (.ifCond .eq 10, 3) := by decide +kernel
theorem d_174_26 : decode prog_14_method_36_code 26 = .ok (.aload_n 0, 1) := by decide +kernel
theorem d_174_27 : decode prog_14_method_36_code 27 = .ok (.invokevirtual 203, 3) := by decide +kernel
theorem d_174_30 : decode prog_14_method_36_code 30 = .ok (.goto 7, 3) := by decide +kernel
theorem d_174_33 : decode prog_14_method_36_code 33 = .ok (.aload_n 0, 1) := by decide +kernel
theorem d_174_34 : decode prog_14_method_36_code 34 = .ok (.invokevirtual 206, 3) := by decide +kernel
theorem d_174_37 : decode prog_14_method_36_code 37 = .ok (.istore_n 2, 1) := by decide +kernel
theorem d_174_38 : decode prog_14_method_36_code 38 = .ok (.iload_n 2, 1) := by decide +kernel
theorem d_174_39 : decode prog_14_method_36_code 39 = .ok (.ifCond .ge 5, 3) := by decide +kernel
theorem d_174_42 : decode prog_14_method_36_code 42 = .ok (.iconst 0, 1) := by decide +kernel
theorem d_174_43 : decode prog_14_method_36_code 43 = .ok (.ireturn, 1) := by decide +kernel
theorem d_174_44 : decode prog_14_method_36_code 44 = .ok (.iload_n 1, 1) := by decide +kernel
theorem d_174_45 : decode prog_14_method_36_code 45 = .ok (.ifCond .ne 12, 3) := by decide +kernel
theorem d_174_48 : decode prog_14_method_36_code 48 = .ok (.iload_n 2, 1) := by decide +kernel
theorem d_174_49 : decode prog_14_method_36_code 49 = .ok (.iconst 2, 1) := by decide +kernel
theorem d_174_50 : decode prog_14_method_36_code 50 = .ok (.if_icmp .ne 7, 3) := by decide +kernel
theorem d_174_53 : decode prog_14_method_36_code 53 = .ok (.iconst 1, 1) := by decide +kernel
theorem d_174_54 : decode prog_14_method_36_code 54 = .ok (.goto 4, 3) := by decide +kernel
theorem d_174_57 : decode prog_14_method_36_code 57 = .ok (.iconst 0, 1) := by decide +kernel
theorem d_174_58 : decode prog_14_method_36_code 58 = .ok (.istore_n 3, 1) := by decide +kernel
theorem d_174_59 : decode prog_14_method_36_code 59 = .ok (.iload_n 1, 1) := by decide +kernel
theorem d_174_60 : decode prog_14_method_36_code 60 = .ok (.ifCond .eq 15, 3) := by decide +kernel
theorem d_174_63 : decode prog_14_method_36_code 63 = .ok (.iload_n 2, 1) := by decide +kernel
theorem d_174_64 : decode prog_14_method_36_code 64 = .ok (.ifCond .ne 7, 3) := by decide +kernel
theorem d_174_67 : decode prog_14_method_36_code 67 = .ok (.iconst 1, 1) := by decide +kernel
theorem d_174_68 : decode prog_14_method_36_code 68 = .ok (.goto 17, 3) := by decide +kernel
theorem d_174_71 : decode prog_14_method_36_code 71 = .ok (.iconst 0, 1) := by decide +kernel
theorem d_174_72 : decode prog_14_method_36_code 72 = .ok (.goto 13, 3) := by decide +kernel
theorem d_174_75 : decode prog_14_method_36_code 75 = .ok (.iload_n 2, 1) := by decide +kernel
theorem d_174_76 : decode prog_14_method_36_code 76 = .ok (.iconst 1, 1) := by decide +kernel
theorem d_174_77 : decode prog_14_method_36_code 77 = .ok (.if_icmp .ne 7, 3) := by decide +kernel
theorem d_174_80 : decode prog_14_method_36_code 80 = .ok (.iconst 1, 1) := by decide +kernel
theorem d_174_81 : decode prog_14_method_36_code 81 = .ok (.goto 4, 3) := by decide +kernel
theorem d_174_84 : decode prog_14_method_36_code 84 = .ok (.iconst 0, 1) := by decide +kernel
theorem d_174_85 : decode prog_14_method_36_code 85 = .ok (.istore_n 1, 1) := by decide +kernel
theorem d_174_86 : decode prog_14_method_36_code 86 = .ok (.aload_n 0, 1) := by decide +kernel
theorem d_174_87 : decode prog_14_method_36_code 87 = .ok (.invokevirtual 209, 3) := by decide +kernel
theorem d_174_90 : decode prog_14_method_36_code 90 = .ok (.iload_n 3, 1) := by decide +kernel
theorem d_174_91 : decode prog_14_method_36_code 91 = .ok (.ifCond .eq 5, 3) := by decide +kernel
theorem d_174_94 : decode prog_14_method_36_code 94 = .ok (.iconst 1, 1) := by decide +kernel
theorem d_174_95 : decode prog_14_method_36_code 95 = .ok (.ireturn, 1) := by decide +kernel
theorem d_174_96 : decode prog_14_method_36_code 96 = .ok (.goto (-74), 3) := by decide +kernel
theorem s_174_96 {Γ : m_G} : m_ok Γ m_tab 174 M_174 96 (g_174_96) := ok_go (pc := 96) (t := 22) d_174_96 rfl (by decide) rfl
theorem s_174_85 {Γ : m_G} : m_ok Γ m_tab 174 M_174 85 (g_174_85) := ok_is_n (pc := 85) d_174_85 rfl (by decide) (ok_al_n (pc := 86) d_174_86 rfl (ok_cvi (pc := 87) (k2 := 164) rfl rfl tb_164 (by decide) (by decide) rfl (go_V d_174_87 w_1105 w_1107 ws_46 w_11 w_1108 nn_164 (by decide) cl_12 rfl) (ok_il_n (pc := 90) d_174_90 rfl (ok_czeq (pc := 91) (t := 96) d_174_91 rfl (by decide) rfl (ok_ic (pc := 94) d_174_94 rfl (ok_rz (pc := 95) d_174_95 rfl))))))
theorem s_174_84 {Γ : m_G} : m_ok Γ m_tab 174 M_174 84 (g_174_84) := ok_ic (pc := 84) d_174_84 rfl (s_174_85)
theorem s_174_75 {Γ : m_G} : m_ok Γ m_tab 174 M_174 75 (g_174_75) := ok_il_n (pc := 75) d_174_75 rfl (ok_ic (pc := 76) d_174_76 rfl (ok_cine (pc := 77) (t := 84) d_174_77 rfl (by decide) rfl (ok_ic (pc := 80) d_174_80 rfl (ok_go (pc := 81) (t := 85) d_174_81 rfl (by decide) rfl))))
theorem s_174_71 {Γ : m_G} : m_ok Γ m_tab 174 M_174 71 (g_174_71) := ok_ic (pc := 71) d_174_71 rfl (ok_go (pc := 72) (t := 85) d_174_72 rfl (by decide) rfl)
theorem s_174_58 {Γ : m_G} : m_ok Γ m_tab 174 M_174 58 (g_174_58) := ok_is_n (pc := 58) d_174_58 rfl (by decide) (ok_il_n (pc := 59) d_174_59 rfl (ok_czeq (pc := 60) (t := 75) d_174_60 rfl (by decide) rfl (ok_il_n (pc := 63) d_174_63 rfl (ok_czne (pc := 64) (t := 71) d_174_64 rfl (by decide) rfl (ok_ic (pc := 67) d_174_67 rfl (ok_go (pc := 68) (t := 85) d_174_68 rfl (by decide) rfl))))))
theorem s_174_57 {Γ : m_G} : m_ok Γ m_tab 174 M_174 57 (g_174_57) := ok_ic (pc := 57) d_174_57 rfl (s_174_58)
theorem s_174_44 {Γ : m_G} : m_ok Γ m_tab 174 M_174 44 (g_174_44) := ok_il_n (pc := 44) d_174_44 rfl (ok_czne (pc := 45) (t := 57) d_174_45 rfl (by decide) rfl (ok_il_n (pc := 48) d_174_48 rfl (ok_ic (pc := 49) d_174_49 rfl (ok_cine (pc := 50) (t := 57) d_174_50 rfl (by decide) rfl (ok_ic (pc := 53) d_174_53 rfl (ok_go (pc := 54) (t := 58) d_174_54 rfl (by decide) rfl))))))
theorem s_174_37 {Γ : m_G} : m_ok Γ m_tab 174 M_174 37 (g_174_37) := ok_is_n (pc := 37) d_174_37 rfl (by decide) (ok_il_n (pc := 38) d_174_38 rfl (ok_czge (pc := 39) (t := 44) d_174_39 rfl (by decide) rfl (ok_ic (pc := 42) d_174_42 rfl (ok_rz (pc := 43) d_174_43 rfl))))
theorem s_174_33 {Γ : m_G} : m_ok Γ m_tab 174 M_174 33 (g_174_33) := ok_al_n (pc := 33) d_174_33 rfl (ok_cai (pc := 34) (k2 := 173) rfl rfl tb_173 (by decide) (by decide) rfl (go_V d_174_34 w_1140 w_1142 ws_54 w_11 w_1143 nn_173 (by decide) cl_12 rfl) (s_174_37))
theorem s_174_22 {Γ : m_G} : m_ok Γ m_tab 174 M_174 22 (g_174_22) := ok_il_n (pc := 22) d_174_22 rfl (ok_czeq (pc := 23) (t := 33) d_174_23 rfl (by decide) rfl (ok_al_n (pc := 26) d_174_26 rfl (ok_cai (pc := 27) (k2 := 171) rfl rfl tb_171 (by decide) (by decide) rfl (go_V d_174_27 w_1124 w_1126 ws_50 w_11 w_1127 nn_171 (by decide) cl_12 rfl) (ok_go (pc := 30) (t := 37) d_174_30 rfl (by decide) rfl))))
theorem s_174_0 {Γ : m_G} : m_ok Γ m_tab 174 M_174 0 (g_174_0) := ok_al_n (pc := 0) d_174_0 rfl (ok_getf (pc := 1) d_174_1 w_928 (hc1 fo_82) (ok_al_n (pc := 4) d_174_4 rfl (ok_getf (pc := 5) d_174_5 w_939 (hc1 fo_81) (ok_ic (pc := 8) d_174_8 rfl (ok_iast (pc := 9) d_174_9 (ok_al_n (pc := 10) d_174_10 rfl (ok_ic (pc := 11) d_174_11 rfl (ok_putf (pc := 12) d_174_12 w_938 (hc1 ⟨_, _, _, tyX12, cl_12, in_12, by decide, rfl, rfl, rfl, tyX12_ok, nmX12, Or.inl rfl⟩) pd_0 vt_I (ok_al_n (pc := 15) d_174_15 rfl (ok_ic (pc := 16) d_174_16 rfl (ok_putf (pc := 17) d_174_17 w_937 (hc1 ⟨_, _, _, tyX12, cl_12, in_12, by decide, rfl, rfl, rfl, tyX12_ok, nmX12, Or.inl rfl⟩) pd_0 vt_I (ok_ic (pc := 20) d_174_20 rfl (ok_is_n (pc := 21) d_174_21 rfl (by decide) (s_174_22))))))))))))))
theorem tst_174 {Γ : m_G} (q : Nat) : m_ts Γ (t_174 q) q := ts_n (ts_n (ts_n (ts_l (k := 174) (pc := 0) tb_174 rfl (by decide) s_174_0) (ts_n (ts_l (k := 174) (pc := 22) tb_174 rfl (by decide) s_174_22) (ts_l (k := 174) (pc := 33) tb_174 rfl (by decide) s_174_33))) (ts_n (ts_l (k := 174) (pc := 37) tb_174 rfl (by decide) s_174_37) (ts_n (ts_l (k := 174) (pc := 44) tb_174 rfl (by decide) s_174_44) (ts_l (k := 174) (pc := 57) tb_174 rfl (by decide) s_174_57)))) (ts_n (ts_n (ts_l (k := 174) (pc := 58) tb_174 rfl (by decide) s_174_58) (ts_n (ts_l (k := 174) (pc := 71) tb_174 rfl (by decide) s_174_71) (ts_l (k := 174) (pc := 75) tb_174 rfl (by decide) s_174_75))) (ts_n (ts_l (k := 174) (pc := 84) tb_174 rfl (by decide) s_174_84) (ts_n (ts_l (k := 174) (pc := 85) tb_174 rfl (by decide) s_174_85) (ts_l (k := 174) (pc := 96) tb_174 rfl (by decide) s_174_96))))
theorem d_175_0 : decode prog_14_method_37_code 0 = .ok (.aload_n 0, 1) := by decide +kernel
theorem d_175_1 : decode prog_14_method_37_code 1 = .ok (.getfield 52, 3) := by decide +kernel
theorem d_175_4 : decode prog_14_method_37_code 4 = .ok (.bipush 6, 2) := by decide +kernel
theorem d_175_6 : decode prog_14_method_37_code 6 = .ok (.if_icmp .ne 6, 3) := by decide +kernel
theorem d_175_9 : decode prog_14_method_37_code 9 = .ok (.bipush (-4), 2) := by decide +kernel
theorem d_175_11 : decode prog_14_method_37_code 11 = .ok (.ireturn, 1) := by decide +kernel
theorem d_175_12 : decode prog_14_method_37_code 12 = .ok (.aload_n 0, 1) := by decide +kernel
theorem d_175_13 : decode prog_14_method_37_code 13 = .ok (.iconst 0, 1) := by decide +kernel
theorem d_175_14 : decode prog_14_method_37_code 14 = .ok (.putfield 151, 3) := by decide +kernel
theorem d_175_17 : decode prog_14_method_37_code 17 = .ok (.aload_n 0, 1) := by decide +kernel
theorem d_175_18 : decode prog_14_method_37_code 18 = .ok (.invokevirtual 209, 3) := by decide +kernel
theorem d_175_21 : decode prog_14_method_37_code 21 = .ok (.iconst 1, 1) := by decide +kernel
theorem d_175_22 : decode prog_14_method_37_code 22 = .ok (.istore_n 1, 1) := by decide +kernel
theorem d_175_23 : decode prog_14_method_37_code 23 = .ok (.iconst 0, 1) := by decide +kernel
theorem d_175_24 : decode prog_14_method_37_code 24 = .ok (.istore_n 2, 1) := by decide +kernel
theorem d_175_25 : decode prog_14_method_37_code 25 = .ok (.iload_n 2, 1) := by decide +kernel
theorem d_175_26 : decode prog_14_method_37_code 26 = .ok (.iconst 3, 1) := by decide +kernel
theorem d_175_27 : decode prog_14_method_37_code 27 = .ok (.if_icmp .ge 67, 3) := by decide +kernel
theorem d_175_30 : decode prog_14_method_37_code 30 = .ok (.iload_n 1, 1) := by decide +kernel
theorem d_175_31 : decode prog_14_method_37_code 31 = .ok (.ifCond .eq 63, 3) := by decide +kernel
theorem d_175_34 : decode prog_14_method_37_code 34 = .ok (.aload_n 0, 1) := by decide +kernel
theorem d_175_35 : decode prog_14_method_37_code 35 = .ok (.getfield 160, 3) := by decide +kernel
theorem d_175_38 : decode prog_14_method_37_code 38 = .ok (.bipush 101, 2) := by decide +kernel
theorem d_175_40 : decode prog_14_method_37_code 40 = .ok (.if_icmp .ne 18, 3) := by decide +kernel
theorem d_175_43 : decode prog_14_method_37_code 43 = .ok (.aload_n 0, 1) := by decide +kernel
theorem d_175_44 : decode prog_14_method_37_code 44 = .ok (.getfield 163, 3) := by decide +kernel
theorem d_175_47 : decode prog_14_method_37_code 47 = .ok (.bipush 6, 2) := by decide +kernel
theorem d_175_49 : decode prog_14_method_37_code 49 = .ok (.iload_n 2, 1) := by decide +kernel
theorem d_175_50 : decode prog_14_method_37_code 50 = .ok (.iadd, 1) := by decide +kernel
theorem d_175_51 : decode prog_14_method_37_code 51 = .ok (.if_icmp .ne 7, 3) := by decide +kernel
theorem d_175_54 : decode prog_14_method_37_code 54 = .ok (.iconst 1, 1) := by decide +kernel
theorem d_175_55 : decode prog_14_method_37_code 55 = .ok (.goto 4, 3) := by decide +kernel
theorem d_175_58 : decode prog_14_method_37_code 58 = .ok (.iconst 0, 1) := by decide +kernel
theorem d_175_59 : decode prog_14_method_37_code 59 = .ok (.istore_n 1, 1) := by decide +kernel
theorem d_175_60 : decode prog_14_method_37_code 60 = .ok (.iload_n 1, 1) := by decide +kernel
theorem d_175_61 : decode prog_14_method_37_code 61 = .ok (.ifCond .ne 6, 3) := by decide +kernel
theorem d_175_64 : decode prog_14_method_37_code 64 = .ok (.goto 24, 3) := by decide +kernel
theorem d_175_67 : decode prog_14_method_37_code 67 = .ok (.aload_n 0, 1) := by decide +kernel
theorem d_175_68 : decode prog_14_method_37_code 68 = .ok (.invokevirtual 209, 3) := by decide +kernel
theorem d_175_71 : decode prog_14_method_37_code 71 = .ok (.aload_n 0, 1) := by decide +kernel
theorem d_175_72 : decode prog_14_method_37_code 72 = .ok (.iconst 3, 1) := by decide +kernel
theorem d_175_73 : decode prog_14_method_37_code 73 = .ok (.aload_n 0, 1) := by decide +kernel
theorem d_175_74 : decode prog_14_method_37_code 74 = .ok (.getfield 52, 3) := by decide +kernel
theorem d_175_77 : decode prog_14_method_37_code 77 = .ok (.imul, 1) := by decide +kernel
theorem d_175_78 : decode prog_14_method_37_code 78 = .ok (.iload_n 2, 1) := by decide +kernel
theorem d_175_79 : decode prog_14_method_37_code 79 = .ok (.iadd, 1) := by decide +kernel
theorem d_175_80 : decode prog_14_method_37_code 80 = .ok (.putfield 141, 3) := by decide +kernel
theorem d_175_83 : decode prog_14_method_37_code 83 = .ok (.aload_n 0, 1) := by decide +kernel
theorem d_175_84 : decode prog_14_method_37_code 84 = .ok (.invokevirtual 212, 3) := by decide +kernel
theorem d_175_87 : decode prog_14_method_37_code 87 = .ok (.istore_n 1, 1) := by decide +kernel
theorem d_175_88 : decode prog_14_method_37_code 88 = .ok (.iinc 2 1, 3) := by decide +kernel
theorem d_175_91 : decode prog_14_method_37_code 91 = .ok (.goto (-66), 3) := by decide +kernel
theorem d_175_94 : decode prog_14_method_37_code 94 = .ok (.iload_n 1, 1) := by decide +kernel
theorem d_175_95 : decode prog_14_method_37_code 95 = .ok (.ifCond .eq 16, 3) := by decide +kernel
theorem d_175_98 : decode prog_14_method_37_code 98 = .ok (.aload_n 0, 1) := by decide +kernel
theorem d_175_99 : decode prog_14_method_37_code 99 = .ok (.getfield 160, 3) := by decide +kernel
theorem d_175_102 : decode prog_14_method_37_code 102 = .ok (.bipush 103, 2) := by decide +kernel
theorem d_175_104 : decode prog_14_method_37_code 104 = .ok (.if_icmp .ne 7, 3) := by decide +kernel
theorem d_175_107 : decode prog_14_method_37_code 107 = .ok (.iconst 1, 1) := by decide +kernel
theorem d_175_108 : decode prog_14_method_37_code 108 = .ok (.goto 4, 3) := by decide +kernel
theorem d_175_111 : decode prog_14_method_37_code 111 = .ok (.iconst 0, 1) := by decide +kernel
theorem d_175_112 : decode prog_14_method_37_code 112 = .ok (.istore_n 1, 1) := by decide +kernel
theorem d_175_113 : decode prog_14_method_37_code 113 = .ok (.aload_n 0, 1) := by decide +kernel
theorem d_175_114 : decode prog_14_method_37_code 114 = .ok (.getfield 154, 3) := by decide +kernel
theorem d_175_117 : decode prog_14_method_37_code 117 = .ok (.istore_n 2, 1) := by decide +kernel
theorem d_175_118 : decode prog_14_method_37_code 118 = .ok (.aload_n 0, 1) := by decide +kernel
theorem d_175_119 : decode prog_14_method_37_code 119 = .ok (.iconst 0, 1) := by decide +kernel
theorem d_175_120 : decode prog_14_method_37_code 120 = .ok (.putfield 148, 3) := by decide +kernel
theorem d_175_123 : decode prog_14_method_37_code 123 = .ok (.iload_n 1, 1) := by decide +kernel
theorem d_175_124 : decode prog_14_method_37_code 124 = .ok (.ifCond .ne 8, 3) := by decide +kernel
theorem d_175_127 : decode prog_14_method_37_code 127 = .ok (.bipush (-100), 2) := by decide +kernel
theorem d_175_129 : decode prog_14_method_37_code 129 = .ok (.iload_n 2, 1) := by decide +kernel
theorem d_175_130 : decode prog_14_method_37_code 130 = .ok (.isub, 1) := by decide +kernel
theorem d_175_131 : decode prog_14_method_37_code 131 = .ok (.ireturn, 1) := by decide +kernel
theorem d_175_132 : decode prog_14_method_37_code 132 = .ok (.aload_n 0, 1) := by decide +kernel
theorem d_175_133 : decode prog_14_method_37_code 133 = .ok (.dup, 1) := by decide +kernel
theorem d_175_134 : decode prog_14_method_37_code 134 = .ok (.getfield 52, 3) := by decide +kernel
theorem d_175_137 : decode prog_14_method_37_code 137 = .ok (.iconst 1, 1) := by decide +kernel
theorem d_175_138 : decode prog_14_method_37_code 138 = .ok (.iadd, 1) := by decide +kernel
theorem d_175_139 : decode prog_14_method_37_code 139 = .ok (.putfield 52, 3) := by decide +kernel
theorem d_175_142 : decode prog_14_method_37_code 142 = .ok (.aload_n 0, 1) := by decide +kernel
theorem d_175_143 : decode prog_14_method_37_code 143 = .ok (.getfield 52, 3) := by decide +kernel
theorem d_175_146 : decode prog_14_method_37_code 146 = .ok (.iconst 1, 1) := by decide +kernel
theorem d_175_147 : decode prog_14_method_37_code 147 = .ok (.isub, 1) := by decide +kernel
theorem d_175_148 : decode prog_14_method_37_code 148 = .ok (.ireturn, 1) := by decide +kernel
theorem s_175_132 {Γ : m_G} : m_ok Γ m_tab 175 M_175 132 (g_175_132) := ok_al_n (pc := 132) d_175_132 rfl (ok_dup (pc := 133) d_175_133 (ok_getf (pc := 134) d_175_134 w_932 (hc1 fo_94) (ok_ic (pc := 137) d_175_137 rfl (ok_add (pc := 138) d_175_138 (ok_putf (pc := 139) d_175_139 w_932 (hc1 ⟨_, _, _, tyX12, cl_12, in_12, by decide, rfl, rfl, rfl, tyX12_ok, nmX12, Or.inl rfl⟩) pd_0 vt_I (ok_al_n (pc := 142) d_175_142 rfl (ok_getf (pc := 143) d_175_143 w_932 (hc1 fo_94) (ok_ic (pc := 146) d_175_146 rfl (ok_sub (pc := 147) d_175_147 (ok_ri (pc := 148) d_175_148 rfl))))))))))
theorem s_175_112 {Γ : m_G} : m_ok Γ m_tab 175 M_175 112 (g_175_112) := ok_is_n (pc := 112) d_175_112 rfl (by decide) (ok_al_n (pc := 113) d_175_113 rfl (ok_getf (pc := 114) d_175_114 w_935 (hc1 fo_87) (ok_is_n (pc := 117) d_175_117 rfl (by decide) (ok_al_n (pc := 118) d_175_118 rfl (ok_ic (pc := 119) d_175_119 rfl (ok_putf (pc := 120) d_175_120 w_931 (hc1 ⟨_, _, _, tyX12, cl_12, in_12, by decide, rfl, rfl, rfl, tyX12_ok, nmX12, Or.inl rfl⟩) pd_0 vt_I (ok_il_n (pc := 123) d_175_123 rfl (ok_czne (pc := 124) (t := 132) d_175_124 rfl (by decide) rfl (ok_bi (pc := 127) d_175_127 rfl (ok_il_n (pc := 129) d_175_129 rfl (ok_sub (pc := 130) d_175_130 (ok_ri (pc := 131) d_175_131 rfl))))))))))))
theorem s_175_111 {Γ : m_G} : m_ok Γ m_tab 175 M_175 111 (g_175_111) := ok_ic (pc := 111) d_175_111 rfl (s_175_112)
theorem s_175_94 {Γ : m_G} : m_ok Γ m_tab 175 M_175 94 (g_175_94) := ok_il_n (pc := 94) d_175_94 rfl (ok_czeq (pc := 95) (t := 111) d_175_95 rfl (by decide) rfl (ok_al_n (pc := 98) d_175_98 rfl (ok_getf (pc := 99) d_175_99 w_934 (hc1 fo_93) (ok_bi (pc := 102) d_175_102 rfl (ok_cine (pc := 104) (t := 111) d_175_104 rfl (by decide) rfl (ok_ic (pc := 107) d_175_107 rfl (ok_go (pc := 108) (t := 112) d_175_108 rfl (by decide) rfl)))))))
theorem s_175_88 {Γ : m_G} : m_ok Γ m_tab 175 M_175 88 (g_175_88) := ok_inc (pc := 88) d_175_88 rfl (by decide) (ok_go (pc := 91) (t := 25) d_175_91 rfl (by decide) rfl)
theorem s_175_67 {Γ : m_G} : m_ok Γ m_tab 175 M_175 67 (g_175_67) := ok_al_n (pc := 67) d_175_67 rfl (ok_cvi (pc := 68) (k2 := 164) rfl rfl tb_164 (by decide) (by decide) rfl (go_V d_175_68 w_1105 w_1107 ws_46 w_11 w_1108 nn_164 (by decide) cl_12 rfl) (ok_al_n (pc := 71) d_175_71 rfl (ok_ic (pc := 72) d_175_72 rfl (ok_al_n (pc := 73) d_175_73 rfl (ok_getf (pc := 74) d_175_74 w_932 (hc1 fo_94) (ok_mul (pc := 77) d_175_77 (ok_il_n (pc := 78) d_175_78 rfl (ok_add (pc := 79) d_175_79 (ok_putf (pc := 80) d_175_80 w_939 (hc1 ⟨_, _, _, tyX12, cl_12, in_12, by decide, rfl, rfl, rfl, tyX12_ok, nmX12, Or.inl rfl⟩) pd_0 vt_I (ok_al_n (pc := 83) d_175_83 rfl (ok_cai (pc := 84) (k2 := 174) rfl rfl tb_174 (by decide) (by decide) rfl (go_V d_175_84 w_1120 w_1122 ws_49 w_11 w_1123 nn_174 (by decide) cl_12 rfl) (ok_is_n (pc := 87) d_175_87 rfl (by decide) (s_175_88)))))))))))))
theorem s_175_59 {Γ : m_G} : m_ok Γ m_tab 175 M_175 59 (g_175_59) := ok_is_n (pc := 59) d_175_59 rfl (by decide) (ok_il_n (pc := 60) d_175_60 rfl (ok_czne (pc := 61) (t := 67) d_175_61 rfl (by decide) rfl (ok_go (pc := 64) (t := 88) d_175_64 rfl (by decide) rfl)))
theorem s_175_58 {Γ : m_G} : m_ok Γ m_tab 175 M_175 58 (g_175_58) := ok_ic (pc := 58) d_175_58 rfl (s_175_59)
theorem s_175_25 {Γ : m_G} : m_ok Γ m_tab 175 M_175 25 (g_175_25) := ok_il_n (pc := 25) d_175_25 rfl (ok_ic (pc := 26) d_175_26 rfl (ok_cige (pc := 27) (t := 94) d_175_27 rfl (by decide) rfl (ok_il_n (pc := 30) d_175_30 rfl (ok_czeq (pc := 31) (t := 94) d_175_31 rfl (by decide) rfl (ok_al_n (pc := 34) d_175_34 rfl (ok_getf (pc := 35) d_175_35 w_934 (hc1 fo_93) (ok_bi (pc := 38) d_175_38 rfl (ok_cine (pc := 40) (t := 58) d_175_40 rfl (by decide) rfl (ok_al_n (pc := 43) d_175_43 rfl (ok_getf (pc := 44) d_175_44 w_936 (hc1 fo_89) (ok_bi (pc := 47) d_175_47 rfl (ok_il_n (pc := 49) d_175_49 rfl (ok_add (pc := 50) d_175_50 (ok_cine (pc := 51) (t := 58) d_175_51 rfl (by decide) rfl (ok_ic (pc := 54) d_175_54 rfl (ok_go (pc := 55) (t := 59) d_175_55 rfl (by decide) rfl))))))))))))))))
theorem s_175_12 {Γ : m_G} : m_ok Γ m_tab 175 M_175 12 (g_175_12) := ok_al_n (pc := 12) d_175_12 rfl (ok_ic (pc := 13) d_175_13 rfl (ok_putf (pc := 14) d_175_14 w_933 (hc1 ⟨_, _, _, tyX12, cl_12, in_12, by decide, rfl, rfl, rfl, tyX12_ok, nmX12, Or.inl rfl⟩) pd_0 vt_I (ok_al_n (pc := 17) d_175_17 rfl (ok_cvi (pc := 18) (k2 := 164) rfl rfl tb_164 (by decide) (by decide) rfl (go_V d_175_18 w_1105 w_1107 ws_46 w_11 w_1108 nn_164 (by decide) cl_12 rfl) (ok_ic (pc := 21) d_175_21 rfl (ok_is_n (pc := 22) d_175_22 rfl (by decide) (ok_ic (pc := 23) d_175_23 rfl (ok_is_n (pc := 24) d_175_24 rfl (by decide) (s_175_25)))))))))
theorem s_175_0 {Γ : m_G} : m_ok Γ m_tab 175 M_175 0 (g_175_0) := ok_al_n (pc := 0) d_175_0 rfl (ok_getf (pc := 1) d_175_1 w_932 (hc1 fo_94) (ok_bi (pc := 4) d_175_4 rfl (ok_cine (pc := 6) (t := 12) d_175_6 rfl (by decide) rfl (ok_bi (pc := 9) d_175_9 rfl (ok_ri (pc := 11) d_175_11 rfl)))))
theorem tst_175 {Γ : m_G} (q : Nat) : m_ts Γ (t_175 q) q := ts_n (ts_n (ts_n (ts_l (k := 175) (pc := 0) tb_175 rfl (by decide) s_175_0) (ts_l (k := 175) (pc := 12) tb_175 rfl (by decide) s_175_12)) (ts_n (ts_l (k := 175) (pc := 25) tb_175 rfl (by decide) s_175_25) (ts_n (ts_l (k := 175) (pc := 58) tb_175 rfl (by decide) s_175_58) (ts_l (k := 175) (pc := 59) tb_175 rfl (by decide) s_175_59)))) (ts_n (ts_n (ts_l (k := 175) (pc := 67) tb_175 rfl (by decide) s_175_67) (ts_n (ts_l (k := 175) (pc := 88) tb_175 rfl (by decide) s_175_88) (ts_l (k := 175) (pc := 94) tb_175 rfl (by decide) s_175_94))) (ts_n (ts_l (k := 175) (pc := 111) tb_175 rfl (by decide) s_175_111) (ts_n (ts_l (k := 175) (pc := 112) tb_175 rfl (by decide) s_175_112) (ts_l (k := 175) (pc := 132) tb_175 rfl (by decide) s_175_132))))
theorem d_176_0 : decode prog_14_method_38_code 0 = .ok (.iload_n 1, 1) := by decide +kernel
theorem d_176_1 : decode prog_14_method_38_code 1 = .ok (.iconst 0, 1) := by decide +kernel
theorem d_176_2 : decode prog_14_method_38_code 2 = .ok (.aload_n 0, 1) := by decide +kernel
theorem d_176_3 : decode prog_14_method_38_code 3 = .ok (.getfield 52, 3) := by decide +kernel
theorem d_176_6 : decode prog_14_method_38_code 6 = .ok (.iconst 1, 1) := by decide +kernel
theorem d_176_7 : decode prog_14_method_38_code 7 = .ok (.isub, 1) := by decide +kernel
theorem d_176_8 : decode prog_14_method_38_code 8 = .ok (.invokestatic 112, 3) := by decide +kernel
theorem d_176_11 : decode prog_14_method_38_code 11 = .ok (.ifCond .ne 6, 3) := by decide +kernel
theorem d_176_14 : decode prog_14_method_38_code 14 = .ok (.bipush (-2), 2) := by decide +kernel
theorem d_176_16 : decode prog_14_method_38_code 16 = .ok (.ireturn, 1) := by decide +kernel
theorem d_176_17 : decode prog_14_method_38_code 17 = .ok (.aload_n 0, 1) := by decide +kernel
theorem d_176_18 : decode prog_14_method_38_code 18 = .ok (.getfield 215, 3) := by decide +kernel
theorem d_176_21 : decode prog_14_method_38_code 21 = .ok (.istore_n 2, 1) := by decide +kernel
theorem d_176_22 : decode prog_14_method_38_code 22 = .ok (.aload_n 0, 1) := by decide +kernel
theorem d_176_23 : decode prog_14_method_38_code 23 = .ok (.iload_n 1, 1) := by decide +kernel
theorem d_176_24 : decode prog_14_method_38_code 24 = .ok (.putfield 215, 3) := by decide +kernel
theorem d_176_27 : decode prog_14_method_38_code 27 = .ok (.iload_n 2, 1) := by decide +kernel
theorem d_176_28 : decode prog_14_method_38_code 28 = .ok (.ireturn, 1) := by decide +kernel
theorem s_176_17 {Γ : m_G} : m_ok Γ m_tab 176 M_176 17 (g_176_17) := ok_al_n (pc := 17) d_176_17 rfl (ok_getf (pc := 18) d_176_18 w_923 (hc1 fo_95) (ok_is_n (pc := 21) d_176_21 rfl (by decide) (ok_al_n (pc := 22) d_176_22 rfl (ok_il_n (pc := 23) d_176_23 rfl (ok_putf (pc := 24) d_176_24 w_923 (hc1 ⟨_, _, _, tyX12, cl_12, in_12, by decide, rfl, rfl, rfl, tyX12_ok, nmX12, Or.inl rfl⟩) pd_0 vt_I (ok_il_n (pc := 27) d_176_27 rfl (ok_ri (pc := 28) d_176_28 rfl)))))))
theorem s_176_0 {Γ : m_G} : m_ok Γ m_tab 176 M_176 0 (g_176_0) := ok_il_n (pc := 0) d_176_0 rfl (ok_ic (pc := 1) d_176_1 rfl (ok_al_n (pc := 2) d_176_2 rfl (ok_getf (pc := 3) d_176_3 w_932 (hc1 fo_94) (ok_ic (pc := 6) d_176_6 rfl (ok_sub (pc := 7) d_176_7 (ok_cat (pc := 8) (k2 := 140) rfl tb_140 (by decide) (by decide) rfl (go_S d_176_8 w_1044 w_1045 w_11 w_1046 nn_140 (by decide)) (ok_czne (pc := 11) (t := 17) d_176_11 rfl (by decide) rfl (ok_bi (pc := 14) d_176_14 rfl (ok_ri (pc := 16) d_176_16 rfl)))))))))
theorem tst_176 {Γ : m_G} (q : Nat) : m_ts Γ (t_176 q) q := ts_n (ts_l (k := 176) (pc := 0) tb_176 rfl (by decide) s_176_0) (ts_l (k := 176) (pc := 17) tb_176 rfl (by decide) s_176_17)
theorem d_177_0 : decode prog_14_method_39_code 0 = .ok (.iconst 0, 1) := by decide +kernel
theorem d_177_1 : decode prog_14_method_39_code 1 = .ok (.istore_n 1, 1) := by decide +kernel
theorem d_177_2 : decode prog_14_method_39_code 2 = .ok (.iconst 0, 1) := by decide +kernel
theorem d_177_3 : decode prog_14_method_39_code 3 = .ok (.istore_n 2, 1) := by decide +kernel
theorem d_177_4 : decode prog_14_method_39_code 4 = .ok (.iload_n 2, 1) := by decide +kernel
theorem d_177_5 : decode prog_14_method_39_code 5 = .ok (.bipush 31, 2) := by decide +kernel
theorem d_177_7 : decode prog_14_method_39_code 7 = .ok (.if_icmp .ge 17, 3) := by decide +kernel
theorem d_177_10 : decode prog_14_method_39_code 10 = .ok (.iload_n 1, 1) := by decide +kernel
theorem d_177_11 : decode prog_14_method_39_code 11 = .ok (.iload_n 0, 1) := by decide +kernel
theorem d_177_12 : decode prog_14_method_39_code 12 = .ok (.iload_n 2, 1) := by decide +kernel
theorem d_177_13 : decode prog_14_method_39_code 13 = .ok (.ishr, 1) := by decide +kernel
theorem d_177_14 : decode prog_14_method_39_code 14 = .ok (.iconst 1, 1) := by decide +kernel
theorem d_177_15 : decode prog_14_method_39_code 15 = .ok (.iand, 1) := by decide +kernel
theorem d_177_16 : decode prog_14_method_39_code 16 = .ok (.iadd, 1) := by decide +kernel
theorem d_177_17 : decode prog_14_method_39_code 17 = .ok (.istore_n 1, 1) := by decide +kernel
theorem d_177_18 : decode prog_14_method_39_code 18 = .ok (.iinc 2 1, 3) := by decide +kernel
theorem d_177_21 : decode prog_14_method_39_code 21 = .ok (.goto (-17), 3) := by decide +kernel
theorem d_177_24 : decode prog_14_method_39_code 24 = .ok (.iload_n 1, 1) := by decide +kernel
theorem d_177_25 : decode prog_14_method_39_code 25 = .ok (.ireturn, 1) := by decide +kernel
theorem s_177_24 {Γ : m_G} : m_ok Γ m_tab 177 M_177 24 (g_177_24) := ok_il_n (pc := 24) d_177_24 rfl (ok_ri (pc := 25) d_177_25 rfl)
theorem s_177_4 {Γ : m_G} : m_ok Γ m_tab 177 M_177 4 (g_177_4) := ok_il_n (pc := 4) d_177_4 rfl (ok_bi (pc := 5) d_177_5 rfl (ok_cige (pc := 7) (t := 24) d_177_7 rfl (by decide) rfl (ok_il_n (pc := 10) d_177_10 rfl (ok_il_n (pc := 11) d_177_11 rfl (ok_il_n (pc := 12) d_177_12 rfl (ok_shr (pc := 13) d_177_13 (ok_ic (pc := 14) d_177_14 rfl (ok_and (pc := 15) d_177_15 (ok_add (pc := 16) d_177_16 (ok_is_n (pc := 17) d_177_17 rfl (by decide) (ok_inc (pc := 18) d_177_18 rfl (by decide) (ok_go (pc := 21) (t := 4) d_177_21 rfl (by decide) rfl))))))))))))
theorem s_177_0 {Γ : m_G} : m_ok Γ m_tab 177 M_177 0 (g_177_0) := ok_ic (pc := 0) d_177_0 rfl (ok_is_n (pc := 1) d_177_1 rfl (by decide) (ok_ic (pc := 2) d_177_2 rfl (ok_is_n (pc := 3) d_177_3 rfl (by decide) (s_177_4))))
theorem tst_177 {Γ : m_G} (q : Nat) : m_ts Γ (t_177 q) q := ts_n (ts_l (k := 177) (pc := 0) tb_177 rfl (by decide) s_177_0) (ts_n (ts_l (k := 177) (pc := 4) tb_177 rfl (by decide) s_177_4) (ts_l (k := 177) (pc := 24) tb_177 rfl (by decide) s_177_24))
theorem d_178_0 : decode prog_14_method_40_code 0 = .ok (.iload_n 1, 1) := by decide +kernel
theorem d_178_1 : decode prog_14_method_40_code 1 = .ok (.tableswitch 64 0 4 #[35, 37, 40, 50, 55], 35) := by decide +kernel
theorem d_178_36 : decode prog_14_method_40_code 36 = .ok (.iload_n 3, 1) := by decide +kernel
theorem d_178_37 : decode prog_14_method_40_code 37 = .ok (.ireturn, 1) := by decide +kernel
theorem d_178_38 : decode prog_14_method_40_code 38 = .ok (.iload 4, 2) := by decide +kernel
theorem d_178_40 : decode prog_14_method_40_code 40 = .ok (.ireturn, 1) := by decide +kernel
theorem d_178_41 : decode prog_14_method_40_code 41 = .ok (.aload_n 0, 1) := by decide +kernel
theorem d_178_42 : decode prog_14_method_40_code 42 = .ok (.getfield 7, 3) := by decide +kernel
theorem d_178_45 : decode prog_14_method_40_code 45 = .ok (.iload_n 2, 1) := by decide +kernel
theorem d_178_46 : decode prog_14_method_40_code 46 = .ok (.iaload, 1) := by decide +kernel
theorem d_178_47 : decode prog_14_method_40_code 47 = .ok (.invokestatic 218, 3) := by decide +kernel
theorem d_178_50 : decode prog_14_method_40_code 50 = .ok (.ireturn, 1) := by decide +kernel
theorem d_178_51 : decode prog_14_method_40_code 51 = .ok (.aload_n 0, 1) := by decide +kernel
theorem d_178_52 : decode prog_14_method_40_code 52 = .ok (.getfield 98, 3) := by decide +kernel
theorem d_178_55 : decode prog_14_method_40_code 55 = .ok (.ireturn, 1) := by decide +kernel
theorem d_178_56 : decode prog_14_method_40_code 56 = .ok (.aload_n 0, 1) := by decide +kernel
theorem d_178_57 : decode prog_14_method_40_code 57 = .ok (.getfield 101, 3) := by decide +kernel
theorem d_178_60 : decode prog_14_method_40_code 60 = .ok (.iload_n 2, 1) := by decide +kernel
theorem d_178_61 : decode prog_14_method_40_code 61 = .ok (.ishr, 1) := by decide +kernel
theorem d_178_62 : decode prog_14_method_40_code 62 = .ok (.iconst 1, 1) := by decide +kernel
theorem d_178_63 : decode prog_14_method_40_code 63 = .ok (.iand, 1) := by decide +kernel
theorem d_178_64 : decode prog_14_method_40_code 64 = .ok (.ireturn, 1) := by decide +kernel
theorem d_178_65 : decode prog_14_method_40_code 65 = .ok (.iload_n 2, 1) := by decide +kernel
theorem d_178_66 : decode prog_14_method_40_code 66 = .ok (.ireturn, 1) := by decide +kernel
theorem s_178_65 {Γ : m_G} : m_ok Γ m_tab 178 M_178 65 (g_178_65) := ok_il_n (pc := 65) d_178_65 rfl (ok_ri (pc := 66) d_178_66 rfl)
theorem s_178_56 {Γ : m_G} : m_ok Γ m_tab 178 M_178 56 (g_178_56) := ok_al_n (pc := 56) d_178_56 rfl (ok_getf (pc := 57) d_178_57 w_921 (hc1 fo_76) (ok_il_n (pc := 60) d_178_60 rfl (ok_shr (pc := 61) d_178_61 (ok_ic (pc := 62) d_178_62 rfl (ok_and (pc := 63) d_178_63 (ok_ri (pc := 64) d_178_64 rfl))))))
theorem s_178_51 {Γ : m_G} : m_ok Γ m_tab 178 M_178 51 (g_178_51) := ok_al_n (pc := 51) d_178_51 rfl (ok_getf (pc := 52) d_178_52 w_920 (hc1 fo_77) (ok_ri (pc := 55) d_178_55 rfl))
theorem s_178_41 {Γ : m_G} : m_ok Γ m_tab 178 M_178 41 (g_178_41) := ok_al_n (pc := 41) d_178_41 rfl (ok_getf (pc := 42) d_178_42 w_913 (hc1 fo_73) (ok_il_n (pc := 45) d_178_45 rfl (ok_iald (pc := 46) d_178_46 (ok_cat (pc := 47) (k2 := 177) rfl tb_177 (by decide) (by decide) rfl (go_S d_178_47 w_1210 w_1211 w_11 w_1212 nn_177 (by decide)) (ok_ri (pc := 50) d_178_50 rfl)))))
theorem s_178_38 {Γ : m_G} : m_ok Γ m_tab 178 M_178 38 (g_178_38) := ok_il (pc := 38) d_178_38 (ok_ri (pc := 40) d_178_40 rfl)
theorem s_178_36 {Γ : m_G} : m_ok Γ m_tab 178 M_178 36 (g_178_36) := ok_il_n (pc := 36) d_178_36 rfl (ok_ri (pc := 37) d_178_37 rfl)
theorem s_178_0 {Γ : m_G} : m_ok Γ m_tab 178 M_178 0 (g_178_0) := ok_il_n (pc := 0) d_178_0 rfl (ok_tsw (pc := 1) d_178_1 rfl rfl (by decide +kernel) (by decide +kernel) (by decide) (by decide) (by decide +kernel) (by decide))
theorem tst_178 {Γ : m_G} (q : Nat) : m_ts Γ (t_178 q) q := ts_n (ts_n (ts_l (k := 178) (pc := 0) tb_178 rfl (by decide) s_178_0) (ts_n (ts_l (k := 178) (pc := 36) tb_178 rfl (by decide) s_178_36) (ts_l (k := 178) (pc := 38) tb_178 rfl (by decide) s_178_38))) (ts_n (ts_n (ts_l (k := 178) (pc := 41) tb_178 rfl (by decide) s_178_41) (ts_l (k := 178) (pc := 51) tb_178 rfl (by decide) s_178_51)) (ts_n (ts_l (k := 178) (pc := 56) tb_178 rfl (by decide) s_178_56) (ts_l (k := 178) (pc := 65) tb_178 rfl (by decide) s_178_65)))
theorem d_179_0 : decode prog_14_method_41_code 0 = .ok (.iload_n 0, 1) := by decide +kernel
theorem d_179_1 : decode prog_14_method_41_code 1 = .ok (.tableswitch 87 1 6 #[39, 43, 47, 51, 62, 73], 39) := by decide +kernel
theorem d_179_40 : decode prog_14_method_41_code 40 = .ok (.iload_n 1, 1) := by decide +kernel
theorem d_179_41 : decode prog_14_method_41_code 41 = .ok (.iload_n 2, 1) := by decide +kernel
theorem d_179_42 : decode prog_14_method_41_code 42 = .ok (.iadd, 1) := by decide +kernel
theorem d_179_43 : decode prog_14_method_41_code 43 = .ok (.ireturn, 1) := by decide +kernel
theorem d_179_44 : decode prog_14_method_41_code 44 = .ok (.iload_n 1, 1) := by decide +kernel
theorem d_179_45 : decode prog_14_method_41_code 45 = .ok (.iload_n 2, 1) := by decide +kernel
theorem d_179_46 : decode prog_14_method_41_code 46 = .ok (.isub, 1) := by decide +kernel
theorem d_179_47 : decode prog_14_method_41_code 47 = .ok (.ireturn, 1) := by decide +kernel
theorem d_179_48 : decode prog_14_method_41_code 48 = .ok (.iload_n 1, 1) := by decide +kernel
theorem d_179_49 : decode prog_14_method_41_code 49 = .ok (.iload_n 2, 1) := by decide +kernel
theorem d_179_50 : decode prog_14_method_41_code 50 = .ok (.imul, 1) := by decide +kernel
theorem d_179_51 : decode prog_14_method_41_code 51 = .ok (.ireturn, 1) := by decide +kernel
theorem d_179_52 : decode prog_14_method_41_code 52 = .ok (.iload_n 1, 1) := by decide +kernel
theorem d_179_53 : decode prog_14_method_41_code 53 = .ok (.iload_n 2, 1) := by decide +kernel
theorem d_179_54 : decode prog_14_method_41_code 54 = .ok (.if_icmp .ge 7, 3) := by decide +kernel
theorem d_179_57 : decode prog_14_method_41_code 57 = .ok (.iconst 1, 1) := by decide +kernel
theorem d_179_58 : decode prog_14_method_41_code 58 = .ok (.goto 4, 3) := by decide +kernel
theorem d_179_61 : decode prog_14_method_41_code 61 = .ok (.iconst 0, 1) := by decide +kernel
theorem d_179_62 : decode prog_14_method_41_code 62 = .ok (.ireturn, 1) := by decide +kernel
theorem d_179_63 : decode prog_14_method_41_code 63 = .ok (.iload_n 1, 1) := by decide +kernel
theorem d_179_64 : decode prog_14_method_41_code 64 = .ok (.iload_n 2, 1) := by decide +kernel
theorem d_179_65 : decode prog_14_method_41_code 65 = .ok (.if_icmp .ne 7, 3) := by decide +kernel
theorem d_179_68 : decode prog_14_method_41_code 68 = .ok (.iconst 1, 1) := by decide +kernel
theorem d_179_69 : decode prog_14_method_41_code 69 = .ok (.goto 4, 3) := by decide +kernel
theorem d_179_72 : decode prog_14_method_41_code 72 = .ok (.iconst 0, 1) := by decide +kernel
theorem d_179_73 : decode prog_14_method_41_code 73 = .ok (.ireturn, 1) := by decide +kernel
theorem d_179_74 : decode prog_14_method_41_code 74 = .ok (.iload_n 1, 1) := by decide +kernel
theorem d_179_75 : decode prog_14_method_41_code 75 = .ok (.ifCond .eq 11, 3) := by decide +kernel
theorem d_179_78 : decode prog_14_method_41_code 78 = .ok (.iload_n 2, 1) := by decide +kernel
theorem d_179_79 : decode prog_14_method_41_code 79 = .ok (.ifCond .eq 7, 3) := by decide +kernel
theorem d_179_82 : decode prog_14_method_41_code 82 = .ok (.iconst 1, 1) := by decide +kernel
theorem d_179_83 : decode prog_14_method_41_code 83 = .ok (.goto 4, 3) := by decide +kernel
theorem d_179_86 : decode prog_14_method_41_code 86 = .ok (.iconst 0, 1) := by decide +kernel
theorem d_179_87 : decode prog_14_method_41_code 87 = .ok (.ireturn, 1) := by decide +kernel
theorem d_179_88 : decode prog_14_method_41_code 88 = .ok (.iload_n 1, 1) := by decide +kernel
theorem d_179_89 : decode prog_14_method_41_code 89 = .ok (.ifCond .ne 7, 3) := by decide +kernel
theorem d_179_92 : decode prog_14_method_41_code 92 = .ok (.iload_n 2, 1) := by decide +kernel
theorem d_179_93 : decode prog_14_method_41_code 93 = .ok (.ifCond .eq 7, 3) := by decide +kernel
theorem d_179_96 : decode prog_14_method_41_code 96 = .ok (.iconst 1, 1) := by decide +kernel
theorem d_179_97 : decode prog_14_method_41_code 97 = .ok (.goto 4, 3) := by decide +kernel
theorem d_179_100 : decode prog_14_method_41_code 100 = .ok (.iconst 0, 1) := by decide +kernel
theorem d_179_101 : decode prog_14_method_41_code 101 = .ok (.ireturn, 1) := by decide +kernel
theorem s_179_101 {Γ : m_G} : m_ok Γ m_tab 179 M_179 101 (g_179_101) := ok_ri (pc := 101) d_179_101 rfl
theorem s_179_100 {Γ : m_G} : m_ok Γ m_tab 179 M_179 100 (g_179_100) := ok_ic (pc := 100) d_179_100 rfl (s_179_101)
theorem s_179_96 {Γ : m_G} : m_ok Γ m_tab 179 M_179 96 (g_179_96) := ok_ic (pc := 96) d_179_96 rfl (ok_go (pc := 97) (t := 101) d_179_97 rfl (by decide) rfl)
theorem s_179_88 {Γ : m_G} : m_ok Γ m_tab 179 M_179 88 (g_179_88) := ok_il_n (pc := 88) d_179_88 rfl (ok_czne (pc := 89) (t := 96) d_179_89 rfl (by decide) rfl (ok_il_n (pc := 92) d_179_92 rfl (ok_czeq (pc := 93) (t := 100) d_179_93 rfl (by decide) rfl (s_179_96))))
theorem s_179_87 {Γ : m_G} : m_ok Γ m_tab 179 M_179 87 (g_179_87) := ok_ri (pc := 87) d_179_87 rfl
theorem s_179_86 {Γ : m_G} : m_ok Γ m_tab 179 M_179 86 (g_179_86) := ok_ic (pc := 86) d_179_86 rfl (s_179_87)
theorem s_179_74 {Γ : m_G} : m_ok Γ m_tab 179 M_179 74 (g_179_74) := ok_il_n (pc := 74) d_179_74 rfl (ok_czeq (pc := 75) (t := 86) d_179_75 rfl (by decide) rfl (ok_il_n (pc := 78) d_179_78 rfl (ok_czeq (pc := 79) (t := 86) d_179_79 rfl (by decide) rfl (ok_ic (pc := 82) d_179_82 rfl (ok_go (pc := 83) (t := 87) d_179_83 rfl (by decide) rfl)))))
theorem s_179_73 {Γ : m_G} : m_ok Γ m_tab 179 M_179 73 (g_179_73) := ok_ri (pc := 73) d_179_73 rfl
theorem s_179_72 {Γ : m_G} : m_ok Γ m_tab 179 M_179 72 (g_179_72) := ok_ic (pc := 72) d_179_72 rfl (s_179_73)
theorem s_179_63 {Γ : m_G} : m_ok Γ m_tab 179 M_179 63 (g_179_63) := ok_il_n (pc := 63) d_179_63 rfl (ok_il_n (pc := 64) d_179_64 rfl (ok_cine (pc := 65) (t := 72) d_179_65 rfl (by decide) rfl (ok_ic (pc := 68) d_179_68 rfl (ok_go (pc := 69) (t := 73) d_179_69 rfl (by decide) rfl))))
theorem s_179_62 {Γ : m_G} : m_ok Γ m_tab 179 M_179 62 (g_179_62) := ok_ri (pc := 62) d_179_62 rfl
theorem s_179_61 {Γ : m_G} : m_ok Γ m_tab 179 M_179 61 (g_179_61) := ok_ic (pc := 61) d_179_61 rfl (s_179_62)
theorem s_179_52 {Γ : m_G} : m_ok Γ m_tab 179 M_179 52 (g_179_52) := ok_il_n (pc := 52) d_179_52 rfl (ok_il_n (pc := 53) d_179_53 rfl (ok_cige (pc := 54) (t := 61) d_179_54 rfl (by decide) rfl (ok_ic (pc := 57) d_179_57 rfl (ok_go (pc := 58) (t := 62) d_179_58 rfl (by decide) rfl))))
theorem s_179_48 {Γ : m_G} : m_ok Γ m_tab 179 M_179 48 (g_179_48) := ok_il_n (pc := 48) d_179_48 rfl (ok_il_n (pc := 49) d_179_49 rfl (ok_mul (pc := 50) d_179_50 (ok_ri (pc := 51) d_179_51 rfl)))
theorem s_179_44 {Γ : m_G} : m_ok Γ m_tab 179 M_179 44 (g_179_44) := ok_il_n (pc := 44) d_179_44 rfl (ok_il_n (pc := 45) d_179_45 rfl (ok_sub (pc := 46) d_179_46 (ok_ri (pc := 47) d_179_47 rfl)))
theorem s_179_40 {Γ : m_G} : m_ok Γ m_tab 179 M_179 40 (g_179_40) := ok_il_n (pc := 40) d_179_40 rfl (ok_il_n (pc := 41) d_179_41 rfl (ok_add (pc := 42) d_179_42 (ok_ri (pc := 43) d_179_43 rfl)))
theorem s_179_0 {Γ : m_G} : m_ok Γ m_tab 179 M_179 0 (g_179_0) := ok_il_n (pc := 0) d_179_0 rfl (ok_tsw (pc := 1) d_179_1 rfl rfl (by decide +kernel) (by decide +kernel) (by decide) (by decide) (by decide +kernel) (by decide))
theorem tst_179l {Γ : m_G} (q : Nat) : m_ts Γ (t_179l q) q := ts_n (ts_n (ts_n (ts_l (k := 179) (pc := 0) tb_179 rfl (by decide) s_179_0) (ts_l (k := 179) (pc := 40) tb_179 rfl (by decide) s_179_40)) (ts_n (ts_l (k := 179) (pc := 44) tb_179 rfl (by decide) s_179_44) (ts_l (k := 179) (pc := 48) tb_179 rfl (by decide) s_179_48))) (ts_n (ts_n (ts_l (k := 179) (pc := 52) tb_179 rfl (by decide) s_179_52) (ts_l (k := 179) (pc := 61) tb_179 rfl (by decide) s_179_61)) (ts_n (ts_l (k := 179) (pc := 62) tb_179 rfl (by decide) s_179_62) (ts_l (k := 179) (pc := 63) tb_179 rfl (by decide) s_179_63)))
theorem tst_179r {Γ : m_G} (q : Nat) : m_ts Γ (t_179r q) q := ts_n (ts_n (ts_n (ts_l (k := 179) (pc := 72) tb_179 rfl (by decide) s_179_72) (ts_l (k := 179) (pc := 73) tb_179 rfl (by decide) s_179_73)) (ts_n (ts_l (k := 179) (pc := 74) tb_179 rfl (by decide) s_179_74) (ts_l (k := 179) (pc := 86) tb_179 rfl (by decide) s_179_86))) (ts_n (ts_n (ts_l (k := 179) (pc := 87) tb_179 rfl (by decide) s_179_87) (ts_l (k := 179) (pc := 88) tb_179 rfl (by decide) s_179_88)) (ts_n (ts_l (k := 179) (pc := 96) tb_179 rfl (by decide) s_179_96) (ts_n (ts_l (k := 179) (pc := 100) tb_179 rfl (by decide) s_179_100) (ts_l (k := 179) (pc := 101) tb_179 rfl (by decide) s_179_101))))
theorem tst_179 {Γ : m_G} (q : Nat) : m_ts Γ (t_179 q) q := ts_n (tst_179l q) (tst_179r q)
theorem d_180_0 : decode prog_14_method_42_code 0 = .ok (.iconst 3, 1) := by decide +kernel
theorem d_180_1 : decode prog_14_method_42_code 1 = .ok (.aload_n 0, 1) := by decide +kernel
theorem d_180_2 : decode prog_14_method_42_code 2 = .ok (.getfield 215, 3) := by decide +kernel
theorem d_180_5 : decode prog_14_method_42_code 5 = .ok (.imul, 1) := by decide +kernel
theorem d_180_6 : decode prog_14_method_42_code 6 = .ok (.iload_n 1, 1) := by decide +kernel
theorem d_180_7 : decode prog_14_method_42_code 7 = .ok (.iadd, 1) := by decide +kernel
theorem d_180_8 : decode prog_14_method_42_code 8 = .ok (.istore 5, 2) := by decide +kernel
theorem d_180_10 : decode prog_14_method_42_code 10 = .ok (.iconst 0, 1) := by decide +kernel
theorem d_180_11 : decode prog_14_method_42_code 11 = .ok (.istore 6, 2) := by decide +kernel
theorem d_180_13 : decode prog_14_method_42_code 13 = .ok (.iconst 0, 1) := by decide +kernel
theorem d_180_14 : decode prog_14_method_42_code 14 = .ok (.istore 7, 2) := by decide +kernel
theorem d_180_16 : decode prog_14_method_42_code 16 = .ok (.iload 7, 2) := by decide +kernel
theorem d_180_18 : decode prog_14_method_42_code 18 = .ok (.aload_n 0, 1) := by decide +kernel
theorem d_180_19 : decode prog_14_method_42_code 19 = .ok (.getfield 43, 3) := by decide +kernel
theorem d_180_22 : decode prog_14_method_42_code 22 = .ok (.iload 5, 2) := by decide +kernel
theorem d_180_24 : decode prog_14_method_42_code 24 = .ok (.iaload, 1) := by decide +kernel
theorem d_180_25 : decode prog_14_method_42_code 25 = .ok (.if_icmp .ge 187, 3) := by decide +kernel
theorem d_180_28 : decode prog_14_method_42_code 28 = .ok (.aload_n 0, 1) := by decide +kernel
theorem d_180_29 : decode prog_14_method_42_code 29 = .ok (.getfield 40, 3) := by decide +kernel
theorem d_180_32 : decode prog_14_method_42_code 32 = .ok (.sipush 170, 3) := by decide +kernel
theorem d_180_35 : decode prog_14_method_42_code 35 = .ok (.iload 5, 2) := by decide +kernel
theorem d_180_37 : decode prog_14_method_42_code 37 = .ok (.imul, 1) := by decide +kernel
theorem d_180_38 : decode prog_14_method_42_code 38 = .ok (.iload 7, 2) := by decide +kernel
theorem d_180_40 : decode prog_14_method_42_code 40 = .ok (.iadd, 1) := by decide +kernel
theorem d_180_41 : decode prog_14_method_42_code 41 = .ok (.iaload, 1) := by decide +kernel
theorem d_180_42 : decode prog_14_method_42_code 42 = .ok (.istore 8, 2) := by decide +kernel
theorem d_180_44 : decode prog_14_method_42_code 44 = .ok (.iload 8, 2) := by decide +kernel
theorem d_180_46 : decode prog_14_method_42_code 46 = .ok (.sipush 20000, 3) := by decide +kernel
theorem d_180_49 : decode prog_14_method_42_code 49 = .ok (.if_icmp .ge 18, 3) := by decide +kernel
theorem d_180_52 : decode prog_14_method_42_code 52 = .ok (.aload_n 0, 1) := by decide +kernel
theorem d_180_53 : decode prog_14_method_42_code 53 = .ok (.getfield 49, 3) := by decide +kernel
theorem d_180_56 : decode prog_14_method_42_code 56 = .ok (.iload 6, 2) := by decide +kernel
theorem d_180_58 : decode prog_14_method_42_code 58 = .ok (.iload 8, 2) := by decide +kernel
theorem d_180_60 : decode prog_14_method_42_code 60 = .ok (.iastore, 1) := by decide +kernel
theorem d_180_61 : decode prog_14_method_42_code 61 = .ok (.iinc 6 1, 3) := by decide +kernel
theorem d_180_64 : decode prog_14_method_42_code 64 = .ok (.goto 142, 3) := by decide +kernel
theorem d_180_67 : decode prog_14_method_42_code 67 = .ok (.iload 8, 2) := by decide +kernel
theorem d_180_69 : decode prog_14_method_42_code 69 = .ok (.sipush 30000, 3) := by decide +kernel
theorem d_180_72 : decode prog_14_method_42_code 72 = .ok (.if_icmp .ge 30, 3) := by decide +kernel
theorem d_180_75 : decode prog_14_method_42_code 75 = .ok (.aload_n 0, 1) := by decide +kernel
theorem d_180_76 : decode prog_14_method_42_code 76 = .ok (.getfield 49, 3) := by decide +kernel
theorem d_180_79 : decode prog_14_method_42_code 79 = .ok (.iload 6, 2) := by decide +kernel
theorem d_180_81 : decode prog_14_method_42_code 81 = .ok (.aload_n 0, 1) := by decide +kernel
theorem d_180_82 : decode prog_14_method_42_code 82 = .ok (.iload 8, 2) := by decide +kernel
theorem d_180_84 : decode prog_14_method_42_code 84 = .ok (.sipush 20000, 3) := by decide +kernel
theorem d_180_87 : decode prog_14_method_42_code 87 = .ok (.isub, 1) := by decide +kernel
theorem d_180_88 : decode prog_14_method_42_code 88 = .ok (.iload_n 2, 1) := by decide +kernel
theorem d_180_89 : decode prog_14_method_42_code 89 = .ok (.iload_n 3, 1) := by decide +kernel
theorem d_180_90 : decode prog_14_method_42_code 90 = .ok (.iload 4, 2) := by decide +kernel
theorem d_180_92 : decode prog_14_method_42_code 92 = .ok (.invokevirtual 221, 3) := by decide +kernel
theorem d_180_95 : decode prog_14_method_42_code 95 = .ok (.iastore, 1) := by decide +kernel
theorem d_180_96 : decode prog_14_method_42_code 96 = .ok (.iinc 6 1, 3) := by decide +kernel
theorem d_180_99 : decode prog_14_method_42_code 99 = .ok (.goto 107, 3) := by decide +kernel
theorem d_180_102 : decode prog_14_method_42_code 102 = .ok (.iload 8, 2) := by decide +kernel
theorem d_180_104 : decode prog_14_method_42_code 104 = .ok (.sipush 30008, 3) := by decide +kernel
theorem d_180_107 : decode prog_14_method_42_code 107 = .ok (.if_icmp .ne 32, 3) := by decide +kernel
theorem d_180_110 : decode prog_14_method_42_code 110 = .ok (.aload_n 0, 1) := by decide +kernel
theorem d_180_111 : decode prog_14_method_42_code 111 = .ok (.getfield 49, 3) := by decide +kernel
theorem d_180_114 : decode prog_14_method_42_code 114 = .ok (.iload 6, 2) := by decide +kernel
theorem d_180_116 : decode prog_14_method_42_code 116 = .ok (.iconst 1, 1) := by decide +kernel
theorem d_180_117 : decode prog_14_method_42_code 117 = .ok (.isub, 1) := by decide +kernel
theorem d_180_118 : decode prog_14_method_42_code 118 = .ok (.aload_n 0, 1) := by decide +kernel
theorem d_180_119 : decode prog_14_method_42_code 119 = .ok (.getfield 49, 3) := by decide +kernel
theorem d_180_122 : decode prog_14_method_42_code 122 = .ok (.iload 6, 2) := by decide +kernel
theorem d_180_124 : decode prog_14_method_42_code 124 = .ok (.iconst 1, 1) := by decide +kernel
theorem d_180_125 : decode prog_14_method_42_code 125 = .ok (.isub, 1) := by decide +kernel
theorem d_180_126 : decode prog_14_method_42_code 126 = .ok (.iaload, 1) := by decide +kernel
theorem d_180_127 : decode prog_14_method_42_code 127 = .ok (.ifCond .ne 7, 3) := by decide +kernel
theorem d_180_130 : decode prog_14_method_42_code 130 = .ok (.iconst 1, 1) := by decide +kernel
theorem d_180_131 : decode prog_14_method_42_code 131 = .ok (.goto 4, 3) := by decide +kernel
theorem d_180_134 : decode prog_14_method_42_code 134 = .ok (.iconst 0, 1) := by decide +kernel
theorem d_180_135 : decode prog_14_method_42_code 135 = .ok (.iastore, 1) := by decide +kernel
theorem d_180_136 : decode prog_14_method_42_code 136 = .ok (.goto 70, 3) := by decide +kernel
theorem d_180_139 : decode prog_14_method_42_code 139 = .ok (.iload 8, 2) := by decide +kernel
theorem d_180_141 : decode prog_14_method_42_code 141 = .ok (.sipush 30009, 3) := by decide +kernel
theorem d_180_144 : decode prog_14_method_42_code 144 = .ok (.if_icmp .ne 25, 3) := by decide +kernel
theorem d_180_147 : decode prog_14_method_42_code 147 = .ok (.aload_n 0, 1) := by decide +kernel
theorem d_180_148 : decode prog_14_method_42_code 148 = .ok (.getfield 49, 3) := by decide +kernel
theorem d_180_151 : decode prog_14_method_42_code 151 = .ok (.iload 6, 2) := by decide +kernel
theorem d_180_153 : decode prog_14_method_42_code 153 = .ok (.iconst 1, 1) := by decide +kernel
theorem d_180_154 : decode prog_14_method_42_code 154 = .ok (.isub, 1) := by decide +kernel
theorem d_180_155 : decode prog_14_method_42_code 155 = .ok (.aload_n 0, 1) := by decide +kernel
theorem d_180_156 : decode prog_14_method_42_code 156 = .ok (.getfield 49, 3) := by decide +kernel
theorem d_180_159 : decode prog_14_method_42_code 159 = .ok (.iload 6, 2) := by decide +kernel
theorem d_180_161 : decode prog_14_method_42_code 161 = .ok (.iconst 1, 1) := by decide +kernel
theorem d_180_162 : decode prog_14_method_42_code 162 = .ok (.isub, 1) := by decide +kernel
theorem d_180_163 : decode prog_14_method_42_code 163 = .ok (.iaload, 1) := by decide +kernel
theorem d_180_164 : decode prog_14_method_42_code 164 = .ok (.ineg, 1) := by decide +kernel
theorem d_180_165 : decode prog_14_method_42_code 165 = .ok (.iastore, 1) := by decide +kernel
theorem d_180_166 : decode prog_14_method_42_code 166 = .ok (.goto 40, 3) := by decide +kernel
theorem d_180_169 : decode prog_14_method_42_code 169 = .ok (.iinc 6 (-1), 3) := by decide +kernel
theorem d_180_172 : decode prog_14_method_42_code 172 = .ok (.aload_n 0, 1) := by decide +kernel
theorem d_180_173 : decode prog_14_method_42_code 173 = .ok (.getfield 49, 3) := by decide +kernel
theorem d_180_176 : decode prog_14_method_42_code 176 = .ok (.iload 6, 2) := by decide +kernel
theorem d_180_178 : decode prog_14_method_42_code 178 = .ok (.iconst 1, 1) := by decide +kernel
theorem d_180_179 : decode prog_14_method_42_code 179 = .ok (.isub, 1) := by decide +kernel
theorem d_180_180 : decode prog_14_method_42_code 180 = .ok (.iload 8, 2) := by decide +kernel
theorem d_180_182 : decode prog_14_method_42_code 182 = .ok (.sipush 30000, 3) := by decide +kernel
theorem d_180_185 : decode prog_14_method_42_code 185 = .ok (.isub, 1) := by decide +kernel
theorem d_180_186 : decode prog_14_method_42_code 186 = .ok (.aload_n 0, 1) := by decide +kernel
theorem d_180_187 : decode prog_14_method_42_code 187 = .ok (.getfield 49, 3) := by decide +kernel
theorem d_180_190 : decode prog_14_method_42_code 190 = .ok (.iload 6, 2) := by decide +kernel
theorem d_180_192 : decode prog_14_method_42_code 192 = .ok (.iconst 1, 1) := by decide +kernel
theorem d_180_193 : decode prog_14_method_42_code 193 = .ok (.isub, 1) := by decide +kernel
theorem d_180_194 : decode prog_14_method_42_code 194 = .ok (.iaload, 1) := by decide +kernel
theorem d_180_195 : decode prog_14_method_42_code 195 = .ok (.aload_n 0, 1) := by decide +kernel
theorem d_180_196 : decode prog_14_method_42_code 196 = .ok (.getfield 49, 3) := by decide +kernel
theorem d_180_199 : decode prog_14_method_42_code 199 = .ok (.iload 6, 2) := by decide +kernel
theorem d_180_201 : decode prog_14_method_42_code 201 = .ok (.iaload, 1) := by decide +kernel
theorem d_180_202 : decode prog_14_method_42_code 202 = .ok (.invokestatic 224, 3) := by decide +kernel
theorem d_180_205 : decode prog_14_method_42_code 205 = .ok (.iastore, 1) := by decide +kernel
theorem d_180_206 : decode prog_14_method_42_code 206 = .ok (.iinc 7 1, 3) := by decide +kernel
theorem d_180_209 : decode prog_14_method_42_code 209 = .ok (.goto (-193), 3) := by decide +kernel
theorem d_180_212 : decode prog_14_method_42_code 212 = .ok (.aload_n 0, 1) := by decide +kernel
theorem d_180_213 : decode prog_14_method_42_code 213 = .ok (.getfield 49, 3) := by decide +kernel
theorem d_180_216 : decode prog_14_method_42_code 216 = .ok (.iconst 0, 1) := by decide +kernel
theorem d_180_217 : decode prog_14_method_42_code 217 = .ok (.iaload, 1) := by decide +kernel
theorem d_180_218 : decode prog_14_method_42_code 218 = .ok (.ireturn, 1) := by decide +kernel
theorem s_180_212 {Γ : m_G} : m_ok Γ m_tab 180 M_180 212 (g_180_212) := ok_al_n (pc := 212) d_180_212 rfl (ok_getf (pc := 213) d_180_213 w_930 (hc1 fo_96) (ok_ic (pc := 216) d_180_216 rfl (ok_iald (pc := 217) d_180_217 (ok_ri (pc := 218) d_180_218 rfl))))
theorem s_180_206 {Γ : m_G} : m_ok Γ m_tab 180 M_180 206 (g_180_206) := ok_inc (pc := 206) d_180_206 rfl (by decide) (ok_go (pc := 209) (t := 16) d_180_209 rfl (by decide) rfl)
theorem s_180_169 {Γ : m_G} : m_ok Γ m_tab 180 M_180 169 (g_180_169) := ok_inc (pc := 169) d_180_169 rfl (by decide) (ok_al_n (pc := 172) d_180_172 rfl (ok_getf (pc := 173) d_180_173 w_930 (hc1 fo_96) (ok_il (pc := 176) d_180_176 (ok_ic (pc := 178) d_180_178 rfl (ok_sub (pc := 179) d_180_179 (ok_il (pc := 180) d_180_180 (ok_si (pc := 182) d_180_182 rfl (ok_sub (pc := 185) d_180_185 (ok_al_n (pc := 186) d_180_186 rfl (ok_getf (pc := 187) d_180_187 w_930 (hc1 fo_96) (ok_il (pc := 190) d_180_190 (ok_ic (pc := 192) d_180_192 rfl (ok_sub (pc := 193) d_180_193 (ok_iald (pc := 194) d_180_194 (ok_al_n (pc := 195) d_180_195 rfl (ok_getf (pc := 196) d_180_196 w_930 (hc1 fo_96) (ok_il (pc := 199) d_180_199 (ok_iald (pc := 201) d_180_201 (ok_cat (pc := 202) (k2 := 179) rfl tb_179 (by decide) (by decide) rfl (go_S d_180_202 w_1213 w_1214 w_11 w_1215 nn_179 (by decide)) (ok_iast (pc := 205) d_180_205 (s_180_206)))))))))))))))))))))
theorem s_180_139 {Γ : m_G} : m_ok Γ m_tab 180 M_180 139 (g_180_139) := ok_il (pc := 139) d_180_139 (ok_si (pc := 141) d_180_141 rfl (ok_cine (pc := 144) (t := 169) d_180_144 rfl (by decide) rfl (ok_al_n (pc := 147) d_180_147 rfl (ok_getf (pc := 148) d_180_148 w_930 (hc1 fo_96) (ok_il (pc := 151) d_180_151 (ok_ic (pc := 153) d_180_153 rfl (ok_sub (pc := 154) d_180_154 (ok_al_n (pc := 155) d_180_155 rfl (ok_getf (pc := 156) d_180_156 w_930 (hc1 fo_96) (ok_il (pc := 159) d_180_159 (ok_ic (pc := 161) d_180_161 rfl (ok_sub (pc := 162) d_180_162 (ok_iald (pc := 163) d_180_163 (ok_neg (pc := 164) d_180_164 (ok_iast (pc := 165) d_180_165 (ok_go (pc := 166) (t := 206) d_180_166 rfl (by decide) rfl))))))))))))))))
theorem s_180_135 {Γ : m_G} : m_ok Γ m_tab 180 M_180 135 (g_180_135) := ok_iast (pc := 135) d_180_135 (ok_go (pc := 136) (t := 206) d_180_136 rfl (by decide) rfl)
theorem s_180_134 {Γ : m_G} : m_ok Γ m_tab 180 M_180 134 (g_180_134) := ok_ic (pc := 134) d_180_134 rfl (s_180_135)
theorem s_180_102 {Γ : m_G} : m_ok Γ m_tab 180 M_180 102 (g_180_102) := ok_il (pc := 102) d_180_102 (ok_si (pc := 104) d_180_104 rfl (ok_cine (pc := 107) (t := 139) d_180_107 rfl (by decide) rfl (ok_al_n (pc := 110) d_180_110 rfl (ok_getf (pc := 111) d_180_111 w_930 (hc1 fo_96) (ok_il (pc := 114) d_180_114 (ok_ic (pc := 116) d_180_116 rfl (ok_sub (pc := 117) d_180_117 (ok_al_n (pc := 118) d_180_118 rfl (ok_getf (pc := 119) d_180_119 w_930 (hc1 fo_96) (ok_il (pc := 122) d_180_122 (ok_ic (pc := 124) d_180_124 rfl (ok_sub (pc := 125) d_180_125 (ok_iald (pc := 126) d_180_126 (ok_czne (pc := 127) (t := 134) d_180_127 rfl (by decide) rfl (ok_ic (pc := 130) d_180_130 rfl (ok_go (pc := 131) (t := 135) d_180_131 rfl (by decide) rfl))))))))))))))))
theorem s_180_67 {Γ : m_G} : m_ok Γ m_tab 180 M_180 67 (g_180_67) := ok_il (pc := 67) d_180_67 (ok_si (pc := 69) d_180_69 rfl (ok_cige (pc := 72) (t := 102) d_180_72 rfl (by decide) rfl (ok_al_n (pc := 75) d_180_75 rfl (ok_getf (pc := 76) d_180_76 w_930 (hc1 fo_96) (ok_il (pc := 79) d_180_79 (ok_al_n (pc := 81) d_180_81 rfl (ok_il (pc := 82) d_180_82 (ok_si (pc := 84) d_180_84 rfl (ok_sub (pc := 87) d_180_87 (ok_il_n (pc := 88) d_180_88 rfl (ok_il_n (pc := 89) d_180_89 rfl (ok_il (pc := 90) d_180_90 (ok_cai (pc := 92) (k2 := 178) rfl rfl tb_178 (by decide) (by decide) rfl (go_V d_180_92 w_1206 w_1208 ws_66 w_11 w_1209 nn_178 (by decide) cl_12 rfl) (ok_iast (pc := 95) d_180_95 (ok_inc (pc := 96) d_180_96 rfl (by decide) (ok_go (pc := 99) (t := 206) d_180_99 rfl (by decide) rfl))))))))))))))))
theorem s_180_16 {Γ : m_G} : m_ok Γ m_tab 180 M_180 16 (g_180_16) := ok_il (pc := 16) d_180_16 (ok_al_n (pc := 18) d_180_18 rfl (ok_getf (pc := 19) d_180_19 w_928 (hc1 fo_82) (ok_il (pc := 22) d_180_22 (ok_iald (pc := 24) d_180_24 (ok_cige (pc := 25) (t := 212) d_180_25 rfl (by decide) rfl (ok_al_n (pc := 28) d_180_28 rfl (ok_getf (pc := 29) d_180_29 w_927 (hc1 fo_83) (ok_si (pc := 32) d_180_32 rfl (ok_il (pc := 35) d_180_35 (ok_mul (pc := 37) d_180_37 (ok_il (pc := 38) d_180_38 (ok_add (pc := 40) d_180_40 (ok_iald (pc := 41) d_180_41 (ok_is (pc := 42) d_180_42 (by decide) (ok_il (pc := 44) d_180_44 (ok_si (pc := 46) d_180_46 rfl (ok_cige (pc := 49) (t := 67) d_180_49 rfl (by decide) rfl (ok_al_n (pc := 52) d_180_52 rfl (ok_getf (pc := 53) d_180_53 w_930 (hc1 fo_96) (ok_il (pc := 56) d_180_56 (ok_il (pc := 58) d_180_58 (ok_iast (pc := 60) d_180_60 (ok_inc (pc := 61) d_180_61 rfl (by decide) (ok_go (pc := 64) (t := 206) d_180_64 rfl (by decide) rfl))))))))))))))))))))))))
theorem s_180_0 {Γ : m_G} : m_ok Γ m_tab 180 M_180 0 (g_180_0) := ok_ic (pc := 0) d_180_0 rfl (ok_al_n (pc := 1) d_180_1 rfl (ok_getf (pc := 2) d_180_2 w_923 (hc1 fo_95) (ok_mul (pc := 5) d_180_5 (ok_il_n (pc := 6) d_180_6 rfl (ok_add (pc := 7) d_180_7 (ok_is (pc := 8) d_180_8 (by decide) (ok_ic (pc := 10) d_180_10 rfl (ok_is (pc := 11) d_180_11 (by decide) (ok_ic (pc := 13) d_180_13 rfl (ok_is (pc := 14) d_180_14 (by decide) (s_180_16)))))))))))
theorem tst_180 {Γ : m_G} (q : Nat) : m_ts Γ (t_180 q) q := ts_n (ts_n (ts_n (ts_l (k := 180) (pc := 0) tb_180 rfl (by decide) s_180_0) (ts_l (k := 180) (pc := 16) tb_180 rfl (by decide) s_180_16)) (ts_n (ts_l (k := 180) (pc := 67) tb_180 rfl (by decide) s_180_67) (ts_n (ts_l (k := 180) (pc := 102) tb_180 rfl (by decide) s_180_102) (ts_l (k := 180) (pc := 134) tb_180 rfl (by decide) s_180_134)))) (ts_n (ts_n (ts_l (k := 180) (pc := 135) tb_180 rfl (by decide) s_180_135) (ts_l (k := 180) (pc := 139) tb_180 rfl (by decide) s_180_139)) (ts_n (ts_l (k := 180) (pc := 169) tb_180 rfl (by decide) s_180_169) (ts_n (ts_l (k := 180) (pc := 206) tb_180 rfl (by decide) s_180_206) (ts_l (k := 180) (pc := 212) tb_180 rfl (by decide) s_180_212))))
theorem d_181_0 : decode prog_14_method_43_code 0 = .ok (.iload_n 0, 1) := by decide +kernel
theorem d_181_1 : decode prog_14_method_43_code 1 = .ok (.ifCond .ge 7, 3) := by decide +kernel
theorem d_181_4 : decode prog_14_method_43_code 4 = .ok (.iconst 0, 1) := by decide +kernel
theorem d_181_5 : decode prog_14_method_43_code 5 = .ok (.goto 13, 3) := by decide +kernel
theorem d_181_8 : decode prog_14_method_43_code 8 = .ok (.iload_n 0, 1) := by decide +kernel
theorem d_181_9 : decode prog_14_method_43_code 9 = .ok (.iload_n 1, 1) := by decide +kernel
theorem d_181_10 : decode prog_14_method_43_code 10 = .ok (.if_icmp .le 7, 3) := by decide +kernel
theorem d_181_13 : decode prog_14_method_43_code 13 = .ok (.iload_n 1, 1) := by decide +kernel
theorem d_181_14 : decode prog_14_method_43_code 14 = .ok (.goto 4, 3) := by decide +kernel
theorem d_181_17 : decode prog_14_method_43_code 17 = .ok (.iload_n 0, 1) := by decide +kernel
theorem d_181_18 : decode prog_14_method_43_code 18 = .ok (.ireturn, 1) := by decide +kernel
theorem s_181_18 {Γ : m_G} : m_ok Γ m_tab 181 M_181 18 (g_181_18) := ok_ri (pc := 18) d_181_18 rfl
theorem s_181_17 {Γ : m_G} : m_ok Γ m_tab 181 M_181 17 (g_181_17) := ok_il_n (pc := 17) d_181_17 rfl (s_181_18)
theorem s_181_8 {Γ : m_G} : m_ok Γ m_tab 181 M_181 8 (g_181_8) := ok_il_n (pc := 8) d_181_8 rfl (ok_il_n (pc := 9) d_181_9 rfl (ok_cile (pc := 10) (t := 17) d_181_10 rfl (by decide) rfl (ok_il_n (pc := 13) d_181_13 rfl (ok_go (pc := 14) (t := 18) d_181_14 rfl (by decide) rfl))))
theorem s_181_0 {Γ : m_G} : m_ok Γ m_tab 181 M_181 0 (g_181_0) := ok_il_n (pc := 0) d_181_0 rfl (ok_czge (pc := 1) (t := 8) d_181_1 rfl (by decide) rfl (ok_ic (pc := 4) d_181_4 rfl (ok_go (pc := 5) (t := 18) d_181_5 rfl (by decide) rfl)))
theorem tst_181 {Γ : m_G} (q : Nat) : m_ts Γ (t_181 q) q := ts_n (ts_n (ts_l (k := 181) (pc := 0) tb_181 rfl (by decide) s_181_0) (ts_l (k := 181) (pc := 8) tb_181 rfl (by decide) s_181_8)) (ts_n (ts_l (k := 181) (pc := 17) tb_181 rfl (by decide) s_181_17) (ts_l (k := 181) (pc := 18) tb_181 rfl (by decide) s_181_18))
theorem d_182_0 : decode prog_14_method_44_code 0 = .ok (.iload_n 2, 1) := by decide +kernel
theorem d_182_1 : decode prog_14_method_44_code 1 = .ok (.iload_n 3, 1) := by decide +kernel
theorem d_182_2 : decode prog_14_method_44_code 2 = .ok (.if_icmp .eq 26, 3) := by decide +kernel
theorem d_182_5 : decode prog_14_method_44_code 5 = .ok (.aload_n 0, 1) := by decide +kernel
theorem d_182_6 : decode prog_14_method_44_code 6 = .ok (.getfield 101, 3) := by decide +kernel
theorem d_182_9 : decode prog_14_method_44_code 9 = .ok (.iload_n 1, 1) := by decide +kernel
theorem d_182_10 : decode prog_14_method_44_code 10 = .ok (.ishr, 1) := by decide +kernel
theorem d_182_11 : decode prog_14_method_44_code 11 = .ok (.iconst 1, 1) := by decide +kernel
theorem d_182_12 : decode prog_14_method_44_code 12 = .ok (.iand, 1) := by decide +kernel
theorem d_182_13 : decode prog_14_method_44_code 13 = .ok (.iconst 1, 1) := by decide +kernel
theorem d_182_14 : decode prog_14_method_44_code 14 = .ok (.if_icmp .eq 14, 3) := by decide +kernel
theorem d_182_17 : decode prog_14_method_44_code 17 = .ok (.aload_n 0, 1) := by decide +kernel
theorem d_182_18 : decode prog_14_method_44_code 18 = .ok (.iconst 0, 1) := by decide +kernel
theorem d_182_19 : decode prog_14_method_44_code 19 = .ok (.iload_n 1, 1) := by decide +kernel
theorem d_182_20 : decode prog_14_method_44_code 20 = .ok (.iload_n 2, 1) := by decide +kernel
theorem d_182_21 : decode prog_14_method_44_code 21 = .ok (.iload_n 3, 1) := by decide +kernel
theorem d_182_22 : decode prog_14_method_44_code 22 = .ok (.invokevirtual 228, 3) := by decide +kernel
theorem d_182_25 : decode prog_14_method_44_code 25 = .ok (.ifCond .ne 6, 3) := by decide +kernel
theorem d_182_28 : decode prog_14_method_44_code 28 = .ok (.bipush (-5), 2) := by decide +kernel
theorem d_182_30 : decode prog_14_method_44_code 30 = .ok (.ireturn, 1) := by decide +kernel
theorem d_182_31 : decode prog_14_method_44_code 31 = .ok (.aload_n 0, 1) := by decide +kernel
theorem d_182_32 : decode prog_14_method_44_code 32 = .ok (.getfield 127, 3) := by decide +kernel
theorem d_182_35 : decode prog_14_method_44_code 35 = .ok (.ifCond .ne 7, 3) := by decide +kernel
theorem d_182_38 : decode prog_14_method_44_code 38 = .ok (.iconst 0, 1) := by decide +kernel
theorem d_182_39 : decode prog_14_method_44_code 39 = .ok (.goto 4, 3) := by decide +kernel
theorem d_182_42 : decode prog_14_method_44_code 42 = .ok (.iconst (-1), 1) := by decide +kernel
theorem d_182_43 : decode prog_14_method_44_code 43 = .ok (.istore 4, 2) := by decide +kernel
theorem d_182_45 : decode prog_14_method_44_code 45 = .ok (.iconst 0, 1) := by decide +kernel
theorem d_182_46 : decode prog_14_method_44_code 46 = .ok (.istore 5, 2) := by decide +kernel
theorem d_182_48 : decode prog_14_method_44_code 48 = .ok (.iload 5, 2) := by decide +kernel
theorem d_182_50 : decode prog_14_method_44_code 50 = .ok (.aload_n 0, 1) := by decide +kernel
theorem d_182_51 : decode prog_14_method_44_code 51 = .ok (.getfield 127, 3) := by decide +kernel
theorem d_182_54 : decode prog_14_method_44_code 54 = .ok (.if_icmp .ge 51, 3) := by decide +kernel
theorem d_182_57 : decode prog_14_method_44_code 57 = .ok (.aload_n 0, 1) := by decide +kernel
theorem d_182_58 : decode prog_14_method_44_code 58 = .ok (.iload 5, 2) := by decide +kernel
theorem d_182_60 : decode prog_14_method_44_code 60 = .ok (.iload_n 1, 1) := by decide +kernel
theorem d_182_61 : decode prog_14_method_44_code 61 = .ok (.iload_n 2, 1) := by decide +kernel
theorem d_182_62 : decode prog_14_method_44_code 62 = .ok (.iload_n 3, 1) := by decide +kernel
theorem d_182_63 : decode prog_14_method_44_code 63 = .ok (.invokevirtual 134, 3) := by decide +kernel
theorem d_182_66 : decode prog_14_method_44_code 66 = .ok (.ifCond .ne 6, 3) := by decide +kernel
theorem d_182_69 : decode prog_14_method_44_code 69 = .ok (.goto 30, 3) := by decide +kernel
theorem d_182_72 : decode prog_14_method_44_code 72 = .ok (.aload_n 0, 1) := by decide +kernel
theorem d_182_73 : decode prog_14_method_44_code 73 = .ok (.iload 5, 2) := by decide +kernel
theorem d_182_75 : decode prog_14_method_44_code 75 = .ok (.iload_n 1, 1) := by decide +kernel
theorem d_182_76 : decode prog_14_method_44_code 76 = .ok (.iload_n 2, 1) := by decide +kernel
theorem d_182_77 : decode prog_14_method_44_code 77 = .ok (.iload_n 3, 1) := by decide +kernel
theorem d_182_78 : decode prog_14_method_44_code 78 = .ok (.invokevirtual 130, 3) := by decide +kernel
theorem d_182_81 : decode prog_14_method_44_code 81 = .ok (.istore 6, 2) := by decide +kernel
theorem d_182_83 : decode prog_14_method_44_code 83 = .ok (.iload 4, 2) := by decide +kernel
theorem d_182_85 : decode prog_14_method_44_code 85 = .ok (.ifCond .lt 10, 3) := by decide +kernel
theorem d_182_88 : decode prog_14_method_44_code 88 = .ok (.iload 6, 2) := by decide +kernel
theorem d_182_90 : decode prog_14_method_44_code 90 = .ok (.iload 4, 2) := by decide +kernel
theorem d_182_92 : decode prog_14_method_44_code 92 = .ok (.if_icmp .ge 7, 3) := by decide +kernel
theorem d_182_95 : decode prog_14_method_44_code 95 = .ok (.iload 6, 2) := by decide +kernel
theorem d_182_97 : decode prog_14_method_44_code 97 = .ok (.istore 4, 2) := by decide +kernel
theorem d_182_99 : decode prog_14_method_44_code 99 = .ok (.iinc 5 1, 3) := by decide +kernel
theorem d_182_102 : decode prog_14_method_44_code 102 = .ok (.goto (-54), 3) := by decide +kernel
theorem d_182_105 : decode prog_14_method_44_code 105 = .ok (.iload 4, 2) := by decide +kernel
theorem d_182_107 : decode prog_14_method_44_code 107 = .ok (.ifCond .ge 8, 3) := by decide +kernel
theorem d_182_110 : decode prog_14_method_44_code 110 = .ok (.bipush (-5), 2) := by decide +kernel
theorem d_182_112 : decode prog_14_method_44_code 112 = .ok (.goto 20, 3) := by decide +kernel
theorem d_182_115 : decode prog_14_method_44_code 115 = .ok (.iload 4, 2) := by decide +kernel
theorem d_182_117 : decode prog_14_method_44_code 117 = .ok (.aload_n 0, 1) := by decide +kernel
theorem d_182_118 : decode prog_14_method_44_code 118 = .ok (.iconst 1, 1) := by decide +kernel
theorem d_182_119 : decode prog_14_method_44_code 119 = .ok (.iload_n 1, 1) := by decide +kernel
theorem d_182_120 : decode prog_14_method_44_code 120 = .ok (.iload_n 2, 1) := by decide +kernel
theorem d_182_121 : decode prog_14_method_44_code 121 = .ok (.iload_n 3, 1) := by decide +kernel
theorem d_182_122 : decode prog_14_method_44_code 122 = .ok (.invokevirtual 228, 3) := by decide +kernel
theorem d_182_125 : decode prog_14_method_44_code 125 = .ok (.sipush 999, 3) := by decide +kernel
theorem d_182_128 : decode prog_14_method_44_code 128 = .ok (.invokestatic 231, 3) := by decide +kernel
theorem d_182_131 : decode prog_14_method_44_code 131 = .ok (.iadd, 1) := by decide +kernel
theorem d_182_132 : decode prog_14_method_44_code 132 = .ok (.ireturn, 1) := by decide +kernel
theorem s_182_132 {Γ : m_G} : m_ok Γ m_tab 182 M_182 132 (g_182_132) := ok_ri (pc := 132) d_182_132 rfl
theorem s_182_115 {Γ : m_G} : m_ok Γ m_tab 182 M_182 115 (g_182_115) := ok_il (pc := 115) d_182_115 (ok_al_n (pc := 117) d_182_117 rfl (ok_ic (pc := 118) d_182_118 rfl (ok_il_n (pc := 119) d_182_119 rfl (ok_il_n (pc := 120) d_182_120 rfl (ok_il_n (pc := 121) d_182_121 rfl (ok_cai (pc := 122) (k2 := 180) rfl rfl tb_180 (by decide) (by decide) rfl (go_V d_182_122 w_1202 w_1204 ws_65 w_11 w_1205 nn_180 (by decide) cl_12 rfl) (ok_si (pc := 125) d_182_125 rfl (ok_cat (pc := 128) (k2 := 181) rfl tb_181 (by decide) (by decide) rfl (go_S d_182_128 w_1216 w_1217 w_11 w_1218 nn_181 (by decide)) (ok_add (pc := 131) d_182_131 (s_182_132))))))))))
theorem s_182_105 {Γ : m_G} : m_ok Γ m_tab 182 M_182 105 (g_182_105) := ok_il (pc := 105) d_182_105 (ok_czge (pc := 107) (t := 115) d_182_107 rfl (by decide) rfl (ok_bi (pc := 110) d_182_110 rfl (ok_go (pc := 112) (t := 132) d_182_112 rfl (by decide) rfl)))
theorem s_182_99 {Γ : m_G} : m_ok Γ m_tab 182 M_182 99 (g_182_99) := ok_inc (pc := 99) d_182_99 rfl (by decide) (ok_go (pc := 102) (t := 48) d_182_102 rfl (by decide) rfl)
theorem s_182_95 {Γ : m_G} : m_ok Γ m_tab 182 M_182 95 (g_182_95) := ok_il (pc := 95) d_182_95 (ok_is (pc := 97) d_182_97 (by decide) (s_182_99))
theorem s_182_72 {Γ : m_G} : m_ok Γ m_tab 182 M_182 72 (g_182_72) := ok_al_n (pc := 72) d_182_72 rfl (ok_il (pc := 73) d_182_73 (ok_il_n (pc := 75) d_182_75 rfl (ok_il_n (pc := 76) d_182_76 rfl (ok_il_n (pc := 77) d_182_77 rfl (ok_cai (pc := 78) (k2 := 153) rfl rfl tb_153 (by decide) (by decide) rfl (go_V d_182_78 w_1082 w_1084 ws_44 w_11 w_1085 nn_153 (by decide) cl_12 rfl) (ok_is (pc := 81) d_182_81 (by decide) (ok_il (pc := 83) d_182_83 (ok_czlt (pc := 85) (t := 95) d_182_85 rfl (by decide) rfl (ok_il (pc := 88) d_182_88 (ok_il (pc := 90) d_182_90 (ok_cige (pc := 92) (t := 99) d_182_92 rfl (by decide) rfl (s_182_95))))))))))))
theorem s_182_48 {Γ : m_G} : m_ok Γ m_tab 182 M_182 48 (g_182_48) := ok_il (pc := 48) d_182_48 (ok_al_n (pc := 50) d_182_50 rfl (ok_getf (pc := 51) d_182_51 w_922 (hc1 fo_78) (ok_cige (pc := 54) (t := 105) d_182_54 rfl (by decide) rfl (ok_al_n (pc := 57) d_182_57 rfl (ok_il (pc := 58) d_182_58 (ok_il_n (pc := 60) d_182_60 rfl (ok_il_n (pc := 61) d_182_61 rfl (ok_il_n (pc := 62) d_182_62 rfl (ok_cai (pc := 63) (k2 := 154) rfl rfl tb_154 (by decide) (by decide) rfl (go_V d_182_63 w_1086 w_1088 ws_45 w_11 w_1089 nn_154 (by decide) cl_12 rfl) (ok_czne (pc := 66) (t := 72) d_182_66 rfl (by decide) rfl (ok_go (pc := 69) (t := 99) d_182_69 rfl (by decide) rfl)))))))))))
theorem s_182_43 {Γ : m_G} : m_ok Γ m_tab 182 M_182 43 (g_182_43) := ok_is (pc := 43) d_182_43 (by decide) (ok_ic (pc := 45) d_182_45 rfl (ok_is (pc := 46) d_182_46 (by decide) (s_182_48)))
theorem s_182_42 {Γ : m_G} : m_ok Γ m_tab 182 M_182 42 (g_182_42) := ok_ic (pc := 42) d_182_42 rfl (s_182_43)
theorem s_182_31 {Γ : m_G} : m_ok Γ m_tab 182 M_182 31 (g_182_31) := ok_al_n (pc := 31) d_182_31 rfl (ok_getf (pc := 32) d_182_32 w_922 (hc1 fo_78) (ok_czne (pc := 35) (t := 42) d_182_35 rfl (by decide) rfl (ok_ic (pc := 38) d_182_38 rfl (ok_go (pc := 39) (t := 43) d_182_39 rfl (by decide) rfl))))
theorem s_182_28 {Γ : m_G} : m_ok Γ m_tab 182 M_182 28 (g_182_28) := ok_bi (pc := 28) d_182_28 rfl (ok_ri (pc := 30) d_182_30 rfl)
theorem s_182_0 {Γ : m_G} : m_ok Γ m_tab 182 M_182 0 (g_182_0) := ok_il_n (pc := 0) d_182_0 rfl (ok_il_n (pc := 1) d_182_1 rfl (ok_cieq (pc := 2) (t := 28) d_182_2 rfl (by decide) rfl (ok_al_n (pc := 5) d_182_5 rfl (ok_getf (pc := 6) d_182_6 w_921 (hc1 fo_76) (ok_il_n (pc := 9) d_182_9 rfl (ok_shr (pc := 10) d_182_10 (ok_ic (pc := 11) d_182_11 rfl (ok_and (pc := 12) d_182_12 (ok_ic (pc := 13) d_182_13 rfl (ok_cieq (pc := 14) (t := 28) d_182_14 rfl (by decide) rfl (ok_al_n (pc := 17) d_182_17 rfl (ok_ic (pc := 18) d_182_18 rfl (ok_il_n (pc := 19) d_182_19 rfl (ok_il_n (pc := 20) d_182_20 rfl (ok_il_n (pc := 21) d_182_21 rfl (ok_cai (pc := 22) (k2 := 180) rfl rfl tb_180 (by decide) (by decide) rfl (go_V d_182_22 w_1202 w_1204 ws_65 w_11 w_1205 nn_180 (by decide) cl_12 rfl) (ok_czne (pc := 25) (t := 31) d_182_25 rfl (by decide) rfl (s_182_28))))))))))))))))))
theorem tst_182 {Γ : m_G} (q : Nat) : m_ts Γ (t_182 q) q := ts_n (ts_n (ts_n (ts_l (k := 182) (pc := 0) tb_182 rfl (by decide) s_182_0) (ts_n (ts_l (k := 182) (pc := 28) tb_182 rfl (by decide) s_182_28) (ts_l (k := 182) (pc := 31) tb_182 rfl (by decide) s_182_31))) (ts_n (ts_l (k := 182) (pc := 42) tb_182 rfl (by decide) s_182_42) (ts_n (ts_l (k := 182) (pc := 43) tb_182 rfl (by decide) s_182_43) (ts_l (k := 182) (pc := 48) tb_182 rfl (by decide) s_182_48)))) (ts_n (ts_n (ts_l (k := 182) (pc := 72) tb_182 rfl (by decide) s_182_72) (ts_n (ts_l (k := 182) (pc := 95) tb_182 rfl (by decide) s_182_95) (ts_l (k := 182) (pc := 99) tb_182 rfl (by decide) s_182_99))) (ts_n (ts_l (k := 182) (pc := 105) tb_182 rfl (by decide) s_182_105) (ts_n (ts_l (k := 182) (pc := 115) tb_182 rfl (by decide) s_182_115) (ts_l (k := 182) (pc := 132) tb_182 rfl (by decide) s_182_132))))
theorem d_183_0 : decode prog_14_method_45_code 0 = .ok (.iconst 0, 1) := by decide +kernel
theorem d_183_1 : decode prog_14_method_45_code 1 = .ok (.istore_n 1, 1) := by decide +kernel
theorem d_183_2 : decode prog_14_method_45_code 2 = .ok (.iload_n 1, 1) := by decide +kernel
theorem d_183_3 : decode prog_14_method_45_code 3 = .ok (.aload_n 0, 1) := by decide +kernel
theorem d_183_4 : decode prog_14_method_45_code 4 = .ok (.getfield 25, 3) := by decide +kernel
theorem d_183_7 : decode prog_14_method_45_code 7 = .ok (.if_icmp .ge 63, 3) := by decide +kernel
theorem d_183_10 : decode prog_14_method_45_code 10 = .ok (.iconst 0, 1) := by decide +kernel
theorem d_183_11 : decode prog_14_method_45_code 11 = .ok (.istore_n 2, 1) := by decide +kernel
theorem d_183_12 : decode prog_14_method_45_code 12 = .ok (.iload_n 2, 1) := by decide +kernel
theorem d_183_13 : decode prog_14_method_45_code 13 = .ok (.aload_n 0, 1) := by decide +kernel
theorem d_183_14 : decode prog_14_method_45_code 14 = .ok (.getfield 29, 3) := by decide +kernel
theorem d_183_17 : decode prog_14_method_45_code 17 = .ok (.if_icmp .ge 47, 3) := by decide +kernel
theorem d_183_20 : decode prog_14_method_45_code 20 = .ok (.iconst 0, 1) := by decide +kernel
theorem d_183_21 : decode prog_14_method_45_code 21 = .ok (.istore_n 3, 1) := by decide +kernel
theorem d_183_22 : decode prog_14_method_45_code 22 = .ok (.iload_n 3, 1) := by decide +kernel
theorem d_183_23 : decode prog_14_method_45_code 23 = .ok (.aload_n 0, 1) := by decide +kernel
theorem d_183_24 : decode prog_14_method_45_code 24 = .ok (.getfield 29, 3) := by decide +kernel
theorem d_183_27 : decode prog_14_method_45_code 27 = .ok (.if_icmp .ge 31, 3) := by decide +kernel
theorem d_183_30 : decode prog_14_method_45_code 30 = .ok (.aload_n 0, 1) := by decide +kernel
theorem d_183_31 : decode prog_14_method_45_code 31 = .ok (.getfield 55, 3) := by decide +kernel
theorem d_183_34 : decode prog_14_method_45_code 34 = .ok (.bipush 25, 2) := by decide +kernel
theorem d_183_36 : decode prog_14_method_45_code 36 = .ok (.iload_n 1, 1) := by decide +kernel
theorem d_183_37 : decode prog_14_method_45_code 37 = .ok (.imul, 1) := by decide +kernel
theorem d_183_38 : decode prog_14_method_45_code 38 = .ok (.iconst 5, 1) := by decide +kernel
theorem d_183_39 : decode prog_14_method_45_code 39 = .ok (.iload_n 2, 1) := by decide +kernel
theorem d_183_40 : decode prog_14_method_45_code 40 = .ok (.imul, 1) := by decide +kernel
theorem d_183_41 : decode prog_14_method_45_code 41 = .ok (.iadd, 1) := by decide +kernel
theorem d_183_42 : decode prog_14_method_45_code 42 = .ok (.iload_n 3, 1) := by decide +kernel
theorem d_183_43 : decode prog_14_method_45_code 43 = .ok (.iadd, 1) := by decide +kernel
theorem d_183_44 : decode prog_14_method_45_code 44 = .ok (.aload_n 0, 1) := by decide +kernel
theorem d_183_45 : decode prog_14_method_45_code 45 = .ok (.iload_n 1, 1) := by decide +kernel
theorem d_183_46 : decode prog_14_method_45_code 46 = .ok (.iload_n 2, 1) := by decide +kernel
theorem d_183_47 : decode prog_14_method_45_code 47 = .ok (.iload_n 3, 1) := by decide +kernel
theorem d_183_48 : decode prog_14_method_45_code 48 = .ok (.invokevirtual 234, 3) := by decide +kernel
theorem d_183_51 : decode prog_14_method_45_code 51 = .ok (.iastore, 1) := by decide +kernel
theorem d_183_52 : decode prog_14_method_45_code 52 = .ok (.iinc 3 1, 3) := by decide +kernel
theorem d_183_55 : decode prog_14_method_45_code 55 = .ok (.goto (-33), 3) := by decide +kernel
theorem d_183_58 : decode prog_14_method_45_code 58 = .ok (.iinc 2 1, 3) := by decide +kernel
theorem d_183_61 : decode prog_14_method_45_code 61 = .ok (.goto (-49), 3) := by decide +kernel
theorem d_183_64 : decode prog_14_method_45_code 64 = .ok (.iinc 1 1, 3) := by decide +kernel
theorem d_183_67 : decode prog_14_method_45_code 67 = .ok (.goto (-65), 3) := by decide +kernel
theorem d_183_70 : decode prog_14_method_45_code 70 = .ok (.return_, 1) := by decide +kernel
theorem s_183_70 {Γ : m_G} : m_ok Γ m_tab 183 M_183 70 (g_183_70) := ok_rv (pc := 70) d_183_70 rfl
theorem s_183_64 {Γ : m_G} : m_ok Γ m_tab 183 M_183 64 (g_183_64) := ok_inc (pc := 64) d_183_64 rfl (by decide) (ok_go (pc := 67) (t := 2) d_183_67 rfl (by decide) rfl)
theorem s_183_58 {Γ : m_G} : m_ok Γ m_tab 183 M_183 58 (g_183_58) := ok_inc (pc := 58) d_183_58 rfl (by decide) (ok_go (pc := 61) (t := 12) d_183_61 rfl (by decide) rfl)
theorem s_183_22 {Γ : m_G} : m_ok Γ m_tab 183 M_183 22 (g_183_22) := ok_il_n (pc := 22) d_183_22 rfl (ok_al_n (pc := 23) d_183_23 rfl (ok_getf (pc := 24) d_183_24 w_919 (hc1 fo_75) (ok_cige (pc := 27) (t := 58) d_183_27 rfl (by decide) rfl (ok_al_n (pc := 30) d_183_30 rfl (ok_getf (pc := 31) d_183_31 w_940 (hc1 fo_97) (ok_bi (pc := 34) d_183_34 rfl (ok_il_n (pc := 36) d_183_36 rfl (ok_mul (pc := 37) d_183_37 (ok_ic (pc := 38) d_183_38 rfl (ok_il_n (pc := 39) d_183_39 rfl (ok_mul (pc := 40) d_183_40 (ok_add (pc := 41) d_183_41 (ok_il_n (pc := 42) d_183_42 rfl (ok_add (pc := 43) d_183_43 (ok_al_n (pc := 44) d_183_44 rfl (ok_il_n (pc := 45) d_183_45 rfl (ok_il_n (pc := 46) d_183_46 rfl (ok_il_n (pc := 47) d_183_47 rfl (ok_cai (pc := 48) (k2 := 182) rfl rfl tb_182 (by decide) (by decide) rfl (go_V d_183_48 w_1198 w_1200 ws_64 w_11 w_1201 nn_182 (by decide) cl_12 rfl) (ok_iast (pc := 51) d_183_51 (ok_inc (pc := 52) d_183_52 rfl (by decide) (ok_go (pc := 55) (t := 22) d_183_55 rfl (by decide) rfl))))))))))))))))))))))
theorem s_183_12 {Γ : m_G} : m_ok Γ m_tab 183 M_183 12 (g_183_12) := ok_il_n (pc := 12) d_183_12 rfl (ok_al_n (pc := 13) d_183_13 rfl (ok_getf (pc := 14) d_183_14 w_919 (hc1 fo_75) (ok_cige (pc := 17) (t := 64) d_183_17 rfl (by decide) rfl (ok_ic (pc := 20) d_183_20 rfl (ok_is_n (pc := 21) d_183_21 rfl (by decide) (s_183_22))))))
theorem s_183_2 {Γ : m_G} : m_ok Γ m_tab 183 M_183 2 (g_183_2) := ok_il_n (pc := 2) d_183_2 rfl (ok_al_n (pc := 3) d_183_3 rfl (ok_getf (pc := 4) d_183_4 w_918 (hc1 fo_74) (ok_cige (pc := 7) (t := 70) d_183_7 rfl (by decide) rfl (ok_ic (pc := 10) d_183_10 rfl (ok_is_n (pc := 11) d_183_11 rfl (by decide) (s_183_12))))))
theorem s_183_0 {Γ : m_G} : m_ok Γ m_tab 183 M_183 0 (g_183_0) := ok_ic (pc := 0) d_183_0 rfl (ok_is_n (pc := 1) d_183_1 rfl (by decide) (s_183_2))
theorem tst_183 {Γ : m_G} (q : Nat) : m_ts Γ (t_183 q) q := ts_n (ts_n (ts_l (k := 183) (pc := 0) tb_183 rfl (by decide) s_183_0) (ts_n (ts_l (k := 183) (pc := 2) tb_183 rfl (by decide) s_183_2) (ts_l (k := 183) (pc := 12) tb_183 rfl (by decide) s_183_12))) (ts_n (ts_n (ts_l (k := 183) (pc := 22) tb_183 rfl (by decide) s_183_22) (ts_l (k := 183) (pc := 58) tb_183 rfl (by decide) s_183_58)) (ts_n (ts_l (k := 183) (pc := 64) tb_183 rfl (by decide) s_183_64) (ts_l (k := 183) (pc := 70) tb_183 rfl (by decide) s_183_70)))
theorem d_184_0 : decode prog_14_method_46_code 0 = .ok (.aload_n 0, 1) := by decide +kernel
theorem d_184_1 : decode prog_14_method_46_code 1 = .ok (.getfield 58, 3) := by decide +kernel
theorem d_184_4 : decode prog_14_method_46_code 4 = .ok (.iconst 0, 1) := by decide +kernel
theorem d_184_5 : decode prog_14_method_46_code 5 = .ok (.iconst 1, 1) := by decide +kernel
theorem d_184_6 : decode prog_14_method_46_code 6 = .ok (.iastore, 1) := by decide +kernel
theorem d_184_7 : decode prog_14_method_46_code 7 = .ok (.iconst 0, 1) := by decide +kernel
theorem d_184_8 : decode prog_14_method_46_code 8 = .ok (.istore_n 1, 1) := by decide +kernel
theorem d_184_9 : decode prog_14_method_46_code 9 = .ok (.iload_n 1, 1) := by decide +kernel
theorem d_184_10 : decode prog_14_method_46_code 10 = .ok (.aload_n 0, 1) := by decide +kernel
theorem d_184_11 : decode prog_14_method_46_code 11 = .ok (.getfield 25, 3) := by decide +kernel
theorem d_184_14 : decode prog_14_method_46_code 14 = .ok (.if_icmp .ge 28, 3) := by decide +kernel
theorem d_184_17 : decode prog_14_method_46_code 17 = .ok (.aload_n 0, 1) := by decide +kernel
theorem d_184_18 : decode prog_14_method_46_code 18 = .ok (.getfield 58, 3) := by decide +kernel
theorem d_184_21 : decode prog_14_method_46_code 21 = .ok (.iload_n 1, 1) := by decide +kernel
theorem d_184_22 : decode prog_14_method_46_code 22 = .ok (.iconst 1, 1) := by decide +kernel
theorem d_184_23 : decode prog_14_method_46_code 23 = .ok (.iadd, 1) := by decide +kernel
theorem d_184_24 : decode prog_14_method_46_code 24 = .ok (.aload_n 0, 1) := by decide +kernel
theorem d_184_25 : decode prog_14_method_46_code 25 = .ok (.getfield 58, 3) := by decide +kernel
theorem d_184_28 : decode prog_14_method_46_code 28 = .ok (.iload_n 1, 1) := by decide +kernel
theorem d_184_29 : decode prog_14_method_46_code 29 = .ok (.iaload, 1) := by decide +kernel
theorem d_184_30 : decode prog_14_method_46_code 30 = .ok (.aload_n 0, 1) := by decide +kernel
theorem d_184_31 : decode prog_14_method_46_code 31 = .ok (.getfield 29, 3) := by decide +kernel
theorem d_184_34 : decode prog_14_method_46_code 34 = .ok (.imul, 1) := by decide +kernel
theorem d_184_35 : decode prog_14_method_46_code 35 = .ok (.iastore, 1) := by decide +kernel
theorem d_184_36 : decode prog_14_method_46_code 36 = .ok (.iinc 1 1, 3) := by decide +kernel
theorem d_184_39 : decode prog_14_method_46_code 39 = .ok (.goto (-30), 3) := by decide +kernel
theorem d_184_42 : decode prog_14_method_46_code 42 = .ok (.return_, 1) := by decide +kernel
theorem s_184_42 {Γ : m_G} : m_ok Γ m_tab 184 M_184 42 (g_184_42) := ok_rv (pc := 42) d_184_42 rfl
theorem s_184_9 {Γ : m_G} : m_ok Γ m_tab 184 M_184 9 (g_184_9) := ok_il_n (pc := 9) d_184_9 rfl (ok_al_n (pc := 10) d_184_10 rfl (ok_getf (pc := 11) d_184_11 w_918 (hc1 fo_74) (ok_cige (pc := 14) (t := 42) d_184_14 rfl (by decide) rfl (ok_al_n (pc := 17) d_184_17 rfl (ok_getf (pc := 18) d_184_18 w_941 (hc1 fo_98) (ok_il_n (pc := 21) d_184_21 rfl (ok_ic (pc := 22) d_184_22 rfl (ok_add (pc := 23) d_184_23 (ok_al_n (pc := 24) d_184_24 rfl (ok_getf (pc := 25) d_184_25 w_941 (hc1 fo_98) (ok_il_n (pc := 28) d_184_28 rfl (ok_iald (pc := 29) d_184_29 (ok_al_n (pc := 30) d_184_30 rfl (ok_getf (pc := 31) d_184_31 w_919 (hc1 fo_75) (ok_mul (pc := 34) d_184_34 (ok_iast (pc := 35) d_184_35 (ok_inc (pc := 36) d_184_36 rfl (by decide) (ok_go (pc := 39) (t := 9) d_184_39 rfl (by decide) rfl))))))))))))))))))
theorem s_184_0 {Γ : m_G} : m_ok Γ m_tab 184 M_184 0 (g_184_0) := ok_al_n (pc := 0) d_184_0 rfl (ok_getf (pc := 1) d_184_1 w_941 (hc1 fo_98) (ok_ic (pc := 4) d_184_4 rfl (ok_ic (pc := 5) d_184_5 rfl (ok_iast (pc := 6) d_184_6 (ok_ic (pc := 7) d_184_7 rfl (ok_is_n (pc := 8) d_184_8 rfl (by decide) (s_184_9)))))))
theorem tst_184 {Γ : m_G} (q : Nat) : m_ts Γ (t_184 q) q := ts_n (ts_l (k := 184) (pc := 0) tb_184 rfl (by decide) s_184_0) (ts_n (ts_l (k := 184) (pc := 9) tb_184 rfl (by decide) s_184_9) (ts_l (k := 184) (pc := 42) tb_184 rfl (by decide) s_184_42))
theorem d_185_0 : decode prog_14_method_47_code 0 = .ok (.iload_n 1, 1) := by decide +kernel
theorem d_185_1 : decode prog_14_method_47_code 1 = .ok (.aload_n 0, 1) := by decide +kernel
theorem d_185_2 : decode prog_14_method_47_code 2 = .ok (.getfield 58, 3) := by decide +kernel
theorem d_185_5 : decode prog_14_method_47_code 5 = .ok (.iload_n 2, 1) := by decide +kernel
theorem d_185_6 : decode prog_14_method_47_code 6 = .ok (.iaload, 1) := by decide +kernel
theorem d_185_7 : decode prog_14_method_47_code 7 = .ok (.idiv, 1) := by decide +kernel
theorem d_185_8 : decode prog_14_method_47_code 8 = .ok (.aload_n 0, 1) := by decide +kernel
theorem d_185_9 : decode prog_14_method_47_code 9 = .ok (.getfield 29, 3) := by decide +kernel
theorem d_185_12 : decode prog_14_method_47_code 12 = .ok (.irem, 1) := by decide +kernel
theorem d_185_13 : decode prog_14_method_47_code 13 = .ok (.ireturn, 1) := by decide +kernel
theorem s_185_0 {Γ : m_G} : m_ok Γ m_tab 185 M_185 0 (g_185_0) := ok_il_n (pc := 0) d_185_0 rfl (ok_al_n (pc := 1) d_185_1 rfl (ok_getf (pc := 2) d_185_2 w_941 (hc1 fo_98) (ok_il_n (pc := 5) d_185_5 rfl (ok_iald (pc := 6) d_185_6 (ok_div (pc := 7) d_185_7 (ok_al_n (pc := 8) d_185_8 rfl (ok_getf (pc := 9) d_185_9 w_919 (hc1 fo_75) (ok_rem (pc := 12) d_185_12 (ok_ri (pc := 13) d_185_13 rfl)))))))))
theorem tst_185 {Γ : m_G} (q : Nat) : m_ts Γ (t_185 q) q := ts_l (k := 185) (pc := 0) tb_185 rfl (by decide) s_185_0
theorem d_186_0 : decode prog_14_method_48_code 0 = .ok (.aload_n 0, 1) := by decide +kernel
theorem d_186_1 : decode prog_14_method_48_code 1 = .ok (.iload_n 1, 1) := by decide +kernel
theorem d_186_2 : decode prog_14_method_48_code 2 = .ok (.iload_n 2, 1) := by decide +kernel
theorem d_186_3 : decode prog_14_method_48_code 3 = .ok (.invokevirtual 237, 3) := by decide +kernel
theorem d_186_6 : decode prog_14_method_48_code 6 = .ok (.istore 4, 2) := by decide +kernel
theorem d_186_8 : decode prog_14_method_48_code 8 = .ok (.aload_n 0, 1) := by decide +kernel
theorem d_186_9 : decode prog_14_method_48_code 9 = .ok (.getfield 55, 3) := by decide +kernel
theorem d_186_12 : decode prog_14_method_48_code 12 = .ok (.bipush 25, 2) := by decide +kernel
theorem d_186_14 : decode prog_14_method_48_code 14 = .ok (.iload_n 2, 1) := by decide +kernel
theorem d_186_15 : decode prog_14_method_48_code 15 = .ok (.imul, 1) := by decide +kernel
theorem d_186_16 : decode prog_14_method_48_code 16 = .ok (.iconst 5, 1) := by decide +kernel
theorem d_186_17 : decode prog_14_method_48_code 17 = .ok (.iload 4, 2) := by decide +kernel
theorem d_186_19 : decode prog_14_method_48_code 19 = .ok (.imul, 1) := by decide +kernel
theorem d_186_20 : decode prog_14_method_48_code 20 = .ok (.iadd, 1) := by decide +kernel
theorem d_186_21 : decode prog_14_method_48_code 21 = .ok (.iload_n 3, 1) := by decide +kernel
theorem d_186_22 : decode prog_14_method_48_code 22 = .ok (.iadd, 1) := by decide +kernel
theorem d_186_23 : decode prog_14_method_48_code 23 = .ok (.iaload, 1) := by decide +kernel
theorem d_186_24 : decode prog_14_method_48_code 24 = .ok (.istore 5, 2) := by decide +kernel
theorem d_186_26 : decode prog_14_method_48_code 26 = .ok (.iconst 0, 1) := by decide +kernel
theorem d_186_27 : decode prog_14_method_48_code 27 = .ok (.istore 6, 2) := by decide +kernel
theorem d_186_29 : decode prog_14_method_48_code 29 = .ok (.iload 6, 2) := by decide +kernel
theorem d_186_31 : decode prog_14_method_48_code 31 = .ok (.aload_n 0, 1) := by decide +kernel
theorem d_186_32 : decode prog_14_method_48_code 32 = .ok (.getfield 25, 3) := by decide +kernel
theorem d_186_35 : decode prog_14_method_48_code 35 = .ok (.if_icmp .ge 44, 3) := by decide +kernel
theorem d_186_38 : decode prog_14_method_48_code 38 = .ok (.iload 5, 2) := by decide +kernel
theorem d_186_40 : decode prog_14_method_48_code 40 = .ok (.ifCond .lt 39, 3) := by decide +kernel
theorem d_186_43 : decode prog_14_method_48_code 43 = .ok (.aload_n 0, 1) := by decide +kernel
theorem d_186_44 : decode prog_14_method_48_code 44 = .ok (.getfield 7, 3) := by decide +kernel
theorem d_186_47 : decode prog_14_method_48_code 47 = .ok (.iload_n 2, 1) := by decide +kernel
theorem d_186_48 : decode prog_14_method_48_code 48 = .ok (.iaload, 1) := by decide +kernel
theorem d_186_49 : decode prog_14_method_48_code 49 = .ok (.iload 6, 2) := by decide +kernel
theorem d_186_51 : decode prog_14_method_48_code 51 = .ok (.ishr, 1) := by decide +kernel
theorem d_186_52 : decode prog_14_method_48_code 52 = .ok (.iconst 1, 1) := by decide +kernel
theorem d_186_53 : decode prog_14_method_48_code 53 = .ok (.iand, 1) := by decide +kernel
theorem d_186_54 : decode prog_14_method_48_code 54 = .ok (.iconst 1, 1) := by decide +kernel
theorem d_186_55 : decode prog_14_method_48_code 55 = .ok (.if_icmp .ne 18, 3) := by decide +kernel
theorem d_186_58 : decode prog_14_method_48_code 58 = .ok (.aload_n 0, 1) := by decide +kernel
theorem d_186_59 : decode prog_14_method_48_code 59 = .ok (.iload_n 1, 1) := by decide +kernel
theorem d_186_60 : decode prog_14_method_48_code 60 = .ok (.iload 6, 2) := by decide +kernel
theorem d_186_62 : decode prog_14_method_48_code 62 = .ok (.invokevirtual 237, 3) := by decide +kernel
theorem d_186_65 : decode prog_14_method_48_code 65 = .ok (.iload_n 3, 1) := by decide +kernel
theorem d_186_66 : decode prog_14_method_48_code 66 = .ok (.if_icmp .ne 7, 3) := by decide +kernel
theorem d_186_69 : decode prog_14_method_48_code 69 = .ok (.bipush (-5), 2) := by decide +kernel
theorem d_186_71 : decode prog_14_method_48_code 71 = .ok (.istore 5, 2) := by decide +kernel
theorem d_186_73 : decode prog_14_method_48_code 73 = .ok (.iinc 6 1, 3) := by decide +kernel
theorem d_186_76 : decode prog_14_method_48_code 76 = .ok (.goto (-47), 3) := by decide +kernel
theorem d_186_79 : decode prog_14_method_48_code 79 = .ok (.iload 5, 2) := by decide +kernel
theorem d_186_81 : decode prog_14_method_48_code 81 = .ok (.ireturn, 1) := by decide +kernel
theorem s_186_79 {Γ : m_G} : m_ok Γ m_tab 186 M_186 79 (g_186_79) := ok_il (pc := 79) d_186_79 (ok_ri (pc := 81) d_186_81 rfl)
theorem s_186_73 {Γ : m_G} : m_ok Γ m_tab 186 M_186 73 (g_186_73) := ok_inc (pc := 73) d_186_73 rfl (by decide) (ok_go (pc := 76) (t := 29) d_186_76 rfl (by decide) rfl)
theorem s_186_29 {Γ : m_G} : m_ok Γ m_tab 186 M_186 29 (g_186_29) := ok_il (pc := 29) d_186_29 (ok_al_n (pc := 31) d_186_31 rfl (ok_getf (pc := 32) d_186_32 w_918 (hc1 fo_74) (ok_cige (pc := 35) (t := 79) d_186_35 rfl (by decide) rfl (ok_il (pc := 38) d_186_38 (ok_czlt (pc := 40) (t := 79) d_186_40 rfl (by decide) rfl (ok_al_n (pc := 43) d_186_43 rfl (ok_getf (pc := 44) d_186_44 w_913 (hc1 fo_73) (ok_il_n (pc := 47) d_186_47 rfl (ok_iald (pc := 48) d_186_48 (ok_il (pc := 49) d_186_49 (ok_shr (pc := 51) d_186_51 (ok_ic (pc := 52) d_186_52 rfl (ok_and (pc := 53) d_186_53 (ok_ic (pc := 54) d_186_54 rfl (ok_cine (pc := 55) (t := 73) d_186_55 rfl (by decide) rfl (ok_al_n (pc := 58) d_186_58 rfl (ok_il_n (pc := 59) d_186_59 rfl (ok_il (pc := 60) d_186_60 (ok_cai (pc := 62) (k2 := 185) rfl rfl tb_185 (by decide) (by decide) rfl (go_V d_186_62 w_1178 w_1180 ws_60 w_11 w_1181 nn_185 (by decide) cl_12 rfl) (ok_il_n (pc := 65) d_186_65 rfl (ok_cine (pc := 66) (t := 73) d_186_66 rfl (by decide) rfl (ok_bi (pc := 69) d_186_69 rfl (ok_is (pc := 71) d_186_71 (by decide) (s_186_73))))))))))))))))))))))))
theorem s_186_0 {Γ : m_G} : m_ok Γ m_tab 186 M_186 0 (g_186_0) := ok_al_n (pc := 0) d_186_0 rfl (ok_il_n (pc := 1) d_186_1 rfl (ok_il_n (pc := 2) d_186_2 rfl (ok_cai (pc := 3) (k2 := 185) rfl rfl tb_185 (by decide) (by decide) rfl (go_V d_186_3 w_1178 w_1180 ws_60 w_11 w_1181 nn_185 (by decide) cl_12 rfl) (ok_is (pc := 6) d_186_6 (by decide) (ok_al_n (pc := 8) d_186_8 rfl (ok_getf (pc := 9) d_186_9 w_940 (hc1 fo_97) (ok_bi (pc := 12) d_186_12 rfl (ok_il_n (pc := 14) d_186_14 rfl (ok_mul (pc := 15) d_186_15 (ok_ic (pc := 16) d_186_16 rfl (ok_il (pc := 17) d_186_17 (ok_mul (pc := 19) d_186_19 (ok_add (pc := 20) d_186_20 (ok_il_n (pc := 21) d_186_21 rfl (ok_add (pc := 22) d_186_22 (ok_iald (pc := 23) d_186_23 (ok_is (pc := 24) d_186_24 (by decide) (ok_ic (pc := 26) d_186_26 rfl (ok_is (pc := 27) d_186_27 (by decide) (s_186_29))))))))))))))))))))
theorem tst_186 {Γ : m_G} (q : Nat) : m_ts Γ (t_186 q) q := ts_n (ts_n (ts_l (k := 186) (pc := 0) tb_186 rfl (by decide) s_186_0) (ts_l (k := 186) (pc := 29) tb_186 rfl (by decide) s_186_29)) (ts_n (ts_l (k := 186) (pc := 73) tb_186 rfl (by decide) s_186_73) (ts_l (k := 186) (pc := 79) tb_186 rfl (by decide) s_186_79))
theorem d_187_0 : decode prog_14_method_49_code 0 = .ok (.iload_n 1, 1) := by decide +kernel
theorem d_187_1 : decode prog_14_method_49_code 1 = .ok (.aload_n 0, 1) := by decide +kernel
theorem d_187_2 : decode prog_14_method_49_code 2 = .ok (.getfield 58, 3) := by decide +kernel
theorem d_187_5 : decode prog_14_method_49_code 5 = .ok (.iload_n 2, 1) := by decide +kernel
theorem d_187_6 : decode prog_14_method_49_code 6 = .ok (.iaload, 1) := by decide +kernel
theorem d_187_7 : decode prog_14_method_49_code 7 = .ok (.iload_n 3, 1) := by decide +kernel
theorem d_187_8 : decode prog_14_method_49_code 8 = .ok (.aload_n 0, 1) := by decide +kernel
theorem d_187_9 : decode prog_14_method_49_code 9 = .ok (.iload_n 1, 1) := by decide +kernel
theorem d_187_10 : decode prog_14_method_49_code 10 = .ok (.iload_n 2, 1) := by decide +kernel
theorem d_187_11 : decode prog_14_method_49_code 11 = .ok (.invokevirtual 237, 3) := by decide +kernel
theorem d_187_14 : decode prog_14_method_49_code 14 = .ok (.isub, 1) := by decide +kernel
theorem d_187_15 : decode prog_14_method_49_code 15 = .ok (.imul, 1) := by decide +kernel
theorem d_187_16 : decode prog_14_method_49_code 16 = .ok (.iadd, 1) := by decide +kernel
theorem d_187_17 : decode prog_14_method_49_code 17 = .ok (.ireturn, 1) := by decide +kernel
theorem s_187_0 {Γ : m_G} : m_ok Γ m_tab 187 M_187 0 (g_187_0) := ok_il_n (pc := 0) d_187_0 rfl (ok_al_n (pc := 1) d_187_1 rfl (ok_getf (pc := 2) d_187_2 w_941 (hc1 fo_98) (ok_il_n (pc := 5) d_187_5 rfl (ok_iald (pc := 6) d_187_6 (ok_il_n (pc := 7) d_187_7 rfl (ok_al_n (pc := 8) d_187_8 rfl (ok_il_n (pc := 9) d_187_9 rfl (ok_il_n (pc := 10) d_187_10 rfl (ok_cai (pc := 11) (k2 := 185) rfl rfl tb_185 (by decide) (by decide) rfl (go_V d_187_11 w_1178 w_1180 ws_60 w_11 w_1181 nn_185 (by decide) cl_12 rfl) (ok_sub (pc := 14) d_187_14 (ok_mul (pc := 15) d_187_15 (ok_add (pc := 16) d_187_16 (ok_ri (pc := 17) d_187_17 rfl)))))))))))))
theorem tst_187 {Γ : m_G} (q : Nat) : m_ts Γ (t_187 q) q := ts_l (k := 187) (pc := 0) tb_187 rfl (by decide) s_187_0
theorem d_188_0 : decode prog_14_method_50_code 0 = .ok (.iconst 0, 1) := by decide +kernel
theorem d_188_1 : decode prog_14_method_50_code 1 = .ok (.istore_n 2, 1) := by decide +kernel
theorem d_188_2 : decode prog_14_method_50_code 2 = .ok (.iload_n 2, 1) := by decide +kernel
theorem d_188_3 : decode prog_14_method_50_code 3 = .ok (.aload_n 0, 1) := by decide +kernel
theorem d_188_4 : decode prog_14_method_50_code 4 = .ok (.getfield 25, 3) := by decide +kernel
theorem d_188_7 : decode prog_14_method_50_code 7 = .ok (.if_icmp .ge 53, 3) := by decide +kernel
theorem d_188_10 : decode prog_14_method_50_code 10 = .ok (.iconst 0, 1) := by decide +kernel
theorem d_188_11 : decode prog_14_method_50_code 11 = .ok (.istore_n 3, 1) := by decide +kernel
theorem d_188_12 : decode prog_14_method_50_code 12 = .ok (.iload_n 3, 1) := by decide +kernel
theorem d_188_13 : decode prog_14_method_50_code 13 = .ok (.iload_n 2, 1) := by decide +kernel
theorem d_188_14 : decode prog_14_method_50_code 14 = .ok (.if_icmp .ge 40, 3) := by decide +kernel
theorem d_188_17 : decode prog_14_method_50_code 17 = .ok (.aload_n 0, 1) := by decide +kernel
theorem d_188_18 : decode prog_14_method_50_code 18 = .ok (.getfield 7, 3) := by decide +kernel
theorem d_188_21 : decode prog_14_method_50_code 21 = .ok (.iload_n 2, 1) := by decide +kernel
theorem d_188_22 : decode prog_14_method_50_code 22 = .ok (.iaload, 1) := by decide +kernel
theorem d_188_23 : decode prog_14_method_50_code 23 = .ok (.iload_n 3, 1) := by decide +kernel
theorem d_188_24 : decode prog_14_method_50_code 24 = .ok (.ishr, 1) := by decide +kernel
theorem d_188_25 : decode prog_14_method_50_code 25 = .ok (.iconst 1, 1) := by decide +kernel
theorem d_188_26 : decode prog_14_method_50_code 26 = .ok (.iand, 1) := by decide +kernel
theorem d_188_27 : decode prog_14_method_50_code 27 = .ok (.iconst 1, 1) := by decide +kernel
theorem d_188_28 : decode prog_14_method_50_code 28 = .ok (.if_icmp .ne 20, 3) := by decide +kernel
theorem d_188_31 : decode prog_14_method_50_code 31 = .ok (.aload_n 0, 1) := by decide +kernel
theorem d_188_32 : decode prog_14_method_50_code 32 = .ok (.iload_n 1, 1) := by decide +kernel
theorem d_188_33 : decode prog_14_method_50_code 33 = .ok (.iload_n 2, 1) := by decide +kernel
theorem d_188_34 : decode prog_14_method_50_code 34 = .ok (.invokevirtual 237, 3) := by decide +kernel
theorem d_188_37 : decode prog_14_method_50_code 37 = .ok (.aload_n 0, 1) := by decide +kernel
theorem d_188_38 : decode prog_14_method_50_code 38 = .ok (.iload_n 1, 1) := by decide +kernel
theorem d_188_39 : decode prog_14_method_50_code 39 = .ok (.iload_n 3, 1) := by decide +kernel
theorem d_188_40 : decode prog_14_method_50_code 40 = .ok (.invokevirtual 237, 3) := by decide +kernel
theorem d_188_43 : decode prog_14_method_50_code 43 = .ok (.if_icmp .ne 5, 3) := by decide +kernel
theorem d_188_46 : decode prog_14_method_50_code 46 = .ok (.iconst 0, 1) := by decide +kernel
theorem d_188_47 : decode prog_14_method_50_code 47 = .ok (.ireturn, 1) := by decide +kernel
theorem d_188_48 : decode prog_14_method_50_code 48 = .ok (.iinc 3 1, 3) := by decide +kernel
theorem d_188_51 : decode prog_14_method_50_code 51 = .ok (.goto (-39), 3) := by decide +kernel
theorem d_188_54 : decode prog_14_method_50_code 54 = .ok (.iinc 2 1, 3) := by decide +kernel
theorem d_188_57 : decode prog_14_method_50_code 57 = .ok (.goto (-55), 3) := by decide +kernel
theorem d_188_60 : decode prog_14_method_50_code 60 = .ok (.iconst 1, 1) := by decide +kernel
theorem d_188_61 : decode prog_14_method_50_code 61 = .ok (.ireturn, 1) := by decide +kernel
theorem s_188_60 {Γ : m_G} : m_ok Γ m_tab 188 M_188 60 (g_188_60) := ok_ic (pc := 60) d_188_60 rfl (ok_rz (pc := 61) d_188_61 rfl)
theorem s_188_54 {Γ : m_G} : m_ok Γ m_tab 188 M_188 54 (g_188_54) := ok_inc (pc := 54) d_188_54 rfl (by decide) (ok_go (pc := 57) (t := 2) d_188_57 rfl (by decide) rfl)
theorem s_188_48 {Γ : m_G} : m_ok Γ m_tab 188 M_188 48 (g_188_48) := ok_inc (pc := 48) d_188_48 rfl (by decide) (ok_go (pc := 51) (t := 12) d_188_51 rfl (by decide) rfl)
theorem s_188_12 {Γ : m_G} : m_ok Γ m_tab 188 M_188 12 (g_188_12) := ok_il_n (pc := 12) d_188_12 rfl (ok_il_n (pc := 13) d_188_13 rfl (ok_cige (pc := 14) (t := 54) d_188_14 rfl (by decide) rfl (ok_al_n (pc := 17) d_188_17 rfl (ok_getf (pc := 18) d_188_18 w_913 (hc1 fo_73) (ok_il_n (pc := 21) d_188_21 rfl (ok_iald (pc := 22) d_188_22 (ok_il_n (pc := 23) d_188_23 rfl (ok_shr (pc := 24) d_188_24 (ok_ic (pc := 25) d_188_25 rfl (ok_and (pc := 26) d_188_26 (ok_ic (pc := 27) d_188_27 rfl (ok_cine (pc := 28) (t := 48) d_188_28 rfl (by decide) rfl (ok_al_n (pc := 31) d_188_31 rfl (ok_il_n (pc := 32) d_188_32 rfl (ok_il_n (pc := 33) d_188_33 rfl (ok_cai (pc := 34) (k2 := 185) rfl rfl tb_185 (by decide) (by decide) rfl (go_V d_188_34 w_1178 w_1180 ws_60 w_11 w_1181 nn_185 (by decide) cl_12 rfl) (ok_al_n (pc := 37) d_188_37 rfl (ok_il_n (pc := 38) d_188_38 rfl (ok_il_n (pc := 39) d_188_39 rfl (ok_cai (pc := 40) (k2 := 185) rfl rfl tb_185 (by decide) (by decide) rfl (go_V d_188_40 w_1178 w_1180 ws_60 w_11 w_1181 nn_185 (by decide) cl_12 rfl) (ok_cine (pc := 43) (t := 48) d_188_43 rfl (by decide) rfl (ok_ic (pc := 46) d_188_46 rfl (ok_rz (pc := 47) d_188_47 rfl)))))))))))))))))))))))
theorem s_188_2 {Γ : m_G} : m_ok Γ m_tab 188 M_188 2 (g_188_2) := ok_il_n (pc := 2) d_188_2 rfl (ok_al_n (pc := 3) d_188_3 rfl (ok_getf (pc := 4) d_188_4 w_918 (hc1 fo_74) (ok_cige (pc := 7) (t := 60) d_188_7 rfl (by decide) rfl (ok_ic (pc := 10) d_188_10 rfl (ok_is_n (pc := 11) d_188_11 rfl (by decide) (s_188_12))))))
theorem s_188_0 {Γ : m_G} : m_ok Γ m_tab 188 M_188 0 (g_188_0) := ok_ic (pc := 0) d_188_0 rfl (ok_is_n (pc := 1) d_188_1 rfl (by decide) (s_188_2))
theorem tst_188 {Γ : m_G} (q : Nat) : m_ts Γ (t_188 q) q := ts_n (ts_n (ts_l (k := 188) (pc := 0) tb_188 rfl (by decide) s_188_0) (ts_n (ts_l (k := 188) (pc := 2) tb_188 rfl (by decide) s_188_2) (ts_l (k := 188) (pc := 12) tb_188 rfl (by decide) s_188_12))) (ts_n (ts_l (k := 188) (pc := 48) tb_188 rfl (by decide) s_188_48) (ts_n (ts_l (k := 188) (pc := 54) tb_188 rfl (by decide) s_188_54) (ts_l (k := 188) (pc := 60) tb_188 rfl (by decide) s_188_60)))
theorem d_189_0 : decode prog_14_method_51_code 0 = .ok (.aload_n 0, 1) := by decide +kernel
theorem d_189_1 : decode prog_14_method_51_code 1 = .ok (.invokevirtual 240, 3) := by decide +kernel
theorem d_189_4 : decode prog_14_method_51_code 4 = .ok (.aload_n 0, 1) := by decide +kernel
theorem d_189_5 : decode prog_14_method_51_code 5 = .ok (.aload_n 0, 1) := by decide +kernel
theorem d_189_6 : decode prog_14_method_51_code 6 = .ok (.invokevirtual 243, 3) := by decide +kernel
theorem d_189_9 : decode prog_14_method_51_code 9 = .ok (.invokevirtual 246, 3) := by decide +kernel
theorem d_189_12 : decode prog_14_method_51_code 12 = .ok (.ifCond .eq 7, 3) := by decide +kernel
theorem d_189_15 : decode prog_14_method_51_code 15 = .ok (.iconst 1, 1) := by decide +kernel
theorem d_189_16 : decode prog_14_method_51_code 16 = .ok (.goto 4, 3) := by decide +kernel
theorem d_189_19 : decode prog_14_method_51_code 19 = .ok (.iconst 0, 1) := by decide +kernel
theorem d_189_20 : decode prog_14_method_51_code 20 = .ok (.ireturn, 1) := by decide +kernel
theorem s_189_20 {Γ : m_G} : m_ok Γ m_tab 189 M_189 20 (g_189_20) := ok_ri (pc := 20) d_189_20 rfl
theorem s_189_19 {Γ : m_G} : m_ok Γ m_tab 189 M_189 19 (g_189_19) := ok_ic (pc := 19) d_189_19 rfl (s_189_20)
theorem s_189_0 {Γ : m_G} : m_ok Γ m_tab 189 M_189 0 (g_189_0) := ok_al_n (pc := 0) d_189_0 rfl (ok_cvi (pc := 1) (k2 := 184) rfl rfl tb_184 (by decide) (by decide) rfl (go_V d_189_1 w_1166 w_1168 ws_57 w_11 w_1169 nn_184 (by decide) cl_12 rfl) (ok_al_n (pc := 4) d_189_4 rfl (ok_al_n (pc := 5) d_189_5 rfl (ok_cai (pc := 6) (k2 := 145) rfl rfl tb_145 (by decide) (by decide) rfl (go_V d_189_6 w_1170 w_1172 ws_58 w_11 w_1173 nn_145 (by decide) cl_12 rfl) (ok_cai (pc := 9) (k2 := 188) rfl rfl tb_188 (by decide) (by decide) rfl (go_V d_189_9 w_1174 w_1176 ws_59 w_11 w_1177 nn_188 (by decide) cl_12 rfl) (ok_czeq (pc := 12) (t := 19) d_189_12 rfl (by decide) rfl (ok_ic (pc := 15) d_189_15 rfl (ok_go (pc := 16) (t := 20) d_189_16 rfl (by decide) rfl))))))))
theorem tst_189 {Γ : m_G} (q : Nat) : m_ts Γ (t_189 q) q := ts_n (ts_l (k := 189) (pc := 0) tb_189 rfl (by decide) s_189_0) (ts_n (ts_l (k := 189) (pc := 19) tb_189 rfl (by decide) s_189_19) (ts_l (k := 189) (pc := 20) tb_189 rfl (by decide) s_189_20))
theorem d_190_0 : decode prog_14_method_52_code 0 = .ok (.aload_n 0, 1) := by decide +kernel
theorem d_190_1 : decode prog_14_method_52_code 1 = .ok (.invokevirtual 240, 3) := by decide +kernel
theorem d_190_4 : decode prog_14_method_52_code 4 = .ok (.aload_n 0, 1) := by decide +kernel
theorem d_190_5 : decode prog_14_method_52_code 5 = .ok (.invokevirtual 249, 3) := by decide +kernel
theorem d_190_8 : decode prog_14_method_52_code 8 = .ok (.return_, 1) := by decide +kernel
theorem s_190_0 {Γ : m_G} : m_ok Γ m_tab 190 M_190 0 (g_190_0) := ok_al_n (pc := 0) d_190_0 rfl (ok_cvi (pc := 1) (k2 := 184) rfl rfl tb_184 (by decide) (by decide) rfl (go_V d_190_1 w_1166 w_1168 ws_57 w_11 w_1169 nn_184 (by decide) cl_12 rfl) (ok_al_n (pc := 4) d_190_4 rfl (ok_cvi (pc := 5) (k2 := 183) rfl rfl tb_183 (by decide) (by decide) rfl (go_V d_190_5 w_1194 w_1196 ws_63 w_11 w_1197 nn_183 (by decide) cl_12 rfl) (ok_rv (pc := 8) d_190_8 rfl))))
theorem tst_190 {Γ : m_G} (q : Nat) : m_ts Γ (t_190 q) q := ts_l (k := 190) (pc := 0) tb_190 rfl (by decide) s_190_0
theorem d_191_0 : decode prog_14_method_53_code 0 = .ok (.aload_n 0, 1) := by decide +kernel
theorem d_191_1 : decode prog_14_method_53_code 1 = .ok (.iload_n 1, 1) := by decide +kernel
theorem d_191_2 : decode prog_14_method_53_code 2 = .ok (.invokevirtual 116, 3) := by decide +kernel
theorem d_191_5 : decode prog_14_method_53_code 5 = .ok (.ifCond .eq 25, 3) := by decide +kernel
theorem d_191_8 : decode prog_14_method_53_code 8 = .ok (.aload_n 0, 1) := by decide +kernel
theorem d_191_9 : decode prog_14_method_53_code 9 = .ok (.iload_n 2, 1) := by decide +kernel
theorem d_191_10 : decode prog_14_method_53_code 10 = .ok (.invokevirtual 124, 3) := by decide +kernel
theorem d_191_13 : decode prog_14_method_53_code 13 = .ok (.ifCond .eq 17, 3) := by decide +kernel
theorem d_191_16 : decode prog_14_method_53_code 16 = .ok (.aload_n 0, 1) := by decide +kernel
theorem d_191_17 : decode prog_14_method_53_code 17 = .ok (.getfield 13, 3) := by decide +kernel
theorem d_191_20 : decode prog_14_method_53_code 20 = .ok (.iload_n 1, 1) := by decide +kernel
theorem d_191_21 : decode prog_14_method_53_code 21 = .ok (.iaload, 1) := by decide +kernel
theorem d_191_22 : decode prog_14_method_53_code 22 = .ok (.iload_n 2, 1) := by decide +kernel
theorem d_191_23 : decode prog_14_method_53_code 23 = .ok (.if_icmp .eq 7, 3) := by decide +kernel
theorem d_191_26 : decode prog_14_method_53_code 26 = .ok (.iconst 1, 1) := by decide +kernel
theorem d_191_27 : decode prog_14_method_53_code 27 = .ok (.goto 4, 3) := by decide +kernel
theorem d_191_30 : decode prog_14_method_53_code 30 = .ok (.iconst 0, 1) := by decide +kernel
theorem d_191_31 : decode prog_14_method_53_code 31 = .ok (.ireturn, 1) := by decide +kernel
theorem s_191_31 {Γ : m_G} : m_ok Γ m_tab 191 M_191 31 (g_191_31) := ok_rz (pc := 31) d_191_31 rfl
theorem s_191_30 {Γ : m_G} : m_ok Γ m_tab 191 M_191 30 (g_191_30) := ok_ic (pc := 30) d_191_30 rfl (s_191_31)
theorem s_191_0 {Γ : m_G} : m_ok Γ m_tab 191 M_191 0 (g_191_0) := ok_al_n (pc := 0) d_191_0 rfl (ok_il_n (pc := 1) d_191_1 rfl (ok_cai (pc := 2) (k2 := 142) rfl rfl tb_142 (by decide) (by decide) rfl (go_V d_191_2 w_1058 w_1060 ws_42 w_11 w_1061 nn_142 (by decide) cl_12 rfl) (ok_czeq (pc := 5) (t := 30) d_191_5 rfl (by decide) rfl (ok_al_n (pc := 8) d_191_8 rfl (ok_il_n (pc := 9) d_191_9 rfl (ok_cai (pc := 10) (k2 := 143) rfl rfl tb_143 (by decide) (by decide) rfl (go_V d_191_10 w_1066 w_1068 ws_43 w_11 w_1069 nn_143 (by decide) cl_12 rfl) (ok_czeq (pc := 13) (t := 30) d_191_13 rfl (by decide) rfl (ok_al_n (pc := 16) d_191_16 rfl (ok_getf (pc := 17) d_191_17 w_914 (hc1 fo_72) (ok_il_n (pc := 20) d_191_20 rfl (ok_iald (pc := 21) d_191_21 (ok_il_n (pc := 22) d_191_22 rfl (ok_cieq (pc := 23) (t := 30) d_191_23 rfl (by decide) rfl (ok_ic (pc := 26) d_191_26 rfl (ok_go (pc := 27) (t := 31) d_191_27 rfl (by decide) rfl)))))))))))))))
theorem tst_191 {Γ : m_G} (q : Nat) : m_ts Γ (t_191 q) q := ts_n (ts_l (k := 191) (pc := 0) tb_191 rfl (by decide) s_191_0) (ts_n (ts_l (k := 191) (pc := 30) tb_191 rfl (by decide) s_191_30) (ts_l (k := 191) (pc := 31) tb_191 rfl (by decide) s_191_31))
theorem d_192_0 : decode prog_14_method_54_code 0 = .ok (.aload_n 0, 1) := by decide +kernel
theorem d_192_1 : decode prog_14_method_54_code 1 = .ok (.iload_n 1, 1) := by decide +kernel
theorem d_192_2 : decode prog_14_method_54_code 2 = .ok (.iload_n 2, 1) := by decide +kernel
theorem d_192_3 : decode prog_14_method_54_code 3 = .ok (.invokevirtual 252, 3) := by decide +kernel
theorem d_192_6 : decode prog_14_method_54_code 6 = .ok (.ifCond .ne 6, 3) := by decide +kernel
theorem d_192_9 : decode prog_14_method_54_code 9 = .ok (.bipush (-2), 2) := by decide +kernel
theorem d_192_11 : decode prog_14_method_54_code 11 = .ok (.ireturn, 1) := by decide +kernel
theorem d_192_12 : decode prog_14_method_54_code 12 = .ok (.aload_n 0, 1) := by decide +kernel
theorem d_192_13 : decode prog_14_method_54_code 13 = .ok (.invokevirtual 255, 3) := by decide +kernel
theorem d_192_16 : decode prog_14_method_54_code 16 = .ok (.aload_n 0, 1) := by decide +kernel
theorem d_192_17 : decode prog_14_method_54_code 17 = .ok (.aload_n 0, 1) := by decide +kernel
theorem d_192_18 : decode prog_14_method_54_code 18 = .ok (.invokevirtual 243, 3) := by decide +kernel
theorem d_192_21 : decode prog_14_method_54_code 21 = .ok (.iload_n 1, 1) := by decide +kernel
theorem d_192_22 : decode prog_14_method_54_code 22 = .ok (.iload_n 2, 1) := by decide +kernel
theorem d_192_23 : decode prog_14_method_54_code 23 = .ok (.invokevirtual 258, 3) := by decide +kernel
theorem d_192_26 : decode prog_14_method_54_code 26 = .ok (.ireturn, 1) := by decide +kernel
theorem s_192_12 {Γ : m_G} : m_ok Γ m_tab 192 M_192 12 (g_192_12) := ok_al_n (pc := 12) d_192_12 rfl (ok_cvi (pc := 13) (k2 := 190) rfl rfl tb_190 (by decide) (by decide) rfl (go_V d_192_13 w_1190 w_1192 ws_62 w_11 w_1193 nn_190 (by decide) cl_12 rfl) (ok_al_n (pc := 16) d_192_16 rfl (ok_al_n (pc := 17) d_192_17 rfl (ok_cai (pc := 18) (k2 := 145) rfl rfl tb_145 (by decide) (by decide) rfl (go_V d_192_18 w_1170 w_1172 ws_58 w_11 w_1173 nn_145 (by decide) cl_12 rfl) (ok_il_n (pc := 21) d_192_21 rfl (ok_il_n (pc := 22) d_192_22 rfl (ok_cai (pc := 23) (k2 := 186) rfl rfl tb_186 (by decide) (by decide) rfl (go_V d_192_23 w_1219 w_1221 ws_67 w_11 w_1222 nn_186 (by decide) cl_12 rfl) (ok_ri (pc := 26) d_192_26 rfl))))))))
theorem s_192_0 {Γ : m_G} : m_ok Γ m_tab 192 M_192 0 (g_192_0) := ok_al_n (pc := 0) d_192_0 rfl (ok_il_n (pc := 1) d_192_1 rfl (ok_il_n (pc := 2) d_192_2 rfl (ok_cai (pc := 3) (k2 := 191) rfl rfl tb_191 (by decide) (by decide) rfl (go_V d_192_3 w_1186 w_1188 ws_61 w_11 w_1189 nn_191 (by decide) cl_12 rfl) (ok_czne (pc := 6) (t := 12) d_192_6 rfl (by decide) rfl (ok_bi (pc := 9) d_192_9 rfl (ok_ri (pc := 11) d_192_11 rfl))))))
theorem tst_192 {Γ : m_G} (q : Nat) : m_ts Γ (t_192 q) q := ts_n (ts_l (k := 192) (pc := 0) tb_192 rfl (by decide) s_192_0) (ts_l (k := 192) (pc := 12) tb_192 rfl (by decide) s_192_12)
theorem d_193_0 : decode prog_14_method_55_code 0 = .ok (.aload_n 0, 1) := by decide +kernel
theorem d_193_1 : decode prog_14_method_55_code 1 = .ok (.invokevirtual 255, 3) := by decide +kernel
theorem d_193_4 : decode prog_14_method_55_code 4 = .ok (.aload_n 0, 1) := by decide +kernel
theorem d_193_5 : decode prog_14_method_55_code 5 = .ok (.aload_n 0, 1) := by decide +kernel
theorem d_193_6 : decode prog_14_method_55_code 6 = .ok (.invokevirtual 243, 3) := by decide +kernel
theorem d_193_9 : decode prog_14_method_55_code 9 = .ok (.iload_n 1, 1) := by decide +kernel
theorem d_193_10 : decode prog_14_method_55_code 10 = .ok (.iload_n 2, 1) := by decide +kernel
theorem d_193_11 : decode prog_14_method_55_code 11 = .ok (.invokevirtual 258, 3) := by decide +kernel
theorem d_193_14 : decode prog_14_method_55_code 14 = .ok (.istore_n 3, 1) := by decide +kernel
theorem d_193_15 : decode prog_14_method_55_code 15 = .ok (.iload_n 3, 1) := by decide +kernel
theorem d_193_16 : decode prog_14_method_55_code 16 = .ok (.ifCond .ge 6, 3) := by decide +kernel
theorem d_193_19 : decode prog_14_method_55_code 19 = .ok (.bipush (-3), 2) := by decide +kernel
theorem d_193_21 : decode prog_14_method_55_code 21 = .ok (.ireturn, 1) := by decide +kernel
theorem d_193_22 : decode prog_14_method_55_code 22 = .ok (.aload_n 0, 1) := by decide +kernel
theorem d_193_23 : decode prog_14_method_55_code 23 = .ok (.getfield 13, 3) := by decide +kernel
theorem d_193_26 : decode prog_14_method_55_code 26 = .ok (.iload_n 1, 1) := by decide +kernel
theorem d_193_27 : decode prog_14_method_55_code 27 = .ok (.iload_n 2, 1) := by decide +kernel
theorem d_193_28 : decode prog_14_method_55_code 28 = .ok (.iastore, 1) := by decide +kernel
theorem d_193_29 : decode prog_14_method_55_code 29 = .ok (.aload_n 0, 1) := by decide +kernel
theorem d_193_30 : decode prog_14_method_55_code 30 = .ok (.dup, 1) := by decide +kernel
theorem d_193_31 : decode prog_14_method_55_code 31 = .ok (.getfield 98, 3) := by decide +kernel
theorem d_193_34 : decode prog_14_method_55_code 34 = .ok (.aload_n 0, 1) := by decide +kernel
theorem d_193_35 : decode prog_14_method_55_code 35 = .ok (.getfield 98, 3) := by decide +kernel
theorem d_193_38 : decode prog_14_method_55_code 38 = .ok (.sipush 999, 3) := by decide +kernel
theorem d_193_41 : decode prog_14_method_55_code 41 = .ok (.if_icmp .ge 7, 3) := by decide +kernel
theorem d_193_44 : decode prog_14_method_55_code 44 = .ok (.iconst 1, 1) := by decide +kernel
theorem d_193_45 : decode prog_14_method_55_code 45 = .ok (.goto 4, 3) := by decide +kernel
theorem d_193_48 : decode prog_14_method_55_code 48 = .ok (.iconst 0, 1) := by decide +kernel
theorem d_193_49 : decode prog_14_method_55_code 49 = .ok (.iadd, 1) := by decide +kernel
theorem d_193_50 : decode prog_14_method_55_code 50 = .ok (.putfield 98, 3) := by decide +kernel
theorem d_193_53 : decode prog_14_method_55_code 53 = .ok (.iload_n 3, 1) := by decide +kernel
theorem d_193_54 : decode prog_14_method_55_code 54 = .ok (.ireturn, 1) := by decide +kernel
theorem s_193_49 {Γ : m_G} : m_ok Γ m_tab 193 M_193 49 (g_193_49) := ok_add (pc := 49) d_193_49 (ok_putf (pc := 50) d_193_50 w_920 (hc1 ⟨_, _, _, tyX12, cl_12, in_12, by decide, rfl, rfl, rfl, tyX12_ok, nmX12, Or.inl rfl⟩) pd_0 vt_I (ok_il_n (pc := 53) d_193_53 rfl (ok_ri (pc := 54) d_193_54 rfl)))
theorem s_193_48 {Γ : m_G} : m_ok Γ m_tab 193 M_193 48 (g_193_48) := ok_ic (pc := 48) d_193_48 rfl (s_193_49)
theorem s_193_22 {Γ : m_G} : m_ok Γ m_tab 193 M_193 22 (g_193_22) := ok_al_n (pc := 22) d_193_22 rfl (ok_getf (pc := 23) d_193_23 w_914 (hc1 fo_72) (ok_il_n (pc := 26) d_193_26 rfl (ok_il_n (pc := 27) d_193_27 rfl (ok_iast (pc := 28) d_193_28 (ok_al_n (pc := 29) d_193_29 rfl (ok_dup (pc := 30) d_193_30 (ok_getf (pc := 31) d_193_31 w_920 (hc1 fo_77) (ok_al_n (pc := 34) d_193_34 rfl (ok_getf (pc := 35) d_193_35 w_920 (hc1 fo_77) (ok_si (pc := 38) d_193_38 rfl (ok_cige (pc := 41) (t := 48) d_193_41 rfl (by decide) rfl (ok_ic (pc := 44) d_193_44 rfl (ok_go (pc := 45) (t := 49) d_193_45 rfl (by decide) rfl)))))))))))))
theorem s_193_0 {Γ : m_G} : m_ok Γ m_tab 193 M_193 0 (g_193_0) := ok_al_n (pc := 0) d_193_0 rfl (ok_cvi (pc := 1) (k2 := 190) rfl rfl tb_190 (by decide) (by decide) rfl (go_V d_193_1 w_1190 w_1192 ws_62 w_11 w_1193 nn_190 (by decide) cl_12 rfl) (ok_al_n (pc := 4) d_193_4 rfl (ok_al_n (pc := 5) d_193_5 rfl (ok_cai (pc := 6) (k2 := 145) rfl rfl tb_145 (by decide) (by decide) rfl (go_V d_193_6 w_1170 w_1172 ws_58 w_11 w_1173 nn_145 (by decide) cl_12 rfl) (ok_il_n (pc := 9) d_193_9 rfl (ok_il_n (pc := 10) d_193_10 rfl (ok_cai (pc := 11) (k2 := 186) rfl rfl tb_186 (by decide) (by decide) rfl (go_V d_193_11 w_1219 w_1221 ws_67 w_11 w_1222 nn_186 (by decide) cl_12 rfl) (ok_is_n (pc := 14) d_193_14 rfl (by decide) (ok_il_n (pc := 15) d_193_15 rfl (ok_czge (pc := 16) (t := 22) d_193_16 rfl (by decide) rfl (ok_bi (pc := 19) d_193_19 rfl (ok_ri (pc := 21) d_193_21 rfl))))))))))))
theorem tst_193 {Γ : m_G} (q : Nat) : m_ts Γ (t_193 q) q := ts_n (ts_n (ts_l (k := 193) (pc := 0) tb_193 rfl (by decide) s_193_0) (ts_l (k := 193) (pc := 22) tb_193 rfl (by decide) s_193_22)) (ts_n (ts_l (k := 193) (pc := 48) tb_193 rfl (by decide) s_193_48) (ts_l (k := 193) (pc := 49) tb_193 rfl (by decide) s_193_49))
theorem d_194_0 : decode prog_14_method_56_code 0 = .ok (.aload_n 0, 1) := by decide +kernel
theorem d_194_1 : decode prog_14_method_56_code 1 = .ok (.iload_n 1, 1) := by decide +kernel
theorem d_194_2 : decode prog_14_method_56_code 2 = .ok (.iload_n 2, 1) := by decide +kernel
theorem d_194_3 : decode prog_14_method_56_code 3 = .ok (.invokevirtual 252, 3) := by decide +kernel
theorem d_194_6 : decode prog_14_method_56_code 6 = .ok (.ifCond .eq 12, 3) := by decide +kernel
theorem d_194_9 : decode prog_14_method_56_code 9 = .ok (.aload_n 0, 1) := by decide +kernel
theorem d_194_10 : decode prog_14_method_56_code 10 = .ok (.iload_n 1, 1) := by decide +kernel
theorem d_194_11 : decode prog_14_method_56_code 11 = .ok (.iload_n 2, 1) := by decide +kernel
theorem d_194_12 : decode prog_14_method_56_code 12 = .ok (.invokevirtual 261, 3) := by decide +kernel
theorem d_194_15 : decode prog_14_method_56_code 15 = .ok (.goto 5, 3) := by decide +kernel
theorem d_194_18 : decode prog_14_method_56_code 18 = .ok (.bipush (-2), 2) := by decide +kernel
theorem d_194_20 : decode prog_14_method_56_code 20 = .ok (.ireturn, 1) := by decide +kernel
theorem s_194_20 {Γ : m_G} : m_ok Γ m_tab 194 M_194 20 (g_194_20) := ok_ri (pc := 20) d_194_20 rfl
theorem s_194_18 {Γ : m_G} : m_ok Γ m_tab 194 M_194 18 (g_194_18) := ok_bi (pc := 18) d_194_18 rfl (s_194_20)
theorem s_194_0 {Γ : m_G} : m_ok Γ m_tab 194 M_194 0 (g_194_0) := ok_al_n (pc := 0) d_194_0 rfl (ok_il_n (pc := 1) d_194_1 rfl (ok_il_n (pc := 2) d_194_2 rfl (ok_cai (pc := 3) (k2 := 191) rfl rfl tb_191 (by decide) (by decide) rfl (go_V d_194_3 w_1186 w_1188 ws_61 w_11 w_1189 nn_191 (by decide) cl_12 rfl) (ok_czeq (pc := 6) (t := 18) d_194_6 rfl (by decide) rfl (ok_al_n (pc := 9) d_194_9 rfl (ok_il_n (pc := 10) d_194_10 rfl (ok_il_n (pc := 11) d_194_11 rfl (ok_cai (pc := 12) (k2 := 193) rfl rfl tb_193 (by decide) (by decide) rfl (go_V d_194_12 w_1227 w_1229 ws_68 w_11 w_1230 nn_193 (by decide) cl_12 rfl) (ok_go (pc := 15) (t := 20) d_194_15 rfl (by decide) rfl)))))))))
theorem tst_194 {Γ : m_G} (q : Nat) : m_ts Γ (t_194 q) q := ts_n (ts_l (k := 194) (pc := 0) tb_194 rfl (by decide) s_194_0) (ts_n (ts_l (k := 194) (pc := 18) tb_194 rfl (by decide) s_194_18) (ts_l (k := 194) (pc := 20) tb_194 rfl (by decide) s_194_20))
theorem d_195_0 : decode prog_14_method_57_code 0 = .ok (.iconst 0, 1) := by decide +kernel
theorem d_195_1 : decode prog_14_method_57_code 1 = .ok (.istore_n 2, 1) := by decide +kernel
theorem d_195_2 : decode prog_14_method_57_code 2 = .ok (.iload_n 2, 1) := by decide +kernel
theorem d_195_3 : decode prog_14_method_57_code 3 = .ok (.aload_n 0, 1) := by decide +kernel
theorem d_195_4 : decode prog_14_method_57_code 4 = .ok (.getfield 58, 3) := by decide +kernel
theorem d_195_7 : decode prog_14_method_57_code 7 = .ok (.aload_n 0, 1) := by decide +kernel
theorem d_195_8 : decode prog_14_method_57_code 8 = .ok (.getfield 25, 3) := by decide +kernel
theorem d_195_11 : decode prog_14_method_57_code 11 = .ok (.iaload, 1) := by decide +kernel
theorem d_195_12 : decode prog_14_method_57_code 12 = .ok (.if_icmp .ge 16, 3) := by decide +kernel
theorem d_195_15 : decode prog_14_method_57_code 15 = .ok (.aload_n 0, 1) := by decide +kernel
theorem d_195_16 : decode prog_14_method_57_code 16 = .ok (.getfield 61, 3) := by decide +kernel
theorem d_195_19 : decode prog_14_method_57_code 19 = .ok (.iload_n 2, 1) := by decide +kernel
theorem d_195_20 : decode prog_14_method_57_code 20 = .ok (.iconst (-1), 1) := by decide +kernel
theorem d_195_21 : decode prog_14_method_57_code 21 = .ok (.iastore, 1) := by decide +kernel
theorem d_195_22 : decode prog_14_method_57_code 22 = .ok (.iinc 2 1, 3) := by decide +kernel
theorem d_195_25 : decode prog_14_method_57_code 25 = .ok (.goto (-23), 3) := by decide +kernel
theorem d_195_28 : decode prog_14_method_57_code 28 = .ok (.aload_n 0, 1) := by decide +kernel
theorem d_195_29 : decode prog_14_method_57_code 29 = .ok (.getfield 61, 3) := by decide +kernel
theorem d_195_32 : decode prog_14_method_57_code 32 = .ok (.iload_n 1, 1) := by decide +kernel
theorem d_195_33 : decode prog_14_method_57_code 33 = .ok (.iconst 0, 1) := by decide +kernel
theorem d_195_34 : decode prog_14_method_57_code 34 = .ok (.iastore, 1) := by decide +kernel
theorem d_195_35 : decode prog_14_method_57_code 35 = .ok (.aload_n 0, 1) := by decide +kernel
theorem d_195_36 : decode prog_14_method_57_code 36 = .ok (.getfield 67, 3) := by decide +kernel
theorem d_195_39 : decode prog_14_method_57_code 39 = .ok (.iconst 0, 1) := by decide +kernel
theorem d_195_40 : decode prog_14_method_57_code 40 = .ok (.iload_n 1, 1) := by decide +kernel
theorem d_195_41 : decode prog_14_method_57_code 41 = .ok (.iastore, 1) := by decide +kernel
theorem d_195_42 : decode prog_14_method_57_code 42 = .ok (.iconst 1, 1) := by decide +kernel
theorem d_195_43 : decode prog_14_method_57_code 43 = .ok (.istore_n 2, 1) := by decide +kernel
theorem d_195_44 : decode prog_14_method_57_code 44 = .ok (.iconst 0, 1) := by decide +kernel
theorem d_195_45 : decode prog_14_method_57_code 45 = .ok (.istore_n 3, 1) := by decide +kernel
theorem d_195_46 : decode prog_14_method_57_code 46 = .ok (.iload_n 3, 1) := by decide +kernel
theorem d_195_47 : decode prog_14_method_57_code 47 = .ok (.iload_n 2, 1) := by decide +kernel
theorem d_195_48 : decode prog_14_method_57_code 48 = .ok (.if_icmp .ge 125, 3) := by decide +kernel
theorem d_195_51 : decode prog_14_method_57_code 51 = .ok (.iconst 0, 1) := by decide +kernel
theorem d_195_52 : decode prog_14_method_57_code 52 = .ok (.istore 4, 2) := by decide +kernel
theorem d_195_54 : decode prog_14_method_57_code 54 = .ok (.iload 4, 2) := by decide +kernel
theorem d_195_56 : decode prog_14_method_57_code 56 = .ok (.aload_n 0, 1) := by decide +kernel
theorem d_195_57 : decode prog_14_method_57_code 57 = .ok (.getfield 25, 3) := by decide +kernel
theorem d_195_60 : decode prog_14_method_57_code 60 = .ok (.if_icmp .ge 107, 3) := by decide +kernel
theorem d_195_63 : decode prog_14_method_57_code 63 = .ok (.iconst 0, 1) := by decide +kernel
theorem d_195_64 : decode prog_14_method_57_code 64 = .ok (.istore 5, 2) := by decide +kernel
theorem d_195_66 : decode prog_14_method_57_code 66 = .ok (.iload 5, 2) := by decide +kernel
theorem d_195_68 : decode prog_14_method_57_code 68 = .ok (.aload_n 0, 1) := by decide +kernel
theorem d_195_69 : decode prog_14_method_57_code 69 = .ok (.getfield 29, 3) := by decide +kernel
theorem d_195_72 : decode prog_14_method_57_code 72 = .ok (.if_icmp .ge 89, 3) := by decide +kernel
theorem d_195_75 : decode prog_14_method_57_code 75 = .ok (.aload_n 0, 1) := by decide +kernel
theorem d_195_76 : decode prog_14_method_57_code 76 = .ok (.aload_n 0, 1) := by decide +kernel
theorem d_195_77 : decode prog_14_method_57_code 77 = .ok (.getfield 67, 3) := by decide +kernel
theorem d_195_80 : decode prog_14_method_57_code 80 = .ok (.iload_n 3, 1) := by decide +kernel
theorem d_195_81 : decode prog_14_method_57_code 81 = .ok (.iaload, 1) := by decide +kernel
theorem d_195_82 : decode prog_14_method_57_code 82 = .ok (.iload 4, 2) := by decide +kernel
theorem d_195_84 : decode prog_14_method_57_code 84 = .ok (.iload 5, 2) := by decide +kernel
theorem d_195_86 : decode prog_14_method_57_code 86 = .ok (.invokevirtual 258, 3) := by decide +kernel
theorem d_195_89 : decode prog_14_method_57_code 89 = .ok (.ifCond .ge 6, 3) := by decide +kernel
theorem d_195_92 : decode prog_14_method_57_code 92 = .ok (.goto 63, 3) := by decide +kernel
theorem d_195_95 : decode prog_14_method_57_code 95 = .ok (.aload_n 0, 1) := by decide +kernel
theorem d_195_96 : decode prog_14_method_57_code 96 = .ok (.aload_n 0, 1) := by decide +kernel
theorem d_195_97 : decode prog_14_method_57_code 97 = .ok (.getfield 67, 3) := by decide +kernel
theorem d_195_100 : decode prog_14_method_57_code 100 = .ok (.iload_n 3, 1) := by decide +kernel
theorem d_195_101 : decode prog_14_method_57_code 101 = .ok (.iaload, 1) := by decide +kernel
theorem d_195_102 : decode prog_14_method_57_code 102 = .ok (.iload 4, 2) := by decide +kernel
theorem d_195_104 : decode prog_14_method_57_code 104 = .ok (.iload 5, 2) := by decide +kernel
theorem d_195_106 : decode prog_14_method_57_code 106 = .ok (.invokevirtual 264, 3) := by decide +kernel
theorem d_195_109 : decode prog_14_method_57_code 109 = .ok (.istore 6, 2) := by decide +kernel
theorem d_195_111 : decode prog_14_method_57_code 111 = .ok (.aload_n 0, 1) := by decide +kernel
theorem d_195_112 : decode prog_14_method_57_code 112 = .ok (.getfield 61, 3) := by decide +kernel
theorem d_195_115 : decode prog_14_method_57_code 115 = .ok (.iload 6, 2) := by decide +kernel
theorem d_195_117 : decode prog_14_method_57_code 117 = .ok (.iaload, 1) := by decide +kernel
theorem d_195_118 : decode prog_14_method_57_code 118 = .ok (.ifCond .lt 6, 3) := by decide +kernel
theorem d_195_121 : decode prog_14_method_57_code 121 = .ok (.goto 34, 3) := by decide +kernel
theorem d_195_124 : decode prog_14_method_57_code 124 = .ok (.aload_n 0, 1) := by decide +kernel
theorem d_195_125 : decode prog_14_method_57_code 125 = .ok (.getfield 61, 3) := by decide +kernel
theorem d_195_128 : decode prog_14_method_57_code 128 = .ok (.iload 6, 2) := by decide +kernel
theorem d_195_130 : decode prog_14_method_57_code 130 = .ok (.aload_n 0, 1) := by decide +kernel
theorem d_195_131 : decode prog_14_method_57_code 131 = .ok (.getfield 61, 3) := by decide +kernel
theorem d_195_134 : decode prog_14_method_57_code 134 = .ok (.aload_n 0, 1) := by decide +kernel
theorem d_195_135 : decode prog_14_method_57_code 135 = .ok (.getfield 67, 3) := by decide +kernel
theorem d_195_138 : decode prog_14_method_57_code 138 = .ok (.iload_n 3, 1) := by decide +kernel
theorem d_195_139 : decode prog_14_method_57_code 139 = .ok (.iaload, 1) := by decide +kernel
theorem d_195_140 : decode prog_14_method_57_code 140 = .ok (.iaload, 1) := by decide +kernel
theorem d_195_141 : decode prog_14_method_57_code 141 = .ok (.iconst 1, 1) := by decide +kernel
theorem d_195_142 : decode prog_14_method_57_code 142 = .ok (.iadd, 1) := by decide +kernel
theorem d_195_143 : decode prog_14_method_57_code 143 = .ok (.iastore, 1) := by decide +kernel
theorem d_195_144 : decode prog_14_method_57_code 144 = .ok (.aload_n 0, 1) := by decide +kernel
theorem d_195_145 : decode prog_14_method_57_code 145 = .ok (.getfield 67, 3) := by decide +kernel
theorem d_195_148 : decode prog_14_method_57_code 148 = .ok (.iload_n 2, 1) := by decide +kernel
theorem d_195_149 : decode prog_14_method_57_code 149 = .ok (.iload 6, 2) := by decide +kernel
theorem d_195_151 : decode prog_14_method_57_code 151 = .ok (.iastore, 1) := by decide +kernel
theorem d_195_152 : decode prog_14_method_57_code 152 = .ok (.iinc 2 1, 3) := by decide +kernel
theorem d_195_155 : decode prog_14_method_57_code 155 = .ok (.iinc 5 1, 3) := by decide +kernel
theorem d_195_158 : decode prog_14_method_57_code 158 = .ok (.goto (-92), 3) := by decide +kernel
theorem d_195_161 : decode prog_14_method_57_code 161 = .ok (.iinc 4 1, 3) := by decide +kernel
theorem d_195_164 : decode prog_14_method_57_code 164 = .ok (.goto (-110), 3) := by decide +kernel
theorem d_195_167 : decode prog_14_method_57_code 167 = .ok (.iinc 3 1, 3) := by decide +kernel
theorem d_195_170 : decode prog_14_method_57_code 170 = .ok (.goto (-124), 3) := by decide +kernel
theorem d_195_173 : decode prog_14_method_57_code 173 = .ok (.iload_n 2, 1) := by decide +kernel
theorem d_195_174 : decode prog_14_method_57_code 174 = .ok (.ireturn, 1) := by decide +kernel
theorem s_195_173 {Γ : m_G} : m_ok Γ m_tab 195 M_195 173 (g_195_173) := ok_il_n (pc := 173) d_195_173 rfl (ok_ri (pc := 174) d_195_174 rfl)
theorem s_195_167 {Γ : m_G} : m_ok Γ m_tab 195 M_195 167 (g_195_167) := ok_inc (pc := 167) d_195_167 rfl (by decide) (ok_go (pc := 170) (t := 46) d_195_170 rfl (by decide) rfl)
theorem s_195_161 {Γ : m_G} : m_ok Γ m_tab 195 M_195 161 (g_195_161) := ok_inc (pc := 161) d_195_161 rfl (by decide) (ok_go (pc := 164) (t := 54) d_195_164 rfl (by decide) rfl)
theorem s_195_155 {Γ : m_G} : m_ok Γ m_tab 195 M_195 155 (g_195_155) := ok_inc (pc := 155) d_195_155 rfl (by decide) (ok_go (pc := 158) (t := 66) d_195_158 rfl (by decide) rfl)
theorem s_195_124 {Γ : m_G} : m_ok Γ m_tab 195 M_195 124 (g_195_124) := ok_al_n (pc := 124) d_195_124 rfl (ok_getf (pc := 125) d_195_125 w_942 (hc1 fo_100) (ok_il (pc := 128) d_195_128 (ok_al_n (pc := 130) d_195_130 rfl (ok_getf (pc := 131) d_195_131 w_942 (hc1 fo_100) (ok_al_n (pc := 134) d_195_134 rfl (ok_getf (pc := 135) d_195_135 w_944 (hc1 fo_99) (ok_il_n (pc := 138) d_195_138 rfl (ok_iald (pc := 139) d_195_139 (ok_iald (pc := 140) d_195_140 (ok_ic (pc := 141) d_195_141 rfl (ok_add (pc := 142) d_195_142 (ok_iast (pc := 143) d_195_143 (ok_al_n (pc := 144) d_195_144 rfl (ok_getf (pc := 145) d_195_145 w_944 (hc1 fo_99) (ok_il_n (pc := 148) d_195_148 rfl (ok_il (pc := 149) d_195_149 (ok_iast (pc := 151) d_195_151 (ok_inc (pc := 152) d_195_152 rfl (by decide) (s_195_155)))))))))))))))))))
theorem s_195_95 {Γ : m_G} : m_ok Γ m_tab 195 M_195 95 (g_195_95) := ok_al_n (pc := 95) d_195_95 rfl (ok_al_n (pc := 96) d_195_96 rfl (ok_getf (pc := 97) d_195_97 w_944 (hc1 fo_99) (ok_il_n (pc := 100) d_195_100 rfl (ok_iald (pc := 101) d_195_101 (ok_il (pc := 102) d_195_102 (ok_il (pc := 104) d_195_104 (ok_cai (pc := 106) (k2 := 187) rfl rfl tb_187 (by decide) (by decide) rfl (go_V d_195_106 w_1243 w_1245 ws_71 w_11 w_1246 nn_187 (by decide) cl_12 rfl) (ok_is (pc := 109) d_195_109 (by decide) (ok_al_n (pc := 111) d_195_111 rfl (ok_getf (pc := 112) d_195_112 w_942 (hc1 fo_100) (ok_il (pc := 115) d_195_115 (ok_iald (pc := 117) d_195_117 (ok_czlt (pc := 118) (t := 124) d_195_118 rfl (by decide) rfl (ok_go (pc := 121) (t := 155) d_195_121 rfl (by decide) rfl))))))))))))))
theorem s_195_66 {Γ : m_G} : m_ok Γ m_tab 195 M_195 66 (g_195_66) := ok_il (pc := 66) d_195_66 (ok_al_n (pc := 68) d_195_68 rfl (ok_getf (pc := 69) d_195_69 w_919 (hc1 fo_75) (ok_cige (pc := 72) (t := 161) d_195_72 rfl (by decide) rfl (ok_al_n (pc := 75) d_195_75 rfl (ok_al_n (pc := 76) d_195_76 rfl (ok_getf (pc := 77) d_195_77 w_944 (hc1 fo_99) (ok_il_n (pc := 80) d_195_80 rfl (ok_iald (pc := 81) d_195_81 (ok_il (pc := 82) d_195_82 (ok_il (pc := 84) d_195_84 (ok_cai (pc := 86) (k2 := 186) rfl rfl tb_186 (by decide) (by decide) rfl (go_V d_195_86 w_1219 w_1221 ws_67 w_11 w_1222 nn_186 (by decide) cl_12 rfl) (ok_czge (pc := 89) (t := 95) d_195_89 rfl (by decide) rfl (ok_go (pc := 92) (t := 155) d_195_92 rfl (by decide) rfl)))))))))))))
theorem s_195_54 {Γ : m_G} : m_ok Γ m_tab 195 M_195 54 (g_195_54) := ok_il (pc := 54) d_195_54 (ok_al_n (pc := 56) d_195_56 rfl (ok_getf (pc := 57) d_195_57 w_918 (hc1 fo_74) (ok_cige (pc := 60) (t := 167) d_195_60 rfl (by decide) rfl (ok_ic (pc := 63) d_195_63 rfl (ok_is (pc := 64) d_195_64 (by decide) (s_195_66))))))
theorem s_195_46 {Γ : m_G} : m_ok Γ m_tab 195 M_195 46 (g_195_46) := ok_il_n (pc := 46) d_195_46 rfl (ok_il_n (pc := 47) d_195_47 rfl (ok_cige (pc := 48) (t := 173) d_195_48 rfl (by decide) rfl (ok_ic (pc := 51) d_195_51 rfl (ok_is (pc := 52) d_195_52 (by decide) (s_195_54)))))
theorem s_195_28 {Γ : m_G} : m_ok Γ m_tab 195 M_195 28 (g_195_28) := ok_al_n (pc := 28) d_195_28 rfl (ok_getf (pc := 29) d_195_29 w_942 (hc1 fo_100) (ok_il_n (pc := 32) d_195_32 rfl (ok_ic (pc := 33) d_195_33 rfl (ok_iast (pc := 34) d_195_34 (ok_al_n (pc := 35) d_195_35 rfl (ok_getf (pc := 36) d_195_36 w_944 (hc1 fo_99) (ok_ic (pc := 39) d_195_39 rfl (ok_il_n (pc := 40) d_195_40 rfl (ok_iast (pc := 41) d_195_41 (ok_ic (pc := 42) d_195_42 rfl (ok_is_n (pc := 43) d_195_43 rfl (by decide) (ok_ic (pc := 44) d_195_44 rfl (ok_is_n (pc := 45) d_195_45 rfl (by decide) (s_195_46))))))))))))))
theorem s_195_2 {Γ : m_G} : m_ok Γ m_tab 195 M_195 2 (g_195_2) := ok_il_n (pc := 2) d_195_2 rfl (ok_al_n (pc := 3) d_195_3 rfl (ok_getf (pc := 4) d_195_4 w_941 (hc1 fo_98) (ok_al_n (pc := 7) d_195_7 rfl (ok_getf (pc := 8) d_195_8 w_918 (hc1 fo_74) (ok_iald (pc := 11) d_195_11 (ok_cige (pc := 12) (t := 28) d_195_12 rfl (by decide) rfl (ok_al_n (pc := 15) d_195_15 rfl (ok_getf (pc := 16) d_195_16 w_942 (hc1 fo_100) (ok_il_n (pc := 19) d_195_19 rfl (ok_ic (pc := 20) d_195_20 rfl (ok_iast (pc := 21) d_195_21 (ok_inc (pc := 22) d_195_22 rfl (by decide) (ok_go (pc := 25) (t := 2) d_195_25 rfl (by decide) rfl)))))))))))))
theorem s_195_0 {Γ : m_G} : m_ok Γ m_tab 195 M_195 0 (g_195_0) := ok_ic (pc := 0) d_195_0 rfl (ok_is_n (pc := 1) d_195_1 rfl (by decide) (s_195_2))
theorem tst_195 {Γ : m_G} (q : Nat) : m_ts Γ (t_195 q) q := ts_n (ts_n (ts_n (ts_l (k := 195) (pc := 0) tb_195 rfl (by decide) s_195_0) (ts_n (ts_l (k := 195) (pc := 2) tb_195 rfl (by decide) s_195_2) (ts_l (k := 195) (pc := 28) tb_195 rfl (by decide) s_195_28))) (ts_n (ts_l (k := 195) (pc := 46) tb_195 rfl (by decide) s_195_46) (ts_n (ts_l (k := 195) (pc := 54) tb_195 rfl (by decide) s_195_54) (ts_l (k := 195) (pc := 66) tb_195 rfl (by decide) s_195_66)))) (ts_n (ts_n (ts_l (k := 195) (pc := 95) tb_195 rfl (by decide) s_195_95) (ts_n (ts_l (k := 195) (pc := 124) tb_195 rfl (by decide) s_195_124) (ts_l (k := 195) (pc := 155) tb_195 rfl (by decide) s_195_155))) (ts_n (ts_l (k := 195) (pc := 161) tb_195 rfl (by decide) s_195_161) (ts_n (ts_l (k := 195) (pc := 167) tb_195 rfl (by decide) s_195_167) (ts_l (k := 195) (pc := 173) tb_195 rfl (by decide) s_195_173))))
theorem d_196_0 : decode prog_14_method_58_code 0 = .ok (.aload_n 0, 1) := by decide +kernel
theorem d_196_1 : decode prog_14_method_58_code 1 = .ok (.invokevirtual 255, 3) := by decide +kernel
theorem d_196_4 : decode prog_14_method_58_code 4 = .ok (.aload_n 0, 1) := by decide +kernel
theorem d_196_5 : decode prog_14_method_58_code 5 = .ok (.aload_n 0, 1) := by decide +kernel
theorem d_196_6 : decode prog_14_method_58_code 6 = .ok (.invokevirtual 243, 3) := by decide +kernel
theorem d_196_9 : decode prog_14_method_58_code 9 = .ok (.invokevirtual 267, 3) := by decide +kernel
theorem d_196_12 : decode prog_14_method_58_code 12 = .ok (.ireturn, 1) := by decide +kernel
theorem s_196_0 {Γ : m_G} : m_ok Γ m_tab 196 M_196 0 (g_196_0) := ok_al_n (pc := 0) d_196_0 rfl (ok_cvi (pc := 1) (k2 := 190) rfl rfl tb_190 (by decide) (by decide) rfl (go_V d_196_1 w_1190 w_1192 ws_62 w_11 w_1193 nn_190 (by decide) cl_12 rfl) (ok_al_n (pc := 4) d_196_4 rfl (ok_al_n (pc := 5) d_196_5 rfl (ok_cai (pc := 6) (k2 := 145) rfl rfl tb_145 (by decide) (by decide) rfl (go_V d_196_6 w_1170 w_1172 ws_58 w_11 w_1173 nn_145 (by decide) cl_12 rfl) (ok_cai (pc := 9) (k2 := 195) rfl rfl tb_195 (by decide) (by decide) rfl (go_V d_196_9 w_1239 w_1241 ws_70 w_11 w_1242 nn_195 (by decide) cl_12 rfl) (ok_ri (pc := 12) d_196_12 rfl))))))
theorem tst_196 {Γ : m_G} (q : Nat) : m_ts Γ (t_196 q) q := ts_l (k := 196) (pc := 0) tb_196 rfl (by decide) s_196_0
theorem d_197_0 : decode prog_14_method_59_code 0 = .ok (.iconst 0, 1) := by decide +kernel
theorem d_197_1 : decode prog_14_method_59_code 1 = .ok (.istore_n 2, 1) := by decide +kernel
theorem d_197_2 : decode prog_14_method_59_code 2 = .ok (.iconst 0, 1) := by decide +kernel
theorem d_197_3 : decode prog_14_method_59_code 3 = .ok (.istore_n 3, 1) := by decide +kernel
theorem d_197_4 : decode prog_14_method_59_code 4 = .ok (.iload_n 3, 1) := by decide +kernel
theorem d_197_5 : decode prog_14_method_59_code 5 = .ok (.aload_n 0, 1) := by decide +kernel
theorem d_197_6 : decode prog_14_method_59_code 6 = .ok (.getfield 25, 3) := by decide +kernel
theorem d_197_9 : decode prog_14_method_59_code 9 = .ok (.if_icmp .ge 75, 3) := by decide +kernel
theorem d_197_12 : decode prog_14_method_59_code 12 = .ok (.iconst 1, 1) := by decide +kernel
theorem d_197_13 : decode prog_14_method_59_code 13 = .ok (.istore 4, 2) := by decide +kernel
theorem d_197_15 : decode prog_14_method_59_code 15 = .ok (.iconst 0, 1) := by decide +kernel
theorem d_197_16 : decode prog_14_method_59_code 16 = .ok (.istore 5, 2) := by decide +kernel
theorem d_197_18 : decode prog_14_method_59_code 18 = .ok (.iload 5, 2) := by decide +kernel
theorem d_197_20 : decode prog_14_method_59_code 20 = .ok (.iload_n 1, 1) := by decide +kernel
theorem d_197_21 : decode prog_14_method_59_code 21 = .ok (.if_icmp .ge 42, 3) := by decide +kernel
theorem d_197_24 : decode prog_14_method_59_code 24 = .ok (.iload 4, 2) := by decide +kernel
theorem d_197_26 : decode prog_14_method_59_code 26 = .ok (.ifCond .eq 28, 3) := by decide +kernel
theorem d_197_29 : decode prog_14_method_59_code 29 = .ok (.aload_n 0, 1) := by decide +kernel
theorem d_197_30 : decode prog_14_method_59_code 30 = .ok (.aload_n 0, 1) := by decide +kernel
theorem d_197_31 : decode prog_14_method_59_code 31 = .ok (.getfield 67, 3) := by decide +kernel
theorem d_197_34 : decode prog_14_method_59_code 34 = .ok (.iload 5, 2) := by decide +kernel
theorem d_197_36 : decode prog_14_method_59_code 36 = .ok (.iaload, 1) := by decide +kernel
theorem d_197_37 : decode prog_14_method_59_code 37 = .ok (.iload_n 3, 1) := by decide +kernel
theorem d_197_38 : decode prog_14_method_59_code 38 = .ok (.invokevirtual 237, 3) := by decide +kernel
theorem d_197_41 : decode prog_14_method_59_code 41 = .ok (.aload_n 0, 1) := by decide +kernel
theorem d_197_42 : decode prog_14_method_59_code 42 = .ok (.getfield 13, 3) := by decide +kernel
theorem d_197_45 : decode prog_14_method_59_code 45 = .ok (.iload_n 3, 1) := by decide +kernel
theorem d_197_46 : decode prog_14_method_59_code 46 = .ok (.iaload, 1) := by decide +kernel
theorem d_197_47 : decode prog_14_method_59_code 47 = .ok (.if_icmp .ne 7, 3) := by decide +kernel
theorem d_197_50 : decode prog_14_method_59_code 50 = .ok (.iconst 1, 1) := by decide +kernel
theorem d_197_51 : decode prog_14_method_59_code 51 = .ok (.goto 4, 3) := by decide +kernel
theorem d_197_54 : decode prog_14_method_59_code 54 = .ok (.iconst 0, 1) := by decide +kernel
theorem d_197_55 : decode prog_14_method_59_code 55 = .ok (.istore 4, 2) := by decide +kernel
theorem d_197_57 : decode prog_14_method_59_code 57 = .ok (.iinc 5 1, 3) := by decide +kernel
theorem d_197_60 : decode prog_14_method_59_code 60 = .ok (.goto (-42), 3) := by decide +kernel
theorem d_197_63 : decode prog_14_method_59_code 63 = .ok (.iload_n 2, 1) := by decide +kernel
theorem d_197_64 : decode prog_14_method_59_code 64 = .ok (.iload 4, 2) := by decide +kernel
theorem d_197_66 : decode prog_14_method_59_code 66 = .ok (.ifCond .eq 9, 3) := by decide +kernel
theorem d_197_69 : decode prog_14_method_59_code 69 = .ok (.iconst 1, 1) := by decide +kernel
theorem d_197_70 : decode prog_14_method_59_code 70 = .ok (.iload_n 3, 1) := by decide +kernel
theorem d_197_71 : decode prog_14_method_59_code 71 = .ok (.ishl, 1) := by decide +kernel
theorem d_197_72 : decode prog_14_method_59_code 72 = .ok (.goto 4, 3) := by decide +kernel
theorem d_197_75 : decode prog_14_method_59_code 75 = .ok (.iconst 0, 1) := by decide +kernel
theorem d_197_76 : decode prog_14_method_59_code 76 = .ok (.ior, 1) := by decide +kernel
theorem d_197_77 : decode prog_14_method_59_code 77 = .ok (.istore_n 2, 1) := by decide +kernel
theorem d_197_78 : decode prog_14_method_59_code 78 = .ok (.iinc 3 1, 3) := by decide +kernel
theorem d_197_81 : decode prog_14_method_59_code 81 = .ok (.goto (-77), 3) := by decide +kernel
theorem d_197_84 : decode prog_14_method_59_code 84 = .ok (.iload_n 2, 1) := by decide +kernel
theorem d_197_85 : decode prog_14_method_59_code 85 = .ok (.ireturn, 1) := by decide +kernel
theorem s_197_84 {Γ : m_G} : m_ok Γ m_tab 197 M_197 84 (g_197_84) := ok_il_n (pc := 84) d_197_84 rfl (ok_ri (pc := 85) d_197_85 rfl)
theorem s_197_76 {Γ : m_G} : m_ok Γ m_tab 197 M_197 76 (g_197_76) := ok_or (pc := 76) d_197_76 (ok_is_n (pc := 77) d_197_77 rfl (by decide) (ok_inc (pc := 78) d_197_78 rfl (by decide) (ok_go (pc := 81) (t := 4) d_197_81 rfl (by decide) rfl)))
theorem s_197_75 {Γ : m_G} : m_ok Γ m_tab 197 M_197 75 (g_197_75) := ok_ic (pc := 75) d_197_75 rfl (s_197_76)
theorem s_197_63 {Γ : m_G} : m_ok Γ m_tab 197 M_197 63 (g_197_63) := ok_il_n (pc := 63) d_197_63 rfl (ok_il (pc := 64) d_197_64 (ok_czeq (pc := 66) (t := 75) d_197_66 rfl (by decide) rfl (ok_ic (pc := 69) d_197_69 rfl (ok_il_n (pc := 70) d_197_70 rfl (ok_shl (pc := 71) d_197_71 (ok_go (pc := 72) (t := 76) d_197_72 rfl (by decide) rfl))))))
theorem s_197_55 {Γ : m_G} : m_ok Γ m_tab 197 M_197 55 (g_197_55) := ok_is (pc := 55) d_197_55 (by decide) (ok_inc (pc := 57) d_197_57 rfl (by decide) (ok_go (pc := 60) (t := 18) d_197_60 rfl (by decide) rfl))
theorem s_197_54 {Γ : m_G} : m_ok Γ m_tab 197 M_197 54 (g_197_54) := ok_ic (pc := 54) d_197_54 rfl (s_197_55)
theorem s_197_18 {Γ : m_G} : m_ok Γ m_tab 197 M_197 18 (g_197_18) := ok_il (pc := 18) d_197_18 (ok_il_n (pc := 20) d_197_20 rfl (ok_cige (pc := 21) (t := 63) d_197_21 rfl (by decide) rfl (ok_il (pc := 24) d_197_24 (ok_czeq (pc := 26) (t := 54) d_197_26 rfl (by decide) rfl (ok_al_n (pc := 29) d_197_29 rfl (ok_al_n (pc := 30) d_197_30 rfl (ok_getf (pc := 31) d_197_31 w_944 (hc1 fo_99) (ok_il (pc := 34) d_197_34 (ok_iald (pc := 36) d_197_36 (ok_il_n (pc := 37) d_197_37 rfl (ok_cai (pc := 38) (k2 := 185) rfl rfl tb_185 (by decide) (by decide) rfl (go_V d_197_38 w_1178 w_1180 ws_60 w_11 w_1181 nn_185 (by decide) cl_12 rfl) (ok_al_n (pc := 41) d_197_41 rfl (ok_getf (pc := 42) d_197_42 w_914 (hc1 fo_72) (ok_il_n (pc := 45) d_197_45 rfl (ok_iald (pc := 46) d_197_46 (ok_cine (pc := 47) (t := 54) d_197_47 rfl (by decide) rfl (ok_ic (pc := 50) d_197_50 rfl (ok_go (pc := 51) (t := 55) d_197_51 rfl (by decide) rfl))))))))))))))))))
theorem s_197_4 {Γ : m_G} : m_ok Γ m_tab 197 M_197 4 (g_197_4) := ok_il_n (pc := 4) d_197_4 rfl (ok_al_n (pc := 5) d_197_5 rfl (ok_getf (pc := 6) d_197_6 w_918 (hc1 fo_74) (ok_cige (pc := 9) (t := 84) d_197_9 rfl (by decide) rfl (ok_ic (pc := 12) d_197_12 rfl (ok_is (pc := 13) d_197_13 (by decide) (ok_ic (pc := 15) d_197_15 rfl (ok_is (pc := 16) d_197_16 (by decide) (s_197_18))))))))
theorem s_197_0 {Γ : m_G} : m_ok Γ m_tab 197 M_197 0 (g_197_0) := ok_ic (pc := 0) d_197_0 rfl (ok_is_n (pc := 1) d_197_1 rfl (by decide) (ok_ic (pc := 2) d_197_2 rfl (ok_is_n (pc := 3) d_197_3 rfl (by decide) (s_197_4))))
theorem tst_197 {Γ : m_G} (q : Nat) : m_ts Γ (t_197 q) q := ts_n (ts_n (ts_n (ts_l (k := 197) (pc := 0) tb_197 rfl (by decide) s_197_0) (ts_l (k := 197) (pc := 4) tb_197 rfl (by decide) s_197_4)) (ts_n (ts_l (k := 197) (pc := 18) tb_197 rfl (by decide) s_197_18) (ts_l (k := 197) (pc := 54) tb_197 rfl (by decide) s_197_54))) (ts_n (ts_n (ts_l (k := 197) (pc := 55) tb_197 rfl (by decide) s_197_55) (ts_l (k := 197) (pc := 63) tb_197 rfl (by decide) s_197_63)) (ts_n (ts_l (k := 197) (pc := 75) tb_197 rfl (by decide) s_197_75) (ts_n (ts_l (k := 197) (pc := 76) tb_197 rfl (by decide) s_197_76) (ts_l (k := 197) (pc := 84) tb_197 rfl (by decide) s_197_84))))
theorem d_198_0 : decode prog_14_method_60_code 0 = .ok (.aload_n 0, 1) := by decide +kernel
theorem d_198_1 : decode prog_14_method_60_code 1 = .ok (.iload_n 1, 1) := by decide +kernel
theorem d_198_2 : decode prog_14_method_60_code 2 = .ok (.iload_n 2, 1) := by decide +kernel
theorem d_198_3 : decode prog_14_method_60_code 3 = .ok (.iload_n 3, 1) := by decide +kernel
theorem d_198_4 : decode prog_14_method_60_code 4 = .ok (.invokevirtual 258, 3) := by decide +kernel
theorem d_198_7 : decode prog_14_method_60_code 7 = .ok (.ifCond .lt 28, 3) := by decide +kernel
theorem d_198_10 : decode prog_14_method_60_code 10 = .ok (.aload_n 0, 1) := by decide +kernel
theorem d_198_11 : decode prog_14_method_60_code 11 = .ok (.aload_n 0, 1) := by decide +kernel
theorem d_198_12 : decode prog_14_method_60_code 12 = .ok (.iload_n 1, 1) := by decide +kernel
theorem d_198_13 : decode prog_14_method_60_code 13 = .ok (.iload_n 2, 1) := by decide +kernel
theorem d_198_14 : decode prog_14_method_60_code 14 = .ok (.iload_n 3, 1) := by decide +kernel
theorem d_198_15 : decode prog_14_method_60_code 15 = .ok (.invokevirtual 264, 3) := by decide +kernel
theorem d_198_18 : decode prog_14_method_60_code 18 = .ok (.iload_n 2, 1) := by decide +kernel
theorem d_198_19 : decode prog_14_method_60_code 19 = .ok (.aload_n 0, 1) := by decide +kernel
theorem d_198_20 : decode prog_14_method_60_code 20 = .ok (.iload_n 1, 1) := by decide +kernel
theorem d_198_21 : decode prog_14_method_60_code 21 = .ok (.iload_n 2, 1) := by decide +kernel
theorem d_198_22 : decode prog_14_method_60_code 22 = .ok (.invokevirtual 237, 3) := by decide +kernel
theorem d_198_25 : decode prog_14_method_60_code 25 = .ok (.invokevirtual 258, 3) := by decide +kernel
theorem d_198_28 : decode prog_14_method_60_code 28 = .ok (.ifCond .lt 7, 3) := by decide +kernel
theorem d_198_31 : decode prog_14_method_60_code 31 = .ok (.iconst 1, 1) := by decide +kernel
theorem d_198_32 : decode prog_14_method_60_code 32 = .ok (.goto 4, 3) := by decide +kernel
theorem d_198_35 : decode prog_14_method_60_code 35 = .ok (.iconst 0, 1) := by decide +kernel
theorem d_198_36 : decode prog_14_method_60_code 36 = .ok (.ireturn, 1) := by decide +kernel
theorem s_198_36 {Γ : m_G} : m_ok Γ m_tab 198 M_198 36 (g_198_36) := ok_rz (pc := 36) d_198_36 rfl
theorem s_198_35 {Γ : m_G} : m_ok Γ m_tab 198 M_198 35 (g_198_35) := ok_ic (pc := 35) d_198_35 rfl (s_198_36)
theorem s_198_0 {Γ : m_G} : m_ok Γ m_tab 198 M_198 0 (g_198_0) := ok_al_n (pc := 0) d_198_0 rfl (ok_il_n (pc := 1) d_198_1 rfl (ok_il_n (pc := 2) d_198_2 rfl (ok_il_n (pc := 3) d_198_3 rfl (ok_cai (pc := 4) (k2 := 186) rfl rfl tb_186 (by decide) (by decide) rfl (go_V d_198_4 w_1219 w_1221 ws_67 w_11 w_1222 nn_186 (by decide) cl_12 rfl) (ok_czlt (pc := 7) (t := 35) d_198_7 rfl (by decide) rfl (ok_al_n (pc := 10) d_198_10 rfl (ok_al_n (pc := 11) d_198_11 rfl (ok_il_n (pc := 12) d_198_12 rfl (ok_il_n (pc := 13) d_198_13 rfl (ok_il_n (pc := 14) d_198_14 rfl (ok_cai (pc := 15) (k2 := 187) rfl rfl tb_187 (by decide) (by decide) rfl (go_V d_198_15 w_1243 w_1245 ws_71 w_11 w_1246 nn_187 (by decide) cl_12 rfl) (ok_il_n (pc := 18) d_198_18 rfl (ok_al_n (pc := 19) d_198_19 rfl (ok_il_n (pc := 20) d_198_20 rfl (ok_il_n (pc := 21) d_198_21 rfl (ok_cai (pc := 22) (k2 := 185) rfl rfl tb_185 (by decide) (by decide) rfl (go_V d_198_22 w_1178 w_1180 ws_60 w_11 w_1181 nn_185 (by decide) cl_12 rfl) (ok_cai (pc := 25) (k2 := 186) rfl rfl tb_186 (by decide) (by decide) rfl (go_V d_198_25 w_1219 w_1221 ws_67 w_11 w_1222 nn_186 (by decide) cl_12 rfl) (ok_czlt (pc := 28) (t := 35) d_198_28 rfl (by decide) rfl (ok_ic (pc := 31) d_198_31 rfl (ok_go (pc := 32) (t := 36) d_198_32 rfl (by decide) rfl))))))))))))))))))))
theorem tst_198 {Γ : m_G} (q : Nat) : m_ts Γ (t_198 q) q := ts_n (ts_l (k := 198) (pc := 0) tb_198 rfl (by decide) s_198_0) (ts_n (ts_l (k := 198) (pc := 35) tb_198 rfl (by decide) s_198_35) (ts_l (k := 198) (pc := 36) tb_198 rfl (by decide) s_198_36))
theorem d_199_0 : decode prog_14_method_61_code 0 = .ok (.iconst 0, 1) := by decide +kernel
theorem d_199_1 : decode prog_14_method_61_code 1 = .ok (.istore_n 1, 1) := by decide +kernel
theorem d_199_2 : decode prog_14_method_61_code 2 = .ok (.iconst 0, 1) := by decide +kernel
theorem d_199_3 : decode prog_14_method_61_code 3 = .ok (.istore_n 2, 1) := by decide +kernel
theorem d_199_4 : decode prog_14_method_61_code 4 = .ok (.iload_n 2, 1) := by decide +kernel
theorem d_199_5 : decode prog_14_method_61_code 5 = .ok (.aload_n 0, 1) := by decide +kernel
theorem d_199_6 : decode prog_14_method_61_code 6 = .ok (.getfield 58, 3) := by decide +kernel
theorem d_199_9 : decode prog_14_method_61_code 9 = .ok (.aload_n 0, 1) := by decide +kernel
theorem d_199_10 : decode prog_14_method_61_code 10 = .ok (.getfield 25, 3) := by decide +kernel
theorem d_199_13 : decode prog_14_method_61_code 13 = .ok (.iaload, 1) := by decide +kernel
theorem d_199_14 : decode prog_14_method_61_code 14 = .ok (.if_icmp .ge 16, 3) := by decide +kernel
theorem d_199_17 : decode prog_14_method_61_code 17 = .ok (.aload_n 0, 1) := by decide +kernel
theorem d_199_18 : decode prog_14_method_61_code 18 = .ok (.getfield 70, 3) := by decide +kernel
theorem d_199_21 : decode prog_14_method_61_code 21 = .ok (.iload_n 2, 1) := by decide +kernel
theorem d_199_22 : decode prog_14_method_61_code 22 = .ok (.iconst 0, 1) := by decide +kernel
theorem d_199_23 : decode prog_14_method_61_code 23 = .ok (.iastore, 1) := by decide +kernel
theorem d_199_24 : decode prog_14_method_61_code 24 = .ok (.iinc 2 1, 3) := by decide +kernel
theorem d_199_27 : decode prog_14_method_61_code 27 = .ok (.goto (-23), 3) := by decide +kernel
theorem d_199_30 : decode prog_14_method_61_code 30 = .ok (.iconst 0, 1) := by decide +kernel
theorem d_199_31 : decode prog_14_method_61_code 31 = .ok (.istore_n 2, 1) := by decide +kernel
theorem d_199_32 : decode prog_14_method_61_code 32 = .ok (.iload_n 2, 1) := by decide +kernel
theorem d_199_33 : decode prog_14_method_61_code 33 = .ok (.aload_n 0, 1) := by decide +kernel
theorem d_199_34 : decode prog_14_method_61_code 34 = .ok (.getfield 58, 3) := by decide +kernel
theorem d_199_37 : decode prog_14_method_61_code 37 = .ok (.aload_n 0, 1) := by decide +kernel
theorem d_199_38 : decode prog_14_method_61_code 38 = .ok (.getfield 25, 3) := by decide +kernel
theorem d_199_41 : decode prog_14_method_61_code 41 = .ok (.iaload, 1) := by decide +kernel
theorem d_199_42 : decode prog_14_method_61_code 42 = .ok (.if_icmp .ge 192, 3) := by decide +kernel
theorem d_199_45 : decode prog_14_method_61_code 45 = .ok (.aload_n 0, 1) := by decide +kernel
theorem d_199_46 : decode prog_14_method_61_code 46 = .ok (.getfield 70, 3) := by decide +kernel
theorem d_199_49 : decode prog_14_method_61_code 49 = .ok (.iload_n 2, 1) := by decide +kernel
theorem d_199_50 : decode prog_14_method_61_code 50 = .ok (.iaload, 1) := by decide +kernel
theorem d_199_51 : decode prog_14_method_61_code 51 = .ok (.ifCond .gt 177, 3) := by decide +kernel
theorem d_199_54 : decode prog_14_method_61_code 54 = .ok (.aload_n 0, 1) := by decide +kernel
theorem d_199_55 : decode prog_14_method_61_code 55 = .ok (.iload_n 2, 1) := by decide +kernel
theorem d_199_56 : decode prog_14_method_61_code 56 = .ok (.invokevirtual 246, 3) := by decide +kernel
theorem d_199_59 : decode prog_14_method_61_code 59 = .ok (.ifCond .ne 6, 3) := by decide +kernel
theorem d_199_62 : decode prog_14_method_61_code 62 = .ok (.goto 166, 3) := by decide +kernel
theorem d_199_65 : decode prog_14_method_61_code 65 = .ok (.iinc 1 1, 3) := by decide +kernel
theorem d_199_68 : decode prog_14_method_61_code 68 = .ok (.aload_n 0, 1) := by decide +kernel
theorem d_199_69 : decode prog_14_method_61_code 69 = .ok (.getfield 70, 3) := by decide +kernel
theorem d_199_72 : decode prog_14_method_61_code 72 = .ok (.iload_n 2, 1) := by decide +kernel
theorem d_199_73 : decode prog_14_method_61_code 73 = .ok (.iload_n 1, 1) := by decide +kernel
theorem d_199_74 : decode prog_14_method_61_code 74 = .ok (.iastore, 1) := by decide +kernel
theorem d_199_75 : decode prog_14_method_61_code 75 = .ok (.aload_n 0, 1) := by decide +kernel
theorem d_199_76 : decode prog_14_method_61_code 76 = .ok (.getfield 67, 3) := by decide +kernel
theorem d_199_79 : decode prog_14_method_61_code 79 = .ok (.iconst 0, 1) := by decide +kernel
theorem d_199_80 : decode prog_14_method_61_code 80 = .ok (.iload_n 2, 1) := by decide +kernel
theorem d_199_81 : decode prog_14_method_61_code 81 = .ok (.iastore, 1) := by decide +kernel
theorem d_199_82 : decode prog_14_method_61_code 82 = .ok (.iconst 1, 1) := by decide +kernel
theorem d_199_83 : decode prog_14_method_61_code 83 = .ok (.istore_n 3, 1) := by decide +kernel
theorem d_199_84 : decode prog_14_method_61_code 84 = .ok (.iconst 0, 1) := by decide +kernel
theorem d_199_85 : decode prog_14_method_61_code 85 = .ok (.istore 4, 2) := by decide +kernel
theorem d_199_87 : decode prog_14_method_61_code 87 = .ok (.iload 4, 2) := by decide +kernel
theorem d_199_89 : decode prog_14_method_61_code 89 = .ok (.iload_n 3, 1) := by decide +kernel
theorem d_199_90 : decode prog_14_method_61_code 90 = .ok (.if_icmp .ge 138, 3) := by decide +kernel
theorem d_199_93 : decode prog_14_method_61_code 93 = .ok (.iconst 0, 1) := by decide +kernel
theorem d_199_94 : decode prog_14_method_61_code 94 = .ok (.istore 5, 2) := by decide +kernel
theorem d_199_96 : decode prog_14_method_61_code 96 = .ok (.iload 5, 2) := by decide +kernel
theorem d_199_98 : decode prog_14_method_61_code 98 = .ok (.aload_n 0, 1) := by decide +kernel
theorem d_199_99 : decode prog_14_method_61_code 99 = .ok (.getfield 25, 3) := by decide +kernel
theorem d_199_102 : decode prog_14_method_61_code 102 = .ok (.aload_n 0, 1) := by decide +kernel
theorem d_199_103 : decode prog_14_method_61_code 103 = .ok (.getfield 29, 3) := by decide +kernel
theorem d_199_106 : decode prog_14_method_61_code 106 = .ok (.imul, 1) := by decide +kernel
theorem d_199_107 : decode prog_14_method_61_code 107 = .ok (.if_icmp .ge 115, 3) := by decide +kernel
theorem d_199_110 : decode prog_14_method_61_code 110 = .ok (.iload 5, 2) := by decide +kernel
theorem d_199_112 : decode prog_14_method_61_code 112 = .ok (.aload_n 0, 1) := by decide +kernel
theorem d_199_113 : decode prog_14_method_61_code 113 = .ok (.getfield 29, 3) := by decide +kernel
theorem d_199_116 : decode prog_14_method_61_code 116 = .ok (.idiv, 1) := by decide +kernel
theorem d_199_117 : decode prog_14_method_61_code 117 = .ok (.istore 6, 2) := by decide +kernel
theorem d_199_119 : decode prog_14_method_61_code 119 = .ok (.iload 5, 2) := by decide +kernel
theorem d_199_121 : decode prog_14_method_61_code 121 = .ok (.aload_n 0, 1) := by decide +kernel
theorem d_199_122 : decode prog_14_method_61_code 122 = .ok (.getfield 29, 3) := by decide +kernel
theorem d_199_125 : decode prog_14_method_61_code 125 = .ok (.irem, 1) := by decide +kernel
theorem d_199_126 : decode prog_14_method_61_code 126 = .ok (.istore 7, 2) := by decide +kernel
theorem d_199_128 : decode prog_14_method_61_code 128 = .ok (.aload_n 0, 1) := by decide +kernel
theorem d_199_129 : decode prog_14_method_61_code 129 = .ok (.aload_n 0, 1) := by decide +kernel
theorem d_199_130 : decode prog_14_method_61_code 130 = .ok (.getfield 67, 3) := by decide +kernel
theorem d_199_133 : decode prog_14_method_61_code 133 = .ok (.iload 4, 2) := by decide +kernel
theorem d_199_135 : decode prog_14_method_61_code 135 = .ok (.iaload, 1) := by decide +kernel
theorem d_199_136 : decode prog_14_method_61_code 136 = .ok (.iload 6, 2) := by decide +kernel
theorem d_199_138 : decode prog_14_method_61_code 138 = .ok (.invokevirtual 237, 3) := by decide +kernel
theorem d_199_141 : decode prog_14_method_61_code 141 = .ok (.iload 7, 2) := by decide +kernel
theorem d_199_143 : decode prog_14_method_61_code 143 = .ok (.if_icmp .eq 73, 3) := by decide +kernel
theorem d_199_146 : decode prog_14_method_61_code 146 = .ok (.aload_n 0, 1) := by decide +kernel
theorem d_199_147 : decode prog_14_method_61_code 147 = .ok (.aload_n 0, 1) := by decide +kernel
theorem d_199_148 : decode prog_14_method_61_code 148 = .ok (.getfield 67, 3) := by decide +kernel
theorem d_199_151 : decode prog_14_method_61_code 151 = .ok (.iload 4, 2) := by decide +kernel
theorem d_199_153 : decode prog_14_method_61_code 153 = .ok (.iaload, 1) := by decide +kernel
theorem d_199_154 : decode prog_14_method_61_code 154 = .ok (.iload 6, 2) := by decide +kernel
theorem d_199_156 : decode prog_14_method_61_code 156 = .ok (.iload 7, 2) := by decide +kernel
theorem d_199_158 : decode prog_14_method_61_code 158 = .ok (.invokevirtual 270, 3) := by decide +kernel
theorem d_199_161 : decode prog_14_method_61_code 161 = .ok (.ifCond .ne 6, 3) := by decide +kernel
theorem d_199_164 : decode prog_14_method_61_code 164 = .ok (.goto 52, 3) := by decide +kernel
theorem d_199_167 : decode prog_14_method_61_code 167 = .ok (.aload_n 0, 1) := by decide +kernel
theorem d_199_168 : decode prog_14_method_61_code 168 = .ok (.aload_n 0, 1) := by decide +kernel
theorem d_199_169 : decode prog_14_method_61_code 169 = .ok (.getfield 67, 3) := by decide +kernel
theorem d_199_172 : decode prog_14_method_61_code 172 = .ok (.iload 4, 2) := by decide +kernel
theorem d_199_174 : decode prog_14_method_61_code 174 = .ok (.iaload, 1) := by decide +kernel
theorem d_199_175 : decode prog_14_method_61_code 175 = .ok (.iload 6, 2) := by decide +kernel
theorem d_199_177 : decode prog_14_method_61_code 177 = .ok (.iload 7, 2) := by decide +kernel
theorem d_199_179 : decode prog_14_method_61_code 179 = .ok (.invokevirtual 264, 3) := by decide +kernel
theorem d_199_182 : decode prog_14_method_61_code 182 = .ok (.istore 8, 2) := by decide +kernel
theorem d_199_184 : decode prog_14_method_61_code 184 = .ok (.aload_n 0, 1) := by decide +kernel
theorem d_199_185 : decode prog_14_method_61_code 185 = .ok (.getfield 70, 3) := by decide +kernel
theorem d_199_188 : decode prog_14_method_61_code 188 = .ok (.iload 8, 2) := by decide +kernel
theorem d_199_190 : decode prog_14_method_61_code 190 = .ok (.iaload, 1) := by decide +kernel
theorem d_199_191 : decode prog_14_method_61_code 191 = .ok (.ifCond .le 6, 3) := by decide +kernel
theorem d_199_194 : decode prog_14_method_61_code 194 = .ok (.goto 22, 3) := by decide +kernel
theorem d_199_197 : decode prog_14_method_61_code 197 = .ok (.aload_n 0, 1) := by decide +kernel
theorem d_199_198 : decode prog_14_method_61_code 198 = .ok (.getfield 70, 3) := by decide +kernel
theorem d_199_201 : decode prog_14_method_61_code 201 = .ok (.iload 8, 2) := by decide +kernel
theorem d_199_203 : decode prog_14_method_61_code 203 = .ok (.iload_n 1, 1) := by decide +kernel
theorem d_199_204 : decode prog_14_method_61_code 204 = .ok (.iastore, 1) := by decide +kernel
theorem d_199_205 : decode prog_14_method_61_code 205 = .ok (.aload_n 0, 1) := by decide +kernel
theorem d_199_206 : decode prog_14_method_61_code 206 = .ok (.getfield 67, 3) := by decide +kernel
theorem d_199_209 : decode prog_14_method_61_code 209 = .ok (.iload_n 3, 1) := by decide +kernel
theorem d_199_210 : decode prog_14_method_61_code 210 = .ok (.iload 8, 2) := by decide +kernel
theorem d_199_212 : decode prog_14_method_61_code 212 = .ok (.iastore, 1) := by decide +kernel
theorem d_199_213 : decode prog_14_method_61_code 213 = .ok (.iinc 3 1, 3) := by decide +kernel
theorem d_199_216 : decode prog_14_method_61_code 216 = .ok (.iinc 5 1, 3) := by decide +kernel
theorem d_199_219 : decode prog_14_method_61_code 219 = .ok (.goto (-123), 3) := by decide +kernel
theorem d_199_222 : decode prog_14_method_61_code 222 = .ok (.iinc 4 1, 3) := by decide +kernel
theorem d_199_225 : decode prog_14_method_61_code 225 = .ok (.goto (-138), 3) := by decide +kernel
theorem d_199_228 : decode prog_14_method_61_code 228 = .ok (.iinc 2 1, 3) := by decide +kernel
theorem d_199_231 : decode prog_14_method_61_code 231 = .ok (.goto (-199), 3) := by decide +kernel
theorem d_199_234 : decode prog_14_method_61_code 234 = .ok (.iload_n 1, 1) := by decide +kernel
theorem d_199_235 : decode prog_14_method_61_code 235 = .ok (.ireturn, 1) := by decide +kernel
theorem s_199_234 {Γ : m_G} : m_ok Γ m_tab 199 M_199 234 (g_199_234) := ok_il_n (pc := 234) d_199_234 rfl (ok_ri (pc := 235) d_199_235 rfl)
theorem s_199_228 {Γ : m_G} : m_ok Γ m_tab 199 M_199 228 (g_199_228) := ok_inc (pc := 228) d_199_228 rfl (by decide) (ok_go (pc := 231) (t := 32) d_199_231 rfl (by decide) rfl)
theorem s_199_222 {Γ : m_G} : m_ok Γ m_tab 199 M_199 222 (g_199_222) := ok_inc (pc := 222) d_199_222 rfl (by decide) (ok_go (pc := 225) (t := 87) d_199_225 rfl (by decide) rfl)
theorem s_199_216 {Γ : m_G} : m_ok Γ m_tab 199 M_199 216 (g_199_216) := ok_inc (pc := 216) d_199_216 rfl (by decide) (ok_go (pc := 219) (t := 96) d_199_219 rfl (by decide) rfl)
theorem s_199_197 {Γ : m_G} : m_ok Γ m_tab 199 M_199 197 (g_199_197) := ok_al_n (pc := 197) d_199_197 rfl (ok_getf (pc := 198) d_199_198 w_945 (hc1 fo_101) (ok_il (pc := 201) d_199_201 (ok_il_n (pc := 203) d_199_203 rfl (ok_iast (pc := 204) d_199_204 (ok_al_n (pc := 205) d_199_205 rfl (ok_getf (pc := 206) d_199_206 w_944 (hc1 fo_99) (ok_il_n (pc := 209) d_199_209 rfl (ok_il (pc := 210) d_199_210 (ok_iast (pc := 212) d_199_212 (ok_inc (pc := 213) d_199_213 rfl (by decide) (s_199_216)))))))))))
theorem s_199_167 {Γ : m_G} : m_ok Γ m_tab 199 M_199 167 (g_199_167) := ok_al_n (pc := 167) d_199_167 rfl (ok_al_n (pc := 168) d_199_168 rfl (ok_getf (pc := 169) d_199_169 w_944 (hc1 fo_99) (ok_il (pc := 172) d_199_172 (ok_iald (pc := 174) d_199_174 (ok_il (pc := 175) d_199_175 (ok_il (pc := 177) d_199_177 (ok_cai (pc := 179) (k2 := 187) rfl rfl tb_187 (by decide) (by decide) rfl (go_V d_199_179 w_1243 w_1245 ws_71 w_11 w_1246 nn_187 (by decide) cl_12 rfl) (ok_is (pc := 182) d_199_182 (by decide) (ok_al_n (pc := 184) d_199_184 rfl (ok_getf (pc := 185) d_199_185 w_945 (hc1 fo_101) (ok_il (pc := 188) d_199_188 (ok_iald (pc := 190) d_199_190 (ok_czle (pc := 191) (t := 197) d_199_191 rfl (by decide) rfl (ok_go (pc := 194) (t := 216) d_199_194 rfl (by decide) rfl))))))))))))))
theorem s_199_96 {Γ : m_G} : m_ok Γ m_tab 199 M_199 96 (g_199_96) := ok_il (pc := 96) d_199_96 (ok_al_n (pc := 98) d_199_98 rfl (ok_getf (pc := 99) d_199_99 w_918 (hc1 fo_74) (ok_al_n (pc := 102) d_199_102 rfl (ok_getf (pc := 103) d_199_103 w_919 (hc1 fo_75) (ok_mul (pc := 106) d_199_106 (ok_cige (pc := 107) (t := 222) d_199_107 rfl (by decide) rfl (ok_il (pc := 110) d_199_110 (ok_al_n (pc := 112) d_199_112 rfl (ok_getf (pc := 113) d_199_113 w_919 (hc1 fo_75) (ok_div (pc := 116) d_199_116 (ok_is (pc := 117) d_199_117 (by decide) (ok_il (pc := 119) d_199_119 (ok_al_n (pc := 121) d_199_121 rfl (ok_getf (pc := 122) d_199_122 w_919 (hc1 fo_75) (ok_rem (pc := 125) d_199_125 (ok_is (pc := 126) d_199_126 (by decide) (ok_al_n (pc := 128) d_199_128 rfl (ok_al_n (pc := 129) d_199_129 rfl (ok_getf (pc := 130) d_199_130 w_944 (hc1 fo_99) (ok_il (pc := 133) d_199_133 (ok_iald (pc := 135) d_199_135 (ok_il (pc := 136) d_199_136 (ok_cai (pc := 138) (k2 := 185) rfl rfl tb_185 (by decide) (by decide) rfl (go_V d_199_138 w_1178 w_1180 ws_60 w_11 w_1181 nn_185 (by decide) cl_12 rfl) (ok_il (pc := 141) d_199_141 (ok_cieq (pc := 143) (t := 216) d_199_143 rfl (by decide) rfl (ok_al_n (pc := 146) d_199_146 rfl (ok_al_n (pc := 147) d_199_147 rfl (ok_getf (pc := 148) d_199_148 w_944 (hc1 fo_99) (ok_il (pc := 151) d_199_151 (ok_iald (pc := 153) d_199_153 (ok_il (pc := 154) d_199_154 (ok_il (pc := 156) d_199_156 (ok_cai (pc := 158) (k2 := 198) rfl rfl tb_198 (by decide) (by decide) rfl (go_V d_199_158 w_1255 w_1257 ws_74 w_11 w_1258 nn_198 (by decide) cl_12 rfl) (ok_czne (pc := 161) (t := 167) d_199_161 rfl (by decide) rfl (ok_go (pc := 164) (t := 216) d_199_164 rfl (by decide) rfl)))))))))))))))))))))))))))))))))))
theorem s_199_87 {Γ : m_G} : m_ok Γ m_tab 199 M_199 87 (g_199_87) := ok_il (pc := 87) d_199_87 (ok_il_n (pc := 89) d_199_89 rfl (ok_cige (pc := 90) (t := 228) d_199_90 rfl (by decide) rfl (ok_ic (pc := 93) d_199_93 rfl (ok_is (pc := 94) d_199_94 (by decide) (s_199_96)))))
theorem s_199_65 {Γ : m_G} : m_ok Γ m_tab 199 M_199 65 (g_199_65) := ok_inc (pc := 65) d_199_65 rfl (by decide) (ok_al_n (pc := 68) d_199_68 rfl (ok_getf (pc := 69) d_199_69 w_945 (hc1 fo_101) (ok_il_n (pc := 72) d_199_72 rfl (ok_il_n (pc := 73) d_199_73 rfl (ok_iast (pc := 74) d_199_74 (ok_al_n (pc := 75) d_199_75 rfl (ok_getf (pc := 76) d_199_76 w_944 (hc1 fo_99) (ok_ic (pc := 79) d_199_79 rfl (ok_il_n (pc := 80) d_199_80 rfl (ok_iast (pc := 81) d_199_81 (ok_ic (pc := 82) d_199_82 rfl (ok_is_n (pc := 83) d_199_83 rfl (by decide) (ok_ic (pc := 84) d_199_84 rfl (ok_is (pc := 85) d_199_85 (by decide) (s_199_87)))))))))))))))
theorem s_199_32 {Γ : m_G} : m_ok Γ m_tab 199 M_199 32 (g_199_32) := ok_il_n (pc := 32) d_199_32 rfl (ok_al_n (pc := 33) d_199_33 rfl (ok_getf (pc := 34) d_199_34 w_941 (hc1 fo_98) (ok_al_n (pc := 37) d_199_37 rfl (ok_getf (pc := 38) d_199_38 w_918 (hc1 fo_74) (ok_iald (pc := 41) d_199_41 (ok_cige (pc := 42) (t := 234) d_199_42 rfl (by decide) rfl (ok_al_n (pc := 45) d_199_45 rfl (ok_getf (pc := 46) d_199_46 w_945 (hc1 fo_101) (ok_il_n (pc := 49) d_199_49 rfl (ok_iald (pc := 50) d_199_50 (ok_czgt (pc := 51) (t := 228) d_199_51 rfl (by decide) rfl (ok_al_n (pc := 54) d_199_54 rfl (ok_il_n (pc := 55) d_199_55 rfl (ok_cai (pc := 56) (k2 := 188) rfl rfl tb_188 (by decide) (by decide) rfl (go_V d_199_56 w_1174 w_1176 ws_59 w_11 w_1177 nn_188 (by decide) cl_12 rfl) (ok_czne (pc := 59) (t := 65) d_199_59 rfl (by decide) rfl (ok_go (pc := 62) (t := 228) d_199_62 rfl (by decide) rfl))))))))))))))))
theorem s_199_30 {Γ : m_G} : m_ok Γ m_tab 199 M_199 30 (g_199_30) := ok_ic (pc := 30) d_199_30 rfl (ok_is_n (pc := 31) d_199_31 rfl (by decide) (s_199_32))
theorem s_199_4 {Γ : m_G} : m_ok Γ m_tab 199 M_199 4 (g_199_4) := ok_il_n (pc := 4) d_199_4 rfl (ok_al_n (pc := 5) d_199_5 rfl (ok_getf (pc := 6) d_199_6 w_941 (hc1 fo_98) (ok_al_n (pc := 9) d_199_9 rfl (ok_getf (pc := 10) d_199_10 w_918 (hc1 fo_74) (ok_iald (pc := 13) d_199_13 (ok_cige (pc := 14) (t := 30) d_199_14 rfl (by decide) rfl (ok_al_n (pc := 17) d_199_17 rfl (ok_getf (pc := 18) d_199_18 w_945 (hc1 fo_101) (ok_il_n (pc := 21) d_199_21 rfl (ok_ic (pc := 22) d_199_22 rfl (ok_iast (pc := 23) d_199_23 (ok_inc (pc := 24) d_199_24 rfl (by decide) (ok_go (pc := 27) (t := 4) d_199_27 rfl (by decide) rfl)))))))))))))
theorem s_199_0 {Γ : m_G} : m_ok Γ m_tab 199 M_199 0 (g_199_0) := ok_ic (pc := 0) d_199_0 rfl (ok_is_n (pc := 1) d_199_1 rfl (by decide) (ok_ic (pc := 2) d_199_2 rfl (ok_is_n (pc := 3) d_199_3 rfl (by decide) (s_199_4))))
theorem tst_199 {Γ : m_G} (q : Nat) : m_ts Γ (t_199 q) q := ts_n (ts_n (ts_n (ts_l (k := 199) (pc := 0) tb_199 rfl (by decide) s_199_0) (ts_n (ts_l (k := 199) (pc := 4) tb_199 rfl (by decide) s_199_4) (ts_l (k := 199) (pc := 30) tb_199 rfl (by decide) s_199_30))) (ts_n (ts_l (k := 199) (pc := 32) tb_199 rfl (by decide) s_199_32) (ts_n (ts_l (k := 199) (pc := 65) tb_199 rfl (by decide) s_199_65) (ts_l (k := 199) (pc := 87) tb_199 rfl (by decide) s_199_87)))) (ts_n (ts_n (ts_l (k := 199) (pc := 96) tb_199 rfl (by decide) s_199_96) (ts_n (ts_l (k := 199) (pc := 167) tb_199 rfl (by decide) s_199_167) (ts_l (k := 199) (pc := 197) tb_199 rfl (by decide) s_199_197))) (ts_n (ts_n (ts_l (k := 199) (pc := 216) tb_199 rfl (by decide) s_199_216) (ts_l (k := 199) (pc := 222) tb_199 rfl (by decide) s_199_222)) (ts_n (ts_l (k := 199) (pc := 228) tb_199 rfl (by decide) s_199_228) (ts_l (k := 199) (pc := 234) tb_199 rfl (by decide) s_199_234))))
theorem d_200_0 : decode prog_14_method_62_code 0 = .ok (.iload_n 1, 1) := by decide +kernel
theorem d_200_1 : decode prog_14_method_62_code 1 = .ok (.iconst 0, 1) := by decide +kernel
theorem d_200_2 : decode prog_14_method_62_code 2 = .ok (.iconst 3, 1) := by decide +kernel
theorem d_200_3 : decode prog_14_method_62_code 3 = .ok (.invokestatic 112, 3) := by decide +kernel
theorem d_200_6 : decode prog_14_method_62_code 6 = .ok (.ifCond .ne 6, 3) := by decide +kernel
theorem d_200_9 : decode prog_14_method_62_code 9 = .ok (.bipush (-2), 2) := by decide +kernel
theorem d_200_11 : decode prog_14_method_62_code 11 = .ok (.ireturn, 1) := by decide +kernel
theorem d_200_12 : decode prog_14_method_62_code 12 = .ok (.aload_n 0, 1) := by decide +kernel
theorem d_200_13 : decode prog_14_method_62_code 13 = .ok (.invokevirtual 273, 3) := by decide +kernel
theorem d_200_16 : decode prog_14_method_62_code 16 = .ok (.istore_n 2, 1) := by decide +kernel
theorem d_200_17 : decode prog_14_method_62_code 17 = .ok (.iload_n 1, 1) := by decide +kernel
theorem d_200_18 : decode prog_14_method_62_code 18 = .ok (.tableswitch 48 0 2 #[26, 28, 42], 26) := by decide +kernel
theorem d_200_44 : decode prog_14_method_62_code 44 = .ok (.iload_n 2, 1) := by decide +kernel
theorem d_200_45 : decode prog_14_method_62_code 45 = .ok (.ireturn, 1) := by decide +kernel
theorem d_200_46 : decode prog_14_method_62_code 46 = .ok (.aload_n 0, 1) := by decide +kernel
theorem d_200_47 : decode prog_14_method_62_code 47 = .ok (.getfield 61, 3) := by decide +kernel
theorem d_200_50 : decode prog_14_method_62_code 50 = .ok (.aload_n 0, 1) := by decide +kernel
theorem d_200_51 : decode prog_14_method_62_code 51 = .ok (.getfield 67, 3) := by decide +kernel
theorem d_200_54 : decode prog_14_method_62_code 54 = .ok (.iload_n 2, 1) := by decide +kernel
theorem d_200_55 : decode prog_14_method_62_code 55 = .ok (.iconst 1, 1) := by decide +kernel
theorem d_200_56 : decode prog_14_method_62_code 56 = .ok (.isub, 1) := by decide +kernel
theorem d_200_57 : decode prog_14_method_62_code 57 = .ok (.iaload, 1) := by decide +kernel
theorem d_200_58 : decode prog_14_method_62_code 58 = .ok (.iaload, 1) := by decide +kernel
theorem d_200_59 : decode prog_14_method_62_code 59 = .ok (.ireturn, 1) := by decide +kernel
theorem d_200_60 : decode prog_14_method_62_code 60 = .ok (.aload_n 0, 1) := by decide +kernel
theorem d_200_61 : decode prog_14_method_62_code 61 = .ok (.iload_n 2, 1) := by decide +kernel
theorem d_200_62 : decode prog_14_method_62_code 62 = .ok (.invokevirtual 276, 3) := by decide +kernel
theorem d_200_65 : decode prog_14_method_62_code 65 = .ok (.ireturn, 1) := by decide +kernel
theorem d_200_66 : decode prog_14_method_62_code 66 = .ok (.aload_n 0, 1) := by decide +kernel
theorem d_200_67 : decode prog_14_method_62_code 67 = .ok (.invokevirtual 279, 3) := by decide +kernel
theorem d_200_70 : decode prog_14_method_62_code 70 = .ok (.ireturn, 1) := by decide +kernel
theorem s_200_66 {Γ : m_G} : m_ok Γ m_tab 200 M_200 66 (g_200_66) := ok_al_n (pc := 66) d_200_66 rfl (ok_cai (pc := 67) (k2 := 199) rfl rfl tb_199 (by decide) (by decide) rfl (go_V d_200_67 w_1251 w_1253 ws_73 w_11 w_1254 nn_199 (by decide) cl_12 rfl) (ok_ri (pc := 70) d_200_70 rfl))
theorem s_200_60 {Γ : m_G} : m_ok Γ m_tab 200 M_200 60 (g_200_60) := ok_al_n (pc := 60) d_200_60 rfl (ok_il_n (pc := 61) d_200_61 rfl (ok_cai (pc := 62) (k2 := 197) rfl rfl tb_197 (by decide) (by decide) rfl (go_V d_200_62 w_1247 w_1249 ws_72 w_11 w_1250 nn_197 (by decide) cl_12 rfl) (ok_ri (pc := 65) d_200_65 rfl)))
theorem s_200_46 {Γ : m_G} : m_ok Γ m_tab 200 M_200 46 (g_200_46) := ok_al_n (pc := 46) d_200_46 rfl (ok_getf (pc := 47) d_200_47 w_942 (hc1 fo_100) (ok_al_n (pc := 50) d_200_50 rfl (ok_getf (pc := 51) d_200_51 w_944 (hc1 fo_99) (ok_il_n (pc := 54) d_200_54 rfl (ok_ic (pc := 55) d_200_55 rfl (ok_sub (pc := 56) d_200_56 (ok_iald (pc := 57) d_200_57 (ok_iald (pc := 58) d_200_58 (ok_ri (pc := 59) d_200_59 rfl)))))))))
theorem s_200_44 {Γ : m_G} : m_ok Γ m_tab 200 M_200 44 (g_200_44) := ok_il_n (pc := 44) d_200_44 rfl (ok_ri (pc := 45) d_200_45 rfl)
theorem s_200_12 {Γ : m_G} : m_ok Γ m_tab 200 M_200 12 (g_200_12) := ok_al_n (pc := 12) d_200_12 rfl (ok_cai (pc := 13) (k2 := 196) rfl rfl tb_196 (by decide) (by decide) rfl (go_V d_200_13 w_1235 w_1237 ws_69 w_11 w_1238 nn_196 (by decide) cl_12 rfl) (ok_is_n (pc := 16) d_200_16 rfl (by decide) (ok_il_n (pc := 17) d_200_17 rfl (ok_tsw (pc := 18) d_200_18 rfl rfl (by decide +kernel) (by decide +kernel) (by decide) (by decide) (by decide +kernel) (by decide)))))
theorem s_200_0 {Γ : m_G} : m_ok Γ m_tab 200 M_200 0 (g_200_0) := ok_il_n (pc := 0) d_200_0 rfl (ok_ic (pc := 1) d_200_1 rfl (ok_ic (pc := 2) d_200_2 rfl (ok_cat (pc := 3) (k2 := 140) rfl tb_140 (by decide) (by decide) rfl (go_S d_200_3 w_1044 w_1045 w_11 w_1046 nn_140 (by decide)) (ok_czne (pc := 6) (t := 12) d_200_6 rfl (by decide) rfl (ok_bi (pc := 9) d_200_9 rfl (ok_ri (pc := 11) d_200_11 rfl))))))
theorem tst_200 {Γ : m_G} (q : Nat) : m_ts Γ (t_200 q) q := ts_n (ts_n (ts_l (k := 200) (pc := 0) tb_200 rfl (by decide) s_200_0) (ts_n (ts_l (k := 200) (pc := 12) tb_200 rfl (by decide) s_200_12) (ts_l (k := 200) (pc := 44) tb_200 rfl (by decide) s_200_44))) (ts_n (ts_l (k := 200) (pc := 46) tb_200 rfl (by decide) s_200_46) (ts_n (ts_l (k := 200) (pc := 60) tb_200 rfl (by decide) s_200_60) (ts_l (k := 200) (pc := 66) tb_200 rfl (by decide) s_200_66)))
theorem d_201_0 : decode prog_14_method_63_code 0 = .ok (.aload_n 0, 1) := by decide +kernel
theorem d_201_1 : decode prog_14_method_63_code 1 = .ok (.iload_n 1, 1) := by decide +kernel
theorem d_201_2 : decode prog_14_method_63_code 2 = .ok (.invokevirtual 282, 3) := by decide +kernel
theorem d_201_5 : decode prog_14_method_63_code 5 = .ok (.ifCond .ne 6, 3) := by decide +kernel
theorem d_201_8 : decode prog_14_method_63_code 8 = .ok (.bipush (-2), 2) := by decide +kernel
theorem d_201_10 : decode prog_14_method_63_code 10 = .ok (.ireturn, 1) := by decide +kernel
theorem d_201_11 : decode prog_14_method_63_code 11 = .ok (.aload_n 0, 1) := by decide +kernel
theorem d_201_12 : decode prog_14_method_63_code 12 = .ok (.invokevirtual 273, 3) := by decide +kernel
theorem d_201_15 : decode prog_14_method_63_code 15 = .ok (.pop, 1) := by decide +kernel
theorem d_201_16 : decode prog_14_method_63_code 16 = .ok (.aload_n 0, 1) := by decide +kernel
theorem d_201_17 : decode prog_14_method_63_code 17 = .ok (.getfield 61, 3) := by decide +kernel
theorem d_201_20 : decode prog_14_method_63_code 20 = .ok (.iload_n 1, 1) := by decide +kernel
theorem d_201_21 : decode prog_14_method_63_code 21 = .ok (.iaload, 1) := by decide +kernel
theorem d_201_22 : decode prog_14_method_63_code 22 = .ok (.ireturn, 1) := by decide +kernel
theorem s_201_11 {Γ : m_G} : m_ok Γ m_tab 201 M_201 11 (g_201_11) := ok_al_n (pc := 11) d_201_11 rfl (ok_cai (pc := 12) (k2 := 196) rfl rfl tb_196 (by decide) (by decide) rfl (go_V d_201_12 w_1235 w_1237 ws_69 w_11 w_1238 nn_196 (by decide) cl_12 rfl) (ok_pop (pc := 15) d_201_15 (ok_al_n (pc := 16) d_201_16 rfl (ok_getf (pc := 17) d_201_17 w_942 (hc1 fo_100) (ok_il_n (pc := 20) d_201_20 rfl (ok_iald (pc := 21) d_201_21 (ok_ri (pc := 22) d_201_22 rfl)))))))
theorem s_201_0 {Γ : m_G} : m_ok Γ m_tab 201 M_201 0 (g_201_0) := ok_al_n (pc := 0) d_201_0 rfl (ok_il_n (pc := 1) d_201_1 rfl (ok_cai (pc := 2) (k2 := 146) rfl rfl tb_146 (by decide) (by decide) rfl (go_V d_201_2 w_1263 w_1265 ws_75 w_11 w_1266 nn_146 (by decide) cl_12 rfl) (ok_czne (pc := 5) (t := 11) d_201_5 rfl (by decide) rfl (ok_bi (pc := 8) d_201_8 rfl (ok_ri (pc := 10) d_201_10 rfl)))))
theorem tst_201 {Γ : m_G} (q : Nat) : m_ts Γ (t_201 q) q := ts_n (ts_l (k := 201) (pc := 0) tb_201 rfl (by decide) s_201_0) (ts_l (k := 201) (pc := 11) tb_201 rfl (by decide) s_201_11)
theorem d_202_0 : decode prog_14_method_64_code 0 = .ok (.iconst 0, 1) := by decide +kernel
theorem d_202_1 : decode prog_14_method_64_code 1 = .ok (.istore_n 2, 1) := by decide +kernel
theorem d_202_2 : decode prog_14_method_64_code 2 = .ok (.iload_n 2, 1) := by decide +kernel
theorem d_202_3 : decode prog_14_method_64_code 3 = .ok (.aload_n 0, 1) := by decide +kernel
theorem d_202_4 : decode prog_14_method_64_code 4 = .ok (.getfield 58, 3) := by decide +kernel
theorem d_202_7 : decode prog_14_method_64_code 7 = .ok (.aload_n 0, 1) := by decide +kernel
theorem d_202_8 : decode prog_14_method_64_code 8 = .ok (.getfield 25, 3) := by decide +kernel
theorem d_202_11 : decode prog_14_method_64_code 11 = .ok (.iaload, 1) := by decide +kernel
theorem d_202_12 : decode prog_14_method_64_code 12 = .ok (.if_icmp .ge 16, 3) := by decide +kernel
theorem d_202_15 : decode prog_14_method_64_code 15 = .ok (.aload_n 0, 1) := by decide +kernel
theorem d_202_16 : decode prog_14_method_64_code 16 = .ok (.getfield 70, 3) := by decide +kernel
theorem d_202_19 : decode prog_14_method_64_code 19 = .ok (.iload_n 2, 1) := by decide +kernel
theorem d_202_20 : decode prog_14_method_64_code 20 = .ok (.iconst (-1), 1) := by decide +kernel
theorem d_202_21 : decode prog_14_method_64_code 21 = .ok (.iastore, 1) := by decide +kernel
theorem d_202_22 : decode prog_14_method_64_code 22 = .ok (.iinc 2 1, 3) := by decide +kernel
theorem d_202_25 : decode prog_14_method_64_code 25 = .ok (.goto (-23), 3) := by decide +kernel
theorem d_202_28 : decode prog_14_method_64_code 28 = .ok (.aload_n 0, 1) := by decide +kernel
theorem d_202_29 : decode prog_14_method_64_code 29 = .ok (.getfield 70, 3) := by decide +kernel
theorem d_202_32 : decode prog_14_method_64_code 32 = .ok (.iload_n 1, 1) := by decide +kernel
theorem d_202_33 : decode prog_14_method_64_code 33 = .ok (.iconst 0, 1) := by decide +kernel
theorem d_202_34 : decode prog_14_method_64_code 34 = .ok (.iastore, 1) := by decide +kernel
theorem d_202_35 : decode prog_14_method_64_code 35 = .ok (.aload_n 0, 1) := by decide +kernel
theorem d_202_36 : decode prog_14_method_64_code 36 = .ok (.getfield 67, 3) := by decide +kernel
theorem d_202_39 : decode prog_14_method_64_code 39 = .ok (.iconst 0, 1) := by decide +kernel
theorem d_202_40 : decode prog_14_method_64_code 40 = .ok (.iload_n 1, 1) := by decide +kernel
theorem d_202_41 : decode prog_14_method_64_code 41 = .ok (.iastore, 1) := by decide +kernel
theorem d_202_42 : decode prog_14_method_64_code 42 = .ok (.iconst 1, 1) := by decide +kernel
theorem d_202_43 : decode prog_14_method_64_code 43 = .ok (.istore_n 2, 1) := by decide +kernel
theorem d_202_44 : decode prog_14_method_64_code 44 = .ok (.iconst 0, 1) := by decide +kernel
theorem d_202_45 : decode prog_14_method_64_code 45 = .ok (.istore_n 3, 1) := by decide +kernel
theorem d_202_46 : decode prog_14_method_64_code 46 = .ok (.iload_n 3, 1) := by decide +kernel
theorem d_202_47 : decode prog_14_method_64_code 47 = .ok (.iload_n 2, 1) := by decide +kernel
theorem d_202_48 : decode prog_14_method_64_code 48 = .ok (.if_icmp .ge 144, 3) := by decide +kernel
theorem d_202_51 : decode prog_14_method_64_code 51 = .ok (.iconst 0, 1) := by decide +kernel
theorem d_202_52 : decode prog_14_method_64_code 52 = .ok (.istore 4, 2) := by decide +kernel
theorem d_202_54 : decode prog_14_method_64_code 54 = .ok (.iload 4, 2) := by decide +kernel
theorem d_202_56 : decode prog_14_method_64_code 56 = .ok (.aload_n 0, 1) := by decide +kernel
theorem d_202_57 : decode prog_14_method_64_code 57 = .ok (.getfield 25, 3) := by decide +kernel
theorem d_202_60 : decode prog_14_method_64_code 60 = .ok (.aload_n 0, 1) := by decide +kernel
theorem d_202_61 : decode prog_14_method_64_code 61 = .ok (.getfield 29, 3) := by decide +kernel
theorem d_202_64 : decode prog_14_method_64_code 64 = .ok (.imul, 1) := by decide +kernel
theorem d_202_65 : decode prog_14_method_64_code 65 = .ok (.if_icmp .ge 121, 3) := by decide +kernel
theorem d_202_68 : decode prog_14_method_64_code 68 = .ok (.iload 4, 2) := by decide +kernel
theorem d_202_70 : decode prog_14_method_64_code 70 = .ok (.aload_n 0, 1) := by decide +kernel
theorem d_202_71 : decode prog_14_method_64_code 71 = .ok (.getfield 29, 3) := by decide +kernel
theorem d_202_74 : decode prog_14_method_64_code 74 = .ok (.idiv, 1) := by decide +kernel
theorem d_202_75 : decode prog_14_method_64_code 75 = .ok (.istore 5, 2) := by decide +kernel
theorem d_202_77 : decode prog_14_method_64_code 77 = .ok (.iload 4, 2) := by decide +kernel
theorem d_202_79 : decode prog_14_method_64_code 79 = .ok (.aload_n 0, 1) := by decide +kernel
theorem d_202_80 : decode prog_14_method_64_code 80 = .ok (.getfield 29, 3) := by decide +kernel
theorem d_202_83 : decode prog_14_method_64_code 83 = .ok (.irem, 1) := by decide +kernel
theorem d_202_84 : decode prog_14_method_64_code 84 = .ok (.istore 6, 2) := by decide +kernel
theorem d_202_86 : decode prog_14_method_64_code 86 = .ok (.aload_n 0, 1) := by decide +kernel
theorem d_202_87 : decode prog_14_method_64_code 87 = .ok (.aload_n 0, 1) := by decide +kernel
theorem d_202_88 : decode prog_14_method_64_code 88 = .ok (.getfield 67, 3) := by decide +kernel
theorem d_202_91 : decode prog_14_method_64_code 91 = .ok (.iload_n 3, 1) := by decide +kernel
theorem d_202_92 : decode prog_14_method_64_code 92 = .ok (.iaload, 1) := by decide +kernel
theorem d_202_93 : decode prog_14_method_64_code 93 = .ok (.iload 5, 2) := by decide +kernel
theorem d_202_95 : decode prog_14_method_64_code 95 = .ok (.invokevirtual 237, 3) := by decide +kernel
theorem d_202_98 : decode prog_14_method_64_code 98 = .ok (.istore 7, 2) := by decide +kernel
theorem d_202_100 : decode prog_14_method_64_code 100 = .ok (.aload_n 0, 1) := by decide +kernel
theorem d_202_101 : decode prog_14_method_64_code 101 = .ok (.aload_n 0, 1) := by decide +kernel
theorem d_202_102 : decode prog_14_method_64_code 102 = .ok (.getfield 67, 3) := by decide +kernel
theorem d_202_105 : decode prog_14_method_64_code 105 = .ok (.iload_n 3, 1) := by decide +kernel
theorem d_202_106 : decode prog_14_method_64_code 106 = .ok (.iaload, 1) := by decide +kernel
theorem d_202_107 : decode prog_14_method_64_code 107 = .ok (.iload 5, 2) := by decide +kernel
theorem d_202_109 : decode prog_14_method_64_code 109 = .ok (.iload 6, 2) := by decide +kernel
theorem d_202_111 : decode prog_14_method_64_code 111 = .ok (.invokevirtual 264, 3) := by decide +kernel
theorem d_202_114 : decode prog_14_method_64_code 114 = .ok (.istore 8, 2) := by decide +kernel
theorem d_202_116 : decode prog_14_method_64_code 116 = .ok (.iload 6, 2) := by decide +kernel
theorem d_202_118 : decode prog_14_method_64_code 118 = .ok (.iload 7, 2) := by decide +kernel
theorem d_202_120 : decode prog_14_method_64_code 120 = .ok (.if_icmp .eq 60, 3) := by decide +kernel
theorem d_202_123 : decode prog_14_method_64_code 123 = .ok (.aload_n 0, 1) := by decide +kernel
theorem d_202_124 : decode prog_14_method_64_code 124 = .ok (.getfield 70, 3) := by decide +kernel
theorem d_202_127 : decode prog_14_method_64_code 127 = .ok (.iload 8, 2) := by decide +kernel
theorem d_202_129 : decode prog_14_method_64_code 129 = .ok (.iaload, 1) := by decide +kernel
theorem d_202_130 : decode prog_14_method_64_code 130 = .ok (.ifCond .ge 50, 3) := by decide +kernel
theorem d_202_133 : decode prog_14_method_64_code 133 = .ok (.aload_n 0, 1) := by decide +kernel
theorem d_202_134 : decode prog_14_method_64_code 134 = .ok (.iload 8, 2) := by decide +kernel
theorem d_202_136 : decode prog_14_method_64_code 136 = .ok (.iload 5, 2) := by decide +kernel
theorem d_202_138 : decode prog_14_method_64_code 138 = .ok (.iload 7, 2) := by decide +kernel
theorem d_202_140 : decode prog_14_method_64_code 140 = .ok (.invokevirtual 258, 3) := by decide +kernel
theorem d_202_143 : decode prog_14_method_64_code 143 = .ok (.ifCond .ge 6, 3) := by decide +kernel
theorem d_202_146 : decode prog_14_method_64_code 146 = .ok (.goto 34, 3) := by decide +kernel
theorem d_202_149 : decode prog_14_method_64_code 149 = .ok (.aload_n 0, 1) := by decide +kernel
theorem d_202_150 : decode prog_14_method_64_code 150 = .ok (.getfield 70, 3) := by decide +kernel
theorem d_202_153 : decode prog_14_method_64_code 153 = .ok (.iload 8, 2) := by decide +kernel
theorem d_202_155 : decode prog_14_method_64_code 155 = .ok (.aload_n 0, 1) := by decide +kernel
theorem d_202_156 : decode prog_14_method_64_code 156 = .ok (.getfield 70, 3) := by decide +kernel
theorem d_202_159 : decode prog_14_method_64_code 159 = .ok (.aload_n 0, 1) := by decide +kernel
theorem d_202_160 : decode prog_14_method_64_code 160 = .ok (.getfield 67, 3) := by decide +kernel
theorem d_202_163 : decode prog_14_method_64_code 163 = .ok (.iload_n 3, 1) := by decide +kernel
theorem d_202_164 : decode prog_14_method_64_code 164 = .ok (.iaload, 1) := by decide +kernel
theorem d_202_165 : decode prog_14_method_64_code 165 = .ok (.iaload, 1) := by decide +kernel
theorem d_202_166 : decode prog_14_method_64_code 166 = .ok (.iconst 1, 1) := by decide +kernel
theorem d_202_167 : decode prog_14_method_64_code 167 = .ok (.iadd, 1) := by decide +kernel
theorem d_202_168 : decode prog_14_method_64_code 168 = .ok (.iastore, 1) := by decide +kernel
theorem d_202_169 : decode prog_14_method_64_code 169 = .ok (.aload_n 0, 1) := by decide +kernel
theorem d_202_170 : decode prog_14_method_64_code 170 = .ok (.getfield 67, 3) := by decide +kernel
theorem d_202_173 : decode prog_14_method_64_code 173 = .ok (.iload_n 2, 1) := by decide +kernel
theorem d_202_174 : decode prog_14_method_64_code 174 = .ok (.iload 8, 2) := by decide +kernel
theorem d_202_176 : decode prog_14_method_64_code 176 = .ok (.iastore, 1) := by decide +kernel
theorem d_202_177 : decode prog_14_method_64_code 177 = .ok (.iinc 2 1, 3) := by decide +kernel
theorem d_202_180 : decode prog_14_method_64_code 180 = .ok (.iinc 4 1, 3) := by decide +kernel
theorem d_202_183 : decode prog_14_method_64_code 183 = .ok (.goto (-129), 3) := by decide +kernel
theorem d_202_186 : decode prog_14_method_64_code 186 = .ok (.iinc 3 1, 3) := by decide +kernel
theorem d_202_189 : decode prog_14_method_64_code 189 = .ok (.goto (-143), 3) := by decide +kernel
theorem d_202_192 : decode prog_14_method_64_code 192 = .ok (.return_, 1) := by decide +kernel
theorem s_202_192 {Γ : m_G} : m_ok Γ m_tab 202 M_202 192 (g_202_192) := ok_rv (pc := 192) d_202_192 rfl
theorem s_202_186 {Γ : m_G} : m_ok Γ m_tab 202 M_202 186 (g_202_186) := ok_inc (pc := 186) d_202_186 rfl (by decide) (ok_go (pc := 189) (t := 46) d_202_189 rfl (by decide) rfl)
theorem s_202_180 {Γ : m_G} : m_ok Γ m_tab 202 M_202 180 (g_202_180) := ok_inc (pc := 180) d_202_180 rfl (by decide) (ok_go (pc := 183) (t := 54) d_202_183 rfl (by decide) rfl)
theorem s_202_149 {Γ : m_G} : m_ok Γ m_tab 202 M_202 149 (g_202_149) := ok_al_n (pc := 149) d_202_149 rfl (ok_getf (pc := 150) d_202_150 w_945 (hc1 fo_101) (ok_il (pc := 153) d_202_153 (ok_al_n (pc := 155) d_202_155 rfl (ok_getf (pc := 156) d_202_156 w_945 (hc1 fo_101) (ok_al_n (pc := 159) d_202_159 rfl (ok_getf (pc := 160) d_202_160 w_944 (hc1 fo_99) (ok_il_n (pc := 163) d_202_163 rfl (ok_iald (pc := 164) d_202_164 (ok_iald (pc := 165) d_202_165 (ok_ic (pc := 166) d_202_166 rfl (ok_add (pc := 167) d_202_167 (ok_iast (pc := 168) d_202_168 (ok_al_n (pc := 169) d_202_169 rfl (ok_getf (pc := 170) d_202_170 w_944 (hc1 fo_99) (ok_il_n (pc := 173) d_202_173 rfl (ok_il (pc := 174) d_202_174 (ok_iast (pc := 176) d_202_176 (ok_inc (pc := 177) d_202_177 rfl (by decide) (s_202_180)))))))))))))))))))
theorem s_202_129 {Γ : m_G} : m_ok Γ m_tab 202 M_202 129 (g_202_129) := ok_iald (pc := 129) d_202_129 (ok_czge (pc := 130) (t := 180) d_202_130 rfl (by decide) rfl (ok_al_n (pc := 133) d_202_133 rfl (ok_il (pc := 134) d_202_134 (ok_il (pc := 136) d_202_136 (ok_il (pc := 138) d_202_138 (ok_cai (pc := 140) (k2 := 186) rfl rfl tb_186 (by decide) (by decide) rfl (go_V d_202_140 w_1219 w_1221 ws_67 w_11 w_1222 nn_186 (by decide) cl_12 rfl) (ok_czge (pc := 143) (t := 149) d_202_143 rfl (by decide) rfl (ok_go (pc := 146) (t := 180) d_202_146 rfl (by decide) rfl))))))))
theorem s_202_54 {Γ : m_G} : m_ok Γ m_tab 202 M_202 54 (g_202_54) := ok_il (pc := 54) d_202_54 (ok_al_n (pc := 56) d_202_56 rfl (ok_getf (pc := 57) d_202_57 w_918 (hc1 fo_74) (ok_al_n (pc := 60) d_202_60 rfl (ok_getf (pc := 61) d_202_61 w_919 (hc1 fo_75) (ok_mul (pc := 64) d_202_64 (ok_cige (pc := 65) (t := 186) d_202_65 rfl (by decide) rfl (ok_il (pc := 68) d_202_68 (ok_al_n (pc := 70) d_202_70 rfl (ok_getf (pc := 71) d_202_71 w_919 (hc1 fo_75) (ok_div (pc := 74) d_202_74 (ok_is (pc := 75) d_202_75 (by decide) (ok_il (pc := 77) d_202_77 (ok_al_n (pc := 79) d_202_79 rfl (ok_getf (pc := 80) d_202_80 w_919 (hc1 fo_75) (ok_rem (pc := 83) d_202_83 (ok_is (pc := 84) d_202_84 (by decide) (ok_al_n (pc := 86) d_202_86 rfl (ok_al_n (pc := 87) d_202_87 rfl (ok_getf (pc := 88) d_202_88 w_944 (hc1 fo_99) (ok_il_n (pc := 91) d_202_91 rfl (ok_iald (pc := 92) d_202_92 (ok_il (pc := 93) d_202_93 (ok_cai (pc := 95) (k2 := 185) rfl rfl tb_185 (by decide) (by decide) rfl (go_V d_202_95 w_1178 w_1180 ws_60 w_11 w_1181 nn_185 (by decide) cl_12 rfl) (ok_is (pc := 98) d_202_98 (by decide) (ok_al_n (pc := 100) d_202_100 rfl (ok_al_n (pc := 101) d_202_101 rfl (ok_getf (pc := 102) d_202_102 w_944 (hc1 fo_99) (ok_il_n (pc := 105) d_202_105 rfl (ok_iald (pc := 106) d_202_106 (ok_il (pc := 107) d_202_107 (ok_il (pc := 109) d_202_109 (ok_cai (pc := 111) (k2 := 187) rfl rfl tb_187 (by decide) (by decide) rfl (go_V d_202_111 w_1243 w_1245 ws_71 w_11 w_1246 nn_187 (by decide) cl_12 rfl) (ok_is (pc := 114) d_202_114 (by decide) (ok_il (pc := 116) d_202_116 (ok_il (pc := 118) d_202_118 (ok_cieq (pc := 120) (t := 180) d_202_120 rfl (by decide) rfl (ok_al_n (pc := 123) d_202_123 rfl (ok_getf (pc := 124) d_202_124 w_945 (hc1 fo_101) (ok_il (pc := 127) d_202_127 (s_202_129))))))))))))))))))))))))))))))))))))))))
theorem s_202_46 {Γ : m_G} : m_ok Γ m_tab 202 M_202 46 (g_202_46) := ok_il_n (pc := 46) d_202_46 rfl (ok_il_n (pc := 47) d_202_47 rfl (ok_cige (pc := 48) (t := 192) d_202_48 rfl (by decide) rfl (ok_ic (pc := 51) d_202_51 rfl (ok_is (pc := 52) d_202_52 (by decide) (s_202_54)))))
theorem s_202_28 {Γ : m_G} : m_ok Γ m_tab 202 M_202 28 (g_202_28) := ok_al_n (pc := 28) d_202_28 rfl (ok_getf (pc := 29) d_202_29 w_945 (hc1 fo_101) (ok_il_n (pc := 32) d_202_32 rfl (ok_ic (pc := 33) d_202_33 rfl (ok_iast (pc := 34) d_202_34 (ok_al_n (pc := 35) d_202_35 rfl (ok_getf (pc := 36) d_202_36 w_944 (hc1 fo_99) (ok_ic (pc := 39) d_202_39 rfl (ok_il_n (pc := 40) d_202_40 rfl (ok_iast (pc := 41) d_202_41 (ok_ic (pc := 42) d_202_42 rfl (ok_is_n (pc := 43) d_202_43 rfl (by decide) (ok_ic (pc := 44) d_202_44 rfl (ok_is_n (pc := 45) d_202_45 rfl (by decide) (s_202_46))))))))))))))
theorem s_202_2 {Γ : m_G} : m_ok Γ m_tab 202 M_202 2 (g_202_2) := ok_il_n (pc := 2) d_202_2 rfl (ok_al_n (pc := 3) d_202_3 rfl (ok_getf (pc := 4) d_202_4 w_941 (hc1 fo_98) (ok_al_n (pc := 7) d_202_7 rfl (ok_getf (pc := 8) d_202_8 w_918 (hc1 fo_74) (ok_iald (pc := 11) d_202_11 (ok_cige (pc := 12) (t := 28) d_202_12 rfl (by decide) rfl (ok_al_n (pc := 15) d_202_15 rfl (ok_getf (pc := 16) d_202_16 w_945 (hc1 fo_101) (ok_il_n (pc := 19) d_202_19 rfl (ok_ic (pc := 20) d_202_20 rfl (ok_iast (pc := 21) d_202_21 (ok_inc (pc := 22) d_202_22 rfl (by decide) (ok_go (pc := 25) (t := 2) d_202_25 rfl (by decide) rfl)))))))))))))
theorem s_202_0 {Γ : m_G} : m_ok Γ m_tab 202 M_202 0 (g_202_0) := ok_ic (pc := 0) d_202_0 rfl (ok_is_n (pc := 1) d_202_1 rfl (by decide) (s_202_2))
theorem tst_202 {Γ : m_G} (q : Nat) : m_ts Γ (t_202 q) q := ts_n (ts_n (ts_n (ts_l (k := 202) (pc := 0) tb_202 rfl (by decide) s_202_0) (ts_l (k := 202) (pc := 2) tb_202 rfl (by decide) s_202_2)) (ts_n (ts_l (k := 202) (pc := 28) tb_202 rfl (by decide) s_202_28) (ts_l (k := 202) (pc := 46) tb_202 rfl (by decide) s_202_46))) (ts_n (ts_n (ts_l (k := 202) (pc := 54) tb_202 rfl (by decide) s_202_54) (ts_l (k := 202) (pc := 149) tb_202 rfl (by decide) s_202_149)) (ts_n (ts_l (k := 202) (pc := 180) tb_202 rfl (by decide) s_202_180) (ts_n (ts_l (k := 202) (pc := 186) tb_202 rfl (by decide) s_202_186) (ts_l (k := 202) (pc := 192) tb_202 rfl (by decide) s_202_192))))
theorem d_203_0 : decode prog_14_method_65_code 0 = .ok (.aload_n 0, 1) := by decide +kernel
theorem d_203_1 : decode prog_14_method_65_code 1 = .ok (.iload_n 1, 1) := by decide +kernel
theorem d_203_2 : decode prog_14_method_65_code 2 = .ok (.invokevirtual 282, 3) := by decide +kernel
theorem d_203_5 : decode prog_14_method_65_code 5 = .ok (.ifCond .ne 6, 3) := by decide +kernel
theorem d_203_8 : decode prog_14_method_65_code 8 = .ok (.bipush (-2), 2) := by decide +kernel
theorem d_203_10 : decode prog_14_method_65_code 10 = .ok (.ireturn, 1) := by decide +kernel
theorem d_203_11 : decode prog_14_method_65_code 11 = .ok (.aload_n 0, 1) := by decide +kernel
theorem d_203_12 : decode prog_14_method_65_code 12 = .ok (.invokevirtual 255, 3) := by decide +kernel
theorem d_203_15 : decode prog_14_method_65_code 15 = .ok (.aload_n 0, 1) := by decide +kernel
theorem d_203_16 : decode prog_14_method_65_code 16 = .ok (.iload_n 1, 1) := by decide +kernel
theorem d_203_17 : decode prog_14_method_65_code 17 = .ok (.invokevirtual 285, 3) := by decide +kernel
theorem d_203_20 : decode prog_14_method_65_code 20 = .ok (.aload_n 0, 1) := by decide +kernel
theorem d_203_21 : decode prog_14_method_65_code 21 = .ok (.invokevirtual 243, 3) := by decide +kernel
theorem d_203_24 : decode prog_14_method_65_code 24 = .ok (.istore_n 3, 1) := by decide +kernel
theorem d_203_25 : decode prog_14_method_65_code 25 = .ok (.iload_n 2, 1) := by decide +kernel
theorem d_203_26 : decode prog_14_method_65_code 26 = .ok (.ifCond .lt 13, 3) := by decide +kernel
theorem d_203_29 : decode prog_14_method_65_code 29 = .ok (.iload_n 2, 1) := by decide +kernel
theorem d_203_30 : decode prog_14_method_65_code 30 = .ok (.aload_n 0, 1) := by decide +kernel
theorem d_203_31 : decode prog_14_method_65_code 31 = .ok (.getfield 70, 3) := by decide +kernel
theorem d_203_34 : decode prog_14_method_65_code 34 = .ok (.iload_n 3, 1) := by decide +kernel
theorem d_203_35 : decode prog_14_method_65_code 35 = .ok (.iaload, 1) := by decide +kernel
theorem d_203_36 : decode prog_14_method_65_code 36 = .ok (.if_icmp .lt 5, 3) := by decide +kernel
theorem d_203_39 : decode prog_14_method_65_code 39 = .ok (.iconst (-1), 1) := by decide +kernel
theorem d_203_40 : decode prog_14_method_65_code 40 = .ok (.ireturn, 1) := by decide +kernel
theorem d_203_41 : decode prog_14_method_65_code 41 = .ok (.iconst (-1), 1) := by decide +kernel
theorem d_203_42 : decode prog_14_method_65_code 42 = .ok (.istore 4, 2) := by decide +kernel
theorem d_203_44 : decode prog_14_method_65_code 44 = .ok (.iconst 0, 1) := by decide +kernel
theorem d_203_45 : decode prog_14_method_65_code 45 = .ok (.istore 5, 2) := by decide +kernel
theorem d_203_47 : decode prog_14_method_65_code 47 = .ok (.iload 5, 2) := by decide +kernel
theorem d_203_49 : decode prog_14_method_65_code 49 = .ok (.iload_n 2, 1) := by decide +kernel
theorem d_203_50 : decode prog_14_method_65_code 50 = .ok (.if_icmp .gt 92, 3) := by decide +kernel
theorem d_203_53 : decode prog_14_method_65_code 53 = .ok (.iconst 0, 1) := by decide +kernel
theorem d_203_54 : decode prog_14_method_65_code 54 = .ok (.istore 6, 2) := by decide +kernel
theorem d_203_56 : decode prog_14_method_65_code 56 = .ok (.iload 6, 2) := by decide +kernel
theorem d_203_58 : decode prog_14_method_65_code 58 = .ok (.iconst 5, 1) := by decide +kernel
theorem d_203_59 : decode prog_14_method_65_code 59 = .ok (.irem, 1) := by decide +kernel
theorem d_203_60 : decode prog_14_method_65_code 60 = .ok (.aload_n 0, 1) := by decide +kernel
theorem d_203_61 : decode prog_14_method_65_code 61 = .ok (.getfield 29, 3) := by decide +kernel
theorem d_203_64 : decode prog_14_method_65_code 64 = .ok (.if_icmp .ge 48, 3) := by decide +kernel
theorem d_203_67 : decode prog_14_method_65_code 67 = .ok (.aload_n 0, 1) := by decide +kernel
theorem d_203_68 : decode prog_14_method_65_code 68 = .ok (.iload_n 3, 1) := by decide +kernel
theorem d_203_69 : decode prog_14_method_65_code 69 = .ok (.iload 6, 2) := by decide +kernel
theorem d_203_71 : decode prog_14_method_65_code 71 = .ok (.iconst 5, 1) := by decide +kernel
theorem d_203_72 : decode prog_14_method_65_code 72 = .ok (.idiv, 1) := by decide +kernel
theorem d_203_73 : decode prog_14_method_65_code 73 = .ok (.iload 6, 2) := by decide +kernel
theorem d_203_75 : decode prog_14_method_65_code 75 = .ok (.iconst 5, 1) := by decide +kernel
theorem d_203_76 : decode prog_14_method_65_code 76 = .ok (.irem, 1) := by decide +kernel
theorem d_203_77 : decode prog_14_method_65_code 77 = .ok (.invokevirtual 258, 3) := by decide +kernel
theorem d_203_80 : decode prog_14_method_65_code 80 = .ok (.ifCond .lt 32, 3) := by decide +kernel
theorem d_203_83 : decode prog_14_method_65_code 83 = .ok (.aload_n 0, 1) := by decide +kernel
theorem d_203_84 : decode prog_14_method_65_code 84 = .ok (.getfield 70, 3) := by decide +kernel
theorem d_203_87 : decode prog_14_method_65_code 87 = .ok (.aload_n 0, 1) := by decide +kernel
theorem d_203_88 : decode prog_14_method_65_code 88 = .ok (.iload_n 3, 1) := by decide +kernel
theorem d_203_89 : decode prog_14_method_65_code 89 = .ok (.iload 6, 2) := by decide +kernel
theorem d_203_91 : decode prog_14_method_65_code 91 = .ok (.iconst 5, 1) := by decide +kernel
theorem d_203_92 : decode prog_14_method_65_code 92 = .ok (.idiv, 1) := by decide +kernel
theorem d_203_93 : decode prog_14_method_65_code 93 = .ok (.iload 6, 2) := by decide +kernel
theorem d_203_95 : decode prog_14_method_65_code 95 = .ok (.iconst 5, 1) := by decide +kernel
theorem d_203_96 : decode prog_14_method_65_code 96 = .ok (.irem, 1) := by decide +kernel
theorem d_203_97 : decode prog_14_method_65_code 97 = .ok (.invokevirtual 264, 3) := by decide +kernel
theorem d_203_100 : decode prog_14_method_65_code 100 = .ok (.iaload, 1) := by decide +kernel
theorem d_203_101 : decode prog_14_method_65_code 101 = .ok (.aload_n 0, 1) := by decide +kernel
theorem d_203_102 : decode prog_14_method_65_code 102 = .ok (.getfield 70, 3) := by decide +kernel
theorem d_203_105 : decode prog_14_method_65_code 105 = .ok (.iload_n 3, 1) := by decide +kernel
theorem d_203_106 : decode prog_14_method_65_code 106 = .ok (.iaload, 1) := by decide +kernel
theorem d_203_107 : decode prog_14_method_65_code 107 = .ok (.iconst 1, 1) := by decide +kernel
theorem d_203_108 : decode prog_14_method_65_code 108 = .ok (.isub, 1) := by decide +kernel
theorem d_203_109 : decode prog_14_method_65_code 109 = .ok (.if_icmp .eq 9, 3) := by decide +kernel
theorem d_203_112 : decode prog_14_method_65_code 112 = .ok (.iinc 6 1, 3) := by decide +kernel
theorem d_203_115 : decode prog_14_method_65_code 115 = .ok (.goto (-59), 3) := by decide +kernel
theorem d_203_118 : decode prog_14_method_65_code 118 = .ok (.iload 6, 2) := by decide +kernel
theorem d_203_120 : decode prog_14_method_65_code 120 = .ok (.istore 4, 2) := by decide +kernel
theorem d_203_122 : decode prog_14_method_65_code 122 = .ok (.aload_n 0, 1) := by decide +kernel
theorem d_203_123 : decode prog_14_method_65_code 123 = .ok (.iload_n 3, 1) := by decide +kernel
theorem d_203_124 : decode prog_14_method_65_code 124 = .ok (.iload 6, 2) := by decide +kernel
theorem d_203_126 : decode prog_14_method_65_code 126 = .ok (.iconst 5, 1) := by decide +kernel
theorem d_203_127 : decode prog_14_method_65_code 127 = .ok (.idiv, 1) := by decide +kernel
theorem d_203_128 : decode prog_14_method_65_code 128 = .ok (.iload 6, 2) := by decide +kernel
theorem d_203_130 : decode prog_14_method_65_code 130 = .ok (.iconst 5, 1) := by decide +kernel
theorem d_203_131 : decode prog_14_method_65_code 131 = .ok (.irem, 1) := by decide +kernel
theorem d_203_132 : decode prog_14_method_65_code 132 = .ok (.invokevirtual 264, 3) := by decide +kernel
theorem d_203_135 : decode prog_14_method_65_code 135 = .ok (.istore_n 3, 1) := by decide +kernel
theorem d_203_136 : decode prog_14_method_65_code 136 = .ok (.iinc 5 1, 3) := by decide +kernel
theorem d_203_139 : decode prog_14_method_65_code 139 = .ok (.goto (-92), 3) := by decide +kernel
theorem d_203_142 : decode prog_14_method_65_code 142 = .ok (.iload 4, 2) := by decide +kernel
theorem d_203_144 : decode prog_14_method_65_code 144 = .ok (.ireturn, 1) := by decide +kernel
theorem s_203_142 {Γ : m_G} : m_ok Γ m_tab 203 M_203 142 (g_203_142) := ok_il (pc := 142) d_203_142 (ok_ri (pc := 144) d_203_144 rfl)
theorem s_203_118 {Γ : m_G} : m_ok Γ m_tab 203 M_203 118 (g_203_118) := ok_il (pc := 118) d_203_118 (ok_is (pc := 120) d_203_120 (by decide) (ok_al_n (pc := 122) d_203_122 rfl (ok_il_n (pc := 123) d_203_123 rfl (ok_il (pc := 124) d_203_124 (ok_ic (pc := 126) d_203_126 rfl (ok_div (pc := 127) d_203_127 (ok_il (pc := 128) d_203_128 (ok_ic (pc := 130) d_203_130 rfl (ok_rem (pc := 131) d_203_131 (ok_cai (pc := 132) (k2 := 187) rfl rfl tb_187 (by decide) (by decide) rfl (go_V d_203_132 w_1243 w_1245 ws_71 w_11 w_1246 nn_187 (by decide) cl_12 rfl) (ok_is_n (pc := 135) d_203_135 rfl (by decide) (ok_inc (pc := 136) d_203_136 rfl (by decide) (ok_go (pc := 139) (t := 47) d_203_139 rfl (by decide) rfl)))))))))))))
theorem s_203_112 {Γ : m_G} : m_ok Γ m_tab 203 M_203 112 (g_203_112) := ok_inc (pc := 112) d_203_112 rfl (by decide) (ok_go (pc := 115) (t := 56) d_203_115 rfl (by decide) rfl)
theorem s_203_56 {Γ : m_G} : m_ok Γ m_tab 203 M_203 56 (g_203_56) := ok_il (pc := 56) d_203_56 (ok_ic (pc := 58) d_203_58 rfl (ok_rem (pc := 59) d_203_59 (ok_al_n (pc := 60) d_203_60 rfl (ok_getf (pc := 61) d_203_61 w_919 (hc1 fo_75) (ok_cige (pc := 64) (t := 112) d_203_64 rfl (by decide) rfl (ok_al_n (pc := 67) d_203_67 rfl (ok_il_n (pc := 68) d_203_68 rfl (ok_il (pc := 69) d_203_69 (ok_ic (pc := 71) d_203_71 rfl (ok_div (pc := 72) d_203_72 (ok_il (pc := 73) d_203_73 (ok_ic (pc := 75) d_203_75 rfl (ok_rem (pc := 76) d_203_76 (ok_cai (pc := 77) (k2 := 186) rfl rfl tb_186 (by decide) (by decide) rfl (go_V d_203_77 w_1219 w_1221 ws_67 w_11 w_1222 nn_186 (by decide) cl_12 rfl) (ok_czlt (pc := 80) (t := 112) d_203_80 rfl (by decide) rfl (ok_al_n (pc := 83) d_203_83 rfl (ok_getf (pc := 84) d_203_84 w_945 (hc1 fo_101) (ok_al_n (pc := 87) d_203_87 rfl (ok_il_n (pc := 88) d_203_88 rfl (ok_il (pc := 89) d_203_89 (ok_ic (pc := 91) d_203_91 rfl (ok_div (pc := 92) d_203_92 (ok_il (pc := 93) d_203_93 (ok_ic (pc := 95) d_203_95 rfl (ok_rem (pc := 96) d_203_96 (ok_cai (pc := 97) (k2 := 187) rfl rfl tb_187 (by decide) (by decide) rfl (go_V d_203_97 w_1243 w_1245 ws_71 w_11 w_1246 nn_187 (by decide) cl_12 rfl) (ok_iald (pc := 100) d_203_100 (ok_al_n (pc := 101) d_203_101 rfl (ok_getf (pc := 102) d_203_102 w_945 (hc1 fo_101) (ok_il_n (pc := 105) d_203_105 rfl (ok_iald (pc := 106) d_203_106 (ok_ic (pc := 107) d_203_107 rfl (ok_sub (pc := 108) d_203_108 (ok_cieq (pc := 109) (t := 118) d_203_109 rfl (by decide) rfl (s_203_112)))))))))))))))))))))))))))))))))))
theorem s_203_47 {Γ : m_G} : m_ok Γ m_tab 203 M_203 47 (g_203_47) := ok_il (pc := 47) d_203_47 (ok_il_n (pc := 49) d_203_49 rfl (ok_cigt (pc := 50) (t := 142) d_203_50 rfl (by decide) rfl (ok_ic (pc := 53) d_203_53 rfl (ok_is (pc := 54) d_203_54 (by decide) (s_203_56)))))
theorem s_203_41 {Γ : m_G} : m_ok Γ m_tab 203 M_203 41 (g_203_41) := ok_ic (pc := 41) d_203_41 rfl (ok_is (pc := 42) d_203_42 (by decide) (ok_ic (pc := 44) d_203_44 rfl (ok_is (pc := 45) d_203_45 (by decide) (s_203_47))))
theorem s_203_39 {Γ : m_G} : m_ok Γ m_tab 203 M_203 39 (g_203_39) := ok_ic (pc := 39) d_203_39 rfl (ok_ri (pc := 40) d_203_40 rfl)
theorem s_203_11 {Γ : m_G} : m_ok Γ m_tab 203 M_203 11 (g_203_11) := ok_al_n (pc := 11) d_203_11 rfl (ok_cvi (pc := 12) (k2 := 190) rfl rfl tb_190 (by decide) (by decide) rfl (go_V d_203_12 w_1190 w_1192 ws_62 w_11 w_1193 nn_190 (by decide) cl_12 rfl) (ok_al_n (pc := 15) d_203_15 rfl (ok_il_n (pc := 16) d_203_16 rfl (ok_cvi (pc := 17) (k2 := 202) rfl rfl tb_202 (by decide) (by decide) rfl (go_V d_203_17 w_1271 w_1273 ws_76 w_11 w_1274 nn_202 (by decide) cl_12 rfl) (ok_al_n (pc := 20) d_203_20 rfl (ok_cai (pc := 21) (k2 := 145) rfl rfl tb_145 (by decide) (by decide) rfl (go_V d_203_21 w_1170 w_1172 ws_58 w_11 w_1173 nn_145 (by decide) cl_12 rfl) (ok_is_n (pc := 24) d_203_24 rfl (by decide) (ok_il_n (pc := 25) d_203_25 rfl (ok_czlt (pc := 26) (t := 39) d_203_26 rfl (by decide) rfl (ok_il_n (pc := 29) d_203_29 rfl (ok_al_n (pc := 30) d_203_30 rfl (ok_getf (pc := 31) d_203_31 w_945 (hc1 fo_101) (ok_il_n (pc := 34) d_203_34 rfl (ok_iald (pc := 35) d_203_35 (ok_cilt (pc := 36) (t := 41) d_203_36 rfl (by decide) rfl (s_203_39))))))))))))))))
theorem s_203_0 {Γ : m_G} : m_ok Γ m_tab 203 M_203 0 (g_203_0) := ok_al_n (pc := 0) d_203_0 rfl (ok_il_n (pc := 1) d_203_1 rfl (ok_cai (pc := 2) (k2 := 146) rfl rfl tb_146 (by decide) (by decide) rfl (go_V d_203_2 w_1263 w_1265 ws_75 w_11 w_1266 nn_146 (by decide) cl_12 rfl) (ok_czne (pc := 5) (t := 11) d_203_5 rfl (by decide) rfl (ok_bi (pc := 8) d_203_8 rfl (ok_ri (pc := 10) d_203_10 rfl)))))
theorem tst_203 {Γ : m_G} (q : Nat) : m_ts Γ (t_203 q) q := ts_n (ts_n (ts_n (ts_l (k := 203) (pc := 0) tb_203 rfl (by decide) s_203_0) (ts_l (k := 203) (pc := 11) tb_203 rfl (by decide) s_203_11)) (ts_n (ts_l (k := 203) (pc := 39) tb_203 rfl (by decide) s_203_39) (ts_l (k := 203) (pc := 41) tb_203 rfl (by decide) s_203_41))) (ts_n (ts_n (ts_l (k := 203) (pc := 47) tb_203 rfl (by decide) s_203_47) (ts_l (k := 203) (pc := 56) tb_203 rfl (by decide) s_203_56)) (ts_n (ts_l (k := 203) (pc := 112) tb_203 rfl (by decide) s_203_112) (ts_n (ts_l (k := 203) (pc := 118) tb_203 rfl (by decide) s_203_118) (ts_l (k := 203) (pc := 142) tb_203 rfl (by decide) s_203_142))))
theorem d_204_0 : decode prog_14_method_66_code 0 = .ok (.aload_n 0, 1) := by decide +kernel
theorem d_204_1 : decode prog_14_method_66_code 1 = .ok (.invokevirtual 255, 3) := by decide +kernel
theorem d_204_4 : decode prog_14_method_66_code 4 = .ok (.aload_n 0, 1) := by decide +kernel
theorem d_204_5 : decode prog_14_method_66_code 5 = .ok (.getfield 58, 3) := by decide +kernel
theorem d_204_8 : decode prog_14_method_66_code 8 = .ok (.aload_n 0, 1) := by decide +kernel
theorem d_204_9 : decode prog_14_method_66_code 9 = .ok (.getfield 25, 3) := by decide +kernel
theorem d_204_12 : decode prog_14_method_66_code 12 = .ok (.iaload, 1) := by decide +kernel
theorem d_204_13 : decode prog_14_method_66_code 13 = .ok (.istore_n 1, 1) := by decide +kernel
theorem d_204_14 : decode prog_14_method_66_code 14 = .ok (.iconst 0, 1) := by decide +kernel
theorem d_204_15 : decode prog_14_method_66_code 15 = .ok (.istore_n 2, 1) := by decide +kernel
theorem d_204_16 : decode prog_14_method_66_code 16 = .ok (.iload_n 2, 1) := by decide +kernel
theorem d_204_17 : decode prog_14_method_66_code 17 = .ok (.iload_n 1, 1) := by decide +kernel
theorem d_204_18 : decode prog_14_method_66_code 18 = .ok (.if_icmp .ge 25, 3) := by decide +kernel
theorem d_204_21 : decode prog_14_method_66_code 21 = .ok (.aload_n 0, 1) := by decide +kernel
theorem d_204_22 : decode prog_14_method_66_code 22 = .ok (.getfield 64, 3) := by decide +kernel
theorem d_204_25 : decode prog_14_method_66_code 25 = .ok (.iload_n 2, 1) := by decide +kernel
theorem d_204_26 : decode prog_14_method_66_code 26 = .ok (.ldc_w 288, 3) := by decide +kernel
theorem d_204_29 : decode prog_14_method_66_code 29 = .ok (.iastore, 1) := by decide +kernel
theorem d_204_30 : decode prog_14_method_66_code 30 = .ok (.aload_n 0, 1) := by decide +kernel
theorem d_204_31 : decode prog_14_method_66_code 31 = .ok (.getfield 70, 3) := by decide +kernel
theorem d_204_34 : decode prog_14_method_66_code 34 = .ok (.iload_n 2, 1) := by decide +kernel
theorem d_204_35 : decode prog_14_method_66_code 35 = .ok (.iconst 0, 1) := by decide +kernel
theorem d_204_36 : decode prog_14_method_66_code 36 = .ok (.iastore, 1) := by decide +kernel
theorem d_204_37 : decode prog_14_method_66_code 37 = .ok (.iinc 2 1, 3) := by decide +kernel
theorem d_204_40 : decode prog_14_method_66_code 40 = .ok (.goto (-24), 3) := by decide +kernel
theorem d_204_43 : decode prog_14_method_66_code 43 = .ok (.iconst 0, 1) := by decide +kernel
theorem d_204_44 : decode prog_14_method_66_code 44 = .ok (.istore_n 2, 1) := by decide +kernel
theorem d_204_45 : decode prog_14_method_66_code 45 = .ok (.iconst 1, 1) := by decide +kernel
theorem d_204_46 : decode prog_14_method_66_code 46 = .ok (.istore_n 3, 1) := by decide +kernel
theorem d_204_47 : decode prog_14_method_66_code 47 = .ok (.aload_n 0, 1) := by decide +kernel
theorem d_204_48 : decode prog_14_method_66_code 48 = .ok (.getfield 67, 3) := by decide +kernel
theorem d_204_51 : decode prog_14_method_66_code 51 = .ok (.iconst 0, 1) := by decide +kernel
theorem d_204_52 : decode prog_14_method_66_code 52 = .ok (.aload_n 0, 1) := by decide +kernel
theorem d_204_53 : decode prog_14_method_66_code 53 = .ok (.invokevirtual 243, 3) := by decide +kernel
theorem d_204_56 : decode prog_14_method_66_code 56 = .ok (.iastore, 1) := by decide +kernel
theorem d_204_57 : decode prog_14_method_66_code 57 = .ok (.aload_n 0, 1) := by decide +kernel
theorem d_204_58 : decode prog_14_method_66_code 58 = .ok (.getfield 64, 3) := by decide +kernel
theorem d_204_61 : decode prog_14_method_66_code 61 = .ok (.aload_n 0, 1) := by decide +kernel
theorem d_204_62 : decode prog_14_method_66_code 62 = .ok (.getfield 67, 3) := by decide +kernel
theorem d_204_65 : decode prog_14_method_66_code 65 = .ok (.iconst 0, 1) := by decide +kernel
theorem d_204_66 : decode prog_14_method_66_code 66 = .ok (.iaload, 1) := by decide +kernel
theorem d_204_67 : decode prog_14_method_66_code 67 = .ok (.iconst 0, 1) := by decide +kernel
theorem d_204_68 : decode prog_14_method_66_code 68 = .ok (.iastore, 1) := by decide +kernel
theorem d_204_69 : decode prog_14_method_66_code 69 = .ok (.aload_n 0, 1) := by decide +kernel
theorem d_204_70 : decode prog_14_method_66_code 70 = .ok (.getfield 70, 3) := by decide +kernel
theorem d_204_73 : decode prog_14_method_66_code 73 = .ok (.aload_n 0, 1) := by decide +kernel
theorem d_204_74 : decode prog_14_method_66_code 74 = .ok (.getfield 67, 3) := by decide +kernel
theorem d_204_77 : decode prog_14_method_66_code 77 = .ok (.iconst 0, 1) := by decide +kernel
theorem d_204_78 : decode prog_14_method_66_code 78 = .ok (.iaload, 1) := by decide +kernel
theorem d_204_79 : decode prog_14_method_66_code 79 = .ok (.iconst 1, 1) := by decide +kernel
theorem d_204_80 : decode prog_14_method_66_code 80 = .ok (.iastore, 1) := by decide +kernel
theorem d_204_81 : decode prog_14_method_66_code 81 = .ok (.iload_n 3, 1) := by decide +kernel
theorem d_204_82 : decode prog_14_method_66_code 82 = .ok (.ifCond .le 189, 3) := by decide +kernel
theorem d_204_85 : decode prog_14_method_66_code 85 = .ok (.aload_n 0, 1) := by decide +kernel
theorem d_204_86 : decode prog_14_method_66_code 86 = .ok (.getfield 67, 3) := by decide +kernel
theorem d_204_89 : decode prog_14_method_66_code 89 = .ok (.iload_n 2, 1) := by decide +kernel
theorem d_204_90 : decode prog_14_method_66_code 90 = .ok (.iaload, 1) := by decide +kernel
theorem d_204_91 : decode prog_14_method_66_code 91 = .ok (.istore 4, 2) := by decide +kernel
theorem d_204_93 : decode prog_14_method_66_code 93 = .ok (.iload_n 2, 1) := by decide +kernel
theorem d_204_94 : decode prog_14_method_66_code 94 = .ok (.iload_n 1, 1) := by decide +kernel
theorem d_204_95 : decode prog_14_method_66_code 95 = .ok (.if_icmp .ne 7, 3) := by decide +kernel
theorem d_204_98 : decode prog_14_method_66_code 98 = .ok (.iconst 0, 1) := by decide +kernel
theorem d_204_99 : decode prog_14_method_66_code 99 = .ok (.goto 6, 3) := by decide +kernel
theorem d_204_102 : decode prog_14_method_66_code 102 = .ok (.iload_n 2, 1) := by decide +kernel
theorem d_204_103 : decode prog_14_method_66_code 103 = .ok (.iconst 1, 1) := by decide +kernel
theorem d_204_104 : decode prog_14_method_66_code 104 = .ok (.iadd, 1) := by decide +kernel
theorem d_204_105 : decode prog_14_method_66_code 105 = .ok (.istore_n 2, 1) := by decide +kernel
theorem d_204_106 : decode prog_14_method_66_code 106 = .ok (.iinc 3 (-1), 3) := by decide +kernel
theorem d_204_109 : decode prog_14_method_66_code 109 = .ok (.aload_n 0, 1) := by decide +kernel
theorem d_204_110 : decode prog_14_method_66_code 110 = .ok (.getfield 70, 3) := by decide +kernel
theorem d_204_113 : decode prog_14_method_66_code 113 = .ok (.iload 4, 2) := by decide +kernel
theorem d_204_115 : decode prog_14_method_66_code 115 = .ok (.iconst 0, 1) := by decide +kernel
theorem d_204_116 : decode prog_14_method_66_code 116 = .ok (.iastore, 1) := by decide +kernel
theorem d_204_117 : decode prog_14_method_66_code 117 = .ok (.iconst 0, 1) := by decide +kernel
theorem d_204_118 : decode prog_14_method_66_code 118 = .ok (.istore 5, 2) := by decide +kernel
theorem d_204_120 : decode prog_14_method_66_code 120 = .ok (.iload 5, 2) := by decide +kernel
theorem d_204_122 : decode prog_14_method_66_code 122 = .ok (.aload_n 0, 1) := by decide +kernel
theorem d_204_123 : decode prog_14_method_66_code 123 = .ok (.getfield 25, 3) := by decide +kernel
theorem d_204_126 : decode prog_14_method_66_code 126 = .ok (.aload_n 0, 1) := by decide +kernel
theorem d_204_127 : decode prog_14_method_66_code 127 = .ok (.getfield 29, 3) := by decide +kernel
theorem d_204_130 : decode prog_14_method_66_code 130 = .ok (.imul, 1) := by decide +kernel
theorem d_204_131 : decode prog_14_method_66_code 131 = .ok (.if_icmp .ge 137, 3) := by decide +kernel
theorem d_204_134 : decode prog_14_method_66_code 134 = .ok (.aload_n 0, 1) := by decide +kernel
theorem d_204_135 : decode prog_14_method_66_code 135 = .ok (.iload 4, 2) := by decide +kernel
theorem d_204_137 : decode prog_14_method_66_code 137 = .ok (.iload 5, 2) := by decide +kernel
theorem d_204_139 : decode prog_14_method_66_code 139 = .ok (.aload_n 0, 1) := by decide +kernel
theorem d_204_140 : decode prog_14_method_66_code 140 = .ok (.getfield 29, 3) := by decide +kernel
theorem d_204_143 : decode prog_14_method_66_code 143 = .ok (.idiv, 1) := by decide +kernel
theorem d_204_144 : decode prog_14_method_66_code 144 = .ok (.iload 5, 2) := by decide +kernel
theorem d_204_146 : decode prog_14_method_66_code 146 = .ok (.aload_n 0, 1) := by decide +kernel
theorem d_204_147 : decode prog_14_method_66_code 147 = .ok (.getfield 29, 3) := by decide +kernel
theorem d_204_150 : decode prog_14_method_66_code 150 = .ok (.irem, 1) := by decide +kernel
theorem d_204_151 : decode prog_14_method_66_code 151 = .ok (.invokevirtual 258, 3) := by decide +kernel
theorem d_204_154 : decode prog_14_method_66_code 154 = .ok (.istore 6, 2) := by decide +kernel
theorem d_204_156 : decode prog_14_method_66_code 156 = .ok (.aload_n 0, 1) := by decide +kernel
theorem d_204_157 : decode prog_14_method_66_code 157 = .ok (.iload 4, 2) := by decide +kernel
theorem d_204_159 : decode prog_14_method_66_code 159 = .ok (.iload 5, 2) := by decide +kernel
theorem d_204_161 : decode prog_14_method_66_code 161 = .ok (.aload_n 0, 1) := by decide +kernel
theorem d_204_162 : decode prog_14_method_66_code 162 = .ok (.getfield 29, 3) := by decide +kernel
theorem d_204_165 : decode prog_14_method_66_code 165 = .ok (.idiv, 1) := by decide +kernel
theorem d_204_166 : decode prog_14_method_66_code 166 = .ok (.iload 5, 2) := by decide +kernel
theorem d_204_168 : decode prog_14_method_66_code 168 = .ok (.aload_n 0, 1) := by decide +kernel
theorem d_204_169 : decode prog_14_method_66_code 169 = .ok (.getfield 29, 3) := by decide +kernel
theorem d_204_172 : decode prog_14_method_66_code 172 = .ok (.irem, 1) := by decide +kernel
theorem d_204_173 : decode prog_14_method_66_code 173 = .ok (.invokevirtual 264, 3) := by decide +kernel
theorem d_204_176 : decode prog_14_method_66_code 176 = .ok (.istore 7, 2) := by decide +kernel
theorem d_204_178 : decode prog_14_method_66_code 178 = .ok (.iload 6, 2) := by decide +kernel
theorem d_204_180 : decode prog_14_method_66_code 180 = .ok (.ifCond .lt 82, 3) := by decide +kernel
theorem d_204_183 : decode prog_14_method_66_code 183 = .ok (.aload_n 0, 1) := by decide +kernel
theorem d_204_184 : decode prog_14_method_66_code 184 = .ok (.getfield 64, 3) := by decide +kernel
theorem d_204_187 : decode prog_14_method_66_code 187 = .ok (.iload 4, 2) := by decide +kernel
theorem d_204_189 : decode prog_14_method_66_code 189 = .ok (.iaload, 1) := by decide +kernel
theorem d_204_190 : decode prog_14_method_66_code 190 = .ok (.iload 6, 2) := by decide +kernel
theorem d_204_192 : decode prog_14_method_66_code 192 = .ok (.iadd, 1) := by decide +kernel
theorem d_204_193 : decode prog_14_method_66_code 193 = .ok (.aload_n 0, 1) := by decide +kernel
theorem d_204_194 : decode prog_14_method_66_code 194 = .ok (.getfield 64, 3) := by decide +kernel
theorem d_204_197 : decode prog_14_method_66_code 197 = .ok (.iload 7, 2) := by decide +kernel
theorem d_204_199 : decode prog_14_method_66_code 199 = .ok (.iaload, 1) := by decide +kernel
theorem d_204_200 : decode prog_14_method_66_code 200 = .ok (.if_icmp .lt 6, 3) := by decide +kernel
theorem d_204_203 : decode prog_14_method_66_code 203 = .ok (.goto 59, 3) := by decide +kernel
theorem d_204_206 : decode prog_14_method_66_code 206 = .ok (.aload_n 0, 1) := by decide +kernel
theorem d_204_207 : decode prog_14_method_66_code 207 = .ok (.getfield 64, 3) := by decide +kernel
theorem d_204_210 : decode prog_14_method_66_code 210 = .ok (.iload 7, 2) := by decide +kernel
theorem d_204_212 : decode prog_14_method_66_code 212 = .ok (.aload_n 0, 1) := by decide +kernel
theorem d_204_213 : decode prog_14_method_66_code 213 = .ok (.getfield 64, 3) := by decide +kernel
theorem d_204_216 : decode prog_14_method_66_code 216 = .ok (.iload 4, 2) := by decide +kernel
theorem d_204_218 : decode prog_14_method_66_code 218 = .ok (.iaload, 1) := by decide +kernel
theorem d_204_219 : decode prog_14_method_66_code 219 = .ok (.iload 6, 2) := by decide +kernel
theorem d_204_221 : decode prog_14_method_66_code 221 = .ok (.iadd, 1) := by decide +kernel
theorem d_204_222 : decode prog_14_method_66_code 222 = .ok (.iastore, 1) := by decide +kernel
theorem d_204_223 : decode prog_14_method_66_code 223 = .ok (.aload_n 0, 1) := by decide +kernel
theorem d_204_224 : decode prog_14_method_66_code 224 = .ok (.getfield 70, 3) := by decide +kernel
theorem d_204_227 : decode prog_14_method_66_code 227 = .ok (.iload 7, 2) := by decide +kernel
theorem d_204_229 : decode prog_14_method_66_code 229 = .ok (.iaload, 1) := by decide +kernel
theorem d_204_230 : decode prog_14_method_66_code 230 = .ok (.iconst 1, 1) := by decide +kernel
theorem d_204_231 : decode prog_14_method_66_code 231 = .ok (.if_icmp .ne 6, 3) := by decide +kernel
theorem d_204_234 : decode prog_14_method_66_code 234 = .ok (.goto 28, 3) := by decide +kernel
theorem d_204_237 : decode prog_14_method_66_code 237 = .ok (.aload_n 0, 1) := by decide +kernel
theorem d_204_238 : decode prog_14_method_66_code 238 = .ok (.getfield 70, 3) := by decide +kernel
theorem d_204_241 : decode prog_14_method_66_code 241 = .ok (.iload 7, 2) := by decide +kernel
theorem d_204_243 : decode prog_14_method_66_code 243 = .ok (.iconst 1, 1) := by decide +kernel
theorem d_204_244 : decode prog_14_method_66_code 244 = .ok (.iastore, 1) := by decide +kernel
theorem d_204_245 : decode prog_14_method_66_code 245 = .ok (.aload_n 0, 1) := by decide +kernel
theorem d_204_246 : decode prog_14_method_66_code 246 = .ok (.getfield 67, 3) := by decide +kernel
theorem d_204_249 : decode prog_14_method_66_code 249 = .ok (.iload_n 2, 1) := by decide +kernel
theorem d_204_250 : decode prog_14_method_66_code 250 = .ok (.iload_n 3, 1) := by decide +kernel
theorem d_204_251 : decode prog_14_method_66_code 251 = .ok (.iadd, 1) := by decide +kernel
theorem d_204_252 : decode prog_14_method_66_code 252 = .ok (.iload_n 1, 1) := by decide +kernel
theorem d_204_253 : decode prog_14_method_66_code 253 = .ok (.iconst 1, 1) := by decide +kernel
theorem d_204_254 : decode prog_14_method_66_code 254 = .ok (.iadd, 1) := by decide +kernel
theorem d_204_255 : decode prog_14_method_66_code 255 = .ok (.irem, 1) := by decide +kernel
theorem d_204_256 : decode prog_14_method_66_code 256 = .ok (.iload 7, 2) := by decide +kernel
theorem d_204_258 : decode prog_14_method_66_code 258 = .ok (.iastore, 1) := by decide +kernel
theorem d_204_259 : decode prog_14_method_66_code 259 = .ok (.iinc 3 1, 3) := by decide +kernel
theorem d_204_262 : decode prog_14_method_66_code 262 = .ok (.iinc 5 1, 3) := by decide +kernel
theorem d_204_265 : decode prog_14_method_66_code 265 = .ok (.goto (-145), 3) := by decide +kernel
theorem d_204_268 : decode prog_14_method_66_code 268 = .ok (.goto (-187), 3) := by decide +kernel
theorem d_204_271 : decode prog_14_method_66_code 271 = .ok (.return_, 1) := by decide +kernel
theorem s_204_271 {Γ : m_G} : m_ok Γ m_tab 204 M_204 271 (g_204_271) := ok_rv (pc := 271) d_204_271 rfl
theorem s_204_268 {Γ : m_G} : m_ok Γ m_tab 204 M_204 268 (g_204_268) := ok_go (pc := 268) (t := 81) d_204_268 rfl (by decide) rfl
theorem s_204_262 {Γ : m_G} : m_ok Γ m_tab 204 M_204 262 (g_204_262) := ok_inc (pc := 262) d_204_262 rfl (by decide) (ok_go (pc := 265) (t := 120) d_204_265 rfl (by decide) rfl)
theorem s_204_237 {Γ : m_G} : m_ok Γ m_tab 204 M_204 237 (g_204_237) := ok_al_n (pc := 237) d_204_237 rfl (ok_getf (pc := 238) d_204_238 w_945 (hc1 fo_101) (ok_il (pc := 241) d_204_241 (ok_ic (pc := 243) d_204_243 rfl (ok_iast (pc := 244) d_204_244 (ok_al_n (pc := 245) d_204_245 rfl (ok_getf (pc := 246) d_204_246 w_944 (hc1 fo_99) (ok_il_n (pc := 249) d_204_249 rfl (ok_il_n (pc := 250) d_204_250 rfl (ok_add (pc := 251) d_204_251 (ok_il_n (pc := 252) d_204_252 rfl (ok_ic (pc := 253) d_204_253 rfl (ok_add (pc := 254) d_204_254 (ok_rem (pc := 255) d_204_255 (ok_il (pc := 256) d_204_256 (ok_iast (pc := 258) d_204_258 (ok_inc (pc := 259) d_204_259 rfl (by decide) (s_204_262)))))))))))))))))
theorem s_204_206 {Γ : m_G} : m_ok Γ m_tab 204 M_204 206 (g_204_206) := ok_al_n (pc := 206) d_204_206 rfl (ok_getf (pc := 207) d_204_207 w_943 (hc1 fo_102) (ok_il (pc := 210) d_204_210 (ok_al_n (pc := 212) d_204_212 rfl (ok_getf (pc := 213) d_204_213 w_943 (hc1 fo_102) (ok_il (pc := 216) d_204_216 (ok_iald (pc := 218) d_204_218 (ok_il (pc := 219) d_204_219 (ok_add (pc := 221) d_204_221 (ok_iast (pc := 222) d_204_222 (ok_al_n (pc := 223) d_204_223 rfl (ok_getf (pc := 224) d_204_224 w_945 (hc1 fo_101) (ok_il (pc := 227) d_204_227 (ok_iald (pc := 229) d_204_229 (ok_ic (pc := 230) d_204_230 rfl (ok_cine (pc := 231) (t := 237) d_204_231 rfl (by decide) rfl (ok_go (pc := 234) (t := 262) d_204_234 rfl (by decide) rfl))))))))))))))))
theorem s_204_194 {Γ : m_G} : m_ok Γ m_tab 204 M_204 194 (g_204_194) := ok_getf (pc := 194) d_204_194 w_943 (hc1 fo_102) (ok_il (pc := 197) d_204_197 (ok_iald (pc := 199) d_204_199 (ok_cilt (pc := 200) (t := 206) d_204_200 rfl (by decide) rfl (ok_go (pc := 203) (t := 262) d_204_203 rfl (by decide) rfl))))
theorem s_204_120 {Γ : m_G} : m_ok Γ m_tab 204 M_204 120 (g_204_120) := ok_il (pc := 120) d_204_120 (ok_al_n (pc := 122) d_204_122 rfl (ok_getf (pc := 123) d_204_123 w_918 (hc1 fo_74) (ok_al_n (pc := 126) d_204_126 rfl (ok_getf (pc := 127) d_204_127 w_919 (hc1 fo_75) (ok_mul (pc := 130) d_204_130 (ok_cige (pc := 131) (t := 268) d_204_131 rfl (by decide) rfl (ok_al_n (pc := 134) d_204_134 rfl (ok_il (pc := 135) d_204_135 (ok_il (pc := 137) d_204_137 (ok_al_n (pc := 139) d_204_139 rfl (ok_getf (pc := 140) d_204_140 w_919 (hc1 fo_75) (ok_div (pc := 143) d_204_143 (ok_il (pc := 144) d_204_144 (ok_al_n (pc := 146) d_204_146 rfl (ok_getf (pc := 147) d_204_147 w_919 (hc1 fo_75) (ok_rem (pc := 150) d_204_150 (ok_cai (pc := 151) (k2 := 186) rfl rfl tb_186 (by decide) (by decide) rfl (go_V d_204_151 w_1219 w_1221 ws_67 w_11 w_1222 nn_186 (by decide) cl_12 rfl) (ok_is (pc := 154) d_204_154 (by decide) (ok_al_n (pc := 156) d_204_156 rfl (ok_il (pc := 157) d_204_157 (ok_il (pc := 159) d_204_159 (ok_al_n (pc := 161) d_204_161 rfl (ok_getf (pc := 162) d_204_162 w_919 (hc1 fo_75) (ok_div (pc := 165) d_204_165 (ok_il (pc := 166) d_204_166 (ok_al_n (pc := 168) d_204_168 rfl (ok_getf (pc := 169) d_204_169 w_919 (hc1 fo_75) (ok_rem (pc := 172) d_204_172 (ok_cai (pc := 173) (k2 := 187) rfl rfl tb_187 (by decide) (by decide) rfl (go_V d_204_173 w_1243 w_1245 ws_71 w_11 w_1246 nn_187 (by decide) cl_12 rfl) (ok_is (pc := 176) d_204_176 (by decide) (ok_il (pc := 178) d_204_178 (ok_czlt (pc := 180) (t := 262) d_204_180 rfl (by decide) rfl (ok_al_n (pc := 183) d_204_183 rfl (ok_getf (pc := 184) d_204_184 w_943 (hc1 fo_102) (ok_il (pc := 187) d_204_187 (ok_iald (pc := 189) d_204_189 (ok_il (pc := 190) d_204_190 (ok_add (pc := 192) d_204_192 (ok_al_n (pc := 193) d_204_193 rfl (s_204_194))))))))))))))))))))))))))))))))))))))))
theorem s_204_105 {Γ : m_G} : m_ok Γ m_tab 204 M_204 105 (g_204_105) := ok_is_n (pc := 105) d_204_105 rfl (by decide) (ok_inc (pc := 106) d_204_106 rfl (by decide) (ok_al_n (pc := 109) d_204_109 rfl (ok_getf (pc := 110) d_204_110 w_945 (hc1 fo_101) (ok_il (pc := 113) d_204_113 (ok_ic (pc := 115) d_204_115 rfl (ok_iast (pc := 116) d_204_116 (ok_ic (pc := 117) d_204_117 rfl (ok_is (pc := 118) d_204_118 (by decide) (s_204_120)))))))))
theorem s_204_102 {Γ : m_G} : m_ok Γ m_tab 204 M_204 102 (g_204_102) := ok_il_n (pc := 102) d_204_102 rfl (ok_ic (pc := 103) d_204_103 rfl (ok_add (pc := 104) d_204_104 (s_204_105)))
theorem s_204_81 {Γ : m_G} : m_ok Γ m_tab 204 M_204 81 (g_204_81) := ok_il_n (pc := 81) d_204_81 rfl (ok_czle (pc := 82) (t := 271) d_204_82 rfl (by decide) rfl (ok_al_n (pc := 85) d_204_85 rfl (ok_getf (pc := 86) d_204_86 w_944 (hc1 fo_99) (ok_il_n (pc := 89) d_204_89 rfl (ok_iald (pc := 90) d_204_90 (ok_is (pc := 91) d_204_91 (by decide) (ok_il_n (pc := 93) d_204_93 rfl (ok_il_n (pc := 94) d_204_94 rfl (ok_cine (pc := 95) (t := 102) d_204_95 rfl (by decide) rfl (ok_ic (pc := 98) d_204_98 rfl (ok_go (pc := 99) (t := 105) d_204_99 rfl (by decide) rfl)))))))))))
theorem s_204_43 {Γ : m_G} : m_ok Γ m_tab 204 M_204 43 (g_204_43) := ok_ic (pc := 43) d_204_43 rfl (ok_is_n (pc := 44) d_204_44 rfl (by decide) (ok_ic (pc := 45) d_204_45 rfl (ok_is_n (pc := 46) d_204_46 rfl (by decide) (ok_al_n (pc := 47) d_204_47 rfl (ok_getf (pc := 48) d_204_48 w_944 (hc1 fo_99) (ok_ic (pc := 51) d_204_51 rfl (ok_al_n (pc := 52) d_204_52 rfl (ok_cai (pc := 53) (k2 := 145) rfl rfl tb_145 (by decide) (by decide) rfl (go_V d_204_53 w_1170 w_1172 ws_58 w_11 w_1173 nn_145 (by decide) cl_12 rfl) (ok_iast (pc := 56) d_204_56 (ok_al_n (pc := 57) d_204_57 rfl (ok_getf (pc := 58) d_204_58 w_943 (hc1 fo_102) (ok_al_n (pc := 61) d_204_61 rfl (ok_getf (pc := 62) d_204_62 w_944 (hc1 fo_99) (ok_ic (pc := 65) d_204_65 rfl (ok_iald (pc := 66) d_204_66 (ok_ic (pc := 67) d_204_67 rfl (ok_iast (pc := 68) d_204_68 (ok_al_n (pc := 69) d_204_69 rfl (ok_getf (pc := 70) d_204_70 w_945 (hc1 fo_101) (ok_al_n (pc := 73) d_204_73 rfl (ok_getf (pc := 74) d_204_74 w_944 (hc1 fo_99) (ok_ic (pc := 77) d_204_77 rfl (ok_iald (pc := 78) d_204_78 (ok_ic (pc := 79) d_204_79 rfl (ok_iast (pc := 80) d_204_80 (s_204_81))))))))))))))))))))))))))
theorem s_204_16 {Γ : m_G} : m_ok Γ m_tab 204 M_204 16 (g_204_16) := ok_il_n (pc := 16) d_204_16 rfl (ok_il_n (pc := 17) d_204_17 rfl (ok_cige (pc := 18) (t := 43) d_204_18 rfl (by decide) rfl (ok_al_n (pc := 21) d_204_21 rfl (ok_getf (pc := 22) d_204_22 w_943 (hc1 fo_102) (ok_il_n (pc := 25) d_204_25 rfl (ok_ldcw (pc := 26) d_204_26 w_1283 rfl (ok_iast (pc := 29) d_204_29 (ok_al_n (pc := 30) d_204_30 rfl (ok_getf (pc := 31) d_204_31 w_945 (hc1 fo_101) (ok_il_n (pc := 34) d_204_34 rfl (ok_ic (pc := 35) d_204_35 rfl (ok_iast (pc := 36) d_204_36 (ok_inc (pc := 37) d_204_37 rfl (by decide) (ok_go (pc := 40) (t := 16) d_204_40 rfl (by decide) rfl))))))))))))))
theorem s_204_0 {Γ : m_G} : m_ok Γ m_tab 204 M_204 0 (g_204_0) := ok_al_n (pc := 0) d_204_0 rfl (ok_cvi (pc := 1) (k2 := 190) rfl rfl tb_190 (by decide) (by decide) rfl (go_V d_204_1 w_1190 w_1192 ws_62 w_11 w_1193 nn_190 (by decide) cl_12 rfl) (ok_al_n (pc := 4) d_204_4 rfl (ok_getf (pc := 5) d_204_5 w_941 (hc1 fo_98) (ok_al_n (pc := 8) d_204_8 rfl (ok_getf (pc := 9) d_204_9 w_918 (hc1 fo_74) (ok_iald (pc := 12) d_204_12 (ok_is_n (pc := 13) d_204_13 rfl (by decide) (ok_ic (pc := 14) d_204_14 rfl (ok_is_n (pc := 15) d_204_15 rfl (by decide) (s_204_16))))))))))
theorem tst_204 {Γ : m_G} (q : Nat) : m_ts Γ (t_204 q) q := ts_n (ts_n (ts_n (ts_l (k := 204) (pc := 0) tb_204 rfl (by decide) s_204_0) (ts_n (ts_l (k := 204) (pc := 16) tb_204 rfl (by decide) s_204_16) (ts_l (k := 204) (pc := 43) tb_204 rfl (by decide) s_204_43))) (ts_n (ts_l (k := 204) (pc := 81) tb_204 rfl (by decide) s_204_81) (ts_n (ts_l (k := 204) (pc := 102) tb_204 rfl (by decide) s_204_102) (ts_l (k := 204) (pc := 105) tb_204 rfl (by decide) s_204_105)))) (ts_n (ts_n (ts_l (k := 204) (pc := 120) tb_204 rfl (by decide) s_204_120) (ts_n (ts_l (k := 204) (pc := 206) tb_204 rfl (by decide) s_204_206) (ts_l (k := 204) (pc := 237) tb_204 rfl (by decide) s_204_237))) (ts_n (ts_l (k := 204) (pc := 262) tb_204 rfl (by decide) s_204_262) (ts_n (ts_l (k := 204) (pc := 268) tb_204 rfl (by decide) s_204_268) (ts_l (k := 204) (pc := 271) tb_204 rfl (by decide) s_204_271))))
theorem d_205_0 : decode prog_14_method_67_code 0 = .ok (.aload_n 0, 1) := by decide +kernel
theorem d_205_1 : decode prog_14_method_67_code 1 = .ok (.iload_n 1, 1) := by decide +kernel
theorem d_205_2 : decode prog_14_method_67_code 2 = .ok (.invokevirtual 282, 3) := by decide +kernel
theorem d_205_5 : decode prog_14_method_67_code 5 = .ok (.ifCond .ne 6, 3) := by decide +kernel
theorem d_205_8 : decode prog_14_method_67_code 8 = .ok (.bipush (-2), 2) := by decide +kernel
theorem d_205_10 : decode prog_14_method_67_code 10 = .ok (.ireturn, 1) := by decide +kernel
theorem d_205_11 : decode prog_14_method_67_code 11 = .ok (.aload_n 0, 1) := by decide +kernel
theorem d_205_12 : decode prog_14_method_67_code 12 = .ok (.invokevirtual 289, 3) := by decide +kernel
theorem d_205_15 : decode prog_14_method_67_code 15 = .ok (.aload_n 0, 1) := by decide +kernel
theorem d_205_16 : decode prog_14_method_67_code 16 = .ok (.getfield 64, 3) := by decide +kernel
theorem d_205_19 : decode prog_14_method_67_code 19 = .ok (.iload_n 1, 1) := by decide +kernel
theorem d_205_20 : decode prog_14_method_67_code 20 = .ok (.iaload, 1) := by decide +kernel
theorem d_205_21 : decode prog_14_method_67_code 21 = .ok (.ldc_w 288, 3) := by decide +kernel
theorem d_205_24 : decode prog_14_method_67_code 24 = .ok (.if_icmp .ne 7, 3) := by decide +kernel
theorem d_205_27 : decode prog_14_method_67_code 27 = .ok (.iconst (-1), 1) := by decide +kernel
theorem d_205_28 : decode prog_14_method_67_code 28 = .ok (.goto 9, 3) := by decide +kernel
theorem d_205_31 : decode prog_14_method_67_code 31 = .ok (.aload_n 0, 1) := by decide +kernel
theorem d_205_32 : decode prog_14_method_67_code 32 = .ok (.getfield 64, 3) := by decide +kernel
theorem d_205_35 : decode prog_14_method_67_code 35 = .ok (.iload_n 1, 1) := by decide +kernel
theorem d_205_36 : decode prog_14_method_67_code 36 = .ok (.iaload, 1) := by decide +kernel
theorem d_205_37 : decode prog_14_method_67_code 37 = .ok (.ireturn, 1) := by decide +kernel
theorem s_205_37 {Γ : m_G} : m_ok Γ m_tab 205 M_205 37 (g_205_37) := ok_ri (pc := 37) d_205_37 rfl
theorem s_205_31 {Γ : m_G} : m_ok Γ m_tab 205 M_205 31 (g_205_31) := ok_al_n (pc := 31) d_205_31 rfl (ok_getf (pc := 32) d_205_32 w_943 (hc1 fo_102) (ok_il_n (pc := 35) d_205_35 rfl (ok_iald (pc := 36) d_205_36 (s_205_37))))
theorem s_205_11 {Γ : m_G} : m_ok Γ m_tab 205 M_205 11 (g_205_11) := ok_al_n (pc := 11) d_205_11 rfl (ok_cvi (pc := 12) (k2 := 204) rfl rfl tb_204 (by decide) (by decide) rfl (go_V d_205_12 w_1279 w_1281 ws_77 w_11 w_1282 nn_204 (by decide) cl_12 rfl) (ok_al_n (pc := 15) d_205_15 rfl (ok_getf (pc := 16) d_205_16 w_943 (hc1 fo_102) (ok_il_n (pc := 19) d_205_19 rfl (ok_iald (pc := 20) d_205_20 (ok_ldcw (pc := 21) d_205_21 w_1283 rfl (ok_cine (pc := 24) (t := 31) d_205_24 rfl (by decide) rfl (ok_ic (pc := 27) d_205_27 rfl (ok_go (pc := 28) (t := 37) d_205_28 rfl (by decide) rfl)))))))))
theorem s_205_0 {Γ : m_G} : m_ok Γ m_tab 205 M_205 0 (g_205_0) := ok_al_n (pc := 0) d_205_0 rfl (ok_il_n (pc := 1) d_205_1 rfl (ok_cai (pc := 2) (k2 := 146) rfl rfl tb_146 (by decide) (by decide) rfl (go_V d_205_2 w_1263 w_1265 ws_75 w_11 w_1266 nn_146 (by decide) cl_12 rfl) (ok_czne (pc := 5) (t := 11) d_205_5 rfl (by decide) rfl (ok_bi (pc := 8) d_205_8 rfl (ok_ri (pc := 10) d_205_10 rfl)))))
theorem tst_205 {Γ : m_G} (q : Nat) : m_ts Γ (t_205 q) q := ts_n (ts_n (ts_l (k := 205) (pc := 0) tb_205 rfl (by decide) s_205_0) (ts_l (k := 205) (pc := 11) tb_205 rfl (by decide) s_205_11)) (ts_n (ts_l (k := 205) (pc := 31) tb_205 rfl (by decide) s_205_31) (ts_l (k := 205) (pc := 37) tb_205 rfl (by decide) s_205_37))
