set_option maxHeartbeats 40000000 in
theorem c_buildK4 {g : w_G} {o : w_O} {h : m_H} {d : Nat} {Q : Option m_V → m_H → Prop} (iv : w_Inv g o h) {c : Int} (c_lo : -2147483648 ≤ c) (c_hi : c ≤ 2147483647) (c0_ : 2 ≤ c) (c1_ : c ≤ 5) (N_ : w_pw c 4 ≤ 4096) (k0 : ∀ (x : Int) (g2 : w_G) (o2 : w_O) (h2 : m_H), w_Inv g2 o2 h2 → w_ch [0, 1, 2, 5] [0] g g2 → w_oe o o2 → h2.1 ≤ h.1 + 3 → h2.2.1 ≤ h.2.1 + 200 → x = g_H g → w_okB 4 c → (g_H g2 = 4 ∧ g_C g2 = c) → Q (some (.inl (w_i x))) h2) : wp (d + 3) 364579 [.inr (.inl (some 0)), .inl (w_i 4), .inl (w_i c), .inr (.inr (.inl 0)), .inr (.inr (.inl 0))] [] h Q := by
  have F := fr_rf (o := o) (h := h) (W := [0])
  have W := iv_wc iv
  have Wo := iv_wo iv
  refine w_run k_364579 (w_al (fun _ => rfl) ?_)
  obtain ⟨_, m1, rfl⟩ := iv_0 iv
  refine w_getf m1 rfl (fun _ => rfl) ?_
  obtain ⟨_, m2, kp2, sp2, rl2, rfl, l2_kp, u2_kp, l2_sp, u2_sp, l2_rl, u2_rl, f2_0, f2_1⟩ := iv_1 iv
  refine w_getf m2 rfl (fun _ => rfl) (w_is (fun _ => rfl) ?_)
  obtain ⟨_, m3, A3, rfl, e3⟩ := iv_2 iv
  obtain ⟨_, m4, A4, rfl, e4⟩ := iv_3 iv
  obtain ⟨_, m5, A5, rfl⟩ := iv_4 iv
  obtain ⟨_, m6, kpr6, sta6, fnd6, kco6, rfl, l6_kpr, u6_kpr, l6_sta, u6_sta, l6_fnd, u6_fnd, l6_kco, u6_kco, f6_0, f6_1, f6_2, f6_3, f6_4, f6_5, f6_6⟩ := iv_9 iv
  obtain ⟨_, m7, siz7, atp7, tok7, flt7, wri7, rfl, l7_siz, u7_siz, l7_atp, u7_atp, l7_tok, u7_tok, l7_flt, u7_flt, l7_wri, u7_wri, f7_0, f7_1, f7_2, f7_3, f7_4, f7_5, f7_6⟩ := iv_18 iv
  obtain ⟨_, m8, l8, rfl, ll8, lp8⟩ := iv_24 iv
  have z9 := iv.2.2.2.2.1
  have z9w := iv.1
  refine w_al (fun _ => rfl) (w_getf m1 rfl (fun _ => rfl) (w_il (fun _ => rfl) (w_il (fun _ => rfl) (w_this (fun _ => rfl) m2 (w_cv (fun _ => rfl) rfl (w_run k_315392 (w_al (fun _ => rfl) (w_il (fun _ => rfl) (w_putf [.inl (w_i 4), .inl (w_i (g_C g)), .inl (w_i (g_N g)), .inr (.inl (some 2)), .inr (.inl (some 3)), .inr (.inl (some 4)), .inl (w_i kp2), .inl (w_i sp2), .inl (w_i rl2)] m2 rfl rfl rfl (fun _ => rfl) (fun h11 s10 => ?_))))))))))
  have z13 := s10.1
  have z13y := s10.2.1
  have z13w := s10.2.2.2.2 z9w
  refine w_al (fun _ => rfl) (w_il (fun _ => rfl) (w_putf [.inl (w_i 4), .inl (w_i c), .inl (w_i (g_N g)), .inr (.inl (some 2)), .inr (.inl (some 3)), .inr (.inl (some 4)), .inl (w_i kp2), .inl (w_i sp2), .inl (w_i rl2)] s10.2.2.1 rfl rfl rfl (fun _ => rfl) (fun h15 s14 => ?_)))
  have z17 := s14.1
  have z17y := s14.2.1
  have z17w := s14.2.2.2.2 z13w
  refine w_al (fun _ => rfl) (w_il (fun _ => rfl) (w_il (fun _ => rfl) (w_ca (fun _ => rfl) rfl (w_run k_507904 (w_icI (x := 1) rfl (w_is (fun _ => rfl) (w_icI (x := 0) rfl (w_is (fun _ => rfl) (w_il (fun _ => rfl) (w_il (fun _ => rfl) (w_gef (by decide) (by decide) (by decide) (by decide) (by decide)  (w_il (fun _ => rfl) (w_il (fun _ => rfl) (w_op (c := w_i (1 * c)) (i_mul 1 c) (w_is (fun _ => rfl) (w_inc (c := w_i 1) (fun _ => rfl) (by decide +kernel) (fun _ => rfl) (w_go (w_run k_507908 (w_il (fun _ => rfl) (w_il (fun _ => rfl) (w_gef (by decide) (by decide) (by decide) (by decide) (by decide)  (w_il (fun _ => rfl) (w_il (fun _ => rfl) (w_op (c := w_i ((1 * c) * c)) (i_mul (1 * c) c) (w_is (fun _ => rfl) (w_inc (c := w_i 2) (fun _ => rfl) (by decide +kernel) (fun _ => rfl) (w_go (w_run k_507908 (w_il (fun _ => rfl) (w_il (fun _ => rfl) (w_gef (by decide) (by decide) (by decide) (by decide) (by decide)  (w_il (fun _ => rfl) (w_il (fun _ => rfl) (w_op (c := w_i (((1 * c) * c) * c)) (i_mul ((1 * c) * c) c) (w_is (fun _ => rfl) (w_inc (c := w_i 3) (fun _ => rfl) (by decide +kernel) (fun _ => rfl) (w_go (w_run k_507908 (w_il (fun _ => rfl) (w_il (fun _ => rfl) (w_gef (by decide) (by decide) (by decide) (by decide) (by decide)  (w_il (fun _ => rfl) (w_il (fun _ => rfl) (w_op (c := w_i ((((1 * c) * c) * c) * c)) (i_mul (((1 * c) * c) * c) c) (w_is (fun _ => rfl) (w_inc (c := w_i 4) (fun _ => rfl) (by decide +kernel) (fun _ => rfl) (w_go (w_run k_507908 (w_il (fun _ => rfl) (w_il (fun _ => rfl) (w_get (by decide) (by decide) (by decide) (by decide) (by decide)  (w_run k_507923 (w_il (fun _ => rfl) (w_ri ⟨_, rfl, ?_⟩))))))))))))))))))))))))))))))))))))))))))))))))))))))
  refine w_putf [.inl (w_i 4), .inl (w_i c), .inl (w_i ((((1 * c) * c) * c) * c)), .inr (.inl (some 2)), .inr (.inl (some 3)), .inr (.inl (some 4)), .inl (w_i kp2), .inl (w_i sp2), .inl (w_i rl2)] s14.2.2.1 rfl rfl rfl (fun _ => rfl) (fun h19 s18 => ?_)
  have z21 := s18.1
  have z21y := s18.2.1
  have z21w := s18.2.2.2.2 z17w
  refine w_icI (x := 0) rfl (w_is (fun _ => rfl) (w_il (fun _ => rfl) (w_icI (x := 6) rfl (w_gef (by decide) (by decide) (by decide) (by decide) (by decide)  (w_al (fun _ => rfl) (w_getf s18.2.2.1 rfl (fun _ => rfl) (w_il (fun _ => rfl) (w_icI (x := 0) rfl ?_))))))))
  have m22 := st_fr s10 m3 (by decide)
  have m23 := st_fr s14 m22 (by decide)
  have m24 := st_fr s18 m23 (by decide)
  refine w_astI m24 (by decide) (by decide) (by decide) (by decide) (by decide) (fun A27 h26 w28 s25 => ?_)
  have q29 : a_g A27 0 = 0 := (w28 0 (by decide) (by decide)).trans (if_pos rfl)
  have z30 := s25.1
  have z30y := s25.2.1
  have z30w := s25.2.2.2.2 z21w
  refine w_al (fun _ => rfl) ?_
  have m31 := st_fr s25 s18.2.2.1 (by decide)
  refine w_getf m31 rfl (fun _ => rfl) (w_il (fun _ => rfl) (w_il (fun _ => rfl) (w_icI (x := 2) rfl (w_opz (c := w_i 0) (by decide +kernel) (by decide +kernel) ?_))))
  have m32 := st_fr s10 m4 (by decide)
  have m33 := st_fr s14 m32 (by decide)
  have m34 := st_fr s18 m33 (by decide)
  have m35 := st_fr s25 m34 (by decide)
  refine w_astI m35 (by decide) (by decide) (by decide) (by decide) (by decide) (fun A38 h37 w39 s36 => ?_)
  have q40 : a_g A38 0 = 0 := (w39 0 (by decide) (by decide)).trans (if_pos rfl)
  have z41 := s36.1
  have z41y := s36.2.1
  have z41w := s36.2.2.2.2 z30w
  refine w_al (fun _ => rfl) ?_
  have m42 := st_fr s36 m31 (by decide)
  refine w_getf m42 rfl (fun _ => rfl) (w_il (fun _ => rfl) (w_icI (x := (-1)) wn_1 ?_))
  have m43 := st_fr s10 m5 (by decide)
  have m44 := st_fr s14 m43 (by decide)
  have m45 := st_fr s18 m44 (by decide)
  have m46 := st_fr s25 m45 (by decide)
  have m47 := st_fr s36 m46 (by decide)
  refine w_astI m47 (by decide) (by decide) (by decide) (by decide) (by decide) (fun A50 h49 w51 s48 => ?_)
  have q52 : a_g A50 0 = (-1) := (w51 0 (by decide) (by decide)).trans (if_pos rfl)
  have z53 := s48.1
  have z53y := s48.2.1
  have z53w := s48.2.2.2.2 z41w
  refine w_inc (c := w_i 1) (fun _ => rfl) (by decide +kernel) (fun _ => rfl) (w_go (w_run k_315413 (w_il (fun _ => rfl) (w_icI (x := 6) rfl (w_gef (by decide) (by decide) (by decide) (by decide) (by decide)  (w_al (fun _ => rfl) ?_))))))
  have m54 := st_fr s48 m42 (by decide)
  refine w_getf m54 rfl (fun _ => rfl) (w_il (fun _ => rfl) (w_icI (x := 0) rfl ?_))
  have m55 := st_fr s36 s25.2.2.1 (by decide)
  have m56 := st_fr s48 m55 (by decide)
  refine w_astI m56 (by decide) (by decide) (by decide) (by decide) (by decide) (fun A59 h58 w60 s57 => ?_)
  have q61 : a_g A59 0 = 0 := ((w60 0 (by decide) (by decide)).trans (if_neg (by decide))).trans q29
  have q62 : a_g A59 1 = 0 := (w60 1 (by decide) (by decide)).trans (if_pos rfl)
  have z63 := s57.1
  have z63y := s57.2.1
  have z63w := s57.2.2.2.2 z53w
  refine w_al (fun _ => rfl) ?_
  have m64 := st_fr s57 m54 (by decide)
  refine w_getf m64 rfl (fun _ => rfl) (w_il (fun _ => rfl) (w_il (fun _ => rfl) (w_icI (x := 2) rfl (w_opz (c := w_i 1) (by decide +kernel) (by decide +kernel) ?_))))
  have m65 := st_fr s48 s36.2.2.1 (by decide)
  have m66 := st_fr s57 m65 (by decide)
  refine w_astI m66 (by decide) (by decide) (by decide) (by decide) (by decide) (fun A69 h68 w70 s67 => ?_)
  have q71 : a_g A69 0 = 0 := ((w70 0 (by decide) (by decide)).trans (if_neg (by decide))).trans q40
  have q72 : a_g A69 1 = 1 := (w70 1 (by decide) (by decide)).trans (if_pos rfl)
  have z73 := s67.1
  have z73y := s67.2.1
  have z73w := s67.2.2.2.2 z63w
  refine w_al (fun _ => rfl) ?_
  have m74 := st_fr s67 m64 (by decide)
  refine w_getf m74 rfl (fun _ => rfl) (w_il (fun _ => rfl) (w_icI (x := (-1)) wn_1 ?_))
  have m75 := st_fr s57 s48.2.2.1 (by decide)
  have m76 := st_fr s67 m75 (by decide)
  refine w_astI m76 (by decide) (by decide) (by decide) (by decide) (by decide) (fun A79 h78 w80 s77 => ?_)
  have q81 : a_g A79 0 = (-1) := ((w80 0 (by decide) (by decide)).trans (if_neg (by decide))).trans q52
  have q82 : a_g A79 1 = (-1) := (w80 1 (by decide) (by decide)).trans (if_pos rfl)
  have z83 := s77.1
  have z83y := s77.2.1
  have z83w := s77.2.2.2.2 z73w
  refine w_inc (c := w_i 2) (fun _ => rfl) (by decide +kernel) (fun _ => rfl) (w_go (w_run k_315413 (w_il (fun _ => rfl) (w_icI (x := 6) rfl (w_gef (by decide) (by decide) (by decide) (by decide) (by decide)  (w_al (fun _ => rfl) ?_))))))
  have m84 := st_fr s77 m74 (by decide)
  refine w_getf m84 rfl (fun _ => rfl) (w_il (fun _ => rfl) (w_icI (x := 0) rfl ?_))
  have m85 := st_fr s67 s57.2.2.1 (by decide)
  have m86 := st_fr s77 m85 (by decide)
  refine w_astI m86 (by decide) (by decide) (by decide) (by decide) (by decide) (fun A89 h88 w90 s87 => ?_)
  have q91 : a_g A89 0 = 0 := ((w90 0 (by decide) (by decide)).trans (if_neg (by decide))).trans q61
  have q92 : a_g A89 1 = 0 := ((w90 1 (by decide) (by decide)).trans (if_neg (by decide))).trans q62
  have q93 : a_g A89 2 = 0 := (w90 2 (by decide) (by decide)).trans (if_pos rfl)
  have z94 := s87.1
  have z94y := s87.2.1
  have z94w := s87.2.2.2.2 z83w
  refine w_al (fun _ => rfl) ?_
  have m95 := st_fr s87 m84 (by decide)
  refine w_getf m95 rfl (fun _ => rfl) (w_il (fun _ => rfl) (w_il (fun _ => rfl) (w_icI (x := 2) rfl (w_opz (c := w_i 0) (by decide +kernel) (by decide +kernel) ?_))))
  have m96 := st_fr s77 s67.2.2.1 (by decide)
  have m97 := st_fr s87 m96 (by decide)
  refine w_astI m97 (by decide) (by decide) (by decide) (by decide) (by decide) (fun A100 h99 w101 s98 => ?_)
  have q102 : a_g A100 0 = 0 := ((w101 0 (by decide) (by decide)).trans (if_neg (by decide))).trans q71
  have q103 : a_g A100 1 = 1 := ((w101 1 (by decide) (by decide)).trans (if_neg (by decide))).trans q72
  have q104 : a_g A100 2 = 0 := (w101 2 (by decide) (by decide)).trans (if_pos rfl)
  have z105 := s98.1
  have z105y := s98.2.1
  have z105w := s98.2.2.2.2 z94w
  refine w_al (fun _ => rfl) ?_
  have m106 := st_fr s98 m95 (by decide)
  refine w_getf m106 rfl (fun _ => rfl) (w_il (fun _ => rfl) (w_icI (x := (-1)) wn_1 ?_))
  have m107 := st_fr s87 s77.2.2.1 (by decide)
  have m108 := st_fr s98 m107 (by decide)
  refine w_astI m108 (by decide) (by decide) (by decide) (by decide) (by decide) (fun A111 h110 w112 s109 => ?_)
  have q113 : a_g A111 0 = (-1) := ((w112 0 (by decide) (by decide)).trans (if_neg (by decide))).trans q81
  have q114 : a_g A111 1 = (-1) := ((w112 1 (by decide) (by decide)).trans (if_neg (by decide))).trans q82
  have q115 : a_g A111 2 = (-1) := (w112 2 (by decide) (by decide)).trans (if_pos rfl)
  have z116 := s109.1
  have z116y := s109.2.1
  have z116w := s109.2.2.2.2 z105w
  refine w_inc (c := w_i 3) (fun _ => rfl) (by decide +kernel) (fun _ => rfl) (w_go (w_run k_315413 (w_il (fun _ => rfl) (w_icI (x := 6) rfl (w_gef (by decide) (by decide) (by decide) (by decide) (by decide)  (w_al (fun _ => rfl) ?_))))))
  have m117 := st_fr s109 m106 (by decide)
  refine w_getf m117 rfl (fun _ => rfl) (w_il (fun _ => rfl) (w_icI (x := 0) rfl ?_))
  have m118 := st_fr s98 s87.2.2.1 (by decide)
  have m119 := st_fr s109 m118 (by decide)
  refine w_astI m119 (by decide) (by decide) (by decide) (by decide) (by decide) (fun A122 h121 w123 s120 => ?_)
  have q124 : a_g A122 0 = 0 := ((w123 0 (by decide) (by decide)).trans (if_neg (by decide))).trans q91
  have q125 : a_g A122 1 = 0 := ((w123 1 (by decide) (by decide)).trans (if_neg (by decide))).trans q92
  have q126 : a_g A122 2 = 0 := ((w123 2 (by decide) (by decide)).trans (if_neg (by decide))).trans q93
  have q127 : a_g A122 3 = 0 := (w123 3 (by decide) (by decide)).trans (if_pos rfl)
  have z128 := s120.1
  have z128y := s120.2.1
  have z128w := s120.2.2.2.2 z116w
  refine w_al (fun _ => rfl) ?_
  have m129 := st_fr s120 m117 (by decide)
  refine w_getf m129 rfl (fun _ => rfl) (w_il (fun _ => rfl) (w_il (fun _ => rfl) (w_icI (x := 2) rfl (w_opz (c := w_i 1) (by decide +kernel) (by decide +kernel) ?_))))
  have m130 := st_fr s109 s98.2.2.1 (by decide)
  have m131 := st_fr s120 m130 (by decide)
  refine w_astI m131 (by decide) (by decide) (by decide) (by decide) (by decide) (fun A134 h133 w135 s132 => ?_)
  have q136 : a_g A134 0 = 0 := ((w135 0 (by decide) (by decide)).trans (if_neg (by decide))).trans q102
  have q137 : a_g A134 1 = 1 := ((w135 1 (by decide) (by decide)).trans (if_neg (by decide))).trans q103
  have q138 : a_g A134 2 = 0 := ((w135 2 (by decide) (by decide)).trans (if_neg (by decide))).trans q104
  have q139 : a_g A134 3 = 1 := (w135 3 (by decide) (by decide)).trans (if_pos rfl)
  have z140 := s132.1
  have z140y := s132.2.1
  have z140w := s132.2.2.2.2 z128w
  refine w_al (fun _ => rfl) ?_
  have m141 := st_fr s132 m129 (by decide)
  refine w_getf m141 rfl (fun _ => rfl) (w_il (fun _ => rfl) (w_icI (x := (-1)) wn_1 ?_))
  have m142 := st_fr s120 s109.2.2.1 (by decide)
  have m143 := st_fr s132 m142 (by decide)
  refine w_astI m143 (by decide) (by decide) (by decide) (by decide) (by decide) (fun A146 h145 w147 s144 => ?_)
  have q148 : a_g A146 0 = (-1) := ((w147 0 (by decide) (by decide)).trans (if_neg (by decide))).trans q113
  have q149 : a_g A146 1 = (-1) := ((w147 1 (by decide) (by decide)).trans (if_neg (by decide))).trans q114
  have q150 : a_g A146 2 = (-1) := ((w147 2 (by decide) (by decide)).trans (if_neg (by decide))).trans q115
  have q151 : a_g A146 3 = (-1) := (w147 3 (by decide) (by decide)).trans (if_pos rfl)
  have z152 := s144.1
  have z152y := s144.2.1
  have z152w := s144.2.2.2.2 z140w
  refine w_inc (c := w_i 4) (fun _ => rfl) (by decide +kernel) (fun _ => rfl) (w_go (w_run k_315413 (w_il (fun _ => rfl) (w_icI (x := 6) rfl (w_gef (by decide) (by decide) (by decide) (by decide) (by decide)  (w_al (fun _ => rfl) ?_))))))
  have m153 := st_fr s144 m141 (by decide)
  refine w_getf m153 rfl (fun _ => rfl) (w_il (fun _ => rfl) (w_icI (x := 0) rfl ?_))
  have m154 := st_fr s132 s120.2.2.1 (by decide)
  have m155 := st_fr s144 m154 (by decide)
  refine w_astI m155 (by decide) (by decide) (by decide) (by decide) (by decide) (fun A158 h157 w159 s156 => ?_)
  have q160 : a_g A158 0 = 0 := ((w159 0 (by decide) (by decide)).trans (if_neg (by decide))).trans q124
  have q161 : a_g A158 1 = 0 := ((w159 1 (by decide) (by decide)).trans (if_neg (by decide))).trans q125
  have q162 : a_g A158 2 = 0 := ((w159 2 (by decide) (by decide)).trans (if_neg (by decide))).trans q126
  have q163 : a_g A158 3 = 0 := ((w159 3 (by decide) (by decide)).trans (if_neg (by decide))).trans q127
  have q164 : a_g A158 4 = 0 := (w159 4 (by decide) (by decide)).trans (if_pos rfl)
  have z165 := s156.1
  have z165y := s156.2.1
  have z165w := s156.2.2.2.2 z152w
  refine w_al (fun _ => rfl) ?_
  have m166 := st_fr s156 m153 (by decide)
  refine w_getf m166 rfl (fun _ => rfl) (w_il (fun _ => rfl) (w_il (fun _ => rfl) (w_icI (x := 2) rfl (w_opz (c := w_i 0) (by decide +kernel) (by decide +kernel) ?_))))
  have m167 := st_fr s144 s132.2.2.1 (by decide)
  have m168 := st_fr s156 m167 (by decide)
  refine w_astI m168 (by decide) (by decide) (by decide) (by decide) (by decide) (fun A171 h170 w172 s169 => ?_)
  have q173 : a_g A171 0 = 0 := ((w172 0 (by decide) (by decide)).trans (if_neg (by decide))).trans q136
  have q174 : a_g A171 1 = 1 := ((w172 1 (by decide) (by decide)).trans (if_neg (by decide))).trans q137
  have q175 : a_g A171 2 = 0 := ((w172 2 (by decide) (by decide)).trans (if_neg (by decide))).trans q138
  have q176 : a_g A171 3 = 1 := ((w172 3 (by decide) (by decide)).trans (if_neg (by decide))).trans q139
  have q177 : a_g A171 4 = 0 := (w172 4 (by decide) (by decide)).trans (if_pos rfl)
  have z178 := s169.1
  have z178y := s169.2.1
  have z178w := s169.2.2.2.2 z165w
  refine w_al (fun _ => rfl) ?_
  have m179 := st_fr s169 m166 (by decide)
  refine w_getf m179 rfl (fun _ => rfl) (w_il (fun _ => rfl) (w_icI (x := (-1)) wn_1 ?_))
  have m180 := st_fr s156 s144.2.2.1 (by decide)
  have m181 := st_fr s169 m180 (by decide)
  refine w_astI m181 (by decide) (by decide) (by decide) (by decide) (by decide) (fun A184 h183 w185 s182 => ?_)
  have q186 : a_g A184 0 = (-1) := ((w185 0 (by decide) (by decide)).trans (if_neg (by decide))).trans q148
  have q187 : a_g A184 1 = (-1) := ((w185 1 (by decide) (by decide)).trans (if_neg (by decide))).trans q149
  have q188 : a_g A184 2 = (-1) := ((w185 2 (by decide) (by decide)).trans (if_neg (by decide))).trans q150
  have q189 : a_g A184 3 = (-1) := ((w185 3 (by decide) (by decide)).trans (if_neg (by decide))).trans q151
  have q190 : a_g A184 4 = (-1) := (w185 4 (by decide) (by decide)).trans (if_pos rfl)
  have z191 := s182.1
  have z191y := s182.2.1
  have z191w := s182.2.2.2.2 z178w
  refine w_inc (c := w_i 5) (fun _ => rfl) (by decide +kernel) (fun _ => rfl) (w_go (w_run k_315413 (w_il (fun _ => rfl) (w_icI (x := 6) rfl (w_gef (by decide) (by decide) (by decide) (by decide) (by decide)  (w_al (fun _ => rfl) ?_))))))
  have m192 := st_fr s182 m179 (by decide)
  refine w_getf m192 rfl (fun _ => rfl) (w_il (fun _ => rfl) (w_icI (x := 0) rfl ?_))
  have m193 := st_fr s169 s156.2.2.1 (by decide)
  have m194 := st_fr s182 m193 (by decide)
  refine w_astI m194 (by decide) (by decide) (by decide) (by decide) (by decide) (fun A197 h196 w198 s195 => ?_)
  have q199 : a_g A197 0 = 0 := ((w198 0 (by decide) (by decide)).trans (if_neg (by decide))).trans q160
  have q200 : a_g A197 1 = 0 := ((w198 1 (by decide) (by decide)).trans (if_neg (by decide))).trans q161
  have q201 : a_g A197 2 = 0 := ((w198 2 (by decide) (by decide)).trans (if_neg (by decide))).trans q162
  have q202 : a_g A197 3 = 0 := ((w198 3 (by decide) (by decide)).trans (if_neg (by decide))).trans q163
  have q203 : a_g A197 4 = 0 := ((w198 4 (by decide) (by decide)).trans (if_neg (by decide))).trans q164
  have q204 : a_g A197 5 = 0 := (w198 5 (by decide) (by decide)).trans (if_pos rfl)
  have z205 := s195.1
  have z205y := s195.2.1
  have z205w := s195.2.2.2.2 z191w
  refine w_al (fun _ => rfl) ?_
  have m206 := st_fr s195 m192 (by decide)
  refine w_getf m206 rfl (fun _ => rfl) (w_il (fun _ => rfl) (w_il (fun _ => rfl) (w_icI (x := 2) rfl (w_opz (c := w_i 1) (by decide +kernel) (by decide +kernel) ?_))))
  have m207 := st_fr s182 s169.2.2.1 (by decide)
  have m208 := st_fr s195 m207 (by decide)
  refine w_astI m208 (by decide) (by decide) (by decide) (by decide) (by decide) (fun A211 h210 w212 s209 => ?_)
  have q213 : a_g A211 0 = 0 := ((w212 0 (by decide) (by decide)).trans (if_neg (by decide))).trans q173
  have q214 : a_g A211 1 = 1 := ((w212 1 (by decide) (by decide)).trans (if_neg (by decide))).trans q174
  have q215 : a_g A211 2 = 0 := ((w212 2 (by decide) (by decide)).trans (if_neg (by decide))).trans q175
  have q216 : a_g A211 3 = 1 := ((w212 3 (by decide) (by decide)).trans (if_neg (by decide))).trans q176
  have q217 : a_g A211 4 = 0 := ((w212 4 (by decide) (by decide)).trans (if_neg (by decide))).trans q177
  have q218 : a_g A211 5 = 1 := (w212 5 (by decide) (by decide)).trans (if_pos rfl)
  have z219 := s209.1
  have z219y := s209.2.1
  have z219w := s209.2.2.2.2 z205w
  refine w_al (fun _ => rfl) ?_
  have m220 := st_fr s209 m206 (by decide)
  refine w_getf m220 rfl (fun _ => rfl) (w_il (fun _ => rfl) (w_icI (x := (-1)) wn_1 ?_))
  have m221 := st_fr s195 s182.2.2.1 (by decide)
  have m222 := st_fr s209 m221 (by decide)
  refine w_astI m222 (by decide) (by decide) (by decide) (by decide) (by decide) (fun A225 h224 w226 s223 => ?_)
  have q227 : a_g A225 0 = (-1) := ((w226 0 (by decide) (by decide)).trans (if_neg (by decide))).trans q186
  have q228 : a_g A225 1 = (-1) := ((w226 1 (by decide) (by decide)).trans (if_neg (by decide))).trans q187
  have q229 : a_g A225 2 = (-1) := ((w226 2 (by decide) (by decide)).trans (if_neg (by decide))).trans q188
  have q230 : a_g A225 3 = (-1) := ((w226 3 (by decide) (by decide)).trans (if_neg (by decide))).trans q189
  have q231 : a_g A225 4 = (-1) := ((w226 4 (by decide) (by decide)).trans (if_neg (by decide))).trans q190
  have q232 : a_g A225 5 = (-1) := (w226 5 (by decide) (by decide)).trans (if_pos rfl)
  have z233 := s223.1
  have z233y := s223.2.1
  have z233w := s223.2.2.2.2 z219w
  refine w_inc (c := w_i 6) (fun _ => rfl) (by decide +kernel) (fun _ => rfl) (w_go (w_run k_315413 (w_il (fun _ => rfl) (w_icI (x := 6) rfl (w_get (by decide) (by decide) (by decide) (by decide) (by decide)  (w_run k_315448 (w_icI (x := 0) rfl (w_is (fun _ => rfl) (w_il (fun _ => rfl) (w_icI (x := 1) rfl (w_op (c := w_i 1) (by decide +kernel) (w_il (fun _ => rfl) (w_gef (by decide) (by decide) (by decide) (by decide) (by decide)  (w_al (fun _ => rfl) (w_il (fun _ => rfl) (w_il (fun _ => rfl) (w_icI (x := 1) rfl (w_op (c := w_i 1) (by decide +kernel) (w_icI (x := 1) rfl ?_)))))))))))))))))))
  have m234 := st_fr s223 m220 (by decide)
  refine w_this (fun _ => rfl) m234 (w_cv (fun _ => rfl) rfl (w_run k_323584 (w_al (fun _ => rfl) (w_getf m234 rfl (fun _ => rfl) (w_il (fun _ => rfl) (w_al (fun _ => rfl) (w_getf m234 rfl (fun _ => rfl) (w_il (fun _ => rfl) ?_))))))))
  have m235 := st_fr s209 s195.2.2.1 (by decide)
  have m236 := st_fr s223 m235 (by decide)
  refine w_aldI m236 (by decide) (by decide) (by decide) ?_
  rw [q199]
  refine w_icI (x := 1) rfl (w_il (fun _ => rfl) (w_op (c := w_i 2) (by decide +kernel) (w_icI (x := (-1)) wn_1 (w_op (c := w_i (-3)) (by decide +kernel) (w_op (c := w_i 0) (by decide +kernel) (w_il (fun _ => rfl) (w_eqzf (by decide) (by decide) (by decide)  (w_icI (x := 1) rfl (w_il (fun _ => rfl) (w_op (c := w_i 2) (by decide +kernel) (w_go (w_run k_323612 (w_op (c := w_i 2) (by decide +kernel) (w_astI m236 (by decide) (by decide) (by decide) (by decide) (by decide) (fun A239 h238 w240 s237 => ?_)))))))))))))))
  have q241 : a_g A239 0 = 2 := (w240 0 (by decide) (by decide)).trans (if_pos rfl)
  have q242 : a_g A239 1 = 0 := ((w240 1 (by decide) (by decide)).trans (if_neg (by decide))).trans q200
  have q243 : a_g A239 2 = 0 := ((w240 2 (by decide) (by decide)).trans (if_neg (by decide))).trans q201
  have q244 : a_g A239 3 = 0 := ((w240 3 (by decide) (by decide)).trans (if_neg (by decide))).trans q202
  have q245 : a_g A239 4 = 0 := ((w240 4 (by decide) (by decide)).trans (if_neg (by decide))).trans q203
  have q246 : a_g A239 5 = 0 := ((w240 5 (by decide) (by decide)).trans (if_neg (by decide))).trans q204
  have z247 := s237.1
  have z247y := s237.2.1
  have z247w := s237.2.2.2.2 z233w
  refine w_al (fun _ => rfl) ?_
  have m248 := st_fr s237 m234 (by decide)
  refine w_getf m248 rfl (fun _ => rfl) (w_il (fun _ => rfl) (w_al (fun _ => rfl) (w_getf m248 rfl (fun _ => rfl) (w_il (fun _ => rfl) (w_aldI s237.2.2.1 (by decide) (by decide) (by decide) ?_)))))
  rw [q242]
  refine w_icI (x := 1) rfl (w_il (fun _ => rfl) (w_op (c := w_i 1) (by decide +kernel) (w_icI (x := (-1)) wn_1 (w_op (c := w_i (-2)) (by decide +kernel) (w_op (c := w_i 0) (by decide +kernel) (w_il (fun _ => rfl) (w_eqzf (by decide) (by decide) (by decide)  (w_icI (x := 1) rfl (w_il (fun _ => rfl) (w_op (c := w_i 1) (by decide +kernel) (w_go (w_run k_323642 (w_op (c := w_i 1) (by decide +kernel) (w_astI s237.2.2.1 (by decide) (by decide) (by decide) (by decide) (by decide) (fun A251 h250 w252 s249 => ?_)))))))))))))))
  have q253 : a_g A251 0 = 2 := ((w252 0 (by decide) (by decide)).trans (if_neg (by decide))).trans q241
  have q254 : a_g A251 1 = 1 := (w252 1 (by decide) (by decide)).trans (if_pos rfl)
  have q255 : a_g A251 2 = 0 := ((w252 2 (by decide) (by decide)).trans (if_neg (by decide))).trans q243
  have q256 : a_g A251 3 = 0 := ((w252 3 (by decide) (by decide)).trans (if_neg (by decide))).trans q244
  have q257 : a_g A251 4 = 0 := ((w252 4 (by decide) (by decide)).trans (if_neg (by decide))).trans q245
  have q258 : a_g A251 5 = 0 := ((w252 5 (by decide) (by decide)).trans (if_neg (by decide))).trans q246
  have z259 := s249.1
  have z259y := s249.2.1
  have z259w := s249.2.2.2.2 z247w
  refine w_rv ⟨rfl, ?_⟩
  refine w_inc (c := w_i 1) (fun _ => rfl) (by decide +kernel) (fun _ => rfl) (w_go (w_run k_315450 (w_il (fun _ => rfl) (w_icI (x := 1) rfl (w_op (c := w_i 2) (by decide +kernel) (w_il (fun _ => rfl) (w_gef (by decide) (by decide) (by decide) (by decide) (by decide)  (w_al (fun _ => rfl) (w_il (fun _ => rfl) (w_il (fun _ => rfl) (w_icI (x := 1) rfl (w_op (c := w_i 2) (by decide +kernel) (w_icI (x := 1) rfl ?_)))))))))))))
  have m260 := st_fr s249 m248 (by decide)
  refine w_this (fun _ => rfl) m260 (w_cv (fun _ => rfl) rfl (w_run k_323584 (w_al (fun _ => rfl) (w_getf m260 rfl (fun _ => rfl) (w_il (fun _ => rfl) (w_al (fun _ => rfl) (w_getf m260 rfl (fun _ => rfl) (w_il (fun _ => rfl) (w_aldI s249.2.2.1 (by decide) (by decide) (by decide) ?_)))))))))
  rw [q254]
  refine w_icI (x := 1) rfl (w_il (fun _ => rfl) (w_op (c := w_i 4) (by decide +kernel) (w_icI (x := (-1)) wn_1 (w_op (c := w_i (-5)) (by decide +kernel) (w_op (c := w_i 1) (by decide +kernel) (w_il (fun _ => rfl) (w_eqzf (by decide) (by decide) (by decide)  (w_icI (x := 1) rfl (w_il (fun _ => rfl) (w_op (c := w_i 4) (by decide +kernel) (w_go (w_run k_323612 (w_op (c := w_i 5) (by decide +kernel) (w_astI s249.2.2.1 (by decide) (by decide) (by decide) (by decide) (by decide) (fun A263 h262 w264 s261 => ?_)))))))))))))))
  have q265 : a_g A263 0 = 2 := ((w264 0 (by decide) (by decide)).trans (if_neg (by decide))).trans q253
  have q266 : a_g A263 1 = 5 := (w264 1 (by decide) (by decide)).trans (if_pos rfl)
  have q267 : a_g A263 2 = 0 := ((w264 2 (by decide) (by decide)).trans (if_neg (by decide))).trans q255
  have q268 : a_g A263 3 = 0 := ((w264 3 (by decide) (by decide)).trans (if_neg (by decide))).trans q256
  have q269 : a_g A263 4 = 0 := ((w264 4 (by decide) (by decide)).trans (if_neg (by decide))).trans q257
  have q270 : a_g A263 5 = 0 := ((w264 5 (by decide) (by decide)).trans (if_neg (by decide))).trans q258
  have z271 := s261.1
  have z271y := s261.2.1
  have z271w := s261.2.2.2.2 z259w
  refine w_al (fun _ => rfl) ?_
  have m272 := st_fr s261 m260 (by decide)
  refine w_getf m272 rfl (fun _ => rfl) (w_il (fun _ => rfl) (w_al (fun _ => rfl) (w_getf m272 rfl (fun _ => rfl) (w_il (fun _ => rfl) (w_aldI s261.2.2.1 (by decide) (by decide) (by decide) ?_)))))
  rw [q267]
  refine w_icI (x := 1) rfl (w_il (fun _ => rfl) (w_op (c := w_i 2) (by decide +kernel) (w_icI (x := (-1)) wn_1 (w_op (c := w_i (-3)) (by decide +kernel) (w_op (c := w_i 0) (by decide +kernel) (w_il (fun _ => rfl) (w_eqzf (by decide) (by decide) (by decide)  (w_icI (x := 1) rfl (w_il (fun _ => rfl) (w_op (c := w_i 2) (by decide +kernel) (w_go (w_run k_323642 (w_op (c := w_i 2) (by decide +kernel) (w_astI s261.2.2.1 (by decide) (by decide) (by decide) (by decide) (by decide) (fun A275 h274 w276 s273 => ?_)))))))))))))))
  have q277 : a_g A275 0 = 2 := ((w276 0 (by decide) (by decide)).trans (if_neg (by decide))).trans q265
  have q278 : a_g A275 1 = 5 := ((w276 1 (by decide) (by decide)).trans (if_neg (by decide))).trans q266
  have q279 : a_g A275 2 = 2 := (w276 2 (by decide) (by decide)).trans (if_pos rfl)
  have q280 : a_g A275 3 = 0 := ((w276 3 (by decide) (by decide)).trans (if_neg (by decide))).trans q268
  have q281 : a_g A275 4 = 0 := ((w276 4 (by decide) (by decide)).trans (if_neg (by decide))).trans q269
  have q282 : a_g A275 5 = 0 := ((w276 5 (by decide) (by decide)).trans (if_neg (by decide))).trans q270
  have z283 := s273.1
  have z283y := s273.2.1
  have z283w := s273.2.2.2.2 z271w
  refine w_rv ⟨rfl, ?_⟩
  refine w_inc (c := w_i 2) (fun _ => rfl) (by decide +kernel) (fun _ => rfl) (w_go (w_run k_315450 (w_il (fun _ => rfl) (w_icI (x := 1) rfl (w_op (c := w_i 3) (by decide +kernel) (w_il (fun _ => rfl) (w_gef (by decide) (by decide) (by decide) (by decide) (by decide)  (w_al (fun _ => rfl) (w_il (fun _ => rfl) (w_il (fun _ => rfl) (w_icI (x := 1) rfl (w_op (c := w_i 3) (by decide +kernel) (w_icI (x := 1) rfl ?_)))))))))))))
  have m284 := st_fr s273 m272 (by decide)
  refine w_this (fun _ => rfl) m284 (w_cv (fun _ => rfl) rfl (w_run k_323584 (w_al (fun _ => rfl) (w_getf m284 rfl (fun _ => rfl) (w_il (fun _ => rfl) (w_al (fun _ => rfl) (w_getf m284 rfl (fun _ => rfl) (w_il (fun _ => rfl) (w_aldI s273.2.2.1 (by decide) (by decide) (by decide) ?_)))))))))
  rw [q279]
  refine w_icI (x := 1) rfl (w_il (fun _ => rfl) (w_op (c := w_i 8) (by decide +kernel) (w_icI (x := (-1)) wn_1 (w_op (c := w_i (-9)) (by decide +kernel) (w_op (c := w_i 2) (by decide +kernel) (w_il (fun _ => rfl) (w_eqzf (by decide) (by decide) (by decide)  (w_icI (x := 1) rfl (w_il (fun _ => rfl) (w_op (c := w_i 8) (by decide +kernel) (w_go (w_run k_323612 (w_op (c := w_i 10) (by decide +kernel) (w_astI s273.2.2.1 (by decide) (by decide) (by decide) (by decide) (by decide) (fun A287 h286 w288 s285 => ?_)))))))))))))))
  have q289 : a_g A287 0 = 2 := ((w288 0 (by decide) (by decide)).trans (if_neg (by decide))).trans q277
  have q290 : a_g A287 1 = 5 := ((w288 1 (by decide) (by decide)).trans (if_neg (by decide))).trans q278
  have q291 : a_g A287 2 = 10 := (w288 2 (by decide) (by decide)).trans (if_pos rfl)
  have q292 : a_g A287 3 = 0 := ((w288 3 (by decide) (by decide)).trans (if_neg (by decide))).trans q280
  have q293 : a_g A287 4 = 0 := ((w288 4 (by decide) (by decide)).trans (if_neg (by decide))).trans q281
  have q294 : a_g A287 5 = 0 := ((w288 5 (by decide) (by decide)).trans (if_neg (by decide))).trans q282
  have z295 := s285.1
  have z295y := s285.2.1
  have z295w := s285.2.2.2.2 z283w
  refine w_al (fun _ => rfl) ?_
  have m296 := st_fr s285 m284 (by decide)
  refine w_getf m296 rfl (fun _ => rfl) (w_il (fun _ => rfl) (w_al (fun _ => rfl) (w_getf m296 rfl (fun _ => rfl) (w_il (fun _ => rfl) (w_aldI s285.2.2.1 (by decide) (by decide) (by decide) ?_)))))
  rw [q292]
  refine w_icI (x := 1) rfl (w_il (fun _ => rfl) (w_op (c := w_i 4) (by decide +kernel) (w_icI (x := (-1)) wn_1 (w_op (c := w_i (-5)) (by decide +kernel) (w_op (c := w_i 0) (by decide +kernel) (w_il (fun _ => rfl) (w_eqzf (by decide) (by decide) (by decide)  (w_icI (x := 1) rfl (w_il (fun _ => rfl) (w_op (c := w_i 4) (by decide +kernel) (w_go (w_run k_323642 (w_op (c := w_i 4) (by decide +kernel) (w_astI s285.2.2.1 (by decide) (by decide) (by decide) (by decide) (by decide) (fun A299 h298 w300 s297 => ?_)))))))))))))))
  have q301 : a_g A299 0 = 2 := ((w300 0 (by decide) (by decide)).trans (if_neg (by decide))).trans q289
  have q302 : a_g A299 1 = 5 := ((w300 1 (by decide) (by decide)).trans (if_neg (by decide))).trans q290
  have q303 : a_g A299 2 = 10 := ((w300 2 (by decide) (by decide)).trans (if_neg (by decide))).trans q291
  have q304 : a_g A299 3 = 4 := (w300 3 (by decide) (by decide)).trans (if_pos rfl)
  have q305 : a_g A299 4 = 0 := ((w300 4 (by decide) (by decide)).trans (if_neg (by decide))).trans q293
  have q306 : a_g A299 5 = 0 := ((w300 5 (by decide) (by decide)).trans (if_neg (by decide))).trans q294
  have z307 := s297.1
  have z307y := s297.2.1
  have z307w := s297.2.2.2.2 z295w
  refine w_rv ⟨rfl, ?_⟩
  refine w_inc (c := w_i 3) (fun _ => rfl) (by decide +kernel) (fun _ => rfl) (w_go (w_run k_315450 (w_il (fun _ => rfl) (w_icI (x := 1) rfl (w_op (c := w_i 4) (by decide +kernel) (w_il (fun _ => rfl) (w_get (by decide) (by decide) (by decide) (by decide) (by decide)  (w_run k_315472 (w_al (fun _ => rfl) (w_icI (x := 0) rfl ?_))))))))))
  have m308 := st_fr s297 m296 (by decide)
  refine w_putf [.inl (w_i 4), .inl (w_i c), .inl (w_i ((((1 * c) * c) * c) * c)), .inr (.inl (some 2)), .inr (.inl (some 3)), .inr (.inl (some 4)), .inl (w_i 0), .inl (w_i sp2), .inl (w_i rl2)] m308 rfl rfl rfl (fun _ => rfl) (fun h310 s309 => ?_)
  have z312 := s309.1
  have z312y := s309.2.1
  have z312w := s309.2.2.2.2 z307w
  refine w_al (fun _ => rfl) (w_icI (x := 0) rfl (w_putf [.inl (w_i 4), .inl (w_i c), .inl (w_i ((((1 * c) * c) * c) * c)), .inr (.inl (some 2)), .inr (.inl (some 3)), .inr (.inl (some 4)), .inl (w_i 0), .inl (w_i 0), .inl (w_i rl2)] s309.2.2.1 rfl rfl rfl (fun _ => rfl) (fun h314 s313 => ?_)))
  have z316 := s313.1
  have z316y := s313.2.1
  have z316w := s313.2.2.2.2 z312w
  refine w_rv ⟨rfl, ?_⟩
  refine w_al (fun _ => rfl) (w_icI (x := 0) rfl ?_)
  have m317 := st_fr s10 m1 (by decide)
  have m318 := st_fr s14 m317 (by decide)
  have m319 := st_fr s18 m318 (by decide)
  have m320 := st_fr s25 m319 (by decide)
  have m321 := st_fr s36 m320 (by decide)
  have m322 := st_fr s48 m321 (by decide)
  have m323 := st_fr s57 m322 (by decide)
  have m324 := st_fr s67 m323 (by decide)
  have m325 := st_fr s77 m324 (by decide)
  have m326 := st_fr s87 m325 (by decide)
  have m327 := st_fr s98 m326 (by decide)
  have m328 := st_fr s109 m327 (by decide)
  have m329 := st_fr s120 m328 (by decide)
  have m330 := st_fr s132 m329 (by decide)
  have m331 := st_fr s144 m330 (by decide)
  have m332 := st_fr s156 m331 (by decide)
  have m333 := st_fr s169 m332 (by decide)
  have m334 := st_fr s182 m333 (by decide)
  have m335 := st_fr s195 m334 (by decide)
  have m336 := st_fr s209 m335 (by decide)
  have m337 := st_fr s223 m336 (by decide)
  have m338 := st_fr s237 m337 (by decide)
  have m339 := st_fr s249 m338 (by decide)
  have m340 := st_fr s261 m339 (by decide)
  have m341 := st_fr s273 m340 (by decide)
  have m342 := st_fr s285 m341 (by decide)
  have m343 := st_fr s297 m342 (by decide)
  have m344 := st_fr s309 m343 (by decide)
  have m345 := st_fr s313 m344 (by decide)
  refine w_putf [.inr (.inl (some 1)), .inr (.inl (some 5)), .inl (w_i 0), .inr (.inl (some 9)), .inr (.inl (some 17)), .inl (w_i (g_np g)), .inr (.inl (some 18)), .inr (.inl (some 23)), .inl (w_i (g_nt g)), .inr (.inl (some 24)), .inr (.inl (some 25)), .inr (.inl (some 26)), .inr (.inl (some 27))] m345 rfl rfl rfl (fun _ => rfl) (fun h347 s346 => ?_)
  have z349 := s346.1
  have z349y := s346.2.1
  have z349w := s346.2.2.2.2 z316w
  refine w_al (fun _ => rfl) (w_getf s346.2.2.1 rfl (fun _ => rfl) ?_)
  have m350 := st_fr s10 m7 (by decide)
  have m351 := st_fr s14 m350 (by decide)
  have m352 := st_fr s18 m351 (by decide)
  have m353 := st_fr s25 m352 (by decide)
  have m354 := st_fr s36 m353 (by decide)
  have m355 := st_fr s48 m354 (by decide)
  have m356 := st_fr s57 m355 (by decide)
  have m357 := st_fr s67 m356 (by decide)
  have m358 := st_fr s77 m357 (by decide)
  have m359 := st_fr s87 m358 (by decide)
  have m360 := st_fr s98 m359 (by decide)
  have m361 := st_fr s109 m360 (by decide)
  have m362 := st_fr s120 m361 (by decide)
  have m363 := st_fr s132 m362 (by decide)
  have m364 := st_fr s144 m363 (by decide)
  have m365 := st_fr s156 m364 (by decide)
  have m366 := st_fr s169 m365 (by decide)
  have m367 := st_fr s182 m366 (by decide)
  have m368 := st_fr s195 m367 (by decide)
  have m369 := st_fr s209 m368 (by decide)
  have m370 := st_fr s223 m369 (by decide)
  have m371 := st_fr s237 m370 (by decide)
  have m372 := st_fr s249 m371 (by decide)
  have m373 := st_fr s261 m372 (by decide)
  have m374 := st_fr s273 m373 (by decide)
  have m375 := st_fr s285 m374 (by decide)
  have m376 := st_fr s297 m375 (by decide)
  have m377 := st_fr s309 m376 (by decide)
  have m378 := st_fr s313 m377 (by decide)
  have m379 := st_fr s346 m378 (by decide)
  refine w_this (fun _ => rfl) m379 (w_cv (fun _ => rfl) rfl (w_run k_57344 (w_al (fun _ => rfl) (w_icI (x := 0) rfl (w_putf [.inr (.inl (some 19)), .inl (w_i 0), .inr (.inl (some 20)), .inr (.inl (some 21)), .inl (w_i atp7), .inl (w_i tok7), .inl (w_i flt7), .inr (.inl (some 22)), .inl (w_i wri7)] m379 rfl rfl rfl (fun _ => rfl) (fun h381 s380 => ?_))))))
  have z383 := s380.1
  have z383y := s380.2.1
  have z383w := s380.2.2.2.2 z349w
  refine w_rv ⟨rfl, ?_⟩
  refine w_icI (x := 0) rfl (w_is (fun _ => rfl) (w_il (fun _ => rfl) (w_icI (x := 4) rfl (w_gef (by decide) (by decide) (by decide) (by decide) (by decide)  (w_al (fun _ => rfl) ?_)))))
  have m384 := st_fr s380 s346.2.2.1 (by decide)
  refine w_getf m384 rfl (fun _ => rfl) (w_il (fun _ => rfl) (w_nul ?_))
  have m385 := st_fr s10 m8 (by decide)
  have m386 := st_fr s14 m385 (by decide)
  have m387 := st_fr s18 m386 (by decide)
  have m388 := st_fr s25 m387 (by decide)
  have m389 := st_fr s36 m388 (by decide)
  have m390 := st_fr s48 m389 (by decide)
  have m391 := st_fr s57 m390 (by decide)
  have m392 := st_fr s67 m391 (by decide)
  have m393 := st_fr s77 m392 (by decide)
  have m394 := st_fr s87 m393 (by decide)
  have m395 := st_fr s98 m394 (by decide)
  have m396 := st_fr s109 m395 (by decide)
  have m397 := st_fr s120 m396 (by decide)
  have m398 := st_fr s132 m397 (by decide)
  have m399 := st_fr s144 m398 (by decide)
  have m400 := st_fr s156 m399 (by decide)
  have m401 := st_fr s169 m400 (by decide)
  have m402 := st_fr s182 m401 (by decide)
  have m403 := st_fr s195 m402 (by decide)
  have m404 := st_fr s209 m403 (by decide)
  have m405 := st_fr s223 m404 (by decide)
  have m406 := st_fr s237 m405 (by decide)
  have m407 := st_fr s249 m406 (by decide)
  have m408 := st_fr s261 m407 (by decide)
  have m409 := st_fr s273 m408 (by decide)
  have m410 := st_fr s285 m409 (by decide)
  have m411 := st_fr s297 m410 (by decide)
  have m412 := st_fr s309 m411 (by decide)
  have m413 := st_fr s313 m412 (by decide)
  have m414 := st_fr s346 m413 (by decide)
  have m415 := st_fr s380 m414 (by decide)
  refine w_aastI m415 (by omega) (by omega) (by decide) isC_no (fun h417 s416 => ?_)
  have z418 := set_no (i := 0) (j := (0 : Int).toNat) lp8 ll8 (Or.inl rfl)
  have z419 := s416.1
  have z419y := s416.2.1
  have z419w := s416.2.2.2.2 z383w
  refine w_inc (c := w_i 1) (fun _ => rfl) (by decide +kernel) (fun _ => rfl) (w_go (w_run k_364611 (w_il (fun _ => rfl) (w_icI (x := 4) rfl (w_gef (by decide) (by decide) (by decide) (by decide) (by decide)  (w_al (fun _ => rfl) ?_))))))
  have m420 := st_fr s416 m384 (by decide)
  refine w_getf m420 rfl (fun _ => rfl) (w_il (fun _ => rfl) (w_nul (w_aastI s416.2.2.1 (by omega) (by omega) (by decide) isC_no (fun h422 s421 => ?_))))
  have z423 := set_no (i := 0) (j := (1 : Int).toNat) z418.2 z418.1 (Or.inl rfl)
  have z424 := s421.1
  have z424y := s421.2.1
  have z424w := s421.2.2.2.2 z419w
  refine w_inc (c := w_i 2) (fun _ => rfl) (by decide +kernel) (fun _ => rfl) (w_go (w_run k_364611 (w_il (fun _ => rfl) (w_icI (x := 4) rfl (w_gef (by decide) (by decide) (by decide) (by decide) (by decide)  (w_al (fun _ => rfl) ?_))))))
  have m425 := st_fr s421 m420 (by decide)
  refine w_getf m425 rfl (fun _ => rfl) (w_il (fun _ => rfl) (w_nul (w_aastI s421.2.2.1 (by omega) (by omega) (by decide) isC_no (fun h427 s426 => ?_))))
  have z428 := set_no (i := 0) (j := (2 : Int).toNat) z423.2 z423.1 (Or.inl rfl)
  have z429 := s426.1
  have z429y := s426.2.1
  have z429w := s426.2.2.2.2 z424w
  refine w_inc (c := w_i 3) (fun _ => rfl) (by decide +kernel) (fun _ => rfl) (w_go (w_run k_364611 (w_il (fun _ => rfl) (w_icI (x := 4) rfl (w_gef (by decide) (by decide) (by decide) (by decide) (by decide)  (w_al (fun _ => rfl) ?_))))))
  have m430 := st_fr s426 m425 (by decide)
  refine w_getf m430 rfl (fun _ => rfl) (w_il (fun _ => rfl) (w_nul (w_aastI s426.2.2.1 (by omega) (by omega) (by decide) isC_no (fun h432 s431 => ?_))))
  have z433 := set_no (i := 0) (j := (3 : Int).toNat) z428.2 z428.1 (Or.inl rfl)
  have z434 := s431.1
  have z434y := s431.2.1
  have z434w := s431.2.2.2.2 z429w
  refine w_inc (c := w_i 4) (fun _ => rfl) (by decide +kernel) (fun _ => rfl) (w_go (w_run k_364611 (w_il (fun _ => rfl) (w_icI (x := 4) rfl (w_get (by decide) (by decide) (by decide) (by decide) (by decide)  (w_run k_364631 (w_al (fun _ => rfl) ?_)))))))
  have m435 := st_fr s431 m430 (by decide)
  refine w_getf m435 rfl (fun _ => rfl) ?_
  have m436 := st_fr s10 m6 (by decide)
  have m437 := st_fr s14 m436 (by decide)
  have m438 := st_fr s18 m437 (by decide)
  have m439 := st_fr s25 m438 (by decide)
  have m440 := st_fr s36 m439 (by decide)
  have m441 := st_fr s48 m440 (by decide)
  have m442 := st_fr s57 m441 (by decide)
  have m443 := st_fr s67 m442 (by decide)
  have m444 := st_fr s77 m443 (by decide)
  have m445 := st_fr s87 m444 (by decide)
  have m446 := st_fr s98 m445 (by decide)
  have m447 := st_fr s109 m446 (by decide)
  have m448 := st_fr s120 m447 (by decide)
  have m449 := st_fr s132 m448 (by decide)
  have m450 := st_fr s144 m449 (by decide)
  have m451 := st_fr s156 m450 (by decide)
  have m452 := st_fr s169 m451 (by decide)
  have m453 := st_fr s182 m452 (by decide)
  have m454 := st_fr s195 m453 (by decide)
  have m455 := st_fr s209 m454 (by decide)
  have m456 := st_fr s223 m455 (by decide)
  have m457 := st_fr s237 m456 (by decide)
  have m458 := st_fr s249 m457 (by decide)
  have m459 := st_fr s261 m458 (by decide)
  have m460 := st_fr s273 m459 (by decide)
  have m461 := st_fr s285 m460 (by decide)
  have m462 := st_fr s297 m461 (by decide)
  have m463 := st_fr s309 m462 (by decide)
  have m464 := st_fr s313 m463 (by decide)
  have m465 := st_fr s346 m464 (by decide)
  have m466 := st_fr s380 m465 (by decide)
  have m467 := st_fr s416 m466 (by decide)
  have m468 := st_fr s421 m467 (by decide)
  have m469 := st_fr s426 m468 (by decide)
  have m470 := st_fr s431 m469 (by decide)
  refine w_this (fun _ => rfl) m470 (w_cv (fun _ => rfl) rfl (w_run k_151552 (w_al (fun _ => rfl) (w_icI (x := 0) rfl (w_putf [.inr (.inl (some 1)), .inr (.inl (some 10)), .inl (w_i 0), .inr (.inl (some 11)), .inl (w_i sta6), .inr (.inl (some (g_rw g))), .inl (w_i fnd6), .inr (.inl (some (g_stp g))), .inr (.inl (some (g_ahd g))), .inr (.inl (some (g_cst g))), .inr (.inl (some (g_chp g))), .inl (w_i kco6)] m470 rfl rfl rfl (fun _ => rfl) (fun h472 s471 => ?_))))))
  have z474 := s471.1
  have z474y := s471.2.1
  have z474w := s471.2.2.2.2 z434w
  refine w_al (fun _ => rfl) (w_icI (x := (-1)) wn_1 (w_putf [.inr (.inl (some 1)), .inr (.inl (some 10)), .inl (w_i 0), .inr (.inl (some 11)), .inl (w_i (-1)), .inr (.inl (some (g_rw g))), .inl (w_i fnd6), .inr (.inl (some (g_stp g))), .inr (.inl (some (g_ahd g))), .inr (.inl (some (g_cst g))), .inr (.inl (some (g_chp g))), .inl (w_i kco6)] s471.2.2.1 rfl rfl rfl (fun _ => rfl) (fun h476 s475 => ?_)))
  have z478 := s475.1
  have z478y := s475.2.1
  have z478w := s475.2.2.2.2 z474w
  refine w_rv ⟨rfl, ?_⟩
  refine w_il (fun _ => rfl) (w_ri ?_)
  have F1 := F.1
  have F2 := F.2.1
  have m479 := st_fr s309 s297.2.2.1 (by decide)
  have m480 := st_fr s313 m479 (by decide)
  have m481 := st_fr s346 m480 (by decide)
  have m482 := st_fr s380 m481 (by decide)
  have m483 := st_fr s416 m482 (by decide)
  have m484 := st_fr s421 m483 (by decide)
  have m485 := st_fr s426 m484 (by decide)
  have m486 := st_fr s431 m485 (by decide)
  have m487 := st_fr s471 m486 (by decide)
  have m488 := st_fr s475 m487 (by decide)
  have m489 := st_fr s346 s313.2.2.1 (by decide)
  have m490 := st_fr s380 m489 (by decide)
  have m491 := st_fr s416 m490 (by decide)
  have m492 := st_fr s421 m491 (by decide)
  have m493 := st_fr s426 m492 (by decide)
  have m494 := st_fr s431 m493 (by decide)
  have m495 := st_fr s471 m494 (by decide)
  have m496 := st_fr s475 m495 (by decide)
  have m497 := st_fr s471 s431.2.2.1 (by decide)
  have m498 := st_fr s475 m497 (by decide)
  have hN : ((((1 * c) * c) * c) * c) = w_pw c 4 := by rw [pn_4]
  have gz : g_nt (g_bu g 4 c ((((1 * c) * c) * c) * c) A299) = g_nt g := rfl
  have m499 := st_fr s471 m435 (by decide)
  have m500 := st_fr s475 m499 (by decide)
  have six501 : ∀ j : Int, 0 ≤ j → j < 6 → 0 ≤ a_g A299 j ∧ a_g A299 j ≤ 63 := fun j j0 j1 => by
    rcases (show j = 0 ∨ j = 1 ∨ j = 2 ∨ j = 3 ∨ j = 4 ∨ j = 5 from by omega) with rfl | rfl | rfl | rfl | rfl | rfl
    · rw [q301]; omega
    · rw [q302]; omega
    · rw [q303]; omega
    · rw [q304]; omega
    · rw [q305]; omega
    · rw [q306]; omega
  have m502 := st_fr s223 s209.2.2.1 (by decide)
  have m503 := st_fr s237 m502 (by decide)
  have m504 := st_fr s249 m503 (by decide)
  have m505 := st_fr s261 m504 (by decide)
  have m506 := st_fr s273 m505 (by decide)
  have m507 := st_fr s285 m506 (by decide)
  have m508 := st_fr s297 m507 (by decide)
  have m509 := st_fr s309 m508 (by decide)
  have m510 := st_fr s313 m509 (by decide)
  have m511 := st_fr s346 m510 (by decide)
  have m512 := st_fr s380 m511 (by decide)
  have m513 := st_fr s416 m512 (by decide)
  have m514 := st_fr s421 m513 (by decide)
  have m515 := st_fr s426 m514 (by decide)
  have m516 := st_fr s431 m515 (by decide)
  have m517 := st_fr s471 m516 (by decide)
  have m518 := st_fr s475 m517 (by decide)
  have six519 : ∀ j : Int, 0 ≤ j → j < 6 → 0 ≤ a_g A211 j ∧ a_g A211 j < c := fun j j0 j1 => by
    rcases (show j = 0 ∨ j = 1 ∨ j = 2 ∨ j = 3 ∨ j = 4 ∨ j = 5 from by omega) with rfl | rfl | rfl | rfl | rfl | rfl
    · rw [q213]; omega
    · rw [q214]; omega
    · rw [q215]; omega
    · rw [q216]; omega
    · rw [q217]; omega
    · rw [q218]; omega
  have m520 := st_fr s237 s223.2.2.1 (by decide)
  have m521 := st_fr s249 m520 (by decide)
  have m522 := st_fr s261 m521 (by decide)
  have m523 := st_fr s273 m522 (by decide)
  have m524 := st_fr s285 m523 (by decide)
  have m525 := st_fr s297 m524 (by decide)
  have m526 := st_fr s309 m525 (by decide)
  have m527 := st_fr s313 m526 (by decide)
  have m528 := st_fr s346 m527 (by decide)
  have m529 := st_fr s380 m528 (by decide)
  have m530 := st_fr s416 m529 (by decide)
  have m531 := st_fr s421 m530 (by decide)
  have m532 := st_fr s426 m531 (by decide)
  have m533 := st_fr s431 m532 (by decide)
  have m534 := st_fr s471 m533 (by decide)
  have m535 := st_fr s475 m534 (by decide)
  have m536 := st_fr s416 s380.2.2.1 (by decide)
  have m537 := st_fr s421 m536 (by decide)
  have m538 := st_fr s426 m537 (by decide)
  have m539 := st_fr s431 m538 (by decide)
  have m540 := st_fr s471 m539 (by decide)
  have m541 := st_fr s475 m540 (by decide)
  have ivn := bu_fin (e0 := _) (e1 := _) (e18 := _) (e24 := _) (hh := 4) (c := c) (N := ((((1 * c) * c) * c) * c)) iv (by decide) (by decide) (by omega) (by omega) hN (by omega) z478w (by omega) (fun q n0 n1 n2 n3 n4 n9 n18 n24 => (s475.2.2.2.1 q n9).trans ((s471.2.2.2.1 q n9).trans ((s431.2.2.2.1 q n24).trans ((s426.2.2.2.1 q n24).trans ((s421.2.2.2.1 q n24).trans ((s416.2.2.2.1 q n24).trans ((s380.2.2.2.1 q n18).trans ((s346.2.2.2.1 q n0).trans ((s313.2.2.2.1 q n1).trans ((s309.2.2.2.1 q n1).trans ((s297.2.2.2.1 q n2).trans ((s285.2.2.2.1 q n2).trans ((s273.2.2.2.1 q n2).trans ((s261.2.2.2.1 q n2).trans ((s249.2.2.2.1 q n2).trans ((s237.2.2.2.1 q n2).trans ((s223.2.2.2.1 q n4).trans ((s209.2.2.2.1 q n3).trans ((s195.2.2.2.1 q n2).trans ((s182.2.2.2.1 q n4).trans ((s169.2.2.2.1 q n3).trans ((s156.2.2.2.1 q n2).trans ((s144.2.2.2.1 q n4).trans ((s132.2.2.2.1 q n3).trans ((s120.2.2.2.1 q n2).trans ((s109.2.2.2.1 q n4).trans ((s98.2.2.2.1 q n3).trans ((s87.2.2.2.1 q n2).trans ((s77.2.2.2.1 q n4).trans ((s67.2.2.2.1 q n3).trans ((s57.2.2.2.1 q n2).trans ((s48.2.2.2.1 q n4).trans ((s36.2.2.2.1 q n3).trans ((s25.2.2.2.1 q n2).trans ((s18.2.2.2.1 q n1).trans ((s14.2.2.2.1 q n1).trans ((s10.2.2.2.1 q n1).trans (rfl)))))))))))))))))))))))))))))))))))))) m500 rfl m496 ⟨_, _, _, rfl, by omega, by omega, by omega, by omega, by omega, by omega, by omega, by omega⟩ m488 six501 m518 six519 ⟨_, m535⟩ s475.2.2.1 ⟨by omega, by omega, by omega, by omega, by omega, by omega⟩ m541 ⟨_, _, _, _, _, rfl, by omega, by omega, by omega, by omega, by omega, by omega, by omega, by omega, by omega, by omega, by omega, by omega, by omega, by omega, by omega, by omega, by omega⟩ m498 ⟨_, rfl, z433.1, z433.2⟩
  exact k0 _ (g_bu g 4 c ((((1 * c) * c) * c) * c) A299) o h476 ivn ch_gbu oe_rf (by omega) (by omega) rfl ⟨by decide, by decide, by omega, by omega, by omega⟩ ⟨rfl, rfl⟩
