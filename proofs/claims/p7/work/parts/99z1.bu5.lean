set_option maxHeartbeats 40000000 in
theorem c_buildK5 {g : w_G} {o : w_O} {h : m_H} {d : Nat} {Q : Option m_V → m_H → Prop} (iv : w_Inv g o h) {c : Int} (c_lo : -2147483648 ≤ c) (c_hi : c ≤ 2147483647) (c0_ : 2 ≤ c) (c1_ : c ≤ 5) (N_ : w_pw c 5 ≤ 4096) (k0 : ∀ (x : Int) (g2 : w_G) (o2 : w_O) (h2 : m_H), w_Inv g2 o2 h2 → w_ch [0, 1, 2, 5] [0] g g2 → w_oe o o2 → h2.1 ≤ h.1 + 3 → h2.2.1 ≤ h.2.1 + 200 → x = g_H g → w_okB 5 c → (g_H g2 = 5 ∧ g_C g2 = c) → Q (some (.inl (w_i x))) h2) : wp (d + 3) 364579 [.inr (.inl (some 0)), .inl (w_i 5), .inl (w_i c), .inr (.inr (.inl 0)), .inr (.inr (.inl 0))] [] h Q := by
  have F := fr_rf (o := o) (h := h) (W := [0])
  have W := iv_wc iv
  have Wo := iv_wo iv
  refine w_run k_364579 (w_al (fun _ => rfl) ?_)
  obtain ⟨_, m1, rfl⟩ := iv_0 iv
  refine w_getf m1 rfl (fun _ => rfl) ?_
  obtain ⟨_, m2, kp2, sp2, rl2, rfl, l2_kp, u2_kp, l2_sp, u2_sp, l2_rl, u2_rl, f2_0, f2_1⟩ := iv_1 iv
  refine w_getf m2 rfl (fun _ => rfl) (w_is (fun _ => rfl) ?_)
  obtain ⟨_, m3, A3, rfl, e3⟩ := iv_2 iv
  obtain ⟨_, m4, A4, rfl, e4⟩ := iv_3 iv
  obtain ⟨_, m5, A5, rfl⟩ := iv_4 iv
  obtain ⟨_, m6, kpr6, sta6, fnd6, kco6, rfl, l6_kpr, u6_kpr, l6_sta, u6_sta, l6_fnd, u6_fnd, l6_kco, u6_kco, f6_0, f6_1, f6_2, f6_3, f6_4, f6_5, f6_6⟩ := iv_9 iv
  obtain ⟨_, m7, siz7, atp7, tok7, flt7, wri7, rfl, l7_siz, u7_siz, l7_atp, u7_atp, l7_tok, u7_tok, l7_flt, u7_flt, l7_wri, u7_wri, f7_0, f7_1, f7_2, f7_3, f7_4, f7_5, f7_6⟩ := iv_18 iv
  obtain ⟨_, m8, l8, rfl, ll8, lp8⟩ := iv_24 iv
  have z9 := iv.2.2.2.2.1
  have z9w := iv.1
  refine w_al (fun _ => rfl) (w_getf m1 rfl (fun _ => rfl) (w_il (fun _ => rfl) (w_il (fun _ => rfl) (w_this (fun _ => rfl) m2 (w_cv (fun _ => rfl) rfl (w_run k_315392 (w_al (fun _ => rfl) (w_il (fun _ => rfl) (w_putf [.inl (w_i 5), .inl (w_i (g_C g)), .inl (w_i (g_N g)), .inr (.inl (some 2)), .inr (.inl (some 3)), .inr (.inl (some 4)), .inl (w_i kp2), .inl (w_i sp2), .inl (w_i rl2)] m2 rfl rfl rfl (fun _ => rfl) (fun h11 s10 => ?_))))))))))
  have z13 := s10.1
  have z13y := s10.2.1
  have z13w := s10.2.2.2.2 z9w
  refine w_al (fun _ => rfl) (w_il (fun _ => rfl) (w_putf [.inl (w_i 5), .inl (w_i c), .inl (w_i (g_N g)), .inr (.inl (some 2)), .inr (.inl (some 3)), .inr (.inl (some 4)), .inl (w_i kp2), .inl (w_i sp2), .inl (w_i rl2)] s10.2.2.1 rfl rfl rfl (fun _ => rfl) (fun h15 s14 => ?_)))
  have z17 := s14.1
  have z17y := s14.2.1
  have z17w := s14.2.2.2.2 z13w
  refine w_al (fun _ => rfl) (w_il (fun _ => rfl) (w_il (fun _ => rfl) (w_ca (fun _ => rfl) rfl (w_run k_507904 (w_icI (x := 1) rfl (w_is (fun _ => rfl) (w_icI (x := 0) rfl (w_is (fun _ => rfl) (w_il (fun _ => rfl) (w_il (fun _ => rfl) (w_gef (by decide) (by decide) (by decide) (by decide) (by decide)  (w_il (fun _ => rfl) (w_il (fun _ => rfl) (w_op (c := w_i (1 * c)) (i_mul 1 c) (w_is (fun _ => rfl) (w_inc (c := w_i 1) (fun _ => rfl) (by decide +kernel) (fun _ => rfl) (w_go (w_run k_507908 (w_il (fun _ => rfl) (w_il (fun _ => rfl) (w_gef (by decide) (by decide) (by decide) (by decide) (by decide)  (w_il (fun _ => rfl) (w_il (fun _ => rfl) (w_op (c := w_i ((1 * c) * c)) (i_mul (1 * c) c) (w_is (fun _ => rfl) (w_inc (c := w_i 2) (fun _ => rfl) (by decide +kernel) (fun _ => rfl) (w_go (w_run k_507908 (w_il (fun _ => rfl) (w_il (fun _ => rfl) (w_gef (by decide) (by decide) (by decide) (by decide) (by decide)  (w_il (fun _ => rfl) (w_il (fun _ => rfl) (w_op (c := w_i (((1 * c) * c) * c)) (i_mul ((1 * c) * c) c) (w_is (fun _ => rfl) (w_inc (c := w_i 3) (fun _ => rfl) (by decide +kernel) (fun _ => rfl) (w_go (w_run k_507908 (w_il (fun _ => rfl) (w_il (fun _ => rfl) (w_gef (by decide) (by decide) (by decide) (by decide) (by decide)  (w_il (fun _ => rfl) (w_il (fun _ => rfl) (w_op (c := w_i ((((1 * c) * c) * c) * c)) (i_mul (((1 * c) * c) * c) c) (w_is (fun _ => rfl) (w_inc (c := w_i 4) (fun _ => rfl) (by decide +kernel) (fun _ => rfl) (w_go (w_run k_507908 (w_il (fun _ => rfl) (w_il (fun _ => rfl) (w_gef (by decide) (by decide) (by decide) (by decide) (by decide)  (w_il (fun _ => rfl) (w_il (fun _ => rfl) (w_op (c := w_i (((((1 * c) * c) * c) * c) * c)) (i_mul ((((1 * c) * c) * c) * c) c) (w_is (fun _ => rfl) (w_inc (c := w_i 5) (fun _ => rfl) (by decide +kernel) (fun _ => rfl) (w_go (w_run k_507908 (w_il (fun _ => rfl) (w_il (fun _ => rfl) (w_get (by decide) (by decide) (by decide) (by decide) (by decide)  (w_run k_507923 (w_il (fun _ => rfl) (w_ri ⟨_, rfl, ?_⟩))))))))))))))))))))))))))))))))))))))))))))))))))))))))))))))))
  refine w_putf [.inl (w_i 5), .inl (w_i c), .inl (w_i (((((1 * c) * c) * c) * c) * c)), .inr (.inl (some 2)), .inr (.inl (some 3)), .inr (.inl (some 4)), .inl (w_i kp2), .inl (w_i sp2), .inl (w_i rl2)] s14.2.2.1 rfl rfl rfl (fun _ => rfl) (fun h19 s18 => ?_)
  have z21 := s18.1
  have z21y := s18.2.1
  have z21w := s18.2.2.2.2 z17w
  refine w_icI (x := 0) rfl (w_is (fun _ => rfl) (w_il (fun _ => rfl) (w_icI (x := 6) rfl (w_gef (by decide) (by decide) (by decide) (by decide) (by decide)  (w_al (fun _ => rfl) (w_getf s18.2.2.1 rfl (fun _ => rfl) (w_il (fun _ => rfl) (w_icI (x := 0) rfl ?_))))))))
  have m22 := st_fr s10 m3 (by decide)
  have m23 := st_fr s14 m22 (by decide)
  have m24 := st_fr s18 m23 (by decide)
  refine w_astI m24 (by decide) (by decide) (by decide) (by decide) (by decide) (fun A27 h26 w28 s25 => ?_)
  have q29 : a_g A27 0 = 0 := (w28 0 (by decide) (by decide)).trans (if_pos rfl)
  have z30 := s25.1
  have z30y := s25.2.1
  have z30w := s25.2.2.2.2 z21w
  refine w_al (fun _ => rfl) ?_
  have m31 := st_fr s25 s18.2.2.1 (by decide)
  refine w_getf m31 rfl (fun _ => rfl) (w_il (fun _ => rfl) (w_il (fun _ => rfl) (w_icI (x := 2) rfl (w_opz (c := w_i 0) (by decide +kernel) (by decide +kernel) ?_))))
  have m32 := st_fr s10 m4 (by decide)
  have m33 := st_fr s14 m32 (by decide)
  have m34 := st_fr s18 m33 (by decide)
  have m35 := st_fr s25 m34 (by decide)
  refine w_astI m35 (by decide) (by decide) (by decide) (by decide) (by decide) (fun A38 h37 w39 s36 => ?_)
  have q40 : a_g A38 0 = 0 := (w39 0 (by decide) (by decide)).trans (if_pos rfl)
  have z41 := s36.1
  have z41y := s36.2.1
  have z41w := s36.2.2.2.2 z30w
  refine w_al (fun _ => rfl) ?_
  have m42 := st_fr s36 m31 (by decide)
  refine w_getf m42 rfl (fun _ => rfl) (w_il (fun _ => rfl) (w_icI (x := (-1)) wn_1 ?_))
  have m43 := st_fr s10 m5 (by decide)
  have m44 := st_fr s14 m43 (by decide)
  have m45 := st_fr s18 m44 (by decide)
  have m46 := st_fr s25 m45 (by decide)
  have m47 := st_fr s36 m46 (by decide)
  refine w_astI m47 (by decide) (by decide) (by decide) (by decide) (by decide) (fun A50 h49 w51 s48 => ?_)
  have q52 : a_g A50 0 = (-1) := (w51 0 (by decide) (by decide)).trans (if_pos rfl)
  have z53 := s48.1
  have z53y := s48.2.1
  have z53w := s48.2.2.2.2 z41w
  refine w_inc (c := w_i 1) (fun _ => rfl) (by decide +kernel) (fun _ => rfl) (w_go (w_run k_315413 (w_il (fun _ => rfl) (w_icI (x := 6) rfl (w_gef (by decide) (by decide) (by decide) (by decide) (by decide)  (w_al (fun _ => rfl) ?_))))))
  have m54 := st_fr s48 m42 (by decide)
  refine w_getf m54 rfl (fun _ => rfl) (w_il (fun _ => rfl) (w_icI (x := 0) rfl ?_))
  have m55 := st_fr s36 s25.2.2.1 (by decide)
  have m56 := st_fr s48 m55 (by decide)
  refine w_astI m56 (by decide) (by decide) (by decide) (by decide) (by decide) (fun A59 h58 w60 s57 => ?_)
  have q61 : a_g A59 0 = 0 := ((w60 0 (by decide) (by decide)).trans (if_neg (by decide))).trans q29
  have q62 : a_g A59 1 = 0 := (w60 1 (by decide) (by decide)).trans (if_pos rfl)
  have z63 := s57.1
  have z63y := s57.2.1
  have z63w := s57.2.2.2.2 z53w
  refine w_al (fun _ => rfl) ?_
  have m64 := st_fr s57 m54 (by decide)
  refine w_getf m64 rfl (fun _ => rfl) (w_il (fun _ => rfl) (w_il (fun _ => rfl) (w_icI (x := 2) rfl (w_opz (c := w_i 1) (by decide +kernel) (by decide +kernel) ?_))))
  have m65 := st_fr s48 s36.2.2.1 (by decide)
  have m66 := st_fr s57 m65 (by decide)
  refine w_astI m66 (by decide) (by decide) (by decide) (by decide) (by decide) (fun A69 h68 w70 s67 => ?_)
  have q71 : a_g A69 0 = 0 := ((w70 0 (by decide) (by decide)).trans (if_neg (by decide))).trans q40
  have q72 : a_g A69 1 = 1 := (w70 1 (by decide) (by decide)).trans (if_pos rfl)
  have z73 := s67.1
  have z73y := s67.2.1
  have z73w := s67.2.2.2.2 z63w
  refine w_al (fun _ => rfl) ?_
  have m74 := st_fr s67 m64 (by decide)
  refine w_getf m74 rfl (fun _ => rfl) (w_il (fun _ => rfl) (w_icI (x := (-1)) wn_1 ?_))
  have m75 := st_fr s57 s48.2.2.1 (by decide)
  have m76 := st_fr s67 m75 (by decide)
  refine w_astI m76 (by decide) (by decide) (by decide) (by decide) (by decide) (fun A79 h78 w80 s77 => ?_)
  have q81 : a_g A79 0 = (-1) := ((w80 0 (by decide) (by decide)).trans (if_neg (by decide))).trans q52
  have q82 : a_g A79 1 = (-1) := (w80 1 (by decide) (by decide)).trans (if_pos rfl)
  have z83 := s77.1
  have z83y := s77.2.1
  have z83w := s77.2.2.2.2 z73w
  refine w_inc (c := w_i 2) (fun _ => rfl) (by decide +kernel) (fun _ => rfl) (w_go (w_run k_315413 (w_il (fun _ => rfl) (w_icI (x := 6) rfl (w_gef (by decide) (by decide) (by decide) (by decide) (by decide)  (w_al (fun _ => rfl) ?_))))))
  have m84 := st_fr s77 m74 (by decide)
  refine w_getf m84 rfl (fun _ => rfl) (w_il (fun _ => rfl) (w_icI (x := 0) rfl ?_))
  have m85 := st_fr s67 s57.2.2.1 (by decide)
  have m86 := st_fr s77 m85 (by decide)
  refine w_astI m86 (by decide) (by decide) (by decide) (by decide) (by decide) (fun A89 h88 w90 s87 => ?_)
  have q91 : a_g A89 0 = 0 := ((w90 0 (by decide) (by decide)).trans (if_neg (by decide))).trans q61
  have q92 : a_g A89 1 = 0 := ((w90 1 (by decide) (by decide)).trans (if_neg (by decide))).trans q62
  have q93 : a_g A89 2 = 0 := (w90 2 (by decide) (by decide)).trans (if_pos rfl)
  have z94 := s87.1
  have z94y := s87.2.1
  have z94w := s87.2.2.2.2 z83w
  refine w_al (fun _ => rfl) ?_
  have m95 := st_fr s87 m84 (by decide)
  refine w_getf m95 rfl (fun _ => rfl) (w_il (fun _ => rfl) (w_il (fun _ => rfl) (w_icI (x := 2) rfl (w_opz (c := w_i 0) (by decide +kernel) (by decide +kernel) ?_))))
  have m96 := st_fr s77 s67.2.2.1 (by decide)
  have m97 := st_fr s87 m96 (by decide)
  refine w_astI m97 (by decide) (by decide) (by decide) (by decide) (by decide) (fun A100 h99 w101 s98 => ?_)
  have q102 : a_g A100 0 = 0 := ((w101 0 (by decide) (by decide)).trans (if_neg (by decide))).trans q71
  have q103 : a_g A100 1 = 1 := ((w101 1 (by decide) (by decide)).trans (if_neg (by decide))).trans q72
  have q104 : a_g A100 2 = 0 := (w101 2 (by decide) (by decide)).trans (if_pos rfl)
  have z105 := s98.1
  have z105y := s98.2.1
  have z105w := s98.2.2.2.2 z94w
  refine w_al (fun _ => rfl) ?_
  have m106 := st_fr s98 m95 (by decide)
  refine w_getf m106 rfl (fun _ => rfl) (w_il (fun _ => rfl) (w_icI (x := (-1)) wn_1 ?_))
  have m107 := st_fr s87 s77.2.2.1 (by decide)
  have m108 := st_fr s98 m107 (by decide)
  refine w_astI m108 (by decide) (by decide) (by decide) (by decide) (by decide) (fun A111 h110 w112 s109 => ?_)
  have q113 : a_g A111 0 = (-1) := ((w112 0 (by decide) (by decide)).trans (if_neg (by decide))).trans q81
  have q114 : a_g A111 1 = (-1) := ((w112 1 (by decide) (by decide)).trans (if_neg (by decide))).trans q82
  have q115 : a_g A111 2 = (-1) := (w112 2 (by decide) (by decide)).trans (if_pos rfl)
  have z116 := s109.1
  have z116y := s109.2.1
  have z116w := s109.2.2.2.2 z105w
  refine w_inc (c := w_i 3) (fun _ => rfl) (by decide +kernel) (fun _ => rfl) (w_go (w_run k_315413 (w_il (fun _ => rfl) (w_icI (x := 6) rfl (w_gef (by decide) (by decide) (by decide) (by decide) (by decide)  (w_al (fun _ => rfl) ?_))))))
  have m117 := st_fr s109 m106 (by decide)
  refine w_getf m117 rfl (fun _ => rfl) (w_il (fun _ => rfl) (w_icI (x := 0) rfl ?_))
  have m118 := st_fr s98 s87.2.2.1 (by decide)
  have m119 := st_fr s109 m118 (by decide)
  refine w_astI m119 (by decide) (by decide) (by decide) (by decide) (by decide) (fun A122 h121 w123 s120 => ?_)
  have q124 : a_g A122 0 = 0 := ((w123 0 (by decide) (by decide)).trans (if_neg (by decide))).trans q91
  have q125 : a_g A122 1 = 0 := ((w123 1 (by decide) (by decide)).trans (if_neg (by decide))).trans q92
  have q126 : a_g A122 2 = 0 := ((w123 2 (by decide) (by decide)).trans (if_neg (by decide))).trans q93
  have q127 : a_g A122 3 = 0 := (w123 3 (by decide) (by decide)).trans (if_pos rfl)
  have z128 := s120.1
  have z128y := s120.2.1
  have z128w := s120.2.2.2.2 z116w
  refine w_al (fun _ => rfl) ?_
  have m129 := st_fr s120 m117 (by decide)
  refine w_getf m129 rfl (fun _ => rfl) (w_il (fun _ => rfl) (w_il (fun _ => rfl) (w_icI (x := 2) rfl (w_opz (c := w_i 1) (by decide +kernel) (by decide +kernel) ?_))))
  have m130 := st_fr s109 s98.2.2.1 (by decide)
  have m131 := st_fr s120 m130 (by decide)
  refine w_astI m131 (by decide) (by decide) (by decide) (by decide) (by decide) (fun A134 h133 w135 s132 => ?_)
  have q136 : a_g A134 0 = 0 := ((w135 0 (by decide) (by decide)).trans (if_neg (by decide))).trans q102
  have q137 : a_g A134 1 = 1 := ((w135 1 (by decide) (by decide)).trans (if_neg (by decide))).trans q103
  have q138 : a_g A134 2 = 0 := ((w135 2 (by decide) (by decide)).trans (if_neg (by decide))).trans q104
  have q139 : a_g A134 3 = 1 := (w135 3 (by decide) (by decide)).trans (if_pos rfl)
  have z140 := s132.1
  have z140y := s132.2.1
  have z140w := s132.2.2.2.2 z128w
  refine w_al (fun _ => rfl) ?_
  have m141 := st_fr s132 m129 (by decide)
  refine w_getf m141 rfl (fun _ => rfl) (w_il (fun _ => rfl) (w_icI (x := (-1)) wn_1 ?_))
  have m142 := st_fr s120 s109.2.2.1 (by decide)
  have m143 := st_fr s132 m142 (by decide)
  refine w_astI m143 (by decide) (by decide) (by decide) (by decide) (by decide) (fun A146 h145 w147 s144 => ?_)
  have q148 : a_g A146 0 = (-1) := ((w147 0 (by decide) (by decide)).trans (if_neg (by decide))).trans q113
  have q149 : a_g A146 1 = (-1) := ((w147 1 (by decide) (by decide)).trans (if_neg (by decide))).trans q114
  have q150 : a_g A146 2 = (-1) := ((w147 2 (by decide) (by decide)).trans (if_neg (by decide))).trans q115
  have q151 : a_g A146 3 = (-1) := (w147 3 (by decide) (by decide)).trans (if_pos rfl)
  have z152 := s144.1
  have z152y := s144.2.1
  have z152w := s144.2.2.2.2 z140w
  refine w_inc (c := w_i 4) (fun _ => rfl) (by decide +kernel) (fun _ => rfl) (w_go (w_run k_315413 (w_il (fun _ => rfl) (w_icI (x := 6) rfl (w_gef (by decide) (by decide) (by decide) (by decide) (by decide)  (w_al (fun _ => rfl) ?_))))))
  have m153 := st_fr s144 m141 (by decide)
  refine w_getf m153 rfl (fun _ => rfl) (w_il (fun _ => rfl) (w_icI (x := 0) rfl ?_))
  have m154 := st_fr s132 s120.2.2.1 (by decide)
  have m155 := st_fr s144 m154 (by decide)
  refine w_astI m155 (by decide) (by decide) (by decide) (by decide) (by decide) (fun A158 h157 w159 s156 => ?_)
  have q160 : a_g A158 0 = 0 := ((w159 0 (by decide) (by decide)).trans (if_neg (by decide))).trans q124
  have q161 : a_g A158 1 = 0 := ((w159 1 (by decide) (by decide)).trans (if_neg (by decide))).trans q125
  have q162 : a_g A158 2 = 0 := ((w159 2 (by decide) (by decide)).trans (if_neg (by decide))).trans q126
  have q163 : a_g A158 3 = 0 := ((w159 3 (by decide) (by decide)).trans (if_neg (by decide))).trans q127
  have q164 : a_g A158 4 = 0 := (w159 4 (by decide) (by decide)).trans (if_pos rfl)
  have z165 := s156.1
  have z165y := s156.2.1
  have z165w := s156.2.2.2.2 z152w
  refine w_al (fun _ => rfl) ?_
  have m166 := st_fr s156 m153 (by decide)
  refine w_getf m166 rfl (fun _ => rfl) (w_il (fun _ => rfl) (w_il (fun _ => rfl) (w_icI (x := 2) rfl (w_opz (c := w_i 0) (by decide +kernel) (by decide +kernel) ?_))))
  have m167 := st_fr s144 s132.2.2.1 (by decide)
  have m168 := st_fr s156 m167 (by decide)
  refine w_astI m168 (by decide) (by decide) (by decide) (by decide) (by decide) (fun A171 h170 w172 s169 => ?_)
  have q173 : a_g A171 0 = 0 := ((w172 0 (by decide) (by decide)).trans (if_neg (by decide))).trans q136
  have q174 : a_g A171 1 = 1 := ((w172 1 (by decide) (by decide)).trans (if_neg (by decide))).trans q137
  have q175 : a_g A171 2 = 0 := ((w172 2 (by decide) (by decide)).trans (if_neg (by decide))).trans q138
  have q176 : a_g A171 3 = 1 := ((w172 3 (by decide) (by decide)).trans (if_neg (by decide))).trans q139
  have q177 : a_g A171 4 = 0 := (w172 4 (by decide) (by decide)).trans (if_pos rfl)
  have z178 := s169.1
  have z178y := s169.2.1
  have z178w := s169.2.2.2.2 z165w
  refine w_al (fun _ => rfl) ?_
  have m179 := st_fr s169 m166 (by decide)
  refine w_getf m179 rfl (fun _ => rfl) (w_il (fun _ => rfl) (w_icI (x := (-1)) wn_1 ?_))
  have m180 := st_fr s156 s144.2.2.1 (by decide)
  have m181 := st_fr s169 m180 (by decide)
  refine w_astI m181 (by decide) (by decide) (by decide) (by decide) (by decide) (fun A184 h183 w185 s182 => ?_)
  have q186 : a_g A184 0 = (-1) := ((w185 0 (by decide) (by decide)).trans (if_neg (by decide))).trans q148
  have q187 : a_g A184 1 = (-1) := ((w185 1 (by decide) (by decide)).trans (if_neg (by decide))).trans q149
  have q188 : a_g A184 2 = (-1) := ((w185 2 (by decide) (by decide)).trans (if_neg (by decide))).trans q150
  have q189 : a_g A184 3 = (-1) := ((w185 3 (by decide) (by decide)).trans (if_neg (by decide))).trans q151
  have q190 : a_g A184 4 = (-1) := (w185 4 (by decide) (by decide)).trans (if_pos rfl)
  have z191 := s182.1
  have z191y := s182.2.1
  have z191w := s182.2.2.2.2 z178w
  refine w_inc (c := w_i 5) (fun _ => rfl) (by decide +kernel) (fun _ => rfl) (w_go (w_run k_315413 (w_il (fun _ => rfl) (w_icI (x := 6) rfl (w_gef (by decide) (by decide) (by decide) (by decide) (by decide)  (w_al (fun _ => rfl) ?_))))))
  have m192 := st_fr s182 m179 (by decide)
  refine w_getf m192 rfl (fun _ => rfl) (w_il (fun _ => rfl) (w_icI (x := 0) rfl ?_))
  have m193 := st_fr s169 s156.2.2.1 (by decide)
  have m194 := st_fr s182 m193 (by decide)
  refine w_astI m194 (by decide) (by decide) (by decide) (by decide) (by decide) (fun A197 h196 w198 s195 => ?_)
  have q199 : a_g A197 0 = 0 := ((w198 0 (by decide) (by decide)).trans (if_neg (by decide))).trans q160
  have q200 : a_g A197 1 = 0 := ((w198 1 (by decide) (by decide)).trans (if_neg (by decide))).trans q161
  have q201 : a_g A197 2 = 0 := ((w198 2 (by decide) (by decide)).trans (if_neg (by decide))).trans q162
  have q202 : a_g A197 3 = 0 := ((w198 3 (by decide) (by decide)).trans (if_neg (by decide))).trans q163
  have q203 : a_g A197 4 = 0 := ((w198 4 (by decide) (by decide)).trans (if_neg (by decide))).trans q164
  have q204 : a_g A197 5 = 0 := (w198 5 (by decide) (by decide)).trans (if_pos rfl)
  have z205 := s195.1
  have z205y := s195.2.1
  have z205w := s195.2.2.2.2 z191w
  refine w_al (fun _ => rfl) ?_
  have m206 := st_fr s195 m192 (by decide)
  refine w_getf m206 rfl (fun _ => rfl) (w_il (fun _ => rfl) (w_il (fun _ => rfl) (w_icI (x := 2) rfl (w_opz (c := w_i 1) (by decide +kernel) (by decide +kernel) ?_))))
  have m207 := st_fr s182 s169.2.2.1 (by decide)
  have m208 := st_fr s195 m207 (by decide)
  refine w_astI m208 (by decide) (by decide) (by decide) (by decide) (by decide) (fun A211 h210 w212 s209 => ?_)
  have q213 : a_g A211 0 = 0 := ((w212 0 (by decide) (by decide)).trans (if_neg (by decide))).trans q173
  have q214 : a_g A211 1 = 1 := ((w212 1 (by decide) (by decide)).trans (if_neg (by decide))).trans q174
  have q215 : a_g A211 2 = 0 := ((w212 2 (by decide) (by decide)).trans (if_neg (by decide))).trans q175
  have q216 : a_g A211 3 = 1 := ((w212 3 (by decide) (by decide)).trans (if_neg (by decide))).trans q176
  have q217 : a_g A211 4 = 0 := ((w212 4 (by decide) (by decide)).trans (if_neg (by decide))).trans q177
  have q218 : a_g A211 5 = 1 := (w212 5 (by decide) (by decide)).trans (if_pos rfl)
  have z219 := s209.1
  have z219y := s209.2.1
  have z219w := s209.2.2.2.2 z205w
  refine w_al (fun _ => rfl) ?_
  have m220 := st_fr s209 m206 (by decide)
  refine w_getf m220 rfl (fun _ => rfl) (w_il (fun _ => rfl) (w_icI (x := (-1)) wn_1 ?_))
  have m221 := st_fr s195 s182.2.2.1 (by decide)
  have m222 := st_fr s209 m221 (by decide)
  refine w_astI m222 (by decide) (by decide) (by decide) (by decide) (by decide) (fun A225 h224 w226 s223 => ?_)
  have q227 : a_g A225 0 = (-1) := ((w226 0 (by decide) (by decide)).trans (if_neg (by decide))).trans q186
  have q228 : a_g A225 1 = (-1) := ((w226 1 (by decide) (by decide)).trans (if_neg (by decide))).trans q187
  have q229 : a_g A225 2 = (-1) := ((w226 2 (by decide) (by decide)).trans (if_neg (by decide))).trans q188
  have q230 : a_g A225 3 = (-1) := ((w226 3 (by decide) (by decide)).trans (if_neg (by decide))).trans q189
  have q231 : a_g A225 4 = (-1) := ((w226 4 (by decide) (by decide)).trans (if_neg (by decide))).trans q190
  have q232 : a_g A225 5 = (-1) := (w226 5 (by decide) (by decide)).trans (if_pos rfl)
  have z233 := s223.1
  have z233y := s223.2.1
  have z233w := s223.2.2.2.2 z219w
  refine w_inc (c := w_i 6) (fun _ => rfl) (by decide +kernel) (fun _ => rfl) (w_go (w_run k_315413 (w_il (fun _ => rfl) (w_icI (x := 6) rfl (w_get (by decide) (by decide) (by decide) (by decide) (by decide)  (w_run k_315448 (w_icI (x := 0) rfl (w_is (fun _ => rfl) (w_il (fun _ => rfl) (w_icI (x := 1) rfl (w_op (c := w_i 1) (by decide +kernel) (w_il (fun _ => rfl) (w_gef (by decide) (by decide) (by decide) (by decide) (by decide)  (w_al (fun _ => rfl) (w_il (fun _ => rfl) (w_il (fun _ => rfl) (w_icI (x := 1) rfl (w_op (c := w_i 1) (by decide +kernel) (w_icI (x := 1) rfl ?_)))))))))))))))))))
  have m234 := st_fr s223 m220 (by decide)
  refine w_this (fun _ => rfl) m234 (w_cv (fun _ => rfl) rfl (w_run k_323584 (w_al (fun _ => rfl) (w_getf m234 rfl (fun _ => rfl) (w_il (fun _ => rfl) (w_al (fun _ => rfl) (w_getf m234 rfl (fun _ => rfl) (w_il (fun _ => rfl) ?_))))))))
  have m235 := st_fr s209 s195.2.2.1 (by decide)
  have m236 := st_fr s223 m235 (by decide)
  refine w_aldI m236 (by decide) (by decide) (by decide) ?_
  rw [q199]
  refine w_icI (x := 1) rfl (w_il (fun _ => rfl) (w_op (c := w_i 2) (by decide +kernel) (w_icI (x := (-1)) wn_1 (w_op (c := w_i (-3)) (by decide +kernel) (w_op (c := w_i 0) (by decide +kernel) (w_il (fun _ => rfl) (w_eqzf (by decide) (by decide) (by decide)  (w_icI (x := 1) rfl (w_il (fun _ => rfl) (w_op (c := w_i 2) (by decide +kernel) (w_go (w_run k_323612 (w_op (c := w_i 2) (by decide +kernel) (w_astI m236 (by decide) (by decide) (by decide) (by decide) (by decide) (fun A239 h238 w240 s237 => ?_)))))))))))))))
  have q241 : a_g A239 0 = 2 := (w240 0 (by decide) (by decide)).trans (if_pos rfl)
  have q242 : a_g A239 1 = 0 := ((w240 1 (by decide) (by decide)).trans (if_neg (by decide))).trans q200
  have q243 : a_g A239 2 = 0 := ((w240 2 (by decide) (by decide)).trans (if_neg (by decide))).trans q201
  have q244 : a_g A239 3 = 0 := ((w240 3 (by decide) (by decide)).trans (if_neg (by decide))).trans q202
  have q245 : a_g A239 4 = 0 := ((w240 4 (by decide) (by decide)).trans (if_neg (by decide))).trans q203
  have q246 : a_g A239 5 = 0 := ((w240 5 (by decide) (by decide)).trans (if_neg (by decide))).trans q204
  have z247 := s237.1
  have z247y := s237.2.1
  have z247w := s237.2.2.2.2 z233w
  refine w_al (fun _ => rfl) ?_
  have m248 := st_fr s237 m234 (by decide)
  refine w_getf m248 rfl (fun _ => rfl) (w_il (fun _ => rfl) (w_al (fun _ => rfl) (w_getf m248 rfl (fun _ => rfl) (w_il (fun _ => rfl) (w_aldI s237.2.2.1 (by decide) (by decide) (by decide) ?_)))))
  rw [q242]
  refine w_icI (x := 1) rfl (w_il (fun _ => rfl) (w_op (c := w_i 1) (by decide +kernel) (w_icI (x := (-1)) wn_1 (w_op (c := w_i (-2)) (by decide +kernel) (w_op (c := w_i 0) (by decide +kernel) (w_il (fun _ => rfl) (w_eqzf (by decide) (by decide) (by decide)  (w_icI (x := 1) rfl (w_il (fun _ => rfl) (w_op (c := w_i 1) (by decide +kernel) (w_go (w_run k_323642 (w_op (c := w_i 1) (by decide +kernel) (w_astI s237.2.2.1 (by decide) (by decide) (by decide) (by decide) (by decide) (fun A251 h250 w252 s249 => ?_)))))))))))))))
  have q253 : a_g A251 0 = 2 := ((w252 0 (by decide) (by decide)).trans (if_neg (by decide))).trans q241
  have q254 : a_g A251 1 = 1 := (w252 1 (by decide) (by decide)).trans (if_pos rfl)
  have q255 : a_g A251 2 = 0 := ((w252 2 (by decide) (by decide)).trans (if_neg (by decide))).trans q243
  have q256 : a_g A251 3 = 0 := ((w252 3 (by decide) (by decide)).trans (if_neg (by decide))).trans q244
  have q257 : a_g A251 4 = 0 := ((w252 4 (by decide) (by decide)).trans (if_neg (by decide))).trans q245
  have q258 : a_g A251 5 = 0 := ((w252 5 (by decide) (by decide)).trans (if_neg (by decide))).trans q246
  have z259 := s249.1
  have z259y := s249.2.1
  have z259w := s249.2.2.2.2 z247w
  refine w_rv ⟨rfl, ?_⟩
  refine w_inc (c := w_i 1) (fun _ => rfl) (by decide +kernel) (fun _ => rfl) (w_go (w_run k_315450 (w_il (fun _ => rfl) (w_icI (x := 1) rfl (w_op (c := w_i 2) (by decide +kernel) (w_il (fun _ => rfl) (w_gef (by decide) (by decide) (by decide) (by decide) (by decide)  (w_al (fun _ => rfl) (w_il (fun _ => rfl) (w_il (fun _ => rfl) (w_icI (x := 1) rfl (w_op (c := w_i 2) (by decide +kernel) (w_icI (x := 1) rfl ?_)))))))))))))
  have m260 := st_fr s249 m248 (by decide)
  refine w_this (fun _ => rfl) m260 (w_cv (fun _ => rfl) rfl (w_run k_323584 (w_al (fun _ => rfl) (w_getf m260 rfl (fun _ => rfl) (w_il (fun _ => rfl) (w_al (fun _ => rfl) (w_getf m260 rfl (fun _ => rfl) (w_il (fun _ => rfl) (w_aldI s249.2.2.1 (by decide) (by decide) (by decide) ?_)))))))))
  rw [q254]
  refine w_icI (x := 1) rfl (w_il (fun _ => rfl) (w_op (c := w_i 4) (by decide +kernel) (w_icI (x := (-1)) wn_1 (w_op (c := w_i (-5)) (by decide +kernel) (w_op (c := w_i 1) (by decide +kernel) (w_il (fun _ => rfl) (w_eqzf (by decide) (by decide) (by decide)  (w_icI (x := 1) rfl (w_il (fun _ => rfl) (w_op (c := w_i 4) (by decide +kernel) (w_go (w_run k_323612 (w_op (c := w_i 5) (by decide +kernel) (w_astI s249.2.2.1 (by decide) (by decide) (by decide) (by decide) (by decide) (fun A263 h262 w264 s261 => ?_)))))))))))))))
  have q265 : a_g A263 0 = 2 := ((w264 0 (by decide) (by decide)).trans (if_neg (by decide))).trans q253
  have q266 : a_g A263 1 = 5 := (w264 1 (by decide) (by decide)).trans (if_pos rfl)
  have q267 : a_g A263 2 = 0 := ((w264 2 (by decide) (by decide)).trans (if_neg (by decide))).trans q255
  have q268 : a_g A263 3 = 0 := ((w264 3 (by decide) (by decide)).trans (if_neg (by decide))).trans q256
  have q269 : a_g A263 4 = 0 := ((w264 4 (by decide) (by decide)).trans (if_neg (by decide))).trans q257
  have q270 : a_g A263 5 = 0 := ((w264 5 (by decide) (by decide)).trans (if_neg (by decide))).trans q258
  have z271 := s261.1
  have z271y := s261.2.1
  have z271w := s261.2.2.2.2 z259w
  refine w_al (fun _ => rfl) ?_
  have m272 := st_fr s261 m260 (by decide)
  refine w_getf m272 rfl (fun _ => rfl) (w_il (fun _ => rfl) (w_al (fun _ => rfl) (w_getf m272 rfl (fun _ => rfl) (w_il (fun _ => rfl) (w_aldI s261.2.2.1 (by decide) (by decide) (by decide) ?_)))))
  rw [q267]
  refine w_icI (x := 1) rfl (w_il (fun _ => rfl) (w_op (c := w_i 2) (by decide +kernel) (w_icI (x := (-1)) wn_1 (w_op (c := w_i (-3)) (by decide +kernel) (w_op (c := w_i 0) (by decide +kernel) (w_il (fun _ => rfl) (w_eqzf (by decide) (by decide) (by decide)  (w_icI (x := 1) rfl (w_il (fun _ => rfl) (w_op (c := w_i 2) (by decide +kernel) (w_go (w_run k_323642 (w_op (c := w_i 2) (by decide +kernel) (w_astI s261.2.2.1 (by decide) (by decide) (by decide) (by decide) (by decide) (fun A275 h274 w276 s273 => ?_)))))))))))))))
  have q277 : a_g A275 0 = 2 := ((w276 0 (by decide) (by decide)).trans (if_neg (by decide))).trans q265
  have q278 : a_g A275 1 = 5 := ((w276 1 (by decide) (by decide)).trans (if_neg (by decide))).trans q266
  have q279 : a_g A275 2 = 2 := (w276 2 (by decide) (by decide)).trans (if_pos rfl)
  have q280 : a_g A275 3 = 0 := ((w276 3 (by decide) (by decide)).trans (if_neg (by decide))).trans q268
  have q281 : a_g A275 4 = 0 := ((w276 4 (by decide) (by decide)).trans (if_neg (by decide))).trans q269
  have q282 : a_g A275 5 = 0 := ((w276 5 (by decide) (by decide)).trans (if_neg (by decide))).trans q270
  have z283 := s273.1
  have z283y := s273.2.1
  have z283w := s273.2.2.2.2 z271w
  refine w_rv ⟨rfl, ?_⟩
  refine w_inc (c := w_i 2) (fun _ => rfl) (by decide +kernel) (fun _ => rfl) (w_go (w_run k_315450 (w_il (fun _ => rfl) (w_icI (x := 1) rfl (w_op (c := w_i 3) (by decide +kernel) (w_il (fun _ => rfl) (w_gef (by decide) (by decide) (by decide) (by decide) (by decide)  (w_al (fun _ => rfl) (w_il (fun _ => rfl) (w_il (fun _ => rfl) (w_icI (x := 1) rfl (w_op (c := w_i 3) (by decide +kernel) (w_icI (x := 1) rfl ?_)))))))))))))
  have m284 := st_fr s273 m272 (by decide)
  refine w_this (fun _ => rfl) m284 (w_cv (fun _ => rfl) rfl (w_run k_323584 (w_al (fun _ => rfl) (w_getf m284 rfl (fun _ => rfl) (w_il (fun _ => rfl) (w_al (fun _ => rfl) (w_getf m284 rfl (fun _ => rfl) (w_il (fun _ => rfl) (w_aldI s273.2.2.1 (by decide) (by decide) (by decide) ?_)))))))))
  rw [q279]
  refine w_icI (x := 1) rfl (w_il (fun _ => rfl) (w_op (c := w_i 8) (by decide +kernel) (w_icI (x := (-1)) wn_1 (w_op (c := w_i (-9)) (by decide +kernel) (w_op (c := w_i 2) (by decide +kernel) (w_il (fun _ => rfl) (w_eqzf (by decide) (by decide) (by decide)  (w_icI (x := 1) rfl (w_il (fun _ => rfl) (w_op (c := w_i 8) (by decide +kernel) (w_go (w_run k_323612 (w_op (c := w_i 10) (by decide +kernel) (w_astI s273.2.2.1 (by decide) (by decide) (by decide) (by decide) (by decide) (fun A287 h286 w288 s285 => ?_)))))))))))))))
  have q289 : a_g A287 0 = 2 := ((w288 0 (by decide) (by decide)).trans (if_neg (by decide))).trans q277
  have q290 : a_g A287 1 = 5 := ((w288 1 (by decide) (by decide)).trans (if_neg (by decide))).trans q278
  have q291 : a_g A287 2 = 10 := (w288 2 (by decide) (by decide)).trans (if_pos rfl)
  have q292 : a_g A287 3 = 0 := ((w288 3 (by decide) (by decide)).trans (if_neg (by decide))).trans q280
  have q293 : a_g A287 4 = 0 := ((w288 4 (by decide) (by decide)).trans (if_neg (by decide))).trans q281
  have q294 : a_g A287 5 = 0 := ((w288 5 (by decide) (by decide)).trans (if_neg (by decide))).trans q282
  have z295 := s285.1
  have z295y := s285.2.1
  have z295w := s285.2.2.2.2 z283w
  refine w_al (fun _ => rfl) ?_
  have m296 := st_fr s285 m284 (by decide)
  refine w_getf m296 rfl (fun _ => rfl) (w_il (fun _ => rfl) (w_al (fun _ => rfl) (w_getf m296 rfl (fun _ => rfl) (w_il (fun _ => rfl) (w_aldI s285.2.2.1 (by decide) (by decide) (by decide) ?_)))))
  rw [q292]
  refine w_icI (x := 1) rfl (w_il (fun _ => rfl) (w_op (c := w_i 4) (by decide +kernel) (w_icI (x := (-1)) wn_1 (w_op (c := w_i (-5)) (by decide +kernel) (w_op (c := w_i 0) (by decide +kernel) (w_il (fun _ => rfl) (w_eqzf (by decide) (by decide) (by decide)  (w_icI (x := 1) rfl (w_il (fun _ => rfl) (w_op (c := w_i 4) (by decide +kernel) (w_go (w_run k_323642 (w_op (c := w_i 4) (by decide +kernel) (w_astI s285.2.2.1 (by decide) (by decide) (by decide) (by decide) (by decide) (fun A299 h298 w300 s297 => ?_)))))))))))))))
  have q301 : a_g A299 0 = 2 := ((w300 0 (by decide) (by decide)).trans (if_neg (by decide))).trans q289
  have q302 : a_g A299 1 = 5 := ((w300 1 (by decide) (by decide)).trans (if_neg (by decide))).trans q290
  have q303 : a_g A299 2 = 10 := ((w300 2 (by decide) (by decide)).trans (if_neg (by decide))).trans q291
  have q304 : a_g A299 3 = 4 := (w300 3 (by decide) (by decide)).trans (if_pos rfl)
  have q305 : a_g A299 4 = 0 := ((w300 4 (by decide) (by decide)).trans (if_neg (by decide))).trans q293
  have q306 : a_g A299 5 = 0 := ((w300 5 (by decide) (by decide)).trans (if_neg (by decide))).trans q294
  have z307 := s297.1
  have z307y := s297.2.1
  have z307w := s297.2.2.2.2 z295w
  refine w_rv ⟨rfl, ?_⟩
  refine w_inc (c := w_i 3) (fun _ => rfl) (by decide +kernel) (fun _ => rfl) (w_go (w_run k_315450 (w_il (fun _ => rfl) (w_icI (x := 1) rfl (w_op (c := w_i 4) (by decide +kernel) (w_il (fun _ => rfl) (w_gef (by decide) (by decide) (by decide) (by decide) (by decide)  (w_al (fun _ => rfl) (w_il (fun _ => rfl) (w_il (fun _ => rfl) (w_icI (x := 1) rfl (w_op (c := w_i 4) (by decide +kernel) (w_icI (x := 1) rfl ?_)))))))))))))
  have m308 := st_fr s297 m296 (by decide)
  refine w_this (fun _ => rfl) m308 (w_cv (fun _ => rfl) rfl (w_run k_323584 (w_al (fun _ => rfl) (w_getf m308 rfl (fun _ => rfl) (w_il (fun _ => rfl) (w_al (fun _ => rfl) (w_getf m308 rfl (fun _ => rfl) (w_il (fun _ => rfl) (w_aldI s297.2.2.1 (by decide) (by decide) (by decide) ?_)))))))))
  rw [q304]
  refine w_icI (x := 1) rfl (w_il (fun _ => rfl) (w_op (c := w_i 16) (by decide +kernel) (w_icI (x := (-1)) wn_1 (w_op (c := w_i (-17)) (by decide +kernel) (w_op (c := w_i 4) (by decide +kernel) (w_il (fun _ => rfl) (w_eqzf (by decide) (by decide) (by decide)  (w_icI (x := 1) rfl (w_il (fun _ => rfl) (w_op (c := w_i 16) (by decide +kernel) (w_go (w_run k_323612 (w_op (c := w_i 20) (by decide +kernel) (w_astI s297.2.2.1 (by decide) (by decide) (by decide) (by decide) (by decide) (fun A311 h310 w312 s309 => ?_)))))))))))))))
  have q313 : a_g A311 0 = 2 := ((w312 0 (by decide) (by decide)).trans (if_neg (by decide))).trans q301
  have q314 : a_g A311 1 = 5 := ((w312 1 (by decide) (by decide)).trans (if_neg (by decide))).trans q302
  have q315 : a_g A311 2 = 10 := ((w312 2 (by decide) (by decide)).trans (if_neg (by decide))).trans q303
  have q316 : a_g A311 3 = 20 := (w312 3 (by decide) (by decide)).trans (if_pos rfl)
  have q317 : a_g A311 4 = 0 := ((w312 4 (by decide) (by decide)).trans (if_neg (by decide))).trans q305
  have q318 : a_g A311 5 = 0 := ((w312 5 (by decide) (by decide)).trans (if_neg (by decide))).trans q306
  have z319 := s309.1
  have z319y := s309.2.1
  have z319w := s309.2.2.2.2 z307w
  refine w_al (fun _ => rfl) ?_
  have m320 := st_fr s309 m308 (by decide)
  refine w_getf m320 rfl (fun _ => rfl) (w_il (fun _ => rfl) (w_al (fun _ => rfl) (w_getf m320 rfl (fun _ => rfl) (w_il (fun _ => rfl) (w_aldI s309.2.2.1 (by decide) (by decide) (by decide) ?_)))))
  rw [q317]
  refine w_icI (x := 1) rfl (w_il (fun _ => rfl) (w_op (c := w_i 8) (by decide +kernel) (w_icI (x := (-1)) wn_1 (w_op (c := w_i (-9)) (by decide +kernel) (w_op (c := w_i 0) (by decide +kernel) (w_il (fun _ => rfl) (w_eqzf (by decide) (by decide) (by decide)  (w_icI (x := 1) rfl (w_il (fun _ => rfl) (w_op (c := w_i 8) (by decide +kernel) (w_go (w_run k_323642 (w_op (c := w_i 8) (by decide +kernel) (w_astI s309.2.2.1 (by decide) (by decide) (by decide) (by decide) (by decide) (fun A323 h322 w324 s321 => ?_)))))))))))))))
  have q325 : a_g A323 0 = 2 := ((w324 0 (by decide) (by decide)).trans (if_neg (by decide))).trans q313
  have q326 : a_g A323 1 = 5 := ((w324 1 (by decide) (by decide)).trans (if_neg (by decide))).trans q314
  have q327 : a_g A323 2 = 10 := ((w324 2 (by decide) (by decide)).trans (if_neg (by decide))).trans q315
  have q328 : a_g A323 3 = 20 := ((w324 3 (by decide) (by decide)).trans (if_neg (by decide))).trans q316
  have q329 : a_g A323 4 = 8 := (w324 4 (by decide) (by decide)).trans (if_pos rfl)
  have q330 : a_g A323 5 = 0 := ((w324 5 (by decide) (by decide)).trans (if_neg (by decide))).trans q318
  have z331 := s321.1
  have z331y := s321.2.1
  have z331w := s321.2.2.2.2 z319w
  refine w_rv ⟨rfl, ?_⟩
  refine w_inc (c := w_i 4) (fun _ => rfl) (by decide +kernel) (fun _ => rfl) (w_go (w_run k_315450 (w_il (fun _ => rfl) (w_icI (x := 1) rfl (w_op (c := w_i 5) (by decide +kernel) (w_il (fun _ => rfl) (w_get (by decide) (by decide) (by decide) (by decide) (by decide)  (w_run k_315472 (w_al (fun _ => rfl) (w_icI (x := 0) rfl ?_))))))))))
  have m332 := st_fr s321 m320 (by decide)
  refine w_putf [.inl (w_i 5), .inl (w_i c), .inl (w_i (((((1 * c) * c) * c) * c) * c)), .inr (.inl (some 2)), .inr (.inl (some 3)), .inr (.inl (some 4)), .inl (w_i 0), .inl (w_i sp2), .inl (w_i rl2)] m332 rfl rfl rfl (fun _ => rfl) (fun h334 s333 => ?_)
  have z336 := s333.1
  have z336y := s333.2.1
  have z336w := s333.2.2.2.2 z331w
  refine w_al (fun _ => rfl) (w_icI (x := 0) rfl (w_putf [.inl (w_i 5), .inl (w_i c), .inl (w_i (((((1 * c) * c) * c) * c) * c)), .inr (.inl (some 2)), .inr (.inl (some 3)), .inr (.inl (some 4)), .inl (w_i 0), .inl (w_i 0), .inl (w_i rl2)] s333.2.2.1 rfl rfl rfl (fun _ => rfl) (fun h338 s337 => ?_)))
  have z340 := s337.1
  have z340y := s337.2.1
  have z340w := s337.2.2.2.2 z336w
  refine w_rv ⟨rfl, ?_⟩
  refine w_al (fun _ => rfl) (w_icI (x := 0) rfl ?_)
  have m341 := st_fr s10 m1 (by decide)
  have m342 := st_fr s14 m341 (by decide)
  have m343 := st_fr s18 m342 (by decide)
  have m344 := st_fr s25 m343 (by decide)
  have m345 := st_fr s36 m344 (by decide)
  have m346 := st_fr s48 m345 (by decide)
  have m347 := st_fr s57 m346 (by decide)
  have m348 := st_fr s67 m347 (by decide)
  have m349 := st_fr s77 m348 (by decide)
  have m350 := st_fr s87 m349 (by decide)
  have m351 := st_fr s98 m350 (by decide)
  have m352 := st_fr s109 m351 (by decide)
  have m353 := st_fr s120 m352 (by decide)
  have m354 := st_fr s132 m353 (by decide)
  have m355 := st_fr s144 m354 (by decide)
  have m356 := st_fr s156 m355 (by decide)
  have m357 := st_fr s169 m356 (by decide)
  have m358 := st_fr s182 m357 (by decide)
  have m359 := st_fr s195 m358 (by decide)
  have m360 := st_fr s209 m359 (by decide)
  have m361 := st_fr s223 m360 (by decide)
  have m362 := st_fr s237 m361 (by decide)
  have m363 := st_fr s249 m362 (by decide)
  have m364 := st_fr s261 m363 (by decide)
  have m365 := st_fr s273 m364 (by decide)
  have m366 := st_fr s285 m365 (by decide)
  have m367 := st_fr s297 m366 (by decide)
  have m368 := st_fr s309 m367 (by decide)
  have m369 := st_fr s321 m368 (by decide)
  have m370 := st_fr s333 m369 (by decide)
  have m371 := st_fr s337 m370 (by decide)
  refine w_putf [.inr (.inl (some 1)), .inr (.inl (some 5)), .inl (w_i 0), .inr (.inl (some 9)), .inr (.inl (some 17)), .inl (w_i (g_np g)), .inr (.inl (some 18)), .inr (.inl (some 23)), .inl (w_i (g_nt g)), .inr (.inl (some 24)), .inr (.inl (some 25)), .inr (.inl (some 26)), .inr (.inl (some 27))] m371 rfl rfl rfl (fun _ => rfl) (fun h373 s372 => ?_)
  have z375 := s372.1
  have z375y := s372.2.1
  have z375w := s372.2.2.2.2 z340w
  refine w_al (fun _ => rfl) (w_getf s372.2.2.1 rfl (fun _ => rfl) ?_)
  have m376 := st_fr s10 m7 (by decide)
  have m377 := st_fr s14 m376 (by decide)
  have m378 := st_fr s18 m377 (by decide)
  have m379 := st_fr s25 m378 (by decide)
  have m380 := st_fr s36 m379 (by decide)
  have m381 := st_fr s48 m380 (by decide)
  have m382 := st_fr s57 m381 (by decide)
  have m383 := st_fr s67 m382 (by decide)
  have m384 := st_fr s77 m383 (by decide)
  have m385 := st_fr s87 m384 (by decide)
  have m386 := st_fr s98 m385 (by decide)
  have m387 := st_fr s109 m386 (by decide)
  have m388 := st_fr s120 m387 (by decide)
  have m389 := st_fr s132 m388 (by decide)
  have m390 := st_fr s144 m389 (by decide)
  have m391 := st_fr s156 m390 (by decide)
  have m392 := st_fr s169 m391 (by decide)
  have m393 := st_fr s182 m392 (by decide)
  have m394 := st_fr s195 m393 (by decide)
  have m395 := st_fr s209 m394 (by decide)
  have m396 := st_fr s223 m395 (by decide)
  have m397 := st_fr s237 m396 (by decide)
  have m398 := st_fr s249 m397 (by decide)
  have m399 := st_fr s261 m398 (by decide)
  have m400 := st_fr s273 m399 (by decide)
  have m401 := st_fr s285 m400 (by decide)
  have m402 := st_fr s297 m401 (by decide)
  have m403 := st_fr s309 m402 (by decide)
  have m404 := st_fr s321 m403 (by decide)
  have m405 := st_fr s333 m404 (by decide)
  have m406 := st_fr s337 m405 (by decide)
  have m407 := st_fr s372 m406 (by decide)
  refine w_this (fun _ => rfl) m407 (w_cv (fun _ => rfl) rfl (w_run k_57344 (w_al (fun _ => rfl) (w_icI (x := 0) rfl (w_putf [.inr (.inl (some 19)), .inl (w_i 0), .inr (.inl (some 20)), .inr (.inl (some 21)), .inl (w_i atp7), .inl (w_i tok7), .inl (w_i flt7), .inr (.inl (some 22)), .inl (w_i wri7)] m407 rfl rfl rfl (fun _ => rfl) (fun h409 s408 => ?_))))))
  have z411 := s408.1
  have z411y := s408.2.1
  have z411w := s408.2.2.2.2 z375w
  refine w_rv ⟨rfl, ?_⟩
  refine w_icI (x := 0) rfl (w_is (fun _ => rfl) (w_il (fun _ => rfl) (w_icI (x := 4) rfl (w_gef (by decide) (by decide) (by decide) (by decide) (by decide)  (w_al (fun _ => rfl) ?_)))))
  have m412 := st_fr s408 s372.2.2.1 (by decide)
  refine w_getf m412 rfl (fun _ => rfl) (w_il (fun _ => rfl) (w_nul ?_))
  have m413 := st_fr s10 m8 (by decide)
  have m414 := st_fr s14 m413 (by decide)
  have m415 := st_fr s18 m414 (by decide)
  have m416 := st_fr s25 m415 (by decide)
  have m417 := st_fr s36 m416 (by decide)
  have m418 := st_fr s48 m417 (by decide)
  have m419 := st_fr s57 m418 (by decide)
  have m420 := st_fr s67 m419 (by decide)
  have m421 := st_fr s77 m420 (by decide)
  have m422 := st_fr s87 m421 (by decide)
  have m423 := st_fr s98 m422 (by decide)
  have m424 := st_fr s109 m423 (by decide)
  have m425 := st_fr s120 m424 (by decide)
  have m426 := st_fr s132 m425 (by decide)
  have m427 := st_fr s144 m426 (by decide)
  have m428 := st_fr s156 m427 (by decide)
  have m429 := st_fr s169 m428 (by decide)
  have m430 := st_fr s182 m429 (by decide)
  have m431 := st_fr s195 m430 (by decide)
  have m432 := st_fr s209 m431 (by decide)
  have m433 := st_fr s223 m432 (by decide)
  have m434 := st_fr s237 m433 (by decide)
  have m435 := st_fr s249 m434 (by decide)
  have m436 := st_fr s261 m435 (by decide)
  have m437 := st_fr s273 m436 (by decide)
  have m438 := st_fr s285 m437 (by decide)
  have m439 := st_fr s297 m438 (by decide)
  have m440 := st_fr s309 m439 (by decide)
  have m441 := st_fr s321 m440 (by decide)
  have m442 := st_fr s333 m441 (by decide)
  have m443 := st_fr s337 m442 (by decide)
  have m444 := st_fr s372 m443 (by decide)
  have m445 := st_fr s408 m444 (by decide)
  refine w_aastI m445 (by omega) (by omega) (by decide) isC_no (fun h447 s446 => ?_)
  have z448 := set_no (i := 0) (j := (0 : Int).toNat) lp8 ll8 (Or.inl rfl)
  have z449 := s446.1
  have z449y := s446.2.1
  have z449w := s446.2.2.2.2 z411w
  refine w_inc (c := w_i 1) (fun _ => rfl) (by decide +kernel) (fun _ => rfl) (w_go (w_run k_364611 (w_il (fun _ => rfl) (w_icI (x := 4) rfl (w_gef (by decide) (by decide) (by decide) (by decide) (by decide)  (w_al (fun _ => rfl) ?_))))))
  have m450 := st_fr s446 m412 (by decide)
  refine w_getf m450 rfl (fun _ => rfl) (w_il (fun _ => rfl) (w_nul (w_aastI s446.2.2.1 (by omega) (by omega) (by decide) isC_no (fun h452 s451 => ?_))))
  have z453 := set_no (i := 0) (j := (1 : Int).toNat) z448.2 z448.1 (Or.inl rfl)
  have z454 := s451.1
  have z454y := s451.2.1
  have z454w := s451.2.2.2.2 z449w
  refine w_inc (c := w_i 2) (fun _ => rfl) (by decide +kernel) (fun _ => rfl) (w_go (w_run k_364611 (w_il (fun _ => rfl) (w_icI (x := 4) rfl (w_gef (by decide) (by decide) (by decide) (by decide) (by decide)  (w_al (fun _ => rfl) ?_))))))
  have m455 := st_fr s451 m450 (by decide)
  refine w_getf m455 rfl (fun _ => rfl) (w_il (fun _ => rfl) (w_nul (w_aastI s451.2.2.1 (by omega) (by omega) (by decide) isC_no (fun h457 s456 => ?_))))
  have z458 := set_no (i := 0) (j := (2 : Int).toNat) z453.2 z453.1 (Or.inl rfl)
  have z459 := s456.1
  have z459y := s456.2.1
  have z459w := s456.2.2.2.2 z454w
  refine w_inc (c := w_i 3) (fun _ => rfl) (by decide +kernel) (fun _ => rfl) (w_go (w_run k_364611 (w_il (fun _ => rfl) (w_icI (x := 4) rfl (w_gef (by decide) (by decide) (by decide) (by decide) (by decide)  (w_al (fun _ => rfl) ?_))))))
  have m460 := st_fr s456 m455 (by decide)
  refine w_getf m460 rfl (fun _ => rfl) (w_il (fun _ => rfl) (w_nul (w_aastI s456.2.2.1 (by omega) (by omega) (by decide) isC_no (fun h462 s461 => ?_))))
  have z463 := set_no (i := 0) (j := (3 : Int).toNat) z458.2 z458.1 (Or.inl rfl)
  have z464 := s461.1
  have z464y := s461.2.1
  have z464w := s461.2.2.2.2 z459w
  refine w_inc (c := w_i 4) (fun _ => rfl) (by decide +kernel) (fun _ => rfl) (w_go (w_run k_364611 (w_il (fun _ => rfl) (w_icI (x := 4) rfl (w_get (by decide) (by decide) (by decide) (by decide) (by decide)  (w_run k_364631 (w_al (fun _ => rfl) ?_)))))))
  have m465 := st_fr s461 m460 (by decide)
  refine w_getf m465 rfl (fun _ => rfl) ?_
  have m466 := st_fr s10 m6 (by decide)
  have m467 := st_fr s14 m466 (by decide)
  have m468 := st_fr s18 m467 (by decide)
  have m469 := st_fr s25 m468 (by decide)
  have m470 := st_fr s36 m469 (by decide)
  have m471 := st_fr s48 m470 (by decide)
  have m472 := st_fr s57 m471 (by decide)
  have m473 := st_fr s67 m472 (by decide)
  have m474 := st_fr s77 m473 (by decide)
  have m475 := st_fr s87 m474 (by decide)
  have m476 := st_fr s98 m475 (by decide)
  have m477 := st_fr s109 m476 (by decide)
  have m478 := st_fr s120 m477 (by decide)
  have m479 := st_fr s132 m478 (by decide)
  have m480 := st_fr s144 m479 (by decide)
  have m481 := st_fr s156 m480 (by decide)
  have m482 := st_fr s169 m481 (by decide)
  have m483 := st_fr s182 m482 (by decide)
  have m484 := st_fr s195 m483 (by decide)
  have m485 := st_fr s209 m484 (by decide)
  have m486 := st_fr s223 m485 (by decide)
  have m487 := st_fr s237 m486 (by decide)
  have m488 := st_fr s249 m487 (by decide)
  have m489 := st_fr s261 m488 (by decide)
  have m490 := st_fr s273 m489 (by decide)
  have m491 := st_fr s285 m490 (by decide)
  have m492 := st_fr s297 m491 (by decide)
  have m493 := st_fr s309 m492 (by decide)
  have m494 := st_fr s321 m493 (by decide)
  have m495 := st_fr s333 m494 (by decide)
  have m496 := st_fr s337 m495 (by decide)
  have m497 := st_fr s372 m496 (by decide)
  have m498 := st_fr s408 m497 (by decide)
  have m499 := st_fr s446 m498 (by decide)
  have m500 := st_fr s451 m499 (by decide)
  have m501 := st_fr s456 m500 (by decide)
  have m502 := st_fr s461 m501 (by decide)
  refine w_this (fun _ => rfl) m502 (w_cv (fun _ => rfl) rfl (w_run k_151552 (w_al (fun _ => rfl) (w_icI (x := 0) rfl (w_putf [.inr (.inl (some 1)), .inr (.inl (some 10)), .inl (w_i 0), .inr (.inl (some 11)), .inl (w_i sta6), .inr (.inl (some (g_rw g))), .inl (w_i fnd6), .inr (.inl (some (g_stp g))), .inr (.inl (some (g_ahd g))), .inr (.inl (some (g_cst g))), .inr (.inl (some (g_chp g))), .inl (w_i kco6)] m502 rfl rfl rfl (fun _ => rfl) (fun h504 s503 => ?_))))))
  have z506 := s503.1
  have z506y := s503.2.1
  have z506w := s503.2.2.2.2 z464w
  refine w_al (fun _ => rfl) (w_icI (x := (-1)) wn_1 (w_putf [.inr (.inl (some 1)), .inr (.inl (some 10)), .inl (w_i 0), .inr (.inl (some 11)), .inl (w_i (-1)), .inr (.inl (some (g_rw g))), .inl (w_i fnd6), .inr (.inl (some (g_stp g))), .inr (.inl (some (g_ahd g))), .inr (.inl (some (g_cst g))), .inr (.inl (some (g_chp g))), .inl (w_i kco6)] s503.2.2.1 rfl rfl rfl (fun _ => rfl) (fun h508 s507 => ?_)))
  have z510 := s507.1
  have z510y := s507.2.1
  have z510w := s507.2.2.2.2 z506w
  refine w_rv ⟨rfl, ?_⟩
  refine w_il (fun _ => rfl) (w_ri ?_)
  have F1 := F.1
  have F2 := F.2.1
  have m511 := st_fr s333 s321.2.2.1 (by decide)
  have m512 := st_fr s337 m511 (by decide)
  have m513 := st_fr s372 m512 (by decide)
  have m514 := st_fr s408 m513 (by decide)
  have m515 := st_fr s446 m514 (by decide)
  have m516 := st_fr s451 m515 (by decide)
  have m517 := st_fr s456 m516 (by decide)
  have m518 := st_fr s461 m517 (by decide)
  have m519 := st_fr s503 m518 (by decide)
  have m520 := st_fr s507 m519 (by decide)
  have m521 := st_fr s372 s337.2.2.1 (by decide)
  have m522 := st_fr s408 m521 (by decide)
  have m523 := st_fr s446 m522 (by decide)
  have m524 := st_fr s451 m523 (by decide)
  have m525 := st_fr s456 m524 (by decide)
  have m526 := st_fr s461 m525 (by decide)
  have m527 := st_fr s503 m526 (by decide)
  have m528 := st_fr s507 m527 (by decide)
  have m529 := st_fr s503 s461.2.2.1 (by decide)
  have m530 := st_fr s507 m529 (by decide)
  have hN : (((((1 * c) * c) * c) * c) * c) = w_pw c 5 := by rw [pn_5]
  have gz : g_nt (g_bu g 5 c (((((1 * c) * c) * c) * c) * c) A323) = g_nt g := rfl
  have m531 := st_fr s503 m465 (by decide)
  have m532 := st_fr s507 m531 (by decide)
  have six533 : ∀ j : Int, 0 ≤ j → j < 6 → 0 ≤ a_g A323 j ∧ a_g A323 j ≤ 63 := fun j j0 j1 => by
    rcases (show j = 0 ∨ j = 1 ∨ j = 2 ∨ j = 3 ∨ j = 4 ∨ j = 5 from by omega) with rfl | rfl | rfl | rfl | rfl | rfl
    · rw [q325]; omega
    · rw [q326]; omega
    · rw [q327]; omega
    · rw [q328]; omega
    · rw [q329]; omega
    · rw [q330]; omega
  have m534 := st_fr s223 s209.2.2.1 (by decide)
  have m535 := st_fr s237 m534 (by decide)
  have m536 := st_fr s249 m535 (by decide)
  have m537 := st_fr s261 m536 (by decide)
  have m538 := st_fr s273 m537 (by decide)
  have m539 := st_fr s285 m538 (by decide)
  have m540 := st_fr s297 m539 (by decide)
  have m541 := st_fr s309 m540 (by decide)
  have m542 := st_fr s321 m541 (by decide)
  have m543 := st_fr s333 m542 (by decide)
  have m544 := st_fr s337 m543 (by decide)
  have m545 := st_fr s372 m544 (by decide)
  have m546 := st_fr s408 m545 (by decide)
  have m547 := st_fr s446 m546 (by decide)
  have m548 := st_fr s451 m547 (by decide)
  have m549 := st_fr s456 m548 (by decide)
  have m550 := st_fr s461 m549 (by decide)
  have m551 := st_fr s503 m550 (by decide)
  have m552 := st_fr s507 m551 (by decide)
  have six553 : ∀ j : Int, 0 ≤ j → j < 6 → 0 ≤ a_g A211 j ∧ a_g A211 j < c := fun j j0 j1 => by
    rcases (show j = 0 ∨ j = 1 ∨ j = 2 ∨ j = 3 ∨ j = 4 ∨ j = 5 from by omega) with rfl | rfl | rfl | rfl | rfl | rfl
    · rw [q213]; omega
    · rw [q214]; omega
    · rw [q215]; omega
    · rw [q216]; omega
    · rw [q217]; omega
    · rw [q218]; omega
  have m554 := st_fr s237 s223.2.2.1 (by decide)
  have m555 := st_fr s249 m554 (by decide)
  have m556 := st_fr s261 m555 (by decide)
  have m557 := st_fr s273 m556 (by decide)
  have m558 := st_fr s285 m557 (by decide)
  have m559 := st_fr s297 m558 (by decide)
  have m560 := st_fr s309 m559 (by decide)
  have m561 := st_fr s321 m560 (by decide)
  have m562 := st_fr s333 m561 (by decide)
  have m563 := st_fr s337 m562 (by decide)
  have m564 := st_fr s372 m563 (by decide)
  have m565 := st_fr s408 m564 (by decide)
  have m566 := st_fr s446 m565 (by decide)
  have m567 := st_fr s451 m566 (by decide)
  have m568 := st_fr s456 m567 (by decide)
  have m569 := st_fr s461 m568 (by decide)
  have m570 := st_fr s503 m569 (by decide)
  have m571 := st_fr s507 m570 (by decide)
  have m572 := st_fr s446 s408.2.2.1 (by decide)
  have m573 := st_fr s451 m572 (by decide)
  have m574 := st_fr s456 m573 (by decide)
  have m575 := st_fr s461 m574 (by decide)
  have m576 := st_fr s503 m575 (by decide)
  have m577 := st_fr s507 m576 (by decide)
  have ivn := bu_fin (e0 := _) (e1 := _) (e18 := _) (e24 := _) (hh := 5) (c := c) (N := (((((1 * c) * c) * c) * c) * c)) iv (by decide) (by decide) (by omega) (by omega) hN (by omega) z510w (by omega) (fun q n0 n1 n2 n3 n4 n9 n18 n24 => (s507.2.2.2.1 q n9).trans ((s503.2.2.2.1 q n9).trans ((s461.2.2.2.1 q n24).trans ((s456.2.2.2.1 q n24).trans ((s451.2.2.2.1 q n24).trans ((s446.2.2.2.1 q n24).trans ((s408.2.2.2.1 q n18).trans ((s372.2.2.2.1 q n0).trans ((s337.2.2.2.1 q n1).trans ((s333.2.2.2.1 q n1).trans ((s321.2.2.2.1 q n2).trans ((s309.2.2.2.1 q n2).trans ((s297.2.2.2.1 q n2).trans ((s285.2.2.2.1 q n2).trans ((s273.2.2.2.1 q n2).trans ((s261.2.2.2.1 q n2).trans ((s249.2.2.2.1 q n2).trans ((s237.2.2.2.1 q n2).trans ((s223.2.2.2.1 q n4).trans ((s209.2.2.2.1 q n3).trans ((s195.2.2.2.1 q n2).trans ((s182.2.2.2.1 q n4).trans ((s169.2.2.2.1 q n3).trans ((s156.2.2.2.1 q n2).trans ((s144.2.2.2.1 q n4).trans ((s132.2.2.2.1 q n3).trans ((s120.2.2.2.1 q n2).trans ((s109.2.2.2.1 q n4).trans ((s98.2.2.2.1 q n3).trans ((s87.2.2.2.1 q n2).trans ((s77.2.2.2.1 q n4).trans ((s67.2.2.2.1 q n3).trans ((s57.2.2.2.1 q n2).trans ((s48.2.2.2.1 q n4).trans ((s36.2.2.2.1 q n3).trans ((s25.2.2.2.1 q n2).trans ((s18.2.2.2.1 q n1).trans ((s14.2.2.2.1 q n1).trans ((s10.2.2.2.1 q n1).trans (rfl)))))))))))))))))))))))))))))))))))))))) m532 rfl m528 ⟨_, _, _, rfl, by omega, by omega, by omega, by omega, by omega, by omega, by omega, by omega⟩ m520 six533 m552 six553 ⟨_, m571⟩ s507.2.2.1 ⟨by omega, by omega, by omega, by omega, by omega, by omega⟩ m577 ⟨_, _, _, _, _, rfl, by omega, by omega, by omega, by omega, by omega, by omega, by omega, by omega, by omega, by omega, by omega, by omega, by omega, by omega, by omega, by omega, by omega⟩ m530 ⟨_, rfl, z463.1, z463.2⟩
  exact k0 _ (g_bu g 5 c (((((1 * c) * c) * c) * c) * c) A323) o h508 ivn ch_gbu oe_rf (by omega) (by omega) rfl ⟨by decide, by decide, by omega, by omega, by omega⟩ ⟨rfl, rfl⟩
