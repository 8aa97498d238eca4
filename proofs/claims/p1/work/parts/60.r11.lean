/-! Round 11 of the law: paint (written by wip/gen/genrun.py) -/
set_option maxRecDepth 100000 in
theorem r11l_0 : z_ok false 409600 794624 [.inr (.inr (.inl 0))] [] [.inl 0, .inl 0] := z_pb_ok (by decide +kernel)
set_option maxRecDepth 100000 in
theorem r11l_1 : z_ok false 409600 794624 [.inr (.inr (.inl 0))] [] [.inl 0, .inl 1] := z_pb_ok (by decide +kernel)
set_option maxRecDepth 100000 in
theorem r11l_2 : z_ok false 409600 794624 [.inr (.inr (.inl 0))] [] [.inl 0, .inl 2] := z_pb_ok (by decide +kernel)
set_option maxRecDepth 100000 in
theorem r11l_3 : z_ok false 409600 794624 [.inr (.inr (.inl 0))] [] [.inl 1, .inl 0] := z_pb_ok (by decide +kernel)
set_option maxRecDepth 100000 in
theorem r11l_4 : z_ok false 409600 794624 [.inr (.inr (.inl 0))] [] [.inl 1, .inl 1] := z_pb_ok (by decide +kernel)
set_option maxRecDepth 100000 in
theorem r11l_5 : z_ok false 409600 794624 [.inr (.inr (.inl 0))] [] [.inl 1, .inl 2] := z_pb_ok (by decide +kernel)
set_option maxRecDepth 100000 in
theorem r11l_6 : z_ok false 409600 794624 [.inr (.inr (.inl 0))] [] [.inl 2, .inl 0] := z_pb_ok (by decide +kernel)
set_option maxRecDepth 100000 in
theorem r11l_7 : z_ok false 409600 794624 [.inr (.inr (.inl 0))] [] [.inl 2, .inl 1] := z_pb_ok (by decide +kernel)
set_option maxRecDepth 100000 in
theorem r11l_8 : z_ok false 409600 794624 [.inr (.inr (.inl 0))] [] [.inl 2, .inl 2] := z_pb_ok (by decide +kernel)
set_option maxRecDepth 100000 in
theorem r11l_9 : z_ok false 409600 794624 [.inr (.inr (.inl 0))] [] [.inl 3, .inl 0] := z_pb_ok (by decide +kernel)
set_option maxRecDepth 100000 in
theorem r11l_10 : z_ok false 409600 794624 [.inr (.inr (.inl 0))] [] [.inl 3, .inl 1] := z_pb_ok (by decide +kernel)
set_option maxRecDepth 100000 in
theorem r11l_11 : z_ok false 409600 794624 [.inr (.inr (.inl 0))] [] [.inl 3, .inl 2] := z_pb_ok (by decide +kernel)
theorem r11k_409600 : m_cg 409600 = g_100_0 := rfl
theorem r11k_528384 : m_cg 528384 = g_129_0 := rfl
theorem r11k_327680 : m_cg 327680 = g_80_0 := rfl
theorem r11k_327697 : m_cg 327697 = g_80_17 := rfl
theorem r11k_335872 : m_cg 335872 = g_82_0 := rfl
theorem r11k_335888 : m_cg 335888 = g_82_16 := rfl
theorem r11k_528413 : m_cg 528413 = g_129_29 := rfl
theorem r11k_409623 : m_cg 409623 = g_100_23 := rfl
theorem r11k_409677 : m_cg 409677 = g_100_77 := rfl
theorem r11k_794624 : m_cg 794624 = g_194_0 := rfl
theorem r11k_782336 : m_cg 782336 = g_191_0 := rfl
theorem r11k_581632 : m_cg 581632 = g_142_0 := rfl
theorem r11k_581649 : m_cg 581649 = g_142_17 := rfl
theorem r11k_585728 : m_cg 585728 = g_143_0 := rfl
theorem r11k_585744 : m_cg 585744 = g_143_16 := rfl
theorem r11k_782366 : m_cg 782366 = g_191_30 := rfl
theorem r11k_794642 : m_cg 794642 = g_194_18 := rfl
set_option maxRecDepth 20000 in
theorem r11l_12 (a : Nat) (b : Nat) (a0 : 0 ≤ a) (a1 : a ≤ 3) (b0 : 3 ≤ b) (b1 : b ≤ 2147483647) : z_ok false 409600 794624 [.inr (.inr (.inl 0))] [] [.inl a, .inl b] :=
  ⟨.inl 4294967294, z_h3, z_h3,
    t_run r11k_409600 (t_al (fun _ => rfl) (t_al (fun _ => rfl) (t_getf (v := .inr (.inl (some 1))) (fun _ => rfl) (t_getf (v := .inr (.inl (some 3))) (fun _ => rfl) (t_il (fun _ => rfl) (t_il (fun _ => rfl) (t_this (fun _ => rfl) (t_ca (v := .inl 4294967294) (h' := z_h3) (fun _ => rfl) rfl (t_cl (t_run r11k_528384 (t_al (fun _ => rfl) (t_getf (v := .inr (.inl (some 1))) (fun _ => rfl) (t_il (fun _ => rfl) (t_this (fun _ => rfl) (t_ca (v := .inl 1) (h' := z_h3) (fun _ => rfl) rfl (t_cl (t_run r11k_327680 (t_il (fun _ => rfl) (t_czf (blt_f (by omega)) (t_il (fun _ => rfl) (t_al (fun _ => rfl) (t_getf (v := .inl 4) (fun _ => rfl) (t_cif (bge_f (by omega)) (t_ic (t_go (t_run r11k_327697 (rfl)))))))))))) rfl rfl (t_czf rfl (t_al (fun _ => rfl) (t_getf (v := .inr (.inl (some 1))) (fun _ => rfl) (t_il (fun _ => rfl) (t_this (fun _ => rfl) (t_ca (v := .inl 0) (h' := z_h3) (fun _ => rfl) rfl (t_cl (t_run r11k_335872 (t_il (fun _ => rfl) (t_czf (blt_f (by omega)) (t_il (fun _ => rfl) (t_al (fun _ => rfl) (t_getf (v := .inl 3) (fun _ => rfl) (t_cit (bge_t (by omega)) (t_run r11k_335888 (t_ic (rfl))))))))))) rfl rfl (t_czt rfl (t_run r11k_528413 (t_ic (rfl))))))))))))))))) rfl rfl (t_is (fun _ => rfl) (t_il (fun _ => rfl) (t_ic (t_cit rfl (t_run r11k_409623 (t_il (fun _ => rfl) (t_czt rfl (t_run r11k_409677 (t_il (fun _ => rfl) (rfl)))))))))))))))))),
    t_run r11k_794624 (t_al (fun _ => rfl) (t_il (fun _ => rfl) (t_il (fun _ => rfl) (t_this (fun _ => rfl) (t_ca (v := .inl 0) (h' := z_h3) (fun _ => rfl) rfl (t_cl (t_run r11k_782336 (t_al (fun _ => rfl) (t_il (fun _ => rfl) (t_this (fun _ => rfl) (t_ca (v := .inl 1) (h' := z_h3) (fun _ => rfl) rfl (t_cl (t_run r11k_581632 (t_il (fun _ => rfl) (t_czf (blt_f (by omega)) (t_il (fun _ => rfl) (t_al (fun _ => rfl) (t_getf (v := .inl 4) (fun _ => rfl) (t_cif (bge_f (by omega)) (t_ic (t_go (t_run r11k_581649 (rfl)))))))))))) rfl rfl (t_czf rfl (t_al (fun _ => rfl) (t_il (fun _ => rfl) (t_this (fun _ => rfl) (t_ca (v := .inl 0) (h' := z_h3) (fun _ => rfl) rfl (t_cl (t_run r11k_585728 (t_il (fun _ => rfl) (t_czf (blt_f (by omega)) (t_il (fun _ => rfl) (t_al (fun _ => rfl) (t_getf (v := .inl 3) (fun _ => rfl) (t_cit (bge_t (by omega)) (t_run r11k_585744 (t_ic (rfl))))))))))) rfl rfl (t_czt rfl (t_run r11k_782366 (t_ic (rfl))))))))))))))) rfl rfl (t_czt rfl (t_run r11k_794642 (t_ic (rfl))))))))),
    fun _ => rfl, rfl, rfl, rfl, rfl, rfl, rfl, rfl⟩
set_option maxRecDepth 20000 in
theorem r11l_13 (a : Nat) (b : Nat) (a0 : 0 ≤ a) (a1 : a ≤ 3) (b0 : 2147483648 ≤ b) (b1 : b ≤ 4294967295) : z_ok false 409600 794624 [.inr (.inr (.inl 0))] [] [.inl a, .inl b] :=
  ⟨.inl 4294967294, z_h3, z_h3,
    t_run r11k_409600 (t_al (fun _ => rfl) (t_al (fun _ => rfl) (t_getf (v := .inr (.inl (some 1))) (fun _ => rfl) (t_getf (v := .inr (.inl (some 3))) (fun _ => rfl) (t_il (fun _ => rfl) (t_il (fun _ => rfl) (t_this (fun _ => rfl) (t_ca (v := .inl 4294967294) (h' := z_h3) (fun _ => rfl) rfl (t_cl (t_run r11k_528384 (t_al (fun _ => rfl) (t_getf (v := .inr (.inl (some 1))) (fun _ => rfl) (t_il (fun _ => rfl) (t_this (fun _ => rfl) (t_ca (v := .inl 1) (h' := z_h3) (fun _ => rfl) rfl (t_cl (t_run r11k_327680 (t_il (fun _ => rfl) (t_czf (blt_f (by omega)) (t_il (fun _ => rfl) (t_al (fun _ => rfl) (t_getf (v := .inl 4) (fun _ => rfl) (t_cif (bge_f (by omega)) (t_ic (t_go (t_run r11k_327697 (rfl)))))))))))) rfl rfl (t_czf rfl (t_al (fun _ => rfl) (t_getf (v := .inr (.inl (some 1))) (fun _ => rfl) (t_il (fun _ => rfl) (t_this (fun _ => rfl) (t_ca (v := .inl 0) (h' := z_h3) (fun _ => rfl) rfl (t_cl (t_run r11k_335872 (t_il (fun _ => rfl) (t_czt (blt_t (by omega)) (t_run r11k_335888 (t_ic (rfl))))))) rfl rfl (t_czt rfl (t_run r11k_528413 (t_ic (rfl))))))))))))))))) rfl rfl (t_is (fun _ => rfl) (t_il (fun _ => rfl) (t_ic (t_cit rfl (t_run r11k_409623 (t_il (fun _ => rfl) (t_czt rfl (t_run r11k_409677 (t_il (fun _ => rfl) (rfl)))))))))))))))))),
    t_run r11k_794624 (t_al (fun _ => rfl) (t_il (fun _ => rfl) (t_il (fun _ => rfl) (t_this (fun _ => rfl) (t_ca (v := .inl 0) (h' := z_h3) (fun _ => rfl) rfl (t_cl (t_run r11k_782336 (t_al (fun _ => rfl) (t_il (fun _ => rfl) (t_this (fun _ => rfl) (t_ca (v := .inl 1) (h' := z_h3) (fun _ => rfl) rfl (t_cl (t_run r11k_581632 (t_il (fun _ => rfl) (t_czf (blt_f (by omega)) (t_il (fun _ => rfl) (t_al (fun _ => rfl) (t_getf (v := .inl 4) (fun _ => rfl) (t_cif (bge_f (by omega)) (t_ic (t_go (t_run r11k_581649 (rfl)))))))))))) rfl rfl (t_czf rfl (t_al (fun _ => rfl) (t_il (fun _ => rfl) (t_this (fun _ => rfl) (t_ca (v := .inl 0) (h' := z_h3) (fun _ => rfl) rfl (t_cl (t_run r11k_585728 (t_il (fun _ => rfl) (t_czt (blt_t (by omega)) (t_run r11k_585744 (t_ic (rfl))))))) rfl rfl (t_czt rfl (t_run r11k_782366 (t_ic (rfl))))))))))))))) rfl rfl (t_czt rfl (t_run r11k_794642 (t_ic (rfl))))))))),
    fun _ => rfl, rfl, rfl, rfl, rfl, rfl, rfl, rfl⟩
theorem r11k_327696 : m_cg 327696 = g_80_16 := rfl
theorem r11k_581648 : m_cg 581648 = g_142_16 := rfl
set_option maxRecDepth 20000 in
theorem r11l_14 (a : Nat) (b : Nat) (a0 : 4 ≤ a) (a1 : a ≤ 2147483647) (b0 : 0 ≤ b) (b1 : b ≤ 4294967295) : z_ok false 409600 794624 [.inr (.inr (.inl 0))] [] [.inl a, .inl b] :=
  ⟨.inl 4294967294, z_h3, z_h3,
    t_run r11k_409600 (t_al (fun _ => rfl) (t_al (fun _ => rfl) (t_getf (v := .inr (.inl (some 1))) (fun _ => rfl) (t_getf (v := .inr (.inl (some 3))) (fun _ => rfl) (t_il (fun _ => rfl) (t_il (fun _ => rfl) (t_this (fun _ => rfl) (t_ca (v := .inl 4294967294) (h' := z_h3) (fun _ => rfl) rfl (t_cl (t_run r11k_528384 (t_al (fun _ => rfl) (t_getf (v := .inr (.inl (some 1))) (fun _ => rfl) (t_il (fun _ => rfl) (t_this (fun _ => rfl) (t_ca (v := .inl 0) (h' := z_h3) (fun _ => rfl) rfl (t_cl (t_run r11k_327680 (t_il (fun _ => rfl) (t_czf (blt_f (by omega)) (t_il (fun _ => rfl) (t_al (fun _ => rfl) (t_getf (v := .inl 4) (fun _ => rfl) (t_cit (bge_t (by omega)) (t_run r11k_327696 (t_ic (rfl))))))))))) rfl rfl (t_czt rfl (t_run r11k_528413 (t_ic (rfl))))))))))) rfl rfl (t_is (fun _ => rfl) (t_il (fun _ => rfl) (t_ic (t_cit rfl (t_run r11k_409623 (t_il (fun _ => rfl) (t_czt rfl (t_run r11k_409677 (t_il (fun _ => rfl) (rfl)))))))))))))))))),
    t_run r11k_794624 (t_al (fun _ => rfl) (t_il (fun _ => rfl) (t_il (fun _ => rfl) (t_this (fun _ => rfl) (t_ca (v := .inl 0) (h' := z_h3) (fun _ => rfl) rfl (t_cl (t_run r11k_782336 (t_al (fun _ => rfl) (t_il (fun _ => rfl) (t_this (fun _ => rfl) (t_ca (v := .inl 0) (h' := z_h3) (fun _ => rfl) rfl (t_cl (t_run r11k_581632 (t_il (fun _ => rfl) (t_czf (blt_f (by omega)) (t_il (fun _ => rfl) (t_al (fun _ => rfl) (t_getf (v := .inl 4) (fun _ => rfl) (t_cit (bge_t (by omega)) (t_run r11k_581648 (t_ic (rfl))))))))))) rfl rfl (t_czt rfl (t_run r11k_782366 (t_ic (rfl)))))))))) rfl rfl (t_czt rfl (t_run r11k_794642 (t_ic (rfl))))))))),
    fun _ => rfl, rfl, rfl, rfl, rfl, rfl, rfl, rfl⟩
set_option maxRecDepth 20000 in
theorem r11l_15 (a : Nat) (b : Nat) (a0 : 2147483648 ≤ a) (a1 : a ≤ 4294967295) (b0 : 0 ≤ b) (b1 : b ≤ 4294967295) : z_ok false 409600 794624 [.inr (.inr (.inl 0))] [] [.inl a, .inl b] :=
  ⟨.inl 4294967294, z_h3, z_h3,
    t_run r11k_409600 (t_al (fun _ => rfl) (t_al (fun _ => rfl) (t_getf (v := .inr (.inl (some 1))) (fun _ => rfl) (t_getf (v := .inr (.inl (some 3))) (fun _ => rfl) (t_il (fun _ => rfl) (t_il (fun _ => rfl) (t_this (fun _ => rfl) (t_ca (v := .inl 4294967294) (h' := z_h3) (fun _ => rfl) rfl (t_cl (t_run r11k_528384 (t_al (fun _ => rfl) (t_getf (v := .inr (.inl (some 1))) (fun _ => rfl) (t_il (fun _ => rfl) (t_this (fun _ => rfl) (t_ca (v := .inl 0) (h' := z_h3) (fun _ => rfl) rfl (t_cl (t_run r11k_327680 (t_il (fun _ => rfl) (t_czt (blt_t (by omega)) (t_run r11k_327696 (t_ic (rfl))))))) rfl rfl (t_czt rfl (t_run r11k_528413 (t_ic (rfl))))))))))) rfl rfl (t_is (fun _ => rfl) (t_il (fun _ => rfl) (t_ic (t_cit rfl (t_run r11k_409623 (t_il (fun _ => rfl) (t_czt rfl (t_run r11k_409677 (t_il (fun _ => rfl) (rfl)))))))))))))))))),
    t_run r11k_794624 (t_al (fun _ => rfl) (t_il (fun _ => rfl) (t_il (fun _ => rfl) (t_this (fun _ => rfl) (t_ca (v := .inl 0) (h' := z_h3) (fun _ => rfl) rfl (t_cl (t_run r11k_782336 (t_al (fun _ => rfl) (t_il (fun _ => rfl) (t_this (fun _ => rfl) (t_ca (v := .inl 0) (h' := z_h3) (fun _ => rfl) rfl (t_cl (t_run r11k_581632 (t_il (fun _ => rfl) (t_czt (blt_t (by omega)) (t_run r11k_581648 (t_ic (rfl))))))) rfl rfl (t_czt rfl (t_run r11k_782366 (t_ic (rfl)))))))))) rfl rfl (t_czt rfl (t_run r11k_794642 (t_ic (rfl))))))))),
    fun _ => rfl, rfl, rfl, rfl, rfl, rfl, rfl, rfl⟩
theorem r11_all (a : Nat) (b : Nat) (ha_ : a < 4294967296) (hb_ : b < 4294967296) : z_ok false 409600 794624 [.inr (.inr (.inl 0))] [] [.inl a, .inl b] := by
  rcases Nat.lt_or_ge a 2147483648 with ha | ha
  · rcases Nat.lt_or_ge a 4 with ha | ha
    · rcases Nat.lt_or_ge b 2147483648 with hb | hb
      · rcases Nat.lt_or_ge b 3 with hb | hb
        · by_cases ha : a = 0
          · subst ha
            rcases Nat.lt_or_ge b 1 with hb | hb
            · obtain rfl : b = 0 := by omega
              exact r11l_0
            · by_cases hb : b = 1
              · subst hb
                exact r11l_1
              obtain rfl : b = 2 := by omega
              exact r11l_2
          by_cases ha : a = 1
          · subst ha
            rcases Nat.lt_or_ge b 1 with hb | hb
            · obtain rfl : b = 0 := by omega
              exact r11l_3
            · rcases Nat.lt_or_ge b 2 with hb | hb
              · obtain rfl : b = 1 := by omega
                exact r11l_4
              · obtain rfl : b = 2 := by omega
                exact r11l_5
          by_cases ha : a = 2
          · subst ha
            rcases Nat.lt_or_ge b 1 with hb | hb
            · obtain rfl : b = 0 := by omega
              exact r11l_6
            · by_cases hb : b = 1
              · subst hb
                exact r11l_7
              obtain rfl : b = 2 := by omega
              exact r11l_8
          obtain rfl : a = 3 := by omega
          rcases Nat.lt_or_ge b 1 with hb | hb
          · obtain rfl : b = 0 := by omega
            exact r11l_9
          · rcases Nat.lt_or_ge b 2 with hb | hb
            · obtain rfl : b = 1 := by omega
              exact r11l_10
            · obtain rfl : b = 2 := by omega
              exact r11l_11
        · exact r11l_12 a b (by omega) (by omega) (by omega) (by omega)
      · exact r11l_13 a b (by omega) (by omega) (by omega) (by omega)
    · exact r11l_14 a b (by omega) (by omega) (by omega) (by omega)
  · exact r11l_15 a b (by omega) (by omega) (by omega) (by omega)

