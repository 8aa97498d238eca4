/-! Round 0 of the law: build (written by wip/gen/genrun.py) -/
theorem r0k_364544 : m_cg 364544 = g_89_0 := rfl
theorem r0k_364576 : m_cg 364576 = g_89_32 := rfl
theorem r0k_602112 : m_cg 602112 = g_147_0 := rfl
set_option maxRecDepth 100000 in
theorem r0c_0 : m_run m_cg 15 2 573440 [.inl 0, .inl 1, .inl 6] [] z_h3 = some (some (.inl 0), z_h3) := z_is_ok (by decide +kernel)
theorem r0k_602142 : m_cg 602142 = g_147_30 := rfl
set_option maxRecDepth 20000 in
theorem r0l_0 (b : Nat) (b0 : 0 ≤ b) (b1 : b ≤ 4294967295) : z_ok false 364544 602112 [.inr (.inr (.inl 0)), .inr (.inr (.inl 0))] [.inr (.inr (.inl 0))] [.inl 0, .inl b] :=
  ⟨.inl 4294967294, z_h3, z_h3,
    t_run r0k_364544 (t_il (fun _ => rfl) (t_ic (t_cit rfl (t_run r0k_364576 (t_ic (rfl)))))),
    t_run r0k_602112 (t_il (fun _ => rfl) (t_ic (t_ic (t_ca (v := .inl 0) (h' := z_h3) (fun _ => rfl) rfl (t_cl (rn_le r0c_0 (Nat.le_of_ble_eq_true rfl) (Nat.le_of_ble_eq_true rfl))) rfl rfl (t_czt rfl (t_run r0k_602142 (t_ic (rfl)))))))),
    fun _ => rfl, rfl, rfl, rfl, rfl, rfl, rfl, rfl⟩
theorem r0k_573440 : m_cg 573440 = g_140_0 := rfl
theorem r0k_573455 : m_cg 573455 = g_140_15 := rfl
theorem r0k_573454 : m_cg 573454 = g_140_14 := rfl
set_option maxRecDepth 20000 in
theorem r0l_1 (a : Nat) (b : Nat) (a0 : 1 ≤ a) (a1 : a ≤ 6) (b0 : 0 ≤ b) (b1 : b ≤ 1) : z_ok false 364544 602112 [.inr (.inr (.inl 0)), .inr (.inr (.inl 0))] [.inr (.inr (.inl 0))] [.inl a, .inl b] :=
  ⟨.inl 4294967294, z_h3, z_h3,
    t_run r0k_364544 (t_il (fun _ => rfl) (t_ic (t_cif (blt_f (by omega)) (t_il (fun _ => rfl) (t_ic (t_cif (bgt_f (by omega)) (t_il (fun _ => rfl) (t_ic (t_cit (blt_t (by omega)) (t_run r0k_364576 (t_ic (rfl)))))))))))),
    t_run r0k_602112 (t_il (fun _ => rfl) (t_ic (t_ic (t_ca (v := .inl 1) (h' := z_h3) (fun _ => rfl) rfl (t_cl (t_run r0k_573440 (t_il (fun _ => rfl) (t_il (fun _ => rfl) (t_cif (blt_f (by omega)) (t_il (fun _ => rfl) (t_il (fun _ => rfl) (t_cif (bgt_f (by omega)) (t_ic (t_go (t_run r0k_573455 (rfl)))))))))))) rfl rfl (t_czf rfl (t_il (fun _ => rfl) (t_ic (t_ic (t_ca (v := .inl 0) (h' := z_h3) (fun _ => rfl) rfl (t_cl (t_run r0k_573440 (t_il (fun _ => rfl) (t_il (fun _ => rfl) (t_cit (blt_t (by omega)) (t_run r0k_573454 (t_ic (rfl)))))))) rfl rfl (t_czt rfl (t_run r0k_602142 (t_ic (rfl))))))))))))),
    fun _ => rfl, rfl, rfl, rfl, rfl, rfl, rfl, rfl⟩
set_option maxRecDepth 100000 in
theorem r0l_2 : z_ok false 364544 602112 [.inr (.inr (.inl 0)), .inr (.inr (.inl 0))] [.inr (.inr (.inl 0))] [.inl 1, .inl 2] := z_pb_ok (by decide +kernel)
set_option maxRecDepth 100000 in
theorem r0l_3 : z_ok false 364544 602112 [.inr (.inr (.inl 0)), .inr (.inr (.inl 0))] [.inr (.inr (.inl 0))] [.inl 1, .inl 3] := z_pb_ok (by decide +kernel)
set_option maxRecDepth 100000 in
theorem r0l_4 : z_ok false 364544 602112 [.inr (.inr (.inl 0)), .inr (.inr (.inl 0))] [.inr (.inr (.inl 0))] [.inl 1, .inl 4] := z_pb_ok (by decide +kernel)
set_option maxRecDepth 100000 in
theorem r0l_5 : z_ok false 364544 602112 [.inr (.inr (.inl 0)), .inr (.inr (.inl 0))] [.inr (.inr (.inl 0))] [.inl 1, .inl 5] := z_pb_ok (by decide +kernel)
set_option maxRecDepth 100000 in
theorem r0l_6 : z_ok false 364544 602112 [.inr (.inr (.inl 0)), .inr (.inr (.inl 0))] [.inr (.inr (.inl 0))] [.inl 2, .inl 2] := z_pb_ok (by decide +kernel)
set_option maxRecDepth 100000 in
theorem r0l_7 : z_ok false 364544 602112 [.inr (.inr (.inl 0)), .inr (.inr (.inl 0))] [.inr (.inr (.inl 0))] [.inl 2, .inl 3] := z_pb_ok (by decide +kernel)
set_option maxRecDepth 100000 in
theorem r0l_8 : z_ok false 364544 602112 [.inr (.inr (.inl 0)), .inr (.inr (.inl 0))] [.inr (.inr (.inl 0))] [.inl 2, .inl 4] := z_pb_ok (by decide +kernel)
set_option maxRecDepth 100000 in
theorem r0l_9 : z_ok false 364544 602112 [.inr (.inr (.inl 0)), .inr (.inr (.inl 0))] [.inr (.inr (.inl 0))] [.inl 2, .inl 5] := z_pb_ok (by decide +kernel)
set_option maxRecDepth 100000 in
theorem r0l_10 : z_ok false 364544 602112 [.inr (.inr (.inl 0)), .inr (.inr (.inl 0))] [.inr (.inr (.inl 0))] [.inl 3, .inl 2] := z_pb_ok (by decide +kernel)
set_option maxRecDepth 100000 in
theorem r0l_11 : z_ok false 364544 602112 [.inr (.inr (.inl 0)), .inr (.inr (.inl 0))] [.inr (.inr (.inl 0))] [.inl 3, .inl 3] := z_pb_ok (by decide +kernel)
set_option maxRecDepth 100000 in
theorem r0l_12 : z_ok false 364544 602112 [.inr (.inr (.inl 0)), .inr (.inr (.inl 0))] [.inr (.inr (.inl 0))] [.inl 3, .inl 4] := z_pb_ok (by decide +kernel)
set_option maxRecDepth 100000 in
theorem r0l_13 : z_ok false 364544 602112 [.inr (.inr (.inl 0)), .inr (.inr (.inl 0))] [.inr (.inr (.inl 0))] [.inl 3, .inl 5] := z_pb_ok (by decide +kernel)
set_option maxRecDepth 100000 in
theorem r0l_14 : z_ok false 364544 602112 [.inr (.inr (.inl 0)), .inr (.inr (.inl 0))] [.inr (.inr (.inl 0))] [.inl 4, .inl 2] := z_pb_ok (by decide +kernel)
set_option maxRecDepth 100000 in
theorem r0l_15 : z_ok false 364544 602112 [.inr (.inr (.inl 0)), .inr (.inr (.inl 0))] [.inr (.inr (.inl 0))] [.inl 4, .inl 3] := z_pb_ok (by decide +kernel)
set_option maxRecDepth 100000 in
theorem r0l_16 : z_ok false 364544 602112 [.inr (.inr (.inl 0)), .inr (.inr (.inl 0))] [.inr (.inr (.inl 0))] [.inl 4, .inl 4] := z_pb_ok (by decide +kernel)
set_option maxRecDepth 100000 in
theorem r0l_17 : z_ok false 364544 602112 [.inr (.inr (.inl 0)), .inr (.inr (.inl 0))] [.inr (.inr (.inl 0))] [.inl 4, .inl 5] := z_pb_ok (by decide +kernel)
set_option maxRecDepth 100000 in
theorem r0l_18 : z_ok false 364544 602112 [.inr (.inr (.inl 0)), .inr (.inr (.inl 0))] [.inr (.inr (.inl 0))] [.inl 5, .inl 2] := z_pb_ok (by decide +kernel)
set_option maxRecDepth 100000 in
theorem r0l_19 : z_ok false 364544 602112 [.inr (.inr (.inl 0)), .inr (.inr (.inl 0))] [.inr (.inr (.inl 0))] [.inl 5, .inl 3] := z_pb_ok (by decide +kernel)
set_option maxRecDepth 100000 in
theorem r0l_20 : z_ok false 364544 602112 [.inr (.inr (.inl 0)), .inr (.inr (.inl 0))] [.inr (.inr (.inl 0))] [.inl 5, .inl 4] := z_pb_ok (by decide +kernel)
set_option maxRecDepth 100000 in
theorem r0l_21 : z_ok false 364544 602112 [.inr (.inr (.inl 0)), .inr (.inr (.inl 0))] [.inr (.inr (.inl 0))] [.inl 5, .inl 5] := z_pb_ok (by decide +kernel)
set_option maxRecDepth 100000 in
theorem r0l_22 : z_ok false 364544 602112 [.inr (.inr (.inl 0)), .inr (.inr (.inl 0))] [.inr (.inr (.inl 0))] [.inl 6, .inl 2] := z_pb_ok (by decide +kernel)
set_option maxRecDepth 100000 in
theorem r0l_23 : z_ok false 364544 602112 [.inr (.inr (.inl 0)), .inr (.inr (.inl 0))] [.inr (.inr (.inl 0))] [.inl 6, .inl 3] := z_pb_ok (by decide +kernel)
set_option maxRecDepth 100000 in
theorem r0l_24 : z_ok false 364544 602112 [.inr (.inr (.inl 0)), .inr (.inr (.inl 0))] [.inr (.inr (.inl 0))] [.inl 6, .inl 4] := z_pb_ok (by decide +kernel)
set_option maxRecDepth 100000 in
theorem r0l_25 : z_ok false 364544 602112 [.inr (.inr (.inl 0)), .inr (.inr (.inl 0))] [.inr (.inr (.inl 0))] [.inl 6, .inl 5] := z_pb_ok (by decide +kernel)
set_option maxRecDepth 20000 in
theorem r0l_26 (a : Nat) (b : Nat) (a0 : 1 ≤ a) (a1 : a ≤ 6) (b0 : 6 ≤ b) (b1 : b ≤ 2147483647) : z_ok false 364544 602112 [.inr (.inr (.inl 0)), .inr (.inr (.inl 0))] [.inr (.inr (.inl 0))] [.inl a, .inl b] :=
  ⟨.inl 4294967294, z_h3, z_h3,
    t_run r0k_364544 (t_il (fun _ => rfl) (t_ic (t_cif (blt_f (by omega)) (t_il (fun _ => rfl) (t_ic (t_cif (bgt_f (by omega)) (t_il (fun _ => rfl) (t_ic (t_cif (blt_f (by omega)) (t_il (fun _ => rfl) (t_ic (t_cit (bgt_t (by omega)) (t_run r0k_364576 (t_ic (rfl))))))))))))))),
    t_run r0k_602112 (t_il (fun _ => rfl) (t_ic (t_ic (t_ca (v := .inl 1) (h' := z_h3) (fun _ => rfl) rfl (t_cl (t_run r0k_573440 (t_il (fun _ => rfl) (t_il (fun _ => rfl) (t_cif (blt_f (by omega)) (t_il (fun _ => rfl) (t_il (fun _ => rfl) (t_cif (bgt_f (by omega)) (t_ic (t_go (t_run r0k_573455 (rfl)))))))))))) rfl rfl (t_czf rfl (t_il (fun _ => rfl) (t_ic (t_ic (t_ca (v := .inl 0) (h' := z_h3) (fun _ => rfl) rfl (t_cl (t_run r0k_573440 (t_il (fun _ => rfl) (t_il (fun _ => rfl) (t_cif (blt_f (by omega)) (t_il (fun _ => rfl) (t_il (fun _ => rfl) (t_cit (bgt_t (by omega)) (t_run r0k_573454 (t_ic (rfl))))))))))) rfl rfl (t_czt rfl (t_run r0k_602142 (t_ic (rfl))))))))))))),
    fun _ => rfl, rfl, rfl, rfl, rfl, rfl, rfl, rfl⟩
set_option maxRecDepth 20000 in
theorem r0l_27 (a : Nat) (b : Nat) (a0 : 1 ≤ a) (a1 : a ≤ 6) (b0 : 2147483648 ≤ b) (b1 : b ≤ 4294967295) : z_ok false 364544 602112 [.inr (.inr (.inl 0)), .inr (.inr (.inl 0))] [.inr (.inr (.inl 0))] [.inl a, .inl b] :=
  ⟨.inl 4294967294, z_h3, z_h3,
    t_run r0k_364544 (t_il (fun _ => rfl) (t_ic (t_cif (blt_f (by omega)) (t_il (fun _ => rfl) (t_ic (t_cif (bgt_f (by omega)) (t_il (fun _ => rfl) (t_ic (t_cit (blt_t (by omega)) (t_run r0k_364576 (t_ic (rfl)))))))))))),
    t_run r0k_602112 (t_il (fun _ => rfl) (t_ic (t_ic (t_ca (v := .inl 1) (h' := z_h3) (fun _ => rfl) rfl (t_cl (t_run r0k_573440 (t_il (fun _ => rfl) (t_il (fun _ => rfl) (t_cif (blt_f (by omega)) (t_il (fun _ => rfl) (t_il (fun _ => rfl) (t_cif (bgt_f (by omega)) (t_ic (t_go (t_run r0k_573455 (rfl)))))))))))) rfl rfl (t_czf rfl (t_il (fun _ => rfl) (t_ic (t_ic (t_ca (v := .inl 0) (h' := z_h3) (fun _ => rfl) rfl (t_cl (t_run r0k_573440 (t_il (fun _ => rfl) (t_il (fun _ => rfl) (t_cit (blt_t (by omega)) (t_run r0k_573454 (t_ic (rfl)))))))) rfl rfl (t_czt rfl (t_run r0k_602142 (t_ic (rfl))))))))))))),
    fun _ => rfl, rfl, rfl, rfl, rfl, rfl, rfl, rfl⟩
set_option maxRecDepth 20000 in
theorem r0l_28 (a : Nat) (b : Nat) (a0 : 7 ≤ a) (a1 : a ≤ 2147483647) (b0 : 0 ≤ b) (b1 : b ≤ 4294967295) : z_ok false 364544 602112 [.inr (.inr (.inl 0)), .inr (.inr (.inl 0))] [.inr (.inr (.inl 0))] [.inl a, .inl b] :=
  ⟨.inl 4294967294, z_h3, z_h3,
    t_run r0k_364544 (t_il (fun _ => rfl) (t_ic (t_cif (blt_f (by omega)) (t_il (fun _ => rfl) (t_ic (t_cit (bgt_t (by omega)) (t_run r0k_364576 (t_ic (rfl))))))))),
    t_run r0k_602112 (t_il (fun _ => rfl) (t_ic (t_ic (t_ca (v := .inl 0) (h' := z_h3) (fun _ => rfl) rfl (t_cl (t_run r0k_573440 (t_il (fun _ => rfl) (t_il (fun _ => rfl) (t_cif (blt_f (by omega)) (t_il (fun _ => rfl) (t_il (fun _ => rfl) (t_cit (bgt_t (by omega)) (t_run r0k_573454 (t_ic (rfl))))))))))) rfl rfl (t_czt rfl (t_run r0k_602142 (t_ic (rfl)))))))),
    fun _ => rfl, rfl, rfl, rfl, rfl, rfl, rfl, rfl⟩
set_option maxRecDepth 20000 in
theorem r0l_29 (a : Nat) (b : Nat) (a0 : 2147483648 ≤ a) (a1 : a ≤ 4294967295) (b0 : 0 ≤ b) (b1 : b ≤ 4294967295) : z_ok false 364544 602112 [.inr (.inr (.inl 0)), .inr (.inr (.inl 0))] [.inr (.inr (.inl 0))] [.inl a, .inl b] :=
  ⟨.inl 4294967294, z_h3, z_h3,
    t_run r0k_364544 (t_il (fun _ => rfl) (t_ic (t_cit (blt_t (by omega)) (t_run r0k_364576 (t_ic (rfl)))))),
    t_run r0k_602112 (t_il (fun _ => rfl) (t_ic (t_ic (t_ca (v := .inl 0) (h' := z_h3) (fun _ => rfl) rfl (t_cl (t_run r0k_573440 (t_il (fun _ => rfl) (t_il (fun _ => rfl) (t_cit (blt_t (by omega)) (t_run r0k_573454 (t_ic (rfl)))))))) rfl rfl (t_czt rfl (t_run r0k_602142 (t_ic (rfl)))))))),
    fun _ => rfl, rfl, rfl, rfl, rfl, rfl, rfl, rfl⟩
theorem r0_all (a : Nat) (b : Nat) (ha_ : a < 4294967296) (hb_ : b < 4294967296) : z_ok false 364544 602112 [.inr (.inr (.inl 0)), .inr (.inr (.inl 0))] [.inr (.inr (.inl 0))] [.inl a, .inl b] := by
  rcases Nat.lt_or_ge a 2147483648 with ha | ha
  · rcases Nat.lt_or_ge a 1 with ha | ha
    · obtain rfl : a = 0 := by omega
      exact r0l_0 b (by omega) (by omega)
    · rcases Nat.lt_or_ge a 7 with ha | ha
      · rcases Nat.lt_or_ge b 2147483648 with hb | hb
        · rcases Nat.lt_or_ge b 2 with hb | hb
          · exact r0l_1 a b (by omega) (by omega) (by omega) (by omega)
          · rcases Nat.lt_or_ge b 6 with hb | hb
            · rcases Nat.lt_or_ge a 2 with ha | ha
              · obtain rfl : a = 1 := by omega
                by_cases hb : b = 2
                · subst hb
                  exact r0l_2
                by_cases hb : b = 3
                · subst hb
                  exact r0l_3
                by_cases hb : b = 4
                · subst hb
                  exact r0l_4
                obtain rfl : b = 5 := by omega
                exact r0l_5
              · rcases Nat.lt_or_ge a 3 with ha | ha
                · obtain rfl : a = 2 := by omega
                  by_cases hb : b = 2
                  · subst hb
                    exact r0l_6
                  by_cases hb : b = 3
                  · subst hb
                    exact r0l_7
                  by_cases hb : b = 4
                  · subst hb
                    exact r0l_8
                  obtain rfl : b = 5 := by omega
                  exact r0l_9
                · rcases Nat.lt_or_ge a 4 with ha | ha
                  · obtain rfl : a = 3 := by omega
                    by_cases hb : b = 2
                    · subst hb
                      exact r0l_10
                    by_cases hb : b = 3
                    · subst hb
                      exact r0l_11
                    by_cases hb : b = 4
                    · subst hb
                      exact r0l_12
                    obtain rfl : b = 5 := by omega
                    exact r0l_13
                  · rcases Nat.lt_or_ge a 5 with ha | ha
                    · obtain rfl : a = 4 := by omega
                      by_cases hb : b = 2
                      · subst hb
                        exact r0l_14
                      by_cases hb : b = 3
                      · subst hb
                        exact r0l_15
                      by_cases hb : b = 4
                      · subst hb
                        exact r0l_16
                      obtain rfl : b = 5 := by omega
                      exact r0l_17
                    · rcases Nat.lt_or_ge a 6 with ha | ha
                      · obtain rfl : a = 5 := by omega
                        by_cases hb : b = 2
                        · subst hb
                          exact r0l_18
                        by_cases hb : b = 3
                        · subst hb
                          exact r0l_19
                        by_cases hb : b = 4
                        · subst hb
                          exact r0l_20
                        obtain rfl : b = 5 := by omega
                        exact r0l_21
                      · obtain rfl : a = 6 := by omega
                        by_cases hb : b = 2
                        · subst hb
                          exact r0l_22
                        by_cases hb : b = 3
                        · subst hb
                          exact r0l_23
                        by_cases hb : b = 4
                        · subst hb
                          exact r0l_24
                        obtain rfl : b = 5 := by omega
                        exact r0l_25
            · exact r0l_26 a b (by omega) (by omega) (by omega) (by omega)
        · exact r0l_27 a b (by omega) (by omega) (by omega) (by omega)
      · exact r0l_28 a b (by omega) (by omega) (by omega) (by omega)
  · exact r0l_29 a b (by omega) (by omega) (by omega) (by omega)

