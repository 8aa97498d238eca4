/-! Round 28 of the law: cell (written by wip/gen/genrun.py) -/
theorem r28k_479232 : m_cg 479232 = g_117_0 := rfl
set_option maxRecDepth 100000 in
theorem r28c_0 : m_run m_cg 22 3 503808 [.inl 0] [] z_h3 = some (some (.inl 1), z_h3) := z_is_ok (by decide +kernel)
theorem r28k_479242 : m_cg 479242 = g_117_10 := rfl
theorem r28k_905216 : m_cg 905216 = g_221_0 := rfl
set_option maxRecDepth 100000 in
theorem r28c_1 : m_run m_cg 18 2 897024 [.inl 0] [] z_h3 = some (some (.inl 1), z_h3) := z_is_ok (by decide +kernel)
theorem r28k_905226 : m_cg 905226 = g_221_10 := rfl
set_option maxRecDepth 20000 in
theorem r28l_0 (b : Nat) (c : Nat) (b0 : 0 ≤ b) (b1 : b ≤ 4294967295) (c0 : 0 ≤ c) (c1 : c ≤ 4294967295) : z_ok false 479232 905216 [.inr (.inr (.inl 0))] [] [.inl 0, .inl b, .inl c] :=
  ⟨.inl 4294967285, z_h3, z_h3,
    t_run r28k_479232 (t_il (fun _ => rfl) (t_ca (v := .inl 1) (h' := z_h3) (fun _ => rfl) rfl (t_cl (rn_le r28c_0 (Nat.le_of_ble_eq_true rfl) (Nat.le_of_ble_eq_true rfl))) rfl rfl (t_czt rfl (t_run r28k_479242 (t_al (fun _ => rfl) (t_getf (v := .inr (.inl (some 24))) (fun _ => rfl) (t_il (fun _ => rfl) (t_aald (o := none) (fun _ => rfl) (t_as (fun _ => rfl) (t_al (fun _ => rfl) (t_ifnn0 (t_ic (rfl))))))))))))),
    t_run r28k_905216 (t_il (fun _ => rfl) (t_ca (v := .inl 1) (h' := z_h3) (fun _ => rfl) rfl (t_cl (rn_le r28c_1 (Nat.le_of_ble_eq_true rfl) (Nat.le_of_ble_eq_true rfl))) rfl rfl (t_czt rfl (t_run r28k_905226 (t_al (fun _ => rfl) (t_getf (v := .inr (.inl (some 63))) (fun _ => rfl) (t_il (fun _ => rfl) (t_ald 4294967295 (fun _ => rfl) (t_czf rfl (t_ic (rfl))))))))))),
    fun _ => rfl, rfl, rfl, rfl, rfl, rfl, rfl, rfl⟩
set_option maxRecDepth 100000 in
theorem r28c_2 : m_run m_cg 22 3 503808 [.inl 1] [] z_h3 = some (some (.inl 1), z_h3) := z_is_ok (by decide +kernel)
set_option maxRecDepth 100000 in
theorem r28c_3 : m_run m_cg 18 2 897024 [.inl 1] [] z_h3 = some (some (.inl 1), z_h3) := z_is_ok (by decide +kernel)
set_option maxRecDepth 20000 in
theorem r28l_1 (b : Nat) (c : Nat) (b0 : 0 ≤ b) (b1 : b ≤ 4294967295) (c0 : 0 ≤ c) (c1 : c ≤ 4294967295) : z_ok false 479232 905216 [.inr (.inr (.inl 0))] [] [.inl 1, .inl b, .inl c] :=
  ⟨.inl 4294967285, z_h3, z_h3,
    t_run r28k_479232 (t_il (fun _ => rfl) (t_ca (v := .inl 1) (h' := z_h3) (fun _ => rfl) rfl (t_cl (rn_le r28c_2 (Nat.le_of_ble_eq_true rfl) (Nat.le_of_ble_eq_true rfl))) rfl rfl (t_czt rfl (t_run r28k_479242 (t_al (fun _ => rfl) (t_getf (v := .inr (.inl (some 24))) (fun _ => rfl) (t_il (fun _ => rfl) (t_aald (o := none) (fun _ => rfl) (t_as (fun _ => rfl) (t_al (fun _ => rfl) (t_ifnn0 (t_ic (rfl))))))))))))),
    t_run r28k_905216 (t_il (fun _ => rfl) (t_ca (v := .inl 1) (h' := z_h3) (fun _ => rfl) rfl (t_cl (rn_le r28c_3 (Nat.le_of_ble_eq_true rfl) (Nat.le_of_ble_eq_true rfl))) rfl rfl (t_czt rfl (t_run r28k_905226 (t_al (fun _ => rfl) (t_getf (v := .inr (.inl (some 63))) (fun _ => rfl) (t_il (fun _ => rfl) (t_ald 4294967295 (fun _ => rfl) (t_czf rfl (t_ic (rfl))))))))))),
    fun _ => rfl, rfl, rfl, rfl, rfl, rfl, rfl, rfl⟩
set_option maxRecDepth 100000 in
theorem r28c_4 : m_run m_cg 22 3 503808 [.inl 2] [] z_h3 = some (some (.inl 1), z_h3) := z_is_ok (by decide +kernel)
set_option maxRecDepth 100000 in
theorem r28c_5 : m_run m_cg 18 2 897024 [.inl 2] [] z_h3 = some (some (.inl 1), z_h3) := z_is_ok (by decide +kernel)
set_option maxRecDepth 20000 in
theorem r28l_2 (b : Nat) (c : Nat) (b0 : 0 ≤ b) (b1 : b ≤ 4294967295) (c0 : 0 ≤ c) (c1 : c ≤ 4294967295) : z_ok false 479232 905216 [.inr (.inr (.inl 0))] [] [.inl 2, .inl b, .inl c] :=
  ⟨.inl 4294967285, z_h3, z_h3,
    t_run r28k_479232 (t_il (fun _ => rfl) (t_ca (v := .inl 1) (h' := z_h3) (fun _ => rfl) rfl (t_cl (rn_le r28c_4 (Nat.le_of_ble_eq_true rfl) (Nat.le_of_ble_eq_true rfl))) rfl rfl (t_czt rfl (t_run r28k_479242 (t_al (fun _ => rfl) (t_getf (v := .inr (.inl (some 24))) (fun _ => rfl) (t_il (fun _ => rfl) (t_aald (o := none) (fun _ => rfl) (t_as (fun _ => rfl) (t_al (fun _ => rfl) (t_ifnn0 (t_ic (rfl))))))))))))),
    t_run r28k_905216 (t_il (fun _ => rfl) (t_ca (v := .inl 1) (h' := z_h3) (fun _ => rfl) rfl (t_cl (rn_le r28c_5 (Nat.le_of_ble_eq_true rfl) (Nat.le_of_ble_eq_true rfl))) rfl rfl (t_czt rfl (t_run r28k_905226 (t_al (fun _ => rfl) (t_getf (v := .inr (.inl (some 63))) (fun _ => rfl) (t_il (fun _ => rfl) (t_ald 4294967295 (fun _ => rfl) (t_czf rfl (t_ic (rfl))))))))))),
    fun _ => rfl, rfl, rfl, rfl, rfl, rfl, rfl, rfl⟩
set_option maxRecDepth 100000 in
theorem r28c_6 : m_run m_cg 22 3 503808 [.inl 3] [] z_h3 = some (some (.inl 1), z_h3) := z_is_ok (by decide +kernel)
set_option maxRecDepth 100000 in
theorem r28c_7 : m_run m_cg 18 2 897024 [.inl 3] [] z_h3 = some (some (.inl 1), z_h3) := z_is_ok (by decide +kernel)
set_option maxRecDepth 20000 in
theorem r28l_3 (b : Nat) (c : Nat) (b0 : 0 ≤ b) (b1 : b ≤ 4294967295) (c0 : 0 ≤ c) (c1 : c ≤ 4294967295) : z_ok false 479232 905216 [.inr (.inr (.inl 0))] [] [.inl 3, .inl b, .inl c] :=
  ⟨.inl 4294967285, z_h3, z_h3,
    t_run r28k_479232 (t_il (fun _ => rfl) (t_ca (v := .inl 1) (h' := z_h3) (fun _ => rfl) rfl (t_cl (rn_le r28c_6 (Nat.le_of_ble_eq_true rfl) (Nat.le_of_ble_eq_true rfl))) rfl rfl (t_czt rfl (t_run r28k_479242 (t_al (fun _ => rfl) (t_getf (v := .inr (.inl (some 24))) (fun _ => rfl) (t_il (fun _ => rfl) (t_aald (o := none) (fun _ => rfl) (t_as (fun _ => rfl) (t_al (fun _ => rfl) (t_ifnn0 (t_ic (rfl))))))))))))),
    t_run r28k_905216 (t_il (fun _ => rfl) (t_ca (v := .inl 1) (h' := z_h3) (fun _ => rfl) rfl (t_cl (rn_le r28c_7 (Nat.le_of_ble_eq_true rfl) (Nat.le_of_ble_eq_true rfl))) rfl rfl (t_czt rfl (t_run r28k_905226 (t_al (fun _ => rfl) (t_getf (v := .inr (.inl (some 63))) (fun _ => rfl) (t_il (fun _ => rfl) (t_ald 4294967295 (fun _ => rfl) (t_czf rfl (t_ic (rfl))))))))))),
    fun _ => rfl, rfl, rfl, rfl, rfl, rfl, rfl, rfl⟩
theorem r28k_503808 : m_cg 503808 = g_123_0 := rfl
theorem r28k_495616 : m_cg 495616 = g_121_0 := rfl
theorem r28k_495629 : m_cg 495629 = g_121_13 := rfl
theorem r28k_897024 : m_cg 897024 = g_219_0 := rfl
theorem r28k_897037 : m_cg 897037 = g_219_13 := rfl
set_option maxRecDepth 20000 in
theorem r28l_4 (a : Nat) (b : Nat) (c : Nat) (a0 : 4 ≤ a) (a1 : a ≤ 2147483647) (b0 : 0 ≤ b) (b1 : b ≤ 4294967295) (c0 : 0 ≤ c) (c1 : c ≤ 4294967295) : z_ok false 479232 905216 [.inr (.inr (.inl 0))] [] [.inl a, .inl b, .inl c] :=
  ⟨.inl 4294967294, z_h3, z_h3,
    t_run r28k_479232 (t_il (fun _ => rfl) (t_ca (v := .inl 0) (h' := z_h3) (fun _ => rfl) rfl (t_cl (t_run r28k_503808 (t_il (fun _ => rfl) (t_ic (t_ca (v := .inl 0) (h' := z_h3) (fun _ => rfl) rfl (t_cl (t_run r28k_495616 (t_il (fun _ => rfl) (t_czf (blt_f (by omega)) (t_il (fun _ => rfl) (t_il (fun _ => rfl) (t_cit (bgt_t (by omega)) (t_run r28k_495629 (t_ic (rfl)))))))))) rfl rfl (rfl)))))) rfl rfl (t_czf rfl (t_ic (rfl))))),
    t_run r28k_905216 (t_il (fun _ => rfl) (t_ca (v := .inl 0) (h' := z_h3) (fun _ => rfl) rfl (t_cl (t_run r28k_897024 (t_il (fun _ => rfl) (t_czf (blt_f (by omega)) (t_il (fun _ => rfl) (t_ic (t_cit (bge_t (by omega)) (t_run r28k_897037 (t_ic (rfl)))))))))) rfl rfl (t_czf rfl (t_ic (rfl))))),
    fun _ => rfl, rfl, rfl, rfl, rfl, rfl, rfl, rfl⟩
set_option maxRecDepth 20000 in
theorem r28l_5 (a : Nat) (b : Nat) (c : Nat) (a0 : 2147483648 ≤ a) (a1 : a ≤ 4294967295) (b0 : 0 ≤ b) (b1 : b ≤ 4294967295) (c0 : 0 ≤ c) (c1 : c ≤ 4294967295) : z_ok false 479232 905216 [.inr (.inr (.inl 0))] [] [.inl a, .inl b, .inl c] :=
  ⟨.inl 4294967294, z_h3, z_h3,
    t_run r28k_479232 (t_il (fun _ => rfl) (t_ca (v := .inl 0) (h' := z_h3) (fun _ => rfl) rfl (t_cl (t_run r28k_503808 (t_il (fun _ => rfl) (t_ic (t_ca (v := .inl 0) (h' := z_h3) (fun _ => rfl) rfl (t_cl (t_run r28k_495616 (t_il (fun _ => rfl) (t_czt (blt_t (by omega)) (t_run r28k_495629 (t_ic (rfl))))))) rfl rfl (rfl)))))) rfl rfl (t_czf rfl (t_ic (rfl))))),
    t_run r28k_905216 (t_il (fun _ => rfl) (t_ca (v := .inl 0) (h' := z_h3) (fun _ => rfl) rfl (t_cl (t_run r28k_897024 (t_il (fun _ => rfl) (t_czt (blt_t (by omega)) (t_run r28k_897037 (t_ic (rfl))))))) rfl rfl (t_czf rfl (t_ic (rfl))))),
    fun _ => rfl, rfl, rfl, rfl, rfl, rfl, rfl, rfl⟩
theorem r28_all (a : Nat) (b : Nat) (c : Nat) (ha_ : a < 4294967296) (hb_ : b < 4294967296) (hc_ : c < 4294967296) : z_ok false 479232 905216 [.inr (.inr (.inl 0))] [] [.inl a, .inl b, .inl c] := by
  rcases Nat.lt_or_ge a 2147483648 with ha | ha
  · rcases Nat.lt_or_ge a 4 with ha | ha
    · by_cases ha : a = 0
      · subst ha
        exact r28l_0 b c (by omega) (by omega) (by omega) (by omega)
      by_cases ha : a = 1
      · subst ha
        exact r28l_1 b c (by omega) (by omega) (by omega) (by omega)
      by_cases ha : a = 2
      · subst ha
        exact r28l_2 b c (by omega) (by omega) (by omega) (by omega)
      obtain rfl : a = 3 := by omega
      exact r28l_3 b c (by omega) (by omega) (by omega) (by omega)
    · exact r28l_4 a b c (by omega) (by omega) (by omega) (by omega) (by omega) (by omega)
  · exact r28l_5 a b c (by omega) (by omega) (by omega) (by omega) (by omega) (by omega)

