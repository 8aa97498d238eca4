/-! Round 5 of the law: asks (written by wip/gen/genrun.py) -/
theorem r5k_385024 : m_cg 385024 = g_94_0 := rfl
theorem r5k_516096 : m_cg 516096 = g_126_0 := rfl
theorem r5k_495616 : m_cg 495616 = g_121_0 := rfl
theorem r5k_495629 : m_cg 495629 = g_121_13 := rfl
theorem r5k_516118 : m_cg 516118 = g_126_22 := rfl
theorem r5k_385047 : m_cg 385047 = g_94_23 := rfl
theorem r5k_634880 : m_cg 634880 = g_155_0 := rfl
theorem r5k_573440 : m_cg 573440 = g_140_0 := rfl
theorem r5k_573454 : m_cg 573454 = g_140_14 := rfl
theorem r5k_634962 : m_cg 634962 = g_155_82 := rfl
set_option maxRecDepth 20000 in
theorem r5l_0 (a : Nat) (b : Nat) (c : Nat) (a0 : 0 ≤ a) (a1 : a ≤ 2147483647) (b0 : 0 ≤ b) (b1 : b ≤ 4294967295) (c0 : 0 ≤ c) (c1 : c ≤ 4294967295) : z_ok false 385024 634880 [.inr (.inr (.inl 0)), .inr (.inr (.inl 0)), .inr (.inr (.inl 0)), .inr (.inr (.inl 0))] [.inr (.inr (.inl 0)), .inr (.inr (.inl 0)), .inr (.inr (.inl 0))] [.inl a, .inl b, .inl c] :=
  ⟨.inl 4294967294, z_h3, z_h3,
    t_run r5k_385024 (t_al (fun _ => rfl) (t_il (fun _ => rfl) (t_this (fun _ => rfl) (t_ca (v := .inr (.inl none)) (h' := z_h3) (fun _ => rfl) rfl (t_cl (t_run r5k_516096 (t_il (fun _ => rfl) (t_al (fun _ => rfl) (t_getf (v := .inl 0) (fun _ => rfl) (t_ic (t_op (c := 4294967295) rfl (t_ca (v := .inl 0) (h' := z_h3) (fun _ => rfl) rfl (t_cl (t_run r5k_495616 (t_il (fun _ => rfl) (t_czf (blt_f (by omega)) (t_il (fun _ => rfl) (t_il (fun _ => rfl) (t_cit (bgt_t (by omega)) (t_run r5k_495629 (t_ic (rfl)))))))))) rfl rfl (t_czt rfl (t_run r5k_516118 (t_nul (rfl)))))))))))) rfl rfl (t_as (fun _ => rfl) (t_al (fun _ => rfl) (t_ifn0 (t_run r5k_385047 (t_ic (rfl)))))))))),
    t_run r5k_634880 (t_il (fun _ => rfl) (t_ic (t_opz (c := m_div (b) (100)) rfl rfl (t_is (fun _ => rfl) (t_il (fun _ => rfl) (t_ic (t_opz (c := m_div (b) (10)) rfl rfl (t_ic (t_opz (c := m_rem (m_div (b) (10)) (10)) rfl rfl (t_is (fun _ => rfl) (t_il (fun _ => rfl) (t_ic (t_opz (c := m_rem (b) (10)) rfl rfl (t_is (fun _ => rfl) (t_il (fun _ => rfl) (t_ic (t_al (fun _ => rfl) (t_getf (v := .inl 0) (fun _ => rfl) (t_ic (t_op (c := 4294967295) rfl (t_ca (v := .inl 0) (h' := z_h3) (fun _ => rfl) rfl (t_cl (t_run r5k_573440 (t_il (fun _ => rfl) (t_il (fun _ => rfl) (t_cif (blt_f (by omega)) (t_il (fun _ => rfl) (t_il (fun _ => rfl) (t_cit (bgt_t (by omega)) (t_run r5k_573454 (t_ic (rfl))))))))))) rfl rfl (t_czt rfl (t_run r5k_634962 (t_ic (rfl))))))))))))))))))))))))),
    fun _ => rfl, rfl, rfl, rfl, rfl, rfl, rfl, rfl⟩
set_option maxRecDepth 20000 in
theorem r5l_1 (a : Nat) (b : Nat) (c : Nat) (a0 : 2147483648 ≤ a) (a1 : a ≤ 4294967295) (b0 : 0 ≤ b) (b1 : b ≤ 4294967295) (c0 : 0 ≤ c) (c1 : c ≤ 4294967295) : z_ok false 385024 634880 [.inr (.inr (.inl 0)), .inr (.inr (.inl 0)), .inr (.inr (.inl 0)), .inr (.inr (.inl 0))] [.inr (.inr (.inl 0)), .inr (.inr (.inl 0)), .inr (.inr (.inl 0))] [.inl a, .inl b, .inl c] :=
  ⟨.inl 4294967294, z_h3, z_h3,
    t_run r5k_385024 (t_al (fun _ => rfl) (t_il (fun _ => rfl) (t_this (fun _ => rfl) (t_ca (v := .inr (.inl none)) (h' := z_h3) (fun _ => rfl) rfl (t_cl (t_run r5k_516096 (t_il (fun _ => rfl) (t_al (fun _ => rfl) (t_getf (v := .inl 0) (fun _ => rfl) (t_ic (t_op (c := 4294967295) rfl (t_ca (v := .inl 0) (h' := z_h3) (fun _ => rfl) rfl (t_cl (t_run r5k_495616 (t_il (fun _ => rfl) (t_czt (blt_t (by omega)) (t_run r5k_495629 (t_ic (rfl))))))) rfl rfl (t_czt rfl (t_run r5k_516118 (t_nul (rfl)))))))))))) rfl rfl (t_as (fun _ => rfl) (t_al (fun _ => rfl) (t_ifn0 (t_run r5k_385047 (t_ic (rfl)))))))))),
    t_run r5k_634880 (t_il (fun _ => rfl) (t_ic (t_opz (c := m_div (b) (100)) rfl rfl (t_is (fun _ => rfl) (t_il (fun _ => rfl) (t_ic (t_opz (c := m_div (b) (10)) rfl rfl (t_ic (t_opz (c := m_rem (m_div (b) (10)) (10)) rfl rfl (t_is (fun _ => rfl) (t_il (fun _ => rfl) (t_ic (t_opz (c := m_rem (b) (10)) rfl rfl (t_is (fun _ => rfl) (t_il (fun _ => rfl) (t_ic (t_al (fun _ => rfl) (t_getf (v := .inl 0) (fun _ => rfl) (t_ic (t_op (c := 4294967295) rfl (t_ca (v := .inl 0) (h' := z_h3) (fun _ => rfl) rfl (t_cl (t_run r5k_573440 (t_il (fun _ => rfl) (t_il (fun _ => rfl) (t_cit (blt_t (by omega)) (t_run r5k_573454 (t_ic (rfl)))))))) rfl rfl (t_czt rfl (t_run r5k_634962 (t_ic (rfl))))))))))))))))))))))))),
    fun _ => rfl, rfl, rfl, rfl, rfl, rfl, rfl, rfl⟩
theorem r5_all (a : Nat) (b : Nat) (c : Nat) (ha_ : a < 4294967296) (hb_ : b < 4294967296) (hc_ : c < 4294967296) : z_ok false 385024 634880 [.inr (.inr (.inl 0)), .inr (.inr (.inl 0)), .inr (.inr (.inl 0)), .inr (.inr (.inl 0))] [.inr (.inr (.inl 0)), .inr (.inr (.inl 0)), .inr (.inr (.inl 0))] [.inl a, .inl b, .inl c] := by
  rcases Nat.lt_or_ge a 2147483648 with ha | ha
  · exact r5l_0 a b c (by omega) (by omega) (by omega) (by omega) (by omega) (by omega)
  · exact r5l_1 a b c (by omega) (by omega) (by omega) (by omega) (by omega) (by omega)

