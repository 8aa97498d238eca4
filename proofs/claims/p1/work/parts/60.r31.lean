/-! Round 31 of the law: taken (written by wip/gen/genrun.py) -/
theorem r31k_491520 : m_cg 491520 = g_120_0 := rfl
theorem r31k_495616 : m_cg 495616 = g_121_0 := rfl
theorem r31k_495630 : m_cg 495630 = g_121_14 := rfl
theorem r31k_491531 : m_cg 491531 = g_120_11 := rfl
theorem r31k_516096 : m_cg 516096 = g_126_0 := rfl
theorem r31k_495629 : m_cg 495629 = g_121_13 := rfl
theorem r31k_516118 : m_cg 516118 = g_126_22 := rfl
theorem r31k_643072 : m_cg 643072 = g_157_0 := rfl
theorem r31k_573440 : m_cg 573440 = g_140_0 := rfl
theorem r31k_573455 : m_cg 573455 = g_140_15 := rfl
theorem r31k_643084 : m_cg 643084 = g_157_12 := rfl
theorem r31k_573454 : m_cg 573454 = g_140_14 := rfl
set_option maxRecDepth 20000 in
theorem r31l_0 (a : Nat) (b : Nat) (a0 : 0 ≤ a) (a1 : a ≤ 2147483647) (b0 : 0 ≤ b) (b1 : b ≤ 5) : z_ok false 491520 643072 [.inr (.inr (.inl 0))] [] [.inl a, .inl b] :=
  ⟨.inl 4294967285, z_h3, z_h3,
    t_run r31k_491520 (t_il (fun _ => rfl) (t_ic (t_ca (v := .inl 1) (h' := z_h3) (fun _ => rfl) rfl (t_cl (t_run r31k_495616 (t_il (fun _ => rfl) (t_czf (blt_f (by omega)) (t_il (fun _ => rfl) (t_il (fun _ => rfl) (t_cif (bgt_f (by omega)) (t_ic (t_go (t_run r31k_495630 (rfl))))))))))) rfl rfl (t_czt rfl (t_run r31k_491531 (t_al (fun _ => rfl) (t_il (fun _ => rfl) (t_this (fun _ => rfl) (t_ca (v := .inr (.inl none)) (h' := z_h3) (fun _ => rfl) rfl (t_cl (t_run r31k_516096 (t_il (fun _ => rfl) (t_al (fun _ => rfl) (t_getf (v := .inl 0) (fun _ => rfl) (t_ic (t_op (c := 4294967295) rfl (t_ca (v := .inl 0) (h' := z_h3) (fun _ => rfl) rfl (t_cl (t_run r31k_495616 (t_il (fun _ => rfl) (t_czf (blt_f (by omega)) (t_il (fun _ => rfl) (t_il (fun _ => rfl) (t_cit (bgt_t (by omega)) (t_run r31k_495629 (t_ic (rfl)))))))))) rfl rfl (t_czt rfl (t_run r31k_516118 (t_nul (rfl)))))))))))) rfl rfl (t_as (fun _ => rfl) (t_al (fun _ => rfl) (t_ifnn0 (t_ic (rfl)))))))))))))),
    t_run r31k_643072 (t_il (fun _ => rfl) (t_ic (t_ic (t_ca (v := .inl 1) (h' := z_h3) (fun _ => rfl) rfl (t_cl (t_run r31k_573440 (t_il (fun _ => rfl) (t_il (fun _ => rfl) (t_cif (blt_f (by omega)) (t_il (fun _ => rfl) (t_il (fun _ => rfl) (t_cif (bgt_f (by omega)) (t_ic (t_go (t_run r31k_573455 (rfl)))))))))))) rfl rfl (t_czt rfl (t_run r31k_643084 (t_il (fun _ => rfl) (t_ic (t_al (fun _ => rfl) (t_getf (v := .inl 0) (fun _ => rfl) (t_ic (t_op (c := 4294967295) rfl (t_ca (v := .inl 0) (h' := z_h3) (fun _ => rfl) rfl (t_cl (t_run r31k_573440 (t_il (fun _ => rfl) (t_il (fun _ => rfl) (t_cif (blt_f (by omega)) (t_il (fun _ => rfl) (t_il (fun _ => rfl) (t_cit (bgt_t (by omega)) (t_run r31k_573454 (t_ic (rfl))))))))))) rfl rfl (t_czf rfl (t_ic (rfl)))))))))))))))),
    fun _ => rfl, rfl, rfl, rfl, rfl, rfl, rfl, rfl⟩
set_option maxRecDepth 20000 in
theorem r31l_1 (a : Nat) (b : Nat) (a0 : 2147483648 ≤ a) (a1 : a ≤ 4294967295) (b0 : 0 ≤ b) (b1 : b ≤ 5) : z_ok false 491520 643072 [.inr (.inr (.inl 0))] [] [.inl a, .inl b] :=
  ⟨.inl 4294967285, z_h3, z_h3,
    t_run r31k_491520 (t_il (fun _ => rfl) (t_ic (t_ca (v := .inl 1) (h' := z_h3) (fun _ => rfl) rfl (t_cl (t_run r31k_495616 (t_il (fun _ => rfl) (t_czf (blt_f (by omega)) (t_il (fun _ => rfl) (t_il (fun _ => rfl) (t_cif (bgt_f (by omega)) (t_ic (t_go (t_run r31k_495630 (rfl))))))))))) rfl rfl (t_czt rfl (t_run r31k_491531 (t_al (fun _ => rfl) (t_il (fun _ => rfl) (t_this (fun _ => rfl) (t_ca (v := .inr (.inl none)) (h' := z_h3) (fun _ => rfl) rfl (t_cl (t_run r31k_516096 (t_il (fun _ => rfl) (t_al (fun _ => rfl) (t_getf (v := .inl 0) (fun _ => rfl) (t_ic (t_op (c := 4294967295) rfl (t_ca (v := .inl 0) (h' := z_h3) (fun _ => rfl) rfl (t_cl (t_run r31k_495616 (t_il (fun _ => rfl) (t_czt (blt_t (by omega)) (t_run r31k_495629 (t_ic (rfl))))))) rfl rfl (t_czt rfl (t_run r31k_516118 (t_nul (rfl)))))))))))) rfl rfl (t_as (fun _ => rfl) (t_al (fun _ => rfl) (t_ifnn0 (t_ic (rfl)))))))))))))),
    t_run r31k_643072 (t_il (fun _ => rfl) (t_ic (t_ic (t_ca (v := .inl 1) (h' := z_h3) (fun _ => rfl) rfl (t_cl (t_run r31k_573440 (t_il (fun _ => rfl) (t_il (fun _ => rfl) (t_cif (blt_f (by omega)) (t_il (fun _ => rfl) (t_il (fun _ => rfl) (t_cif (bgt_f (by omega)) (t_ic (t_go (t_run r31k_573455 (rfl)))))))))))) rfl rfl (t_czt rfl (t_run r31k_643084 (t_il (fun _ => rfl) (t_ic (t_al (fun _ => rfl) (t_getf (v := .inl 0) (fun _ => rfl) (t_ic (t_op (c := 4294967295) rfl (t_ca (v := .inl 0) (h' := z_h3) (fun _ => rfl) rfl (t_cl (t_run r31k_573440 (t_il (fun _ => rfl) (t_il (fun _ => rfl) (t_cit (blt_t (by omega)) (t_run r31k_573454 (t_ic (rfl)))))))) rfl rfl (t_czf rfl (t_ic (rfl)))))))))))))))),
    fun _ => rfl, rfl, rfl, rfl, rfl, rfl, rfl, rfl⟩
set_option maxRecDepth 20000 in
theorem r31l_2 (a : Nat) (b : Nat) (a0 : 0 ≤ a) (a1 : a ≤ 4294967295) (b0 : 6 ≤ b) (b1 : b ≤ 2147483647) : z_ok false 491520 643072 [.inr (.inr (.inl 0))] [] [.inl a, .inl b] :=
  ⟨.inl 4294967294, z_h3, z_h3,
    t_run r31k_491520 (t_il (fun _ => rfl) (t_ic (t_ca (v := .inl 0) (h' := z_h3) (fun _ => rfl) rfl (t_cl (t_run r31k_495616 (t_il (fun _ => rfl) (t_czf (blt_f (by omega)) (t_il (fun _ => rfl) (t_il (fun _ => rfl) (t_cit (bgt_t (by omega)) (t_run r31k_495629 (t_ic (rfl)))))))))) rfl rfl (t_czf rfl (t_ic (rfl)))))),
    t_run r31k_643072 (t_il (fun _ => rfl) (t_ic (t_ic (t_ca (v := .inl 0) (h' := z_h3) (fun _ => rfl) rfl (t_cl (t_run r31k_573440 (t_il (fun _ => rfl) (t_il (fun _ => rfl) (t_cif (blt_f (by omega)) (t_il (fun _ => rfl) (t_il (fun _ => rfl) (t_cit (bgt_t (by omega)) (t_run r31k_573454 (t_ic (rfl))))))))))) rfl rfl (t_czf rfl (t_ic (rfl))))))),
    fun _ => rfl, rfl, rfl, rfl, rfl, rfl, rfl, rfl⟩
set_option maxRecDepth 20000 in
theorem r31l_3 (a : Nat) (b : Nat) (a0 : 0 ≤ a) (a1 : a ≤ 4294967295) (b0 : 2147483648 ≤ b) (b1 : b ≤ 4294967295) : z_ok false 491520 643072 [.inr (.inr (.inl 0))] [] [.inl a, .inl b] :=
  ⟨.inl 4294967294, z_h3, z_h3,
    t_run r31k_491520 (t_il (fun _ => rfl) (t_ic (t_ca (v := .inl 0) (h' := z_h3) (fun _ => rfl) rfl (t_cl (t_run r31k_495616 (t_il (fun _ => rfl) (t_czt (blt_t (by omega)) (t_run r31k_495629 (t_ic (rfl))))))) rfl rfl (t_czf rfl (t_ic (rfl)))))),
    t_run r31k_643072 (t_il (fun _ => rfl) (t_ic (t_ic (t_ca (v := .inl 0) (h' := z_h3) (fun _ => rfl) rfl (t_cl (t_run r31k_573440 (t_il (fun _ => rfl) (t_il (fun _ => rfl) (t_cit (blt_t (by omega)) (t_run r31k_573454 (t_ic (rfl)))))))) rfl rfl (t_czf rfl (t_ic (rfl))))))),
    fun _ => rfl, rfl, rfl, rfl, rfl, rfl, rfl, rfl⟩
theorem r31_all (a : Nat) (b : Nat) (ha_ : a < 4294967296) (hb_ : b < 4294967296) : z_ok false 491520 643072 [.inr (.inr (.inl 0))] [] [.inl a, .inl b] := by
  rcases Nat.lt_or_ge b 2147483648 with hb | hb
  · rcases Nat.lt_or_ge b 6 with hb | hb
    · rcases Nat.lt_or_ge a 2147483648 with ha | ha
      · exact r31l_0 a b (by omega) (by omega) (by omega) (by omega)
      · exact r31l_1 a b (by omega) (by omega) (by omega) (by omega)
    · exact r31l_2 a b (by omega) (by omega) (by omega) (by omega)
  · exact r31l_3 a b (by omega) (by omega) (by omega) (by omega)

