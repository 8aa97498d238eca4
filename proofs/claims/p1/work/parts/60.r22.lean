/-! Round 22 of the law: judge (written by wip/gen/genrun.py) -/
set_option maxRecDepth 100000 in
theorem r22l_0 : ∀ a, a < 4 → z_pb false 454656 876544 [.inr (.inr (.inl 0)), .inr (.inr (.inl 0)), .inr (.inr (.inl 0)), .inr (.inr (.inl 0))] [.inr (.inr (.inl 0)), .inr (.inr (.inl 0)), .inr (.inr (.inl 0)), .inr (.inr (.inl 0)), .inr (.inr (.inl 0)), .inr (.inr (.inl 0))] [.inl a, .inl 0] = true := by decide +kernel
set_option maxRecDepth 100000 in
theorem r22l_1 : ∀ a, a < 4 → z_pb false 454656 876544 [.inr (.inr (.inl 0)), .inr (.inr (.inl 0)), .inr (.inr (.inl 0)), .inr (.inr (.inl 0))] [.inr (.inr (.inl 0)), .inr (.inr (.inl 0)), .inr (.inr (.inl 0)), .inr (.inr (.inl 0)), .inr (.inr (.inl 0)), .inr (.inr (.inl 0))] [.inl a, .inl 1] = true := by decide +kernel
theorem r22k_454656 : m_cg 454656 = g_111_0 := rfl
theorem r22k_503808 : m_cg 503808 = g_123_0 := rfl
theorem r22k_495616 : m_cg 495616 = g_121_0 := rfl
theorem r22k_495630 : m_cg 495630 = g_121_14 := rfl
theorem r22k_499712 : m_cg 499712 = g_122_0 := rfl
theorem r22k_499725 : m_cg 499725 = g_122_13 := rfl
theorem r22k_876544 : m_cg 876544 = g_214_0 := rfl
theorem r22k_897024 : m_cg 897024 = g_219_0 := rfl
theorem r22k_897038 : m_cg 897038 = g_219_14 := rfl
theorem r22k_573440 : m_cg 573440 = g_140_0 := rfl
theorem r22k_573454 : m_cg 573454 = g_140_14 := rfl
set_option maxRecDepth 20000 in
theorem r22l_2 (a : Nat) (b : Nat) (a0 : 0 ≤ a) (a1 : a ≤ 3) (b0 : 2 ≤ b) (b1 : b ≤ 2147483647) : z_ok false 454656 876544 [.inr (.inr (.inl 0)), .inr (.inr (.inl 0)), .inr (.inr (.inl 0)), .inr (.inr (.inl 0))] [.inr (.inr (.inl 0)), .inr (.inr (.inl 0)), .inr (.inr (.inl 0)), .inr (.inr (.inl 0)), .inr (.inr (.inl 0)), .inr (.inr (.inl 0))] [.inl a, .inl b] :=
  ⟨.inl 4294967294, z_h3, z_h3,
    t_run r22k_454656 (t_il (fun _ => rfl) (t_ca (v := .inl 1) (h' := z_h3) (fun _ => rfl) rfl (t_cl (t_run r22k_503808 (t_il (fun _ => rfl) (t_ic (t_ca (v := .inl 1) (h' := z_h3) (fun _ => rfl) rfl (t_cl (t_run r22k_495616 (t_il (fun _ => rfl) (t_czf (blt_f (by omega)) (t_il (fun _ => rfl) (t_il (fun _ => rfl) (t_cif (bgt_f (by omega)) (t_ic (t_go (t_run r22k_495630 (rfl))))))))))) rfl rfl (rfl)))))) rfl rfl (t_czf rfl (t_il (fun _ => rfl) (t_ca (v := .inl 0) (h' := z_h3) (fun _ => rfl) rfl (t_cl (t_run r22k_499712 (t_il (fun _ => rfl) (t_czf (beq_f (by omega)) (t_il (fun _ => rfl) (t_ic (t_cit (bne_t (by omega)) (t_run r22k_499725 (t_ic (rfl)))))))))) rfl rfl (t_czf rfl (t_ic (rfl)))))))),
    t_run r22k_876544 (t_il (fun _ => rfl) (t_ca (v := .inl 1) (h' := z_h3) (fun _ => rfl) rfl (t_cl (t_run r22k_897024 (t_il (fun _ => rfl) (t_czf (blt_f (by omega)) (t_il (fun _ => rfl) (t_ic (t_cif (bge_f (by omega)) (t_ic (t_go (t_run r22k_897038 (rfl))))))))))) rfl rfl (t_czf rfl (t_il (fun _ => rfl) (t_ic (t_ic (t_ca (v := .inl 0) (h' := z_h3) (fun _ => rfl) rfl (t_cl (t_run r22k_573440 (t_il (fun _ => rfl) (t_il (fun _ => rfl) (t_cif (blt_f (by omega)) (t_il (fun _ => rfl) (t_il (fun _ => rfl) (t_cit (bgt_t (by omega)) (t_run r22k_573454 (t_ic (rfl))))))))))) rfl rfl (t_czf rfl (t_ic (rfl)))))))))),
    fun _ => rfl, rfl, rfl, rfl, rfl, rfl, rfl, rfl⟩
set_option maxRecDepth 20000 in
theorem r22l_3 (a : Nat) (b : Nat) (a0 : 0 ≤ a) (a1 : a ≤ 3) (b0 : 2147483648 ≤ b) (b1 : b ≤ 4294967295) : z_ok false 454656 876544 [.inr (.inr (.inl 0)), .inr (.inr (.inl 0)), .inr (.inr (.inl 0)), .inr (.inr (.inl 0))] [.inr (.inr (.inl 0)), .inr (.inr (.inl 0)), .inr (.inr (.inl 0)), .inr (.inr (.inl 0)), .inr (.inr (.inl 0)), .inr (.inr (.inl 0))] [.inl a, .inl b] :=
  ⟨.inl 4294967294, z_h3, z_h3,
    t_run r22k_454656 (t_il (fun _ => rfl) (t_ca (v := .inl 1) (h' := z_h3) (fun _ => rfl) rfl (t_cl (t_run r22k_503808 (t_il (fun _ => rfl) (t_ic (t_ca (v := .inl 1) (h' := z_h3) (fun _ => rfl) rfl (t_cl (t_run r22k_495616 (t_il (fun _ => rfl) (t_czf (blt_f (by omega)) (t_il (fun _ => rfl) (t_il (fun _ => rfl) (t_cif (bgt_f (by omega)) (t_ic (t_go (t_run r22k_495630 (rfl))))))))))) rfl rfl (rfl)))))) rfl rfl (t_czf rfl (t_il (fun _ => rfl) (t_ca (v := .inl 0) (h' := z_h3) (fun _ => rfl) rfl (t_cl (t_run r22k_499712 (t_il (fun _ => rfl) (t_czf (beq_f (by omega)) (t_il (fun _ => rfl) (t_ic (t_cit (bne_t (by omega)) (t_run r22k_499725 (t_ic (rfl)))))))))) rfl rfl (t_czf rfl (t_ic (rfl)))))))),
    t_run r22k_876544 (t_il (fun _ => rfl) (t_ca (v := .inl 1) (h' := z_h3) (fun _ => rfl) rfl (t_cl (t_run r22k_897024 (t_il (fun _ => rfl) (t_czf (blt_f (by omega)) (t_il (fun _ => rfl) (t_ic (t_cif (bge_f (by omega)) (t_ic (t_go (t_run r22k_897038 (rfl))))))))))) rfl rfl (t_czf rfl (t_il (fun _ => rfl) (t_ic (t_ic (t_ca (v := .inl 0) (h' := z_h3) (fun _ => rfl) rfl (t_cl (t_run r22k_573440 (t_il (fun _ => rfl) (t_il (fun _ => rfl) (t_cit (blt_t (by omega)) (t_run r22k_573454 (t_ic (rfl)))))))) rfl rfl (t_czf rfl (t_ic (rfl)))))))))),
    fun _ => rfl, rfl, rfl, rfl, rfl, rfl, rfl, rfl⟩
theorem r22k_495629 : m_cg 495629 = g_121_13 := rfl
theorem r22k_454670 : m_cg 454670 = g_111_14 := rfl
theorem r22k_897037 : m_cg 897037 = g_219_13 := rfl
theorem r22k_876560 : m_cg 876560 = g_214_16 := rfl
set_option maxRecDepth 20000 in
theorem r22l_4 (a : Nat) (b : Nat) (a0 : 4 ≤ a) (a1 : a ≤ 2147483647) (b0 : 0 ≤ b) (b1 : b ≤ 4294967295) : z_ok false 454656 876544 [.inr (.inr (.inl 0)), .inr (.inr (.inl 0)), .inr (.inr (.inl 0)), .inr (.inr (.inl 0))] [.inr (.inr (.inl 0)), .inr (.inr (.inl 0)), .inr (.inr (.inl 0)), .inr (.inr (.inl 0)), .inr (.inr (.inl 0)), .inr (.inr (.inl 0))] [.inl a, .inl b] :=
  ⟨.inl 4294967294, z_h3, z_h3,
    t_run r22k_454656 (t_il (fun _ => rfl) (t_ca (v := .inl 0) (h' := z_h3) (fun _ => rfl) rfl (t_cl (t_run r22k_503808 (t_il (fun _ => rfl) (t_ic (t_ca (v := .inl 0) (h' := z_h3) (fun _ => rfl) rfl (t_cl (t_run r22k_495616 (t_il (fun _ => rfl) (t_czf (blt_f (by omega)) (t_il (fun _ => rfl) (t_il (fun _ => rfl) (t_cit (bgt_t (by omega)) (t_run r22k_495629 (t_ic (rfl)))))))))) rfl rfl (rfl)))))) rfl rfl (t_czt rfl (t_run r22k_454670 (t_ic (rfl)))))),
    t_run r22k_876544 (t_il (fun _ => rfl) (t_ca (v := .inl 0) (h' := z_h3) (fun _ => rfl) rfl (t_cl (t_run r22k_897024 (t_il (fun _ => rfl) (t_czf (blt_f (by omega)) (t_il (fun _ => rfl) (t_ic (t_cit (bge_t (by omega)) (t_run r22k_897037 (t_ic (rfl)))))))))) rfl rfl (t_czt rfl (t_run r22k_876560 (t_ic (rfl)))))),
    fun _ => rfl, rfl, rfl, rfl, rfl, rfl, rfl, rfl⟩
set_option maxRecDepth 20000 in
theorem r22l_5 (a : Nat) (b : Nat) (a0 : 2147483648 ≤ a) (a1 : a ≤ 4294967295) (b0 : 0 ≤ b) (b1 : b ≤ 4294967295) : z_ok false 454656 876544 [.inr (.inr (.inl 0)), .inr (.inr (.inl 0)), .inr (.inr (.inl 0)), .inr (.inr (.inl 0))] [.inr (.inr (.inl 0)), .inr (.inr (.inl 0)), .inr (.inr (.inl 0)), .inr (.inr (.inl 0)), .inr (.inr (.inl 0)), .inr (.inr (.inl 0))] [.inl a, .inl b] :=
  ⟨.inl 4294967294, z_h3, z_h3,
    t_run r22k_454656 (t_il (fun _ => rfl) (t_ca (v := .inl 0) (h' := z_h3) (fun _ => rfl) rfl (t_cl (t_run r22k_503808 (t_il (fun _ => rfl) (t_ic (t_ca (v := .inl 0) (h' := z_h3) (fun _ => rfl) rfl (t_cl (t_run r22k_495616 (t_il (fun _ => rfl) (t_czt (blt_t (by omega)) (t_run r22k_495629 (t_ic (rfl))))))) rfl rfl (rfl)))))) rfl rfl (t_czt rfl (t_run r22k_454670 (t_ic (rfl)))))),
    t_run r22k_876544 (t_il (fun _ => rfl) (t_ca (v := .inl 0) (h' := z_h3) (fun _ => rfl) rfl (t_cl (t_run r22k_897024 (t_il (fun _ => rfl) (t_czt (blt_t (by omega)) (t_run r22k_897037 (t_ic (rfl))))))) rfl rfl (t_czt rfl (t_run r22k_876560 (t_ic (rfl)))))),
    fun _ => rfl, rfl, rfl, rfl, rfl, rfl, rfl, rfl⟩
theorem r22_all (a : Nat) (b : Nat) (ha_ : a < 4294967296) (hb_ : b < 4294967296) : z_ok false 454656 876544 [.inr (.inr (.inl 0)), .inr (.inr (.inl 0)), .inr (.inr (.inl 0)), .inr (.inr (.inl 0))] [.inr (.inr (.inl 0)), .inr (.inr (.inl 0)), .inr (.inr (.inl 0)), .inr (.inr (.inl 0)), .inr (.inr (.inl 0)), .inr (.inr (.inl 0))] [.inl a, .inl b] := by
  rcases Nat.lt_or_ge a 2147483648 with ha | ha
  · rcases Nat.lt_or_ge a 4 with ha | ha
    · rcases Nat.lt_or_ge b 2147483648 with hb | hb
      · rcases Nat.lt_or_ge b 1 with hb | hb
        · obtain rfl : b = 0 := by omega
          exact z_pb_ok (r22l_0 a (by omega))
        · rcases Nat.lt_or_ge b 2 with hb | hb
          · obtain rfl : b = 1 := by omega
            exact z_pb_ok (r22l_1 a (by omega))
          · exact r22l_2 a b (by omega) (by omega) (by omega) (by omega)
      · exact r22l_3 a b (by omega) (by omega) (by omega) (by omega)
    · exact r22l_4 a b (by omega) (by omega) (by omega) (by omega)
  · exact r22l_5 a b (by omega) (by omega) (by omega) (by omega)

