/-! Round 8 of the law: force (written by wip/gen/genrun.py) -/
set_option maxRecDepth 100000 in
theorem r8l_0 : z_ok false 397312 720896 [.inr (.inr (.inl 0))] [.inr (.inr (.inl 0))] [.inl 0] := z_pb_ok (by decide +kernel)
theorem r8k_397312 : m_cg 397312 = g_97_0 := rfl
theorem r8k_495616 : m_cg 495616 = g_121_0 := rfl
theorem r8k_495629 : m_cg 495629 = g_121_13 := rfl
theorem r8k_720896 : m_cg 720896 = g_176_0 := rfl
theorem r8k_573440 : m_cg 573440 = g_140_0 := rfl
theorem r8k_573454 : m_cg 573454 = g_140_14 := rfl
set_option maxRecDepth 20000 in
theorem r8l_1 (a : Nat) (a0 : 1 ≤ a) (a1 : a ≤ 2147483647) : z_ok false 397312 720896 [.inr (.inr (.inl 0))] [.inr (.inr (.inl 0))] [.inl a] :=
  ⟨.inl 4294967294, z_h3, z_h3,
    t_run r8k_397312 (t_il (fun _ => rfl) (t_al (fun _ => rfl) (t_getf (v := .inl 1) (fun _ => rfl) (t_ic (t_op (c := 0) rfl (t_ca (v := .inl 0) (h' := z_h3) (fun _ => rfl) rfl (t_cl (t_run r8k_495616 (t_il (fun _ => rfl) (t_czf (blt_f (by omega)) (t_il (fun _ => rfl) (t_il (fun _ => rfl) (t_cit (bgt_t (by omega)) (t_run r8k_495629 (t_ic (rfl)))))))))) rfl rfl (t_czf rfl (t_ic (rfl))))))))),
    t_run r8k_720896 (t_il (fun _ => rfl) (t_ic (t_al (fun _ => rfl) (t_getf (v := .inl 1) (fun _ => rfl) (t_ic (t_op (c := 0) rfl (t_ca (v := .inl 0) (h' := z_h3) (fun _ => rfl) rfl (t_cl (t_run r8k_573440 (t_il (fun _ => rfl) (t_il (fun _ => rfl) (t_cif (blt_f (by omega)) (t_il (fun _ => rfl) (t_il (fun _ => rfl) (t_cit (bgt_t (by omega)) (t_run r8k_573454 (t_ic (rfl))))))))))) rfl rfl (t_czf rfl (t_ic (rfl)))))))))),
    fun _ => rfl, rfl, rfl, rfl, rfl, rfl, rfl, rfl⟩
set_option maxRecDepth 20000 in
theorem r8l_2 (a : Nat) (a0 : 2147483648 ≤ a) (a1 : a ≤ 4294967295) : z_ok false 397312 720896 [.inr (.inr (.inl 0))] [.inr (.inr (.inl 0))] [.inl a] :=
  ⟨.inl 4294967294, z_h3, z_h3,
    t_run r8k_397312 (t_il (fun _ => rfl) (t_al (fun _ => rfl) (t_getf (v := .inl 1) (fun _ => rfl) (t_ic (t_op (c := 0) rfl (t_ca (v := .inl 0) (h' := z_h3) (fun _ => rfl) rfl (t_cl (t_run r8k_495616 (t_il (fun _ => rfl) (t_czt (blt_t (by omega)) (t_run r8k_495629 (t_ic (rfl))))))) rfl rfl (t_czf rfl (t_ic (rfl))))))))),
    t_run r8k_720896 (t_il (fun _ => rfl) (t_ic (t_al (fun _ => rfl) (t_getf (v := .inl 1) (fun _ => rfl) (t_ic (t_op (c := 0) rfl (t_ca (v := .inl 0) (h' := z_h3) (fun _ => rfl) rfl (t_cl (t_run r8k_573440 (t_il (fun _ => rfl) (t_il (fun _ => rfl) (t_cit (blt_t (by omega)) (t_run r8k_573454 (t_ic (rfl)))))))) rfl rfl (t_czf rfl (t_ic (rfl)))))))))),
    fun _ => rfl, rfl, rfl, rfl, rfl, rfl, rfl, rfl⟩
theorem r8_all (a : Nat) (ha_ : a < 4294967296) : z_ok false 397312 720896 [.inr (.inr (.inl 0))] [.inr (.inr (.inl 0))] [.inl a] := by
  rcases Nat.lt_or_ge a 2147483648 with ha | ha
  · rcases Nat.lt_or_ge a 1 with ha | ha
    · obtain rfl : a = 0 := by omega
      exact r8l_0
    · exact r8l_1 a (by omega) (by omega)
  · exact r8l_2 a (by omega) (by omega)

