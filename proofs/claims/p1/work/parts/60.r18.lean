/-! Round 18 of the law: gap (written by wip/gen/genrun.py) -/
set_option maxRecDepth 100000 in
theorem r18l_0 : ∀ a, a < 16 → z_pb false 438272 856064 [] [.inr (.inr (.inl 0)), .inr (.inr (.inl 0))] [.inl a] = true := by decide +kernel
theorem r18k_438272 : m_cg 438272 = g_107_0 := rfl
theorem r18k_495616 : m_cg 495616 = g_121_0 := rfl
theorem r18k_495629 : m_cg 495629 = g_121_13 := rfl
theorem r18k_856064 : m_cg 856064 = g_209_0 := rfl
set_option maxRecDepth 20000 in
theorem r18l_1 (a : Nat) (a0 : 16 ≤ a) (a1 : a ≤ 2147483647) : z_ok false 438272 856064 [] [.inr (.inr (.inl 0)), .inr (.inr (.inl 0))] [.inl a] :=
  ⟨.inl 4294967294, z_h3, z_h3,
    t_run r18k_438272 (t_il (fun _ => rfl) (t_ic (t_al (fun _ => rfl) (t_getf (v := .inr (.inl (some 1))) (fun _ => rfl) (t_getf (v := .inl 4) (fun _ => rfl) (t_op (c := 16) rfl (t_ic (t_op (c := 15) rfl (t_ca (v := .inl 0) (h' := z_h3) (fun _ => rfl) rfl (t_cl (t_run r18k_495616 (t_il (fun _ => rfl) (t_czf (blt_f (by omega)) (t_il (fun _ => rfl) (t_il (fun _ => rfl) (t_cit (bgt_t (by omega)) (t_run r18k_495629 (t_ic (rfl)))))))))) rfl rfl (t_czf rfl (t_ic (rfl)))))))))))),
    t_run r18k_856064 (t_il (fun _ => rfl) (t_czf (blt_f (by omega)) (t_il (fun _ => rfl) (t_al (fun _ => rfl) (t_getf (v := .inl 4) (fun _ => rfl) (t_op (c := a / 2 ^ 4) (shr_n (by omega) (by decide)) (t_czf (beq_f (by omega)) (t_ic (rfl))))))))),
    fun _ => rfl, rfl, rfl, rfl, rfl, rfl, rfl, rfl⟩
theorem r18k_856077 : m_cg 856077 = g_209_13 := rfl
set_option maxRecDepth 20000 in
theorem r18l_2 (a : Nat) (a0 : 2147483648 ≤ a) (a1 : a ≤ 4294967295) : z_ok false 438272 856064 [] [.inr (.inr (.inl 0)), .inr (.inr (.inl 0))] [.inl a] :=
  ⟨.inl 4294967294, z_h3, z_h3,
    t_run r18k_438272 (t_il (fun _ => rfl) (t_ic (t_al (fun _ => rfl) (t_getf (v := .inr (.inl (some 1))) (fun _ => rfl) (t_getf (v := .inl 4) (fun _ => rfl) (t_op (c := 16) rfl (t_ic (t_op (c := 15) rfl (t_ca (v := .inl 0) (h' := z_h3) (fun _ => rfl) rfl (t_cl (t_run r18k_495616 (t_il (fun _ => rfl) (t_czt (blt_t (by omega)) (t_run r18k_495629 (t_ic (rfl))))))) rfl rfl (t_czf rfl (t_ic (rfl)))))))))))),
    t_run r18k_856064 (t_il (fun _ => rfl) (t_czt (blt_t (by omega)) (t_run r18k_856077 (t_ic (rfl))))),
    fun _ => rfl, rfl, rfl, rfl, rfl, rfl, rfl, rfl⟩
theorem r18_all (a : Nat) (ha_ : a < 4294967296) : z_ok false 438272 856064 [] [.inr (.inr (.inl 0)), .inr (.inr (.inl 0))] [.inl a] := by
  rcases Nat.lt_or_ge a 2147483648 with ha | ha
  · rcases Nat.lt_or_ge a 16 with ha | ha
    · exact z_pb_ok (r18l_0 a (by omega))
    · exact r18l_1 a (by omega) (by omega)
  · exact r18l_2 a (by omega) (by omega)

