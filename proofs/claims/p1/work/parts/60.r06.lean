/-! Round 6 of the law: feed (written by wip/gen/genrun.py) -/
set_option maxRecDepth 100000 in
theorem r6l_0 : ∀ a, a < 256 → z_pb false 389120 655360 [] [] [.inl a] = true := by decide +kernel
theorem r6k_389120 : m_cg 389120 = g_95_0 := rfl
theorem r6k_495616 : m_cg 495616 = g_121_0 := rfl
theorem r6k_495629 : m_cg 495629 = g_121_13 := rfl
theorem r6k_655360 : m_cg 655360 = g_160_0 := rfl
theorem r6k_573440 : m_cg 573440 = g_140_0 := rfl
theorem r6k_573454 : m_cg 573454 = g_140_14 := rfl
set_option maxRecDepth 20000 in
theorem r6l_1 (a : Nat) (a0 : 256 ≤ a) (a1 : a ≤ 2147483647) : z_ok false 389120 655360 [] [] [.inl a] :=
  ⟨.inl 4294967294, z_h3, z_h3,
    t_run r6k_389120 (t_il (fun _ => rfl) (t_ic (t_ca (v := .inl 0) (h' := z_h3) (fun _ => rfl) rfl (t_cl (t_run r6k_495616 (t_il (fun _ => rfl) (t_czf (blt_f (by omega)) (t_il (fun _ => rfl) (t_il (fun _ => rfl) (t_cit (bgt_t (by omega)) (t_run r6k_495629 (t_ic (rfl)))))))))) rfl rfl (t_czf rfl (t_ic (rfl)))))),
    t_run r6k_655360 (t_il (fun _ => rfl) (t_ic (t_ic (t_ca (v := .inl 0) (h' := z_h3) (fun _ => rfl) rfl (t_cl (t_run r6k_573440 (t_il (fun _ => rfl) (t_il (fun _ => rfl) (t_cif (blt_f (by omega)) (t_il (fun _ => rfl) (t_il (fun _ => rfl) (t_cit (bgt_t (by omega)) (t_run r6k_573454 (t_ic (rfl))))))))))) rfl rfl (t_czf rfl (t_ic (rfl))))))),
    fun _ => rfl, rfl, rfl, rfl, rfl, rfl, rfl, rfl⟩
set_option maxRecDepth 20000 in
theorem r6l_2 (a : Nat) (a0 : 2147483648 ≤ a) (a1 : a ≤ 4294967295) : z_ok false 389120 655360 [] [] [.inl a] :=
  ⟨.inl 4294967294, z_h3, z_h3,
    t_run r6k_389120 (t_il (fun _ => rfl) (t_ic (t_ca (v := .inl 0) (h' := z_h3) (fun _ => rfl) rfl (t_cl (t_run r6k_495616 (t_il (fun _ => rfl) (t_czt (blt_t (by omega)) (t_run r6k_495629 (t_ic (rfl))))))) rfl rfl (t_czf rfl (t_ic (rfl)))))),
    t_run r6k_655360 (t_il (fun _ => rfl) (t_ic (t_ic (t_ca (v := .inl 0) (h' := z_h3) (fun _ => rfl) rfl (t_cl (t_run r6k_573440 (t_il (fun _ => rfl) (t_il (fun _ => rfl) (t_cit (blt_t (by omega)) (t_run r6k_573454 (t_ic (rfl)))))))) rfl rfl (t_czf rfl (t_ic (rfl))))))),
    fun _ => rfl, rfl, rfl, rfl, rfl, rfl, rfl, rfl⟩
theorem r6_all (a : Nat) (ha_ : a < 4294967296) : z_ok false 389120 655360 [] [] [.inl a] := by
  rcases Nat.lt_or_ge a 2147483648 with ha | ha
  · rcases Nat.lt_or_ge a 256 with ha | ha
    · exact z_pb_ok (r6l_0 a (by omega))
    · exact r6l_1 a (by omega) (by omega)
  · exact r6l_2 a (by omega) (by omega)

