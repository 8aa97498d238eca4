/-! Round 1 of the law: touch (written by wip/gen/genrun.py) -/
theorem r1k_368640 : m_cg 368640 = g_90_0 := rfl
set_option maxRecDepth 100000 in
theorem r1c_0 : m_run m_cg 41 3 331776 [.inr (.inl (some 1)), .inl 0, .inl 0] [] z_h3 = some (some (.inl 0), z_h3) := z_is_ok (by decide +kernel)
theorem r1k_368659 : m_cg 368659 = g_90_19 := rfl
theorem r1k_610304 : m_cg 610304 = g_149_0 := rfl
set_option maxRecDepth 100000 in
theorem r1c_1 : m_run m_cg 41 3 606208 [.inr (.inl (some 31)), .inl 0, .inl 0] [] z_h3 = some (some (.inl 0), z_h3) := z_is_ok (by decide +kernel)
theorem r1k_610322 : m_cg 610322 = g_149_18 := rfl
set_option maxRecDepth 20000 in
theorem r1l_0 (c : Nat) (c0 : 0 ≤ c) (c1 : c ≤ 4294967295) : z_ok false 368640 610304 [.inr (.inr (.inl 0))] [.inr (.inr (.inl 0))] [.inl 0, .inl 0, .inl c] :=
  ⟨.inl 4294967294, z_h3, z_h3,
    t_run r1k_368640 (t_al (fun _ => rfl) (t_getf (v := .inr (.inl (some 1))) (fun _ => rfl) (t_il (fun _ => rfl) (t_il (fun _ => rfl) (t_this (fun _ => rfl) (t_ca (v := .inl 0) (h' := z_h3) (fun _ => rfl) rfl (t_cl (rn_le r1c_0 (Nat.le_of_ble_eq_true rfl) (Nat.le_of_ble_eq_true rfl))) rfl rfl (t_czt rfl (t_run r1k_368659 (t_ic (rfl)))))))))),
    t_run r1k_610304 (t_al (fun _ => rfl) (t_il (fun _ => rfl) (t_il (fun _ => rfl) (t_this (fun _ => rfl) (t_ca (v := .inl 0) (h' := z_h3) (fun _ => rfl) rfl (t_cl (rn_le r1c_1 (Nat.le_of_ble_eq_true rfl) (Nat.le_of_ble_eq_true rfl))) rfl rfl (t_czt rfl (t_run r1k_610322 (t_ic (rfl))))))))),
    fun _ => rfl, rfl, rfl, rfl, rfl, rfl, rfl, rfl⟩
set_option maxRecDepth 100000 in
theorem r1l_1 : z_ok false 368640 610304 [.inr (.inr (.inl 0))] [.inr (.inr (.inl 0))] [.inl 0, .inl 1, .inl 0] := z_pb_ok (by decide +kernel)
set_option maxRecDepth 100000 in
theorem r1l_2 : z_ok false 368640 610304 [.inr (.inr (.inl 0))] [.inr (.inr (.inl 0))] [.inl 0, .inl 2, .inl 0] := z_pb_ok (by decide +kernel)
set_option maxRecDepth 100000 in
theorem r1l_3 : z_ok false 368640 610304 [.inr (.inr (.inl 0))] [.inr (.inr (.inl 0))] [.inl 0, .inl 3, .inl 0] := z_pb_ok (by decide +kernel)
set_option maxRecDepth 100000 in
theorem r1l_4 : z_ok false 368640 610304 [.inr (.inr (.inl 0))] [.inr (.inr (.inl 0))] [.inl 0, .inl 1, .inl 1] := z_pb_ok (by decide +kernel)
set_option maxRecDepth 100000 in
theorem r1l_5 : z_ok false 368640 610304 [.inr (.inr (.inl 0))] [.inr (.inr (.inl 0))] [.inl 0, .inl 2, .inl 1] := z_pb_ok (by decide +kernel)
set_option maxRecDepth 100000 in
theorem r1l_6 : z_ok false 368640 610304 [.inr (.inr (.inl 0))] [.inr (.inr (.inl 0))] [.inl 0, .inl 3, .inl 1] := z_pb_ok (by decide +kernel)
theorem r1k_331776 : m_cg 331776 = g_81_0 := rfl
set_option maxRecDepth 100000 in
theorem r1c_2 : m_run m_cg 19 2 327680 [.inr (.inl (some 1)), .inl 0] [] z_h3 = some (some (.inl 1), z_h3) := z_is_ok (by decide +kernel)
theorem r1k_327680 : m_cg 327680 = g_80_0 := rfl
theorem r1k_327697 : m_cg 327697 = g_80_17 := rfl
theorem r1k_331802 : m_cg 331802 = g_81_26 := rfl
theorem r1k_499712 : m_cg 499712 = g_122_0 := rfl
theorem r1k_499725 : m_cg 499725 = g_122_13 := rfl
theorem r1k_606208 : m_cg 606208 = g_148_0 := rfl
set_option maxRecDepth 100000 in
theorem r1c_3 : m_run m_cg 19 2 581632 [.inr (.inl (some 31)), .inl 0] [] z_h3 = some (some (.inl 1), z_h3) := z_is_ok (by decide +kernel)
theorem r1k_581632 : m_cg 581632 = g_142_0 := rfl
theorem r1k_581649 : m_cg 581649 = g_142_17 := rfl
theorem r1k_606234 : m_cg 606234 = g_148_26 := rfl
theorem r1k_573440 : m_cg 573440 = g_140_0 := rfl
theorem r1k_573454 : m_cg 573454 = g_140_14 := rfl
set_option maxRecDepth 20000 in
theorem r1l_7 (b : Nat) (c : Nat) (b0 : 1 ≤ b) (b1 : b ≤ 3) (c0 : 2 ≤ c) (c1 : c ≤ 2147483647) : z_ok false 368640 610304 [.inr (.inr (.inl 0))] [.inr (.inr (.inl 0))] [.inl 0, .inl b, .inl c] :=
  ⟨.inl 4294967294, z_h3, z_h3,
    t_run r1k_368640 (t_al (fun _ => rfl) (t_getf (v := .inr (.inl (some 1))) (fun _ => rfl) (t_il (fun _ => rfl) (t_il (fun _ => rfl) (t_this (fun _ => rfl) (t_ca (v := .inl 1) (h' := z_h3) (fun _ => rfl) rfl (t_cl (t_run r1k_331776 (t_al (fun _ => rfl) (t_il (fun _ => rfl) (t_this (fun _ => rfl) (t_ca (v := .inl 1) (h' := z_h3) (fun _ => rfl) rfl (t_cl (rn_le r1c_2 (Nat.le_of_ble_eq_true rfl) (Nat.le_of_ble_eq_true rfl))) rfl rfl (t_czf rfl (t_al (fun _ => rfl) (t_il (fun _ => rfl) (t_this (fun _ => rfl) (t_ca (v := .inl 1) (h' := z_h3) (fun _ => rfl) rfl (t_cl (t_run r1k_327680 (t_il (fun _ => rfl) (t_czf (blt_f (by omega)) (t_il (fun _ => rfl) (t_al (fun _ => rfl) (t_getf (v := .inl 4) (fun _ => rfl) (t_cif (bge_f (by omega)) (t_ic (t_go (t_run r1k_327697 (rfl)))))))))))) rfl rfl (t_czf rfl (t_il (fun _ => rfl) (t_il (fun _ => rfl) (t_cif (beq_f (by omega)) (t_ic (t_go (t_run r1k_331802 (rfl))))))))))))))))))) rfl rfl (t_czf rfl (t_il (fun _ => rfl) (t_ca (v := .inl 0) (h' := z_h3) (fun _ => rfl) rfl (t_cl (t_run r1k_499712 (t_il (fun _ => rfl) (t_czf (beq_f (by omega)) (t_il (fun _ => rfl) (t_ic (t_cit (bne_t (by omega)) (t_run r1k_499725 (t_ic (rfl)))))))))) rfl rfl (t_czf rfl (t_ic (rfl)))))))))))),
    t_run r1k_610304 (t_al (fun _ => rfl) (t_il (fun _ => rfl) (t_il (fun _ => rfl) (t_this (fun _ => rfl) (t_ca (v := .inl 1) (h' := z_h3) (fun _ => rfl) rfl (t_cl (t_run r1k_606208 (t_al (fun _ => rfl) (t_il (fun _ => rfl) (t_this (fun _ => rfl) (t_ca (v := .inl 1) (h' := z_h3) (fun _ => rfl) rfl (t_cl (rn_le r1c_3 (Nat.le_of_ble_eq_true rfl) (Nat.le_of_ble_eq_true rfl))) rfl rfl (t_czf rfl (t_al (fun _ => rfl) (t_il (fun _ => rfl) (t_this (fun _ => rfl) (t_ca (v := .inl 1) (h' := z_h3) (fun _ => rfl) rfl (t_cl (t_run r1k_581632 (t_il (fun _ => rfl) (t_czf (blt_f (by omega)) (t_il (fun _ => rfl) (t_al (fun _ => rfl) (t_getf (v := .inl 4) (fun _ => rfl) (t_cif (bge_f (by omega)) (t_ic (t_go (t_run r1k_581649 (rfl)))))))))))) rfl rfl (t_czf rfl (t_il (fun _ => rfl) (t_il (fun _ => rfl) (t_cif (beq_f (by omega)) (t_ic (t_go (t_run r1k_606234 (rfl))))))))))))))))))) rfl rfl (t_czf rfl (t_il (fun _ => rfl) (t_ic (t_ic (t_ca (v := .inl 0) (h' := z_h3) (fun _ => rfl) rfl (t_cl (t_run r1k_573440 (t_il (fun _ => rfl) (t_il (fun _ => rfl) (t_cif (blt_f (by omega)) (t_il (fun _ => rfl) (t_il (fun _ => rfl) (t_cit (bgt_t (by omega)) (t_run r1k_573454 (t_ic (rfl))))))))))) rfl rfl (t_czf rfl (t_ic (rfl))))))))))))),
    fun _ => rfl, rfl, rfl, rfl, rfl, rfl, rfl, rfl⟩
set_option maxRecDepth 20000 in
theorem r1l_8 (b : Nat) (c : Nat) (b0 : 1 ≤ b) (b1 : b ≤ 3) (c0 : 2147483648 ≤ c) (c1 : c ≤ 4294967295) : z_ok false 368640 610304 [.inr (.inr (.inl 0))] [.inr (.inr (.inl 0))] [.inl 0, .inl b, .inl c] :=
  ⟨.inl 4294967294, z_h3, z_h3,
    t_run r1k_368640 (t_al (fun _ => rfl) (t_getf (v := .inr (.inl (some 1))) (fun _ => rfl) (t_il (fun _ => rfl) (t_il (fun _ => rfl) (t_this (fun _ => rfl) (t_ca (v := .inl 1) (h' := z_h3) (fun _ => rfl) rfl (t_cl (t_run r1k_331776 (t_al (fun _ => rfl) (t_il (fun _ => rfl) (t_this (fun _ => rfl) (t_ca (v := .inl 1) (h' := z_h3) (fun _ => rfl) rfl (t_cl (rn_le r1c_2 (Nat.le_of_ble_eq_true rfl) (Nat.le_of_ble_eq_true rfl))) rfl rfl (t_czf rfl (t_al (fun _ => rfl) (t_il (fun _ => rfl) (t_this (fun _ => rfl) (t_ca (v := .inl 1) (h' := z_h3) (fun _ => rfl) rfl (t_cl (t_run r1k_327680 (t_il (fun _ => rfl) (t_czf (blt_f (by omega)) (t_il (fun _ => rfl) (t_al (fun _ => rfl) (t_getf (v := .inl 4) (fun _ => rfl) (t_cif (bge_f (by omega)) (t_ic (t_go (t_run r1k_327697 (rfl)))))))))))) rfl rfl (t_czf rfl (t_il (fun _ => rfl) (t_il (fun _ => rfl) (t_cif (beq_f (by omega)) (t_ic (t_go (t_run r1k_331802 (rfl))))))))))))))))))) rfl rfl (t_czf rfl (t_il (fun _ => rfl) (t_ca (v := .inl 0) (h' := z_h3) (fun _ => rfl) rfl (t_cl (t_run r1k_499712 (t_il (fun _ => rfl) (t_czf (beq_f (by omega)) (t_il (fun _ => rfl) (t_ic (t_cit (bne_t (by omega)) (t_run r1k_499725 (t_ic (rfl)))))))))) rfl rfl (t_czf rfl (t_ic (rfl)))))))))))),
    t_run r1k_610304 (t_al (fun _ => rfl) (t_il (fun _ => rfl) (t_il (fun _ => rfl) (t_this (fun _ => rfl) (t_ca (v := .inl 1) (h' := z_h3) (fun _ => rfl) rfl (t_cl (t_run r1k_606208 (t_al (fun _ => rfl) (t_il (fun _ => rfl) (t_this (fun _ => rfl) (t_ca (v := .inl 1) (h' := z_h3) (fun _ => rfl) rfl (t_cl (rn_le r1c_3 (Nat.le_of_ble_eq_true rfl) (Nat.le_of_ble_eq_true rfl))) rfl rfl (t_czf rfl (t_al (fun _ => rfl) (t_il (fun _ => rfl) (t_this (fun _ => rfl) (t_ca (v := .inl 1) (h' := z_h3) (fun _ => rfl) rfl (t_cl (t_run r1k_581632 (t_il (fun _ => rfl) (t_czf (blt_f (by omega)) (t_il (fun _ => rfl) (t_al (fun _ => rfl) (t_getf (v := .inl 4) (fun _ => rfl) (t_cif (bge_f (by omega)) (t_ic (t_go (t_run r1k_581649 (rfl)))))))))))) rfl rfl (t_czf rfl (t_il (fun _ => rfl) (t_il (fun _ => rfl) (t_cif (beq_f (by omega)) (t_ic (t_go (t_run r1k_606234 (rfl))))))))))))))))))) rfl rfl (t_czf rfl (t_il (fun _ => rfl) (t_ic (t_ic (t_ca (v := .inl 0) (h' := z_h3) (fun _ => rfl) rfl (t_cl (t_run r1k_573440 (t_il (fun _ => rfl) (t_il (fun _ => rfl) (t_cit (blt_t (by omega)) (t_run r1k_573454 (t_ic (rfl)))))))) rfl rfl (t_czf rfl (t_ic (rfl))))))))))))),
    fun _ => rfl, rfl, rfl, rfl, rfl, rfl, rfl, rfl⟩
set_option maxRecDepth 100000 in
theorem r1l_9 : z_ok false 368640 610304 [.inr (.inr (.inl 0))] [.inr (.inr (.inl 0))] [.inl 1, .inl 0, .inl 0] := z_pb_ok (by decide +kernel)
set_option maxRecDepth 100000 in
theorem r1l_10 : z_ok false 368640 610304 [.inr (.inr (.inl 0))] [.inr (.inr (.inl 0))] [.inl 1, .inl 0, .inl 1] := z_pb_ok (by decide +kernel)
set_option maxRecDepth 100000 in
theorem r1c_4 : m_run m_cg 42 3 331776 [.inr (.inl (some 1)), .inl 1, .inl 0] [] z_h3 = some (some (.inl 1), z_h3) := z_is_ok (by decide +kernel)
set_option maxRecDepth 100000 in
theorem r1c_5 : m_run m_cg 42 3 606208 [.inr (.inl (some 31)), .inl 1, .inl 0] [] z_h3 = some (some (.inl 1), z_h3) := z_is_ok (by decide +kernel)
set_option maxRecDepth 20000 in
theorem r1l_11 (c : Nat) (c0 : 2 ≤ c) (c1 : c ≤ 2147483647) : z_ok false 368640 610304 [.inr (.inr (.inl 0))] [.inr (.inr (.inl 0))] [.inl 1, .inl 0, .inl c] :=
  ⟨.inl 4294967294, z_h3, z_h3,
    t_run r1k_368640 (t_al (fun _ => rfl) (t_getf (v := .inr (.inl (some 1))) (fun _ => rfl) (t_il (fun _ => rfl) (t_il (fun _ => rfl) (t_this (fun _ => rfl) (t_ca (v := .inl 1) (h' := z_h3) (fun _ => rfl) rfl (t_cl (rn_le r1c_4 (Nat.le_of_ble_eq_true rfl) (Nat.le_of_ble_eq_true rfl))) rfl rfl (t_czf rfl (t_il (fun _ => rfl) (t_ca (v := .inl 0) (h' := z_h3) (fun _ => rfl) rfl (t_cl (t_run r1k_499712 (t_il (fun _ => rfl) (t_czf (beq_f (by omega)) (t_il (fun _ => rfl) (t_ic (t_cit (bne_t (by omega)) (t_run r1k_499725 (t_ic (rfl)))))))))) rfl rfl (t_czf rfl (t_ic (rfl)))))))))))),
    t_run r1k_610304 (t_al (fun _ => rfl) (t_il (fun _ => rfl) (t_il (fun _ => rfl) (t_this (fun _ => rfl) (t_ca (v := .inl 1) (h' := z_h3) (fun _ => rfl) rfl (t_cl (rn_le r1c_5 (Nat.le_of_ble_eq_true rfl) (Nat.le_of_ble_eq_true rfl))) rfl rfl (t_czf rfl (t_il (fun _ => rfl) (t_ic (t_ic (t_ca (v := .inl 0) (h' := z_h3) (fun _ => rfl) rfl (t_cl (t_run r1k_573440 (t_il (fun _ => rfl) (t_il (fun _ => rfl) (t_cif (blt_f (by omega)) (t_il (fun _ => rfl) (t_il (fun _ => rfl) (t_cit (bgt_t (by omega)) (t_run r1k_573454 (t_ic (rfl))))))))))) rfl rfl (t_czf rfl (t_ic (rfl))))))))))))),
    fun _ => rfl, rfl, rfl, rfl, rfl, rfl, rfl, rfl⟩
set_option maxRecDepth 20000 in
theorem r1l_12 (c : Nat) (c0 : 2147483648 ≤ c) (c1 : c ≤ 4294967295) : z_ok false 368640 610304 [.inr (.inr (.inl 0))] [.inr (.inr (.inl 0))] [.inl 1, .inl 0, .inl c] :=
  ⟨.inl 4294967294, z_h3, z_h3,
    t_run r1k_368640 (t_al (fun _ => rfl) (t_getf (v := .inr (.inl (some 1))) (fun _ => rfl) (t_il (fun _ => rfl) (t_il (fun _ => rfl) (t_this (fun _ => rfl) (t_ca (v := .inl 1) (h' := z_h3) (fun _ => rfl) rfl (t_cl (rn_le r1c_4 (Nat.le_of_ble_eq_true rfl) (Nat.le_of_ble_eq_true rfl))) rfl rfl (t_czf rfl (t_il (fun _ => rfl) (t_ca (v := .inl 0) (h' := z_h3) (fun _ => rfl) rfl (t_cl (t_run r1k_499712 (t_il (fun _ => rfl) (t_czf (beq_f (by omega)) (t_il (fun _ => rfl) (t_ic (t_cit (bne_t (by omega)) (t_run r1k_499725 (t_ic (rfl)))))))))) rfl rfl (t_czf rfl (t_ic (rfl)))))))))))),
    t_run r1k_610304 (t_al (fun _ => rfl) (t_il (fun _ => rfl) (t_il (fun _ => rfl) (t_this (fun _ => rfl) (t_ca (v := .inl 1) (h' := z_h3) (fun _ => rfl) rfl (t_cl (rn_le r1c_5 (Nat.le_of_ble_eq_true rfl) (Nat.le_of_ble_eq_true rfl))) rfl rfl (t_czf rfl (t_il (fun _ => rfl) (t_ic (t_ic (t_ca (v := .inl 0) (h' := z_h3) (fun _ => rfl) rfl (t_cl (t_run r1k_573440 (t_il (fun _ => rfl) (t_il (fun _ => rfl) (t_cit (blt_t (by omega)) (t_run r1k_573454 (t_ic (rfl)))))))) rfl rfl (t_czf rfl (t_ic (rfl))))))))))))),
    fun _ => rfl, rfl, rfl, rfl, rfl, rfl, rfl, rfl⟩
set_option maxRecDepth 100000 in
theorem r1c_6 : m_run m_cg 41 3 331776 [.inr (.inl (some 1)), .inl 1, .inl 1] [] z_h3 = some (some (.inl 0), z_h3) := z_is_ok (by decide +kernel)
set_option maxRecDepth 100000 in
theorem r1c_7 : m_run m_cg 41 3 606208 [.inr (.inl (some 31)), .inl 1, .inl 1] [] z_h3 = some (some (.inl 0), z_h3) := z_is_ok (by decide +kernel)
set_option maxRecDepth 20000 in
theorem r1l_13 (c : Nat) (c0 : 0 ≤ c) (c1 : c ≤ 4294967295) : z_ok false 368640 610304 [.inr (.inr (.inl 0))] [.inr (.inr (.inl 0))] [.inl 1, .inl 1, .inl c] :=
  ⟨.inl 4294967294, z_h3, z_h3,
    t_run r1k_368640 (t_al (fun _ => rfl) (t_getf (v := .inr (.inl (some 1))) (fun _ => rfl) (t_il (fun _ => rfl) (t_il (fun _ => rfl) (t_this (fun _ => rfl) (t_ca (v := .inl 0) (h' := z_h3) (fun _ => rfl) rfl (t_cl (rn_le r1c_6 (Nat.le_of_ble_eq_true rfl) (Nat.le_of_ble_eq_true rfl))) rfl rfl (t_czt rfl (t_run r1k_368659 (t_ic (rfl)))))))))),
    t_run r1k_610304 (t_al (fun _ => rfl) (t_il (fun _ => rfl) (t_il (fun _ => rfl) (t_this (fun _ => rfl) (t_ca (v := .inl 0) (h' := z_h3) (fun _ => rfl) rfl (t_cl (rn_le r1c_7 (Nat.le_of_ble_eq_true rfl) (Nat.le_of_ble_eq_true rfl))) rfl rfl (t_czt rfl (t_run r1k_610322 (t_ic (rfl))))))))),
    fun _ => rfl, rfl, rfl, rfl, rfl, rfl, rfl, rfl⟩
set_option maxRecDepth 100000 in
theorem r1l_14 : z_ok false 368640 610304 [.inr (.inr (.inl 0))] [.inr (.inr (.inl 0))] [.inl 1, .inl 2, .inl 0] := z_pb_ok (by decide +kernel)
set_option maxRecDepth 100000 in
theorem r1l_15 : z_ok false 368640 610304 [.inr (.inr (.inl 0))] [.inr (.inr (.inl 0))] [.inl 1, .inl 3, .inl 0] := z_pb_ok (by decide +kernel)
set_option maxRecDepth 100000 in
theorem r1l_16 : z_ok false 368640 610304 [.inr (.inr (.inl 0))] [.inr (.inr (.inl 0))] [.inl 1, .inl 2, .inl 1] := z_pb_ok (by decide +kernel)
set_option maxRecDepth 100000 in
theorem r1l_17 : z_ok false 368640 610304 [.inr (.inr (.inl 0))] [.inr (.inr (.inl 0))] [.inl 1, .inl 3, .inl 1] := z_pb_ok (by decide +kernel)
set_option maxRecDepth 100000 in
theorem r1c_8 : m_run m_cg 19 2 327680 [.inr (.inl (some 1)), .inl 1] [] z_h3 = some (some (.inl 1), z_h3) := z_is_ok (by decide +kernel)
set_option maxRecDepth 100000 in
theorem r1c_9 : m_run m_cg 19 2 581632 [.inr (.inl (some 31)), .inl 1] [] z_h3 = some (some (.inl 1), z_h3) := z_is_ok (by decide +kernel)
set_option maxRecDepth 20000 in
theorem r1l_18 (b : Nat) (c : Nat) (b0 : 2 ≤ b) (b1 : b ≤ 3) (c0 : 2 ≤ c) (c1 : c ≤ 2147483647) : z_ok false 368640 610304 [.inr (.inr (.inl 0))] [.inr (.inr (.inl 0))] [.inl 1, .inl b, .inl c] :=
  ⟨.inl 4294967294, z_h3, z_h3,
    t_run r1k_368640 (t_al (fun _ => rfl) (t_getf (v := .inr (.inl (some 1))) (fun _ => rfl) (t_il (fun _ => rfl) (t_il (fun _ => rfl) (t_this (fun _ => rfl) (t_ca (v := .inl 1) (h' := z_h3) (fun _ => rfl) rfl (t_cl (t_run r1k_331776 (t_al (fun _ => rfl) (t_il (fun _ => rfl) (t_this (fun _ => rfl) (t_ca (v := .inl 1) (h' := z_h3) (fun _ => rfl) rfl (t_cl (rn_le r1c_8 (Nat.le_of_ble_eq_true rfl) (Nat.le_of_ble_eq_true rfl))) rfl rfl (t_czf rfl (t_al (fun _ => rfl) (t_il (fun _ => rfl) (t_this (fun _ => rfl) (t_ca (v := .inl 1) (h' := z_h3) (fun _ => rfl) rfl (t_cl (t_run r1k_327680 (t_il (fun _ => rfl) (t_czf (blt_f (by omega)) (t_il (fun _ => rfl) (t_al (fun _ => rfl) (t_getf (v := .inl 4) (fun _ => rfl) (t_cif (bge_f (by omega)) (t_ic (t_go (t_run r1k_327697 (rfl)))))))))))) rfl rfl (t_czf rfl (t_il (fun _ => rfl) (t_il (fun _ => rfl) (t_cif (beq_f (by omega)) (t_ic (t_go (t_run r1k_331802 (rfl))))))))))))))))))) rfl rfl (t_czf rfl (t_il (fun _ => rfl) (t_ca (v := .inl 0) (h' := z_h3) (fun _ => rfl) rfl (t_cl (t_run r1k_499712 (t_il (fun _ => rfl) (t_czf (beq_f (by omega)) (t_il (fun _ => rfl) (t_ic (t_cit (bne_t (by omega)) (t_run r1k_499725 (t_ic (rfl)))))))))) rfl rfl (t_czf rfl (t_ic (rfl)))))))))))),
    t_run r1k_610304 (t_al (fun _ => rfl) (t_il (fun _ => rfl) (t_il (fun _ => rfl) (t_this (fun _ => rfl) (t_ca (v := .inl 1) (h' := z_h3) (fun _ => rfl) rfl (t_cl (t_run r1k_606208 (t_al (fun _ => rfl) (t_il (fun _ => rfl) (t_this (fun _ => rfl) (t_ca (v := .inl 1) (h' := z_h3) (fun _ => rfl) rfl (t_cl (rn_le r1c_9 (Nat.le_of_ble_eq_true rfl) (Nat.le_of_ble_eq_true rfl))) rfl rfl (t_czf rfl (t_al (fun _ => rfl) (t_il (fun _ => rfl) (t_this (fun _ => rfl) (t_ca (v := .inl 1) (h' := z_h3) (fun _ => rfl) rfl (t_cl (t_run r1k_581632 (t_il (fun _ => rfl) (t_czf (blt_f (by omega)) (t_il (fun _ => rfl) (t_al (fun _ => rfl) (t_getf (v := .inl 4) (fun _ => rfl) (t_cif (bge_f (by omega)) (t_ic (t_go (t_run r1k_581649 (rfl)))))))))))) rfl rfl (t_czf rfl (t_il (fun _ => rfl) (t_il (fun _ => rfl) (t_cif (beq_f (by omega)) (t_ic (t_go (t_run r1k_606234 (rfl))))))))))))))))))) rfl rfl (t_czf rfl (t_il (fun _ => rfl) (t_ic (t_ic (t_ca (v := .inl 0) (h' := z_h3) (fun _ => rfl) rfl (t_cl (t_run r1k_573440 (t_il (fun _ => rfl) (t_il (fun _ => rfl) (t_cif (blt_f (by omega)) (t_il (fun _ => rfl) (t_il (fun _ => rfl) (t_cit (bgt_t (by omega)) (t_run r1k_573454 (t_ic (rfl))))))))))) rfl rfl (t_czf rfl (t_ic (rfl))))))))))))),
    fun _ => rfl, rfl, rfl, rfl, rfl, rfl, rfl, rfl⟩
set_option maxRecDepth 20000 in
theorem r1l_19 (b : Nat) (c : Nat) (b0 : 2 ≤ b) (b1 : b ≤ 3) (c0 : 2147483648 ≤ c) (c1 : c ≤ 4294967295) : z_ok false 368640 610304 [.inr (.inr (.inl 0))] [.inr (.inr (.inl 0))] [.inl 1, .inl b, .inl c] :=
  ⟨.inl 4294967294, z_h3, z_h3,
    t_run r1k_368640 (t_al (fun _ => rfl) (t_getf (v := .inr (.inl (some 1))) (fun _ => rfl) (t_il (fun _ => rfl) (t_il (fun _ => rfl) (t_this (fun _ => rfl) (t_ca (v := .inl 1) (h' := z_h3) (fun _ => rfl) rfl (t_cl (t_run r1k_331776 (t_al (fun _ => rfl) (t_il (fun _ => rfl) (t_this (fun _ => rfl) (t_ca (v := .inl 1) (h' := z_h3) (fun _ => rfl) rfl (t_cl (rn_le r1c_8 (Nat.le_of_ble_eq_true rfl) (Nat.le_of_ble_eq_true rfl))) rfl rfl (t_czf rfl (t_al (fun _ => rfl) (t_il (fun _ => rfl) (t_this (fun _ => rfl) (t_ca (v := .inl 1) (h' := z_h3) (fun _ => rfl) rfl (t_cl (t_run r1k_327680 (t_il (fun _ => rfl) (t_czf (blt_f (by omega)) (t_il (fun _ => rfl) (t_al (fun _ => rfl) (t_getf (v := .inl 4) (fun _ => rfl) (t_cif (bge_f (by omega)) (t_ic (t_go (t_run r1k_327697 (rfl)))))))))))) rfl rfl (t_czf rfl (t_il (fun _ => rfl) (t_il (fun _ => rfl) (t_cif (beq_f (by omega)) (t_ic (t_go (t_run r1k_331802 (rfl))))))))))))))))))) rfl rfl (t_czf rfl (t_il (fun _ => rfl) (t_ca (v := .inl 0) (h' := z_h3) (fun _ => rfl) rfl (t_cl (t_run r1k_499712 (t_il (fun _ => rfl) (t_czf (beq_f (by omega)) (t_il (fun _ => rfl) (t_ic (t_cit (bne_t (by omega)) (t_run r1k_499725 (t_ic (rfl)))))))))) rfl rfl (t_czf rfl (t_ic (rfl)))))))))))),
    t_run r1k_610304 (t_al (fun _ => rfl) (t_il (fun _ => rfl) (t_il (fun _ => rfl) (t_this (fun _ => rfl) (t_ca (v := .inl 1) (h' := z_h3) (fun _ => rfl) rfl (t_cl (t_run r1k_606208 (t_al (fun _ => rfl) (t_il (fun _ => rfl) (t_this (fun _ => rfl) (t_ca (v := .inl 1) (h' := z_h3) (fun _ => rfl) rfl (t_cl (rn_le r1c_9 (Nat.le_of_ble_eq_true rfl) (Nat.le_of_ble_eq_true rfl))) rfl rfl (t_czf rfl (t_al (fun _ => rfl) (t_il (fun _ => rfl) (t_this (fun _ => rfl) (t_ca (v := .inl 1) (h' := z_h3) (fun _ => rfl) rfl (t_cl (t_run r1k_581632 (t_il (fun _ => rfl) (t_czf (blt_f (by omega)) (t_il (fun _ => rfl) (t_al (fun _ => rfl) (t_getf (v := .inl 4) (fun _ => rfl) (t_cif (bge_f (by omega)) (t_ic (t_go (t_run r1k_581649 (rfl)))))))))))) rfl rfl (t_czf rfl (t_il (fun _ => rfl) (t_il (fun _ => rfl) (t_cif (beq_f (by omega)) (t_ic (t_go (t_run r1k_606234 (rfl))))))))))))))))))) rfl rfl (t_czf rfl (t_il (fun _ => rfl) (t_ic (t_ic (t_ca (v := .inl 0) (h' := z_h3) (fun _ => rfl) rfl (t_cl (t_run r1k_573440 (t_il (fun _ => rfl) (t_il (fun _ => rfl) (t_cit (blt_t (by omega)) (t_run r1k_573454 (t_ic (rfl)))))))) rfl rfl (t_czf rfl (t_ic (rfl))))))))))))),
    fun _ => rfl, rfl, rfl, rfl, rfl, rfl, rfl, rfl⟩
set_option maxRecDepth 100000 in
theorem r1l_20 : ∀ b, b < 2 → z_pb false 368640 610304 [.inr (.inr (.inl 0))] [.inr (.inr (.inl 0))] [.inl 2, .inl b, .inl 0] = true := by decide +kernel
set_option maxRecDepth 100000 in
theorem r1l_21 : ∀ b, b < 2 → z_pb false 368640 610304 [.inr (.inr (.inl 0))] [.inr (.inr (.inl 0))] [.inl 2, .inl b, .inl 1] = true := by decide +kernel
set_option maxRecDepth 100000 in
theorem r1c_10 : m_run m_cg 19 2 327680 [.inr (.inl (some 1)), .inl 2] [] z_h3 = some (some (.inl 1), z_h3) := z_is_ok (by decide +kernel)
set_option maxRecDepth 100000 in
theorem r1c_11 : m_run m_cg 19 2 581632 [.inr (.inl (some 31)), .inl 2] [] z_h3 = some (some (.inl 1), z_h3) := z_is_ok (by decide +kernel)
set_option maxRecDepth 20000 in
theorem r1l_22 (b : Nat) (c : Nat) (b0 : 0 ≤ b) (b1 : b ≤ 1) (c0 : 2 ≤ c) (c1 : c ≤ 2147483647) : z_ok false 368640 610304 [.inr (.inr (.inl 0))] [.inr (.inr (.inl 0))] [.inl 2, .inl b, .inl c] :=
  ⟨.inl 4294967294, z_h3, z_h3,
    t_run r1k_368640 (t_al (fun _ => rfl) (t_getf (v := .inr (.inl (some 1))) (fun _ => rfl) (t_il (fun _ => rfl) (t_il (fun _ => rfl) (t_this (fun _ => rfl) (t_ca (v := .inl 1) (h' := z_h3) (fun _ => rfl) rfl (t_cl (t_run r1k_331776 (t_al (fun _ => rfl) (t_il (fun _ => rfl) (t_this (fun _ => rfl) (t_ca (v := .inl 1) (h' := z_h3) (fun _ => rfl) rfl (t_cl (rn_le r1c_10 (Nat.le_of_ble_eq_true rfl) (Nat.le_of_ble_eq_true rfl))) rfl rfl (t_czf rfl (t_al (fun _ => rfl) (t_il (fun _ => rfl) (t_this (fun _ => rfl) (t_ca (v := .inl 1) (h' := z_h3) (fun _ => rfl) rfl (t_cl (t_run r1k_327680 (t_il (fun _ => rfl) (t_czf (blt_f (by omega)) (t_il (fun _ => rfl) (t_al (fun _ => rfl) (t_getf (v := .inl 4) (fun _ => rfl) (t_cif (bge_f (by omega)) (t_ic (t_go (t_run r1k_327697 (rfl)))))))))))) rfl rfl (t_czf rfl (t_il (fun _ => rfl) (t_il (fun _ => rfl) (t_cif (beq_f (by omega)) (t_ic (t_go (t_run r1k_331802 (rfl))))))))))))))))))) rfl rfl (t_czf rfl (t_il (fun _ => rfl) (t_ca (v := .inl 0) (h' := z_h3) (fun _ => rfl) rfl (t_cl (t_run r1k_499712 (t_il (fun _ => rfl) (t_czf (beq_f (by omega)) (t_il (fun _ => rfl) (t_ic (t_cit (bne_t (by omega)) (t_run r1k_499725 (t_ic (rfl)))))))))) rfl rfl (t_czf rfl (t_ic (rfl)))))))))))),
    t_run r1k_610304 (t_al (fun _ => rfl) (t_il (fun _ => rfl) (t_il (fun _ => rfl) (t_this (fun _ => rfl) (t_ca (v := .inl 1) (h' := z_h3) (fun _ => rfl) rfl (t_cl (t_run r1k_606208 (t_al (fun _ => rfl) (t_il (fun _ => rfl) (t_this (fun _ => rfl) (t_ca (v := .inl 1) (h' := z_h3) (fun _ => rfl) rfl (t_cl (rn_le r1c_11 (Nat.le_of_ble_eq_true rfl) (Nat.le_of_ble_eq_true rfl))) rfl rfl (t_czf rfl (t_al (fun _ => rfl) (t_il (fun _ => rfl) (t_this (fun _ => rfl) (t_ca (v := .inl 1) (h' := z_h3) (fun _ => rfl) rfl (t_cl (t_run r1k_581632 (t_il (fun _ => rfl) (t_czf (blt_f (by omega)) (t_il (fun _ => rfl) (t_al (fun _ => rfl) (t_getf (v := .inl 4) (fun _ => rfl) (t_cif (bge_f (by omega)) (t_ic (t_go (t_run r1k_581649 (rfl)))))))))))) rfl rfl (t_czf rfl (t_il (fun _ => rfl) (t_il (fun _ => rfl) (t_cif (beq_f (by omega)) (t_ic (t_go (t_run r1k_606234 (rfl))))))))))))))))))) rfl rfl (t_czf rfl (t_il (fun _ => rfl) (t_ic (t_ic (t_ca (v := .inl 0) (h' := z_h3) (fun _ => rfl) rfl (t_cl (t_run r1k_573440 (t_il (fun _ => rfl) (t_il (fun _ => rfl) (t_cif (blt_f (by omega)) (t_il (fun _ => rfl) (t_il (fun _ => rfl) (t_cit (bgt_t (by omega)) (t_run r1k_573454 (t_ic (rfl))))))))))) rfl rfl (t_czf rfl (t_ic (rfl))))))))))))),
    fun _ => rfl, rfl, rfl, rfl, rfl, rfl, rfl, rfl⟩
set_option maxRecDepth 20000 in
theorem r1l_23 (b : Nat) (c : Nat) (b0 : 0 ≤ b) (b1 : b ≤ 1) (c0 : 2147483648 ≤ c) (c1 : c ≤ 4294967295) : z_ok false 368640 610304 [.inr (.inr (.inl 0))] [.inr (.inr (.inl 0))] [.inl 2, .inl b, .inl c] :=
  ⟨.inl 4294967294, z_h3, z_h3,
    t_run r1k_368640 (t_al (fun _ => rfl) (t_getf (v := .inr (.inl (some 1))) (fun _ => rfl) (t_il (fun _ => rfl) (t_il (fun _ => rfl) (t_this (fun _ => rfl) (t_ca (v := .inl 1) (h' := z_h3) (fun _ => rfl) rfl (t_cl (t_run r1k_331776 (t_al (fun _ => rfl) (t_il (fun _ => rfl) (t_this (fun _ => rfl) (t_ca (v := .inl 1) (h' := z_h3) (fun _ => rfl) rfl (t_cl (rn_le r1c_10 (Nat.le_of_ble_eq_true rfl) (Nat.le_of_ble_eq_true rfl))) rfl rfl (t_czf rfl (t_al (fun _ => rfl) (t_il (fun _ => rfl) (t_this (fun _ => rfl) (t_ca (v := .inl 1) (h' := z_h3) (fun _ => rfl) rfl (t_cl (t_run r1k_327680 (t_il (fun _ => rfl) (t_czf (blt_f (by omega)) (t_il (fun _ => rfl) (t_al (fun _ => rfl) (t_getf (v := .inl 4) (fun _ => rfl) (t_cif (bge_f (by omega)) (t_ic (t_go (t_run r1k_327697 (rfl)))))))))))) rfl rfl (t_czf rfl (t_il (fun _ => rfl) (t_il (fun _ => rfl) (t_cif (beq_f (by omega)) (t_ic (t_go (t_run r1k_331802 (rfl))))))))))))))))))) rfl rfl (t_czf rfl (t_il (fun _ => rfl) (t_ca (v := .inl 0) (h' := z_h3) (fun _ => rfl) rfl (t_cl (t_run r1k_499712 (t_il (fun _ => rfl) (t_czf (beq_f (by omega)) (t_il (fun _ => rfl) (t_ic (t_cit (bne_t (by omega)) (t_run r1k_499725 (t_ic (rfl)))))))))) rfl rfl (t_czf rfl (t_ic (rfl)))))))))))),
    t_run r1k_610304 (t_al (fun _ => rfl) (t_il (fun _ => rfl) (t_il (fun _ => rfl) (t_this (fun _ => rfl) (t_ca (v := .inl 1) (h' := z_h3) (fun _ => rfl) rfl (t_cl (t_run r1k_606208 (t_al (fun _ => rfl) (t_il (fun _ => rfl) (t_this (fun _ => rfl) (t_ca (v := .inl 1) (h' := z_h3) (fun _ => rfl) rfl (t_cl (rn_le r1c_11 (Nat.le_of_ble_eq_true rfl) (Nat.le_of_ble_eq_true rfl))) rfl rfl (t_czf rfl (t_al (fun _ => rfl) (t_il (fun _ => rfl) (t_this (fun _ => rfl) (t_ca (v := .inl 1) (h' := z_h3) (fun _ => rfl) rfl (t_cl (t_run r1k_581632 (t_il (fun _ => rfl) (t_czf (blt_f (by omega)) (t_il (fun _ => rfl) (t_al (fun _ => rfl) (t_getf (v := .inl 4) (fun _ => rfl) (t_cif (bge_f (by omega)) (t_ic (t_go (t_run r1k_581649 (rfl)))))))))))) rfl rfl (t_czf rfl (t_il (fun _ => rfl) (t_il (fun _ => rfl) (t_cif (beq_f (by omega)) (t_ic (t_go (t_run r1k_606234 (rfl))))))))))))))))))) rfl rfl (t_czf rfl (t_il (fun _ => rfl) (t_ic (t_ic (t_ca (v := .inl 0) (h' := z_h3) (fun _ => rfl) rfl (t_cl (t_run r1k_573440 (t_il (fun _ => rfl) (t_il (fun _ => rfl) (t_cit (blt_t (by omega)) (t_run r1k_573454 (t_ic (rfl)))))))) rfl rfl (t_czf rfl (t_ic (rfl))))))))))))),
    fun _ => rfl, rfl, rfl, rfl, rfl, rfl, rfl, rfl⟩
set_option maxRecDepth 100000 in
theorem r1c_12 : m_run m_cg 41 3 331776 [.inr (.inl (some 1)), .inl 2, .inl 2] [] z_h3 = some (some (.inl 0), z_h3) := z_is_ok (by decide +kernel)
set_option maxRecDepth 100000 in
theorem r1c_13 : m_run m_cg 41 3 606208 [.inr (.inl (some 31)), .inl 2, .inl 2] [] z_h3 = some (some (.inl 0), z_h3) := z_is_ok (by decide +kernel)
set_option maxRecDepth 20000 in
theorem r1l_24 (c : Nat) (c0 : 0 ≤ c) (c1 : c ≤ 4294967295) : z_ok false 368640 610304 [.inr (.inr (.inl 0))] [.inr (.inr (.inl 0))] [.inl 2, .inl 2, .inl c] :=
  ⟨.inl 4294967294, z_h3, z_h3,
    t_run r1k_368640 (t_al (fun _ => rfl) (t_getf (v := .inr (.inl (some 1))) (fun _ => rfl) (t_il (fun _ => rfl) (t_il (fun _ => rfl) (t_this (fun _ => rfl) (t_ca (v := .inl 0) (h' := z_h3) (fun _ => rfl) rfl (t_cl (rn_le r1c_12 (Nat.le_of_ble_eq_true rfl) (Nat.le_of_ble_eq_true rfl))) rfl rfl (t_czt rfl (t_run r1k_368659 (t_ic (rfl)))))))))),
    t_run r1k_610304 (t_al (fun _ => rfl) (t_il (fun _ => rfl) (t_il (fun _ => rfl) (t_this (fun _ => rfl) (t_ca (v := .inl 0) (h' := z_h3) (fun _ => rfl) rfl (t_cl (rn_le r1c_13 (Nat.le_of_ble_eq_true rfl) (Nat.le_of_ble_eq_true rfl))) rfl rfl (t_czt rfl (t_run r1k_610322 (t_ic (rfl))))))))),
    fun _ => rfl, rfl, rfl, rfl, rfl, rfl, rfl, rfl⟩
set_option maxRecDepth 100000 in
theorem r1l_25 : z_ok false 368640 610304 [.inr (.inr (.inl 0))] [.inr (.inr (.inl 0))] [.inl 2, .inl 3, .inl 0] := z_pb_ok (by decide +kernel)
set_option maxRecDepth 100000 in
theorem r1l_26 : z_ok false 368640 610304 [.inr (.inr (.inl 0))] [.inr (.inr (.inl 0))] [.inl 2, .inl 3, .inl 1] := z_pb_ok (by decide +kernel)
set_option maxRecDepth 100000 in
theorem r1c_14 : m_run m_cg 42 3 331776 [.inr (.inl (some 1)), .inl 2, .inl 3] [] z_h3 = some (some (.inl 1), z_h3) := z_is_ok (by decide +kernel)
set_option maxRecDepth 100000 in
theorem r1c_15 : m_run m_cg 42 3 606208 [.inr (.inl (some 31)), .inl 2, .inl 3] [] z_h3 = some (some (.inl 1), z_h3) := z_is_ok (by decide +kernel)
set_option maxRecDepth 20000 in
theorem r1l_27 (c : Nat) (c0 : 2 ≤ c) (c1 : c ≤ 2147483647) : z_ok false 368640 610304 [.inr (.inr (.inl 0))] [.inr (.inr (.inl 0))] [.inl 2, .inl 3, .inl c] :=
  ⟨.inl 4294967294, z_h3, z_h3,
    t_run r1k_368640 (t_al (fun _ => rfl) (t_getf (v := .inr (.inl (some 1))) (fun _ => rfl) (t_il (fun _ => rfl) (t_il (fun _ => rfl) (t_this (fun _ => rfl) (t_ca (v := .inl 1) (h' := z_h3) (fun _ => rfl) rfl (t_cl (rn_le r1c_14 (Nat.le_of_ble_eq_true rfl) (Nat.le_of_ble_eq_true rfl))) rfl rfl (t_czf rfl (t_il (fun _ => rfl) (t_ca (v := .inl 0) (h' := z_h3) (fun _ => rfl) rfl (t_cl (t_run r1k_499712 (t_il (fun _ => rfl) (t_czf (beq_f (by omega)) (t_il (fun _ => rfl) (t_ic (t_cit (bne_t (by omega)) (t_run r1k_499725 (t_ic (rfl)))))))))) rfl rfl (t_czf rfl (t_ic (rfl)))))))))))),
    t_run r1k_610304 (t_al (fun _ => rfl) (t_il (fun _ => rfl) (t_il (fun _ => rfl) (t_this (fun _ => rfl) (t_ca (v := .inl 1) (h' := z_h3) (fun _ => rfl) rfl (t_cl (rn_le r1c_15 (Nat.le_of_ble_eq_true rfl) (Nat.le_of_ble_eq_true rfl))) rfl rfl (t_czf rfl (t_il (fun _ => rfl) (t_ic (t_ic (t_ca (v := .inl 0) (h' := z_h3) (fun _ => rfl) rfl (t_cl (t_run r1k_573440 (t_il (fun _ => rfl) (t_il (fun _ => rfl) (t_cif (blt_f (by omega)) (t_il (fun _ => rfl) (t_il (fun _ => rfl) (t_cit (bgt_t (by omega)) (t_run r1k_573454 (t_ic (rfl))))))))))) rfl rfl (t_czf rfl (t_ic (rfl))))))))))))),
    fun _ => rfl, rfl, rfl, rfl, rfl, rfl, rfl, rfl⟩
set_option maxRecDepth 20000 in
theorem r1l_28 (c : Nat) (c0 : 2147483648 ≤ c) (c1 : c ≤ 4294967295) : z_ok false 368640 610304 [.inr (.inr (.inl 0))] [.inr (.inr (.inl 0))] [.inl 2, .inl 3, .inl c] :=
  ⟨.inl 4294967294, z_h3, z_h3,
    t_run r1k_368640 (t_al (fun _ => rfl) (t_getf (v := .inr (.inl (some 1))) (fun _ => rfl) (t_il (fun _ => rfl) (t_il (fun _ => rfl) (t_this (fun _ => rfl) (t_ca (v := .inl 1) (h' := z_h3) (fun _ => rfl) rfl (t_cl (rn_le r1c_14 (Nat.le_of_ble_eq_true rfl) (Nat.le_of_ble_eq_true rfl))) rfl rfl (t_czf rfl (t_il (fun _ => rfl) (t_ca (v := .inl 0) (h' := z_h3) (fun _ => rfl) rfl (t_cl (t_run r1k_499712 (t_il (fun _ => rfl) (t_czf (beq_f (by omega)) (t_il (fun _ => rfl) (t_ic (t_cit (bne_t (by omega)) (t_run r1k_499725 (t_ic (rfl)))))))))) rfl rfl (t_czf rfl (t_ic (rfl)))))))))))),
    t_run r1k_610304 (t_al (fun _ => rfl) (t_il (fun _ => rfl) (t_il (fun _ => rfl) (t_this (fun _ => rfl) (t_ca (v := .inl 1) (h' := z_h3) (fun _ => rfl) rfl (t_cl (rn_le r1c_15 (Nat.le_of_ble_eq_true rfl) (Nat.le_of_ble_eq_true rfl))) rfl rfl (t_czf rfl (t_il (fun _ => rfl) (t_ic (t_ic (t_ca (v := .inl 0) (h' := z_h3) (fun _ => rfl) rfl (t_cl (t_run r1k_573440 (t_il (fun _ => rfl) (t_il (fun _ => rfl) (t_cit (blt_t (by omega)) (t_run r1k_573454 (t_ic (rfl)))))))) rfl rfl (t_czf rfl (t_ic (rfl))))))))))))),
    fun _ => rfl, rfl, rfl, rfl, rfl, rfl, rfl, rfl⟩
set_option maxRecDepth 100000 in
theorem r1l_29 : ∀ b, b < 3 → z_pb false 368640 610304 [.inr (.inr (.inl 0))] [.inr (.inr (.inl 0))] [.inl 3, .inl b, .inl 0] = true := by decide +kernel
set_option maxRecDepth 100000 in
theorem r1l_30 : ∀ b, b < 3 → z_pb false 368640 610304 [.inr (.inr (.inl 0))] [.inr (.inr (.inl 0))] [.inl 3, .inl b, .inl 1] = true := by decide +kernel
set_option maxRecDepth 100000 in
theorem r1c_16 : m_run m_cg 19 2 327680 [.inr (.inl (some 1)), .inl 3] [] z_h3 = some (some (.inl 1), z_h3) := z_is_ok (by decide +kernel)
set_option maxRecDepth 100000 in
theorem r1c_17 : m_run m_cg 19 2 581632 [.inr (.inl (some 31)), .inl 3] [] z_h3 = some (some (.inl 1), z_h3) := z_is_ok (by decide +kernel)
set_option maxRecDepth 20000 in
theorem r1l_31 (b : Nat) (c : Nat) (b0 : 0 ≤ b) (b1 : b ≤ 2) (c0 : 2 ≤ c) (c1 : c ≤ 2147483647) : z_ok false 368640 610304 [.inr (.inr (.inl 0))] [.inr (.inr (.inl 0))] [.inl 3, .inl b, .inl c] :=
  ⟨.inl 4294967294, z_h3, z_h3,
    t_run r1k_368640 (t_al (fun _ => rfl) (t_getf (v := .inr (.inl (some 1))) (fun _ => rfl) (t_il (fun _ => rfl) (t_il (fun _ => rfl) (t_this (fun _ => rfl) (t_ca (v := .inl 1) (h' := z_h3) (fun _ => rfl) rfl (t_cl (t_run r1k_331776 (t_al (fun _ => rfl) (t_il (fun _ => rfl) (t_this (fun _ => rfl) (t_ca (v := .inl 1) (h' := z_h3) (fun _ => rfl) rfl (t_cl (rn_le r1c_16 (Nat.le_of_ble_eq_true rfl) (Nat.le_of_ble_eq_true rfl))) rfl rfl (t_czf rfl (t_al (fun _ => rfl) (t_il (fun _ => rfl) (t_this (fun _ => rfl) (t_ca (v := .inl 1) (h' := z_h3) (fun _ => rfl) rfl (t_cl (t_run r1k_327680 (t_il (fun _ => rfl) (t_czf (blt_f (by omega)) (t_il (fun _ => rfl) (t_al (fun _ => rfl) (t_getf (v := .inl 4) (fun _ => rfl) (t_cif (bge_f (by omega)) (t_ic (t_go (t_run r1k_327697 (rfl)))))))))))) rfl rfl (t_czf rfl (t_il (fun _ => rfl) (t_il (fun _ => rfl) (t_cif (beq_f (by omega)) (t_ic (t_go (t_run r1k_331802 (rfl))))))))))))))))))) rfl rfl (t_czf rfl (t_il (fun _ => rfl) (t_ca (v := .inl 0) (h' := z_h3) (fun _ => rfl) rfl (t_cl (t_run r1k_499712 (t_il (fun _ => rfl) (t_czf (beq_f (by omega)) (t_il (fun _ => rfl) (t_ic (t_cit (bne_t (by omega)) (t_run r1k_499725 (t_ic (rfl)))))))))) rfl rfl (t_czf rfl (t_ic (rfl)))))))))))),
    t_run r1k_610304 (t_al (fun _ => rfl) (t_il (fun _ => rfl) (t_il (fun _ => rfl) (t_this (fun _ => rfl) (t_ca (v := .inl 1) (h' := z_h3) (fun _ => rfl) rfl (t_cl (t_run r1k_606208 (t_al (fun _ => rfl) (t_il (fun _ => rfl) (t_this (fun _ => rfl) (t_ca (v := .inl 1) (h' := z_h3) (fun _ => rfl) rfl (t_cl (rn_le r1c_17 (Nat.le_of_ble_eq_true rfl) (Nat.le_of_ble_eq_true rfl))) rfl rfl (t_czf rfl (t_al (fun _ => rfl) (t_il (fun _ => rfl) (t_this (fun _ => rfl) (t_ca (v := .inl 1) (h' := z_h3) (fun _ => rfl) rfl (t_cl (t_run r1k_581632 (t_il (fun _ => rfl) (t_czf (blt_f (by omega)) (t_il (fun _ => rfl) (t_al (fun _ => rfl) (t_getf (v := .inl 4) (fun _ => rfl) (t_cif (bge_f (by omega)) (t_ic (t_go (t_run r1k_581649 (rfl)))))))))))) rfl rfl (t_czf rfl (t_il (fun _ => rfl) (t_il (fun _ => rfl) (t_cif (beq_f (by omega)) (t_ic (t_go (t_run r1k_606234 (rfl))))))))))))))))))) rfl rfl (t_czf rfl (t_il (fun _ => rfl) (t_ic (t_ic (t_ca (v := .inl 0) (h' := z_h3) (fun _ => rfl) rfl (t_cl (t_run r1k_573440 (t_il (fun _ => rfl) (t_il (fun _ => rfl) (t_cif (blt_f (by omega)) (t_il (fun _ => rfl) (t_il (fun _ => rfl) (t_cit (bgt_t (by omega)) (t_run r1k_573454 (t_ic (rfl))))))))))) rfl rfl (t_czf rfl (t_ic (rfl))))))))))))),
    fun _ => rfl, rfl, rfl, rfl, rfl, rfl, rfl, rfl⟩
set_option maxRecDepth 20000 in
theorem r1l_32 (b : Nat) (c : Nat) (b0 : 0 ≤ b) (b1 : b ≤ 2) (c0 : 2147483648 ≤ c) (c1 : c ≤ 4294967295) : z_ok false 368640 610304 [.inr (.inr (.inl 0))] [.inr (.inr (.inl 0))] [.inl 3, .inl b, .inl c] :=
  ⟨.inl 4294967294, z_h3, z_h3,
    t_run r1k_368640 (t_al (fun _ => rfl) (t_getf (v := .inr (.inl (some 1))) (fun _ => rfl) (t_il (fun _ => rfl) (t_il (fun _ => rfl) (t_this (fun _ => rfl) (t_ca (v := .inl 1) (h' := z_h3) (fun _ => rfl) rfl (t_cl (t_run r1k_331776 (t_al (fun _ => rfl) (t_il (fun _ => rfl) (t_this (fun _ => rfl) (t_ca (v := .inl 1) (h' := z_h3) (fun _ => rfl) rfl (t_cl (rn_le r1c_16 (Nat.le_of_ble_eq_true rfl) (Nat.le_of_ble_eq_true rfl))) rfl rfl (t_czf rfl (t_al (fun _ => rfl) (t_il (fun _ => rfl) (t_this (fun _ => rfl) (t_ca (v := .inl 1) (h' := z_h3) (fun _ => rfl) rfl (t_cl (t_run r1k_327680 (t_il (fun _ => rfl) (t_czf (blt_f (by omega)) (t_il (fun _ => rfl) (t_al (fun _ => rfl) (t_getf (v := .inl 4) (fun _ => rfl) (t_cif (bge_f (by omega)) (t_ic (t_go (t_run r1k_327697 (rfl)))))))))))) rfl rfl (t_czf rfl (t_il (fun _ => rfl) (t_il (fun _ => rfl) (t_cif (beq_f (by omega)) (t_ic (t_go (t_run r1k_331802 (rfl))))))))))))))))))) rfl rfl (t_czf rfl (t_il (fun _ => rfl) (t_ca (v := .inl 0) (h' := z_h3) (fun _ => rfl) rfl (t_cl (t_run r1k_499712 (t_il (fun _ => rfl) (t_czf (beq_f (by omega)) (t_il (fun _ => rfl) (t_ic (t_cit (bne_t (by omega)) (t_run r1k_499725 (t_ic (rfl)))))))))) rfl rfl (t_czf rfl (t_ic (rfl)))))))))))),
    t_run r1k_610304 (t_al (fun _ => rfl) (t_il (fun _ => rfl) (t_il (fun _ => rfl) (t_this (fun _ => rfl) (t_ca (v := .inl 1) (h' := z_h3) (fun _ => rfl) rfl (t_cl (t_run r1k_606208 (t_al (fun _ => rfl) (t_il (fun _ => rfl) (t_this (fun _ => rfl) (t_ca (v := .inl 1) (h' := z_h3) (fun _ => rfl) rfl (t_cl (rn_le r1c_17 (Nat.le_of_ble_eq_true rfl) (Nat.le_of_ble_eq_true rfl))) rfl rfl (t_czf rfl (t_al (fun _ => rfl) (t_il (fun _ => rfl) (t_this (fun _ => rfl) (t_ca (v := .inl 1) (h' := z_h3) (fun _ => rfl) rfl (t_cl (t_run r1k_581632 (t_il (fun _ => rfl) (t_czf (blt_f (by omega)) (t_il (fun _ => rfl) (t_al (fun _ => rfl) (t_getf (v := .inl 4) (fun _ => rfl) (t_cif (bge_f (by omega)) (t_ic (t_go (t_run r1k_581649 (rfl)))))))))))) rfl rfl (t_czf rfl (t_il (fun _ => rfl) (t_il (fun _ => rfl) (t_cif (beq_f (by omega)) (t_ic (t_go (t_run r1k_606234 (rfl))))))))))))))))))) rfl rfl (t_czf rfl (t_il (fun _ => rfl) (t_ic (t_ic (t_ca (v := .inl 0) (h' := z_h3) (fun _ => rfl) rfl (t_cl (t_run r1k_573440 (t_il (fun _ => rfl) (t_il (fun _ => rfl) (t_cit (blt_t (by omega)) (t_run r1k_573454 (t_ic (rfl)))))))) rfl rfl (t_czf rfl (t_ic (rfl))))))))))))),
    fun _ => rfl, rfl, rfl, rfl, rfl, rfl, rfl, rfl⟩
set_option maxRecDepth 100000 in
theorem r1c_18 : m_run m_cg 41 3 331776 [.inr (.inl (some 1)), .inl 3, .inl 3] [] z_h3 = some (some (.inl 0), z_h3) := z_is_ok (by decide +kernel)
set_option maxRecDepth 100000 in
theorem r1c_19 : m_run m_cg 41 3 606208 [.inr (.inl (some 31)), .inl 3, .inl 3] [] z_h3 = some (some (.inl 0), z_h3) := z_is_ok (by decide +kernel)
set_option maxRecDepth 20000 in
theorem r1l_33 (c : Nat) (c0 : 0 ≤ c) (c1 : c ≤ 4294967295) : z_ok false 368640 610304 [.inr (.inr (.inl 0))] [.inr (.inr (.inl 0))] [.inl 3, .inl 3, .inl c] :=
  ⟨.inl 4294967294, z_h3, z_h3,
    t_run r1k_368640 (t_al (fun _ => rfl) (t_getf (v := .inr (.inl (some 1))) (fun _ => rfl) (t_il (fun _ => rfl) (t_il (fun _ => rfl) (t_this (fun _ => rfl) (t_ca (v := .inl 0) (h' := z_h3) (fun _ => rfl) rfl (t_cl (rn_le r1c_18 (Nat.le_of_ble_eq_true rfl) (Nat.le_of_ble_eq_true rfl))) rfl rfl (t_czt rfl (t_run r1k_368659 (t_ic (rfl)))))))))),
    t_run r1k_610304 (t_al (fun _ => rfl) (t_il (fun _ => rfl) (t_il (fun _ => rfl) (t_this (fun _ => rfl) (t_ca (v := .inl 0) (h' := z_h3) (fun _ => rfl) rfl (t_cl (rn_le r1c_19 (Nat.le_of_ble_eq_true rfl) (Nat.le_of_ble_eq_true rfl))) rfl rfl (t_czt rfl (t_run r1k_610322 (t_ic (rfl))))))))),
    fun _ => rfl, rfl, rfl, rfl, rfl, rfl, rfl, rfl⟩
theorem r1k_327696 : m_cg 327696 = g_80_16 := rfl
theorem r1k_331801 : m_cg 331801 = g_81_25 := rfl
theorem r1k_581648 : m_cg 581648 = g_142_16 := rfl
theorem r1k_606233 : m_cg 606233 = g_148_25 := rfl
set_option maxRecDepth 20000 in
theorem r1l_34 (a : Nat) (b : Nat) (c : Nat) (a0 : 0 ≤ a) (a1 : a ≤ 3) (b0 : 4 ≤ b) (b1 : b ≤ 2147483647) (c0 : 0 ≤ c) (c1 : c ≤ 4294967295) : z_ok false 368640 610304 [.inr (.inr (.inl 0))] [.inr (.inr (.inl 0))] [.inl a, .inl b, .inl c] :=
  ⟨.inl 4294967294, z_h3, z_h3,
    t_run r1k_368640 (t_al (fun _ => rfl) (t_getf (v := .inr (.inl (some 1))) (fun _ => rfl) (t_il (fun _ => rfl) (t_il (fun _ => rfl) (t_this (fun _ => rfl) (t_ca (v := .inl 0) (h' := z_h3) (fun _ => rfl) rfl (t_cl (t_run r1k_331776 (t_al (fun _ => rfl) (t_il (fun _ => rfl) (t_this (fun _ => rfl) (t_ca (v := .inl 1) (h' := z_h3) (fun _ => rfl) rfl (t_cl (t_run r1k_327680 (t_il (fun _ => rfl) (t_czf (blt_f (by omega)) (t_il (fun _ => rfl) (t_al (fun _ => rfl) (t_getf (v := .inl 4) (fun _ => rfl) (t_cif (bge_f (by omega)) (t_ic (t_go (t_run r1k_327697 (rfl)))))))))))) rfl rfl (t_czf rfl (t_al (fun _ => rfl) (t_il (fun _ => rfl) (t_this (fun _ => rfl) (t_ca (v := .inl 0) (h' := z_h3) (fun _ => rfl) rfl (t_cl (t_run r1k_327680 (t_il (fun _ => rfl) (t_czf (blt_f (by omega)) (t_il (fun _ => rfl) (t_al (fun _ => rfl) (t_getf (v := .inl 4) (fun _ => rfl) (t_cit (bge_t (by omega)) (t_run r1k_327696 (t_ic (rfl))))))))))) rfl rfl (t_czt rfl (t_run r1k_331801 (t_ic (rfl))))))))))))))) rfl rfl (t_czt rfl (t_run r1k_368659 (t_ic (rfl)))))))))),
    t_run r1k_610304 (t_al (fun _ => rfl) (t_il (fun _ => rfl) (t_il (fun _ => rfl) (t_this (fun _ => rfl) (t_ca (v := .inl 0) (h' := z_h3) (fun _ => rfl) rfl (t_cl (t_run r1k_606208 (t_al (fun _ => rfl) (t_il (fun _ => rfl) (t_this (fun _ => rfl) (t_ca (v := .inl 1) (h' := z_h3) (fun _ => rfl) rfl (t_cl (t_run r1k_581632 (t_il (fun _ => rfl) (t_czf (blt_f (by omega)) (t_il (fun _ => rfl) (t_al (fun _ => rfl) (t_getf (v := .inl 4) (fun _ => rfl) (t_cif (bge_f (by omega)) (t_ic (t_go (t_run r1k_581649 (rfl)))))))))))) rfl rfl (t_czf rfl (t_al (fun _ => rfl) (t_il (fun _ => rfl) (t_this (fun _ => rfl) (t_ca (v := .inl 0) (h' := z_h3) (fun _ => rfl) rfl (t_cl (t_run r1k_581632 (t_il (fun _ => rfl) (t_czf (blt_f (by omega)) (t_il (fun _ => rfl) (t_al (fun _ => rfl) (t_getf (v := .inl 4) (fun _ => rfl) (t_cit (bge_t (by omega)) (t_run r1k_581648 (t_ic (rfl))))))))))) rfl rfl (t_czt rfl (t_run r1k_606233 (t_ic (rfl))))))))))))))) rfl rfl (t_czt rfl (t_run r1k_610322 (t_ic (rfl))))))))),
    fun _ => rfl, rfl, rfl, rfl, rfl, rfl, rfl, rfl⟩
set_option maxRecDepth 20000 in
theorem r1l_35 (a : Nat) (b : Nat) (c : Nat) (a0 : 0 ≤ a) (a1 : a ≤ 3) (b0 : 2147483648 ≤ b) (b1 : b ≤ 4294967295) (c0 : 0 ≤ c) (c1 : c ≤ 4294967295) : z_ok false 368640 610304 [.inr (.inr (.inl 0))] [.inr (.inr (.inl 0))] [.inl a, .inl b, .inl c] :=
  ⟨.inl 4294967294, z_h3, z_h3,
    t_run r1k_368640 (t_al (fun _ => rfl) (t_getf (v := .inr (.inl (some 1))) (fun _ => rfl) (t_il (fun _ => rfl) (t_il (fun _ => rfl) (t_this (fun _ => rfl) (t_ca (v := .inl 0) (h' := z_h3) (fun _ => rfl) rfl (t_cl (t_run r1k_331776 (t_al (fun _ => rfl) (t_il (fun _ => rfl) (t_this (fun _ => rfl) (t_ca (v := .inl 1) (h' := z_h3) (fun _ => rfl) rfl (t_cl (t_run r1k_327680 (t_il (fun _ => rfl) (t_czf (blt_f (by omega)) (t_il (fun _ => rfl) (t_al (fun _ => rfl) (t_getf (v := .inl 4) (fun _ => rfl) (t_cif (bge_f (by omega)) (t_ic (t_go (t_run r1k_327697 (rfl)))))))))))) rfl rfl (t_czf rfl (t_al (fun _ => rfl) (t_il (fun _ => rfl) (t_this (fun _ => rfl) (t_ca (v := .inl 0) (h' := z_h3) (fun _ => rfl) rfl (t_cl (t_run r1k_327680 (t_il (fun _ => rfl) (t_czt (blt_t (by omega)) (t_run r1k_327696 (t_ic (rfl))))))) rfl rfl (t_czt rfl (t_run r1k_331801 (t_ic (rfl))))))))))))))) rfl rfl (t_czt rfl (t_run r1k_368659 (t_ic (rfl)))))))))),
    t_run r1k_610304 (t_al (fun _ => rfl) (t_il (fun _ => rfl) (t_il (fun _ => rfl) (t_this (fun _ => rfl) (t_ca (v := .inl 0) (h' := z_h3) (fun _ => rfl) rfl (t_cl (t_run r1k_606208 (t_al (fun _ => rfl) (t_il (fun _ => rfl) (t_this (fun _ => rfl) (t_ca (v := .inl 1) (h' := z_h3) (fun _ => rfl) rfl (t_cl (t_run r1k_581632 (t_il (fun _ => rfl) (t_czf (blt_f (by omega)) (t_il (fun _ => rfl) (t_al (fun _ => rfl) (t_getf (v := .inl 4) (fun _ => rfl) (t_cif (bge_f (by omega)) (t_ic (t_go (t_run r1k_581649 (rfl)))))))))))) rfl rfl (t_czf rfl (t_al (fun _ => rfl) (t_il (fun _ => rfl) (t_this (fun _ => rfl) (t_ca (v := .inl 0) (h' := z_h3) (fun _ => rfl) rfl (t_cl (t_run r1k_581632 (t_il (fun _ => rfl) (t_czt (blt_t (by omega)) (t_run r1k_581648 (t_ic (rfl))))))) rfl rfl (t_czt rfl (t_run r1k_606233 (t_ic (rfl))))))))))))))) rfl rfl (t_czt rfl (t_run r1k_610322 (t_ic (rfl))))))))),
    fun _ => rfl, rfl, rfl, rfl, rfl, rfl, rfl, rfl⟩
set_option maxRecDepth 20000 in
theorem r1l_36 (a : Nat) (b : Nat) (c : Nat) (a0 : 4 ≤ a) (a1 : a ≤ 2147483647) (b0 : 0 ≤ b) (b1 : b ≤ 4294967295) (c0 : 0 ≤ c) (c1 : c ≤ 4294967295) : z_ok false 368640 610304 [.inr (.inr (.inl 0))] [.inr (.inr (.inl 0))] [.inl a, .inl b, .inl c] :=
  ⟨.inl 4294967294, z_h3, z_h3,
    t_run r1k_368640 (t_al (fun _ => rfl) (t_getf (v := .inr (.inl (some 1))) (fun _ => rfl) (t_il (fun _ => rfl) (t_il (fun _ => rfl) (t_this (fun _ => rfl) (t_ca (v := .inl 0) (h' := z_h3) (fun _ => rfl) rfl (t_cl (t_run r1k_331776 (t_al (fun _ => rfl) (t_il (fun _ => rfl) (t_this (fun _ => rfl) (t_ca (v := .inl 0) (h' := z_h3) (fun _ => rfl) rfl (t_cl (t_run r1k_327680 (t_il (fun _ => rfl) (t_czf (blt_f (by omega)) (t_il (fun _ => rfl) (t_al (fun _ => rfl) (t_getf (v := .inl 4) (fun _ => rfl) (t_cit (bge_t (by omega)) (t_run r1k_327696 (t_ic (rfl))))))))))) rfl rfl (t_czt rfl (t_run r1k_331801 (t_ic (rfl)))))))))) rfl rfl (t_czt rfl (t_run r1k_368659 (t_ic (rfl)))))))))),
    t_run r1k_610304 (t_al (fun _ => rfl) (t_il (fun _ => rfl) (t_il (fun _ => rfl) (t_this (fun _ => rfl) (t_ca (v := .inl 0) (h' := z_h3) (fun _ => rfl) rfl (t_cl (t_run r1k_606208 (t_al (fun _ => rfl) (t_il (fun _ => rfl) (t_this (fun _ => rfl) (t_ca (v := .inl 0) (h' := z_h3) (fun _ => rfl) rfl (t_cl (t_run r1k_581632 (t_il (fun _ => rfl) (t_czf (blt_f (by omega)) (t_il (fun _ => rfl) (t_al (fun _ => rfl) (t_getf (v := .inl 4) (fun _ => rfl) (t_cit (bge_t (by omega)) (t_run r1k_581648 (t_ic (rfl))))))))))) rfl rfl (t_czt rfl (t_run r1k_606233 (t_ic (rfl)))))))))) rfl rfl (t_czt rfl (t_run r1k_610322 (t_ic (rfl))))))))),
    fun _ => rfl, rfl, rfl, rfl, rfl, rfl, rfl, rfl⟩
set_option maxRecDepth 20000 in
theorem r1l_37 (a : Nat) (b : Nat) (c : Nat) (a0 : 2147483648 ≤ a) (a1 : a ≤ 4294967295) (b0 : 0 ≤ b) (b1 : b ≤ 4294967295) (c0 : 0 ≤ c) (c1 : c ≤ 4294967295) : z_ok false 368640 610304 [.inr (.inr (.inl 0))] [.inr (.inr (.inl 0))] [.inl a, .inl b, .inl c] :=
  ⟨.inl 4294967294, z_h3, z_h3,
    t_run r1k_368640 (t_al (fun _ => rfl) (t_getf (v := .inr (.inl (some 1))) (fun _ => rfl) (t_il (fun _ => rfl) (t_il (fun _ => rfl) (t_this (fun _ => rfl) (t_ca (v := .inl 0) (h' := z_h3) (fun _ => rfl) rfl (t_cl (t_run r1k_331776 (t_al (fun _ => rfl) (t_il (fun _ => rfl) (t_this (fun _ => rfl) (t_ca (v := .inl 0) (h' := z_h3) (fun _ => rfl) rfl (t_cl (t_run r1k_327680 (t_il (fun _ => rfl) (t_czt (blt_t (by omega)) (t_run r1k_327696 (t_ic (rfl))))))) rfl rfl (t_czt rfl (t_run r1k_331801 (t_ic (rfl)))))))))) rfl rfl (t_czt rfl (t_run r1k_368659 (t_ic (rfl)))))))))),
    t_run r1k_610304 (t_al (fun _ => rfl) (t_il (fun _ => rfl) (t_il (fun _ => rfl) (t_this (fun _ => rfl) (t_ca (v := .inl 0) (h' := z_h3) (fun _ => rfl) rfl (t_cl (t_run r1k_606208 (t_al (fun _ => rfl) (t_il (fun _ => rfl) (t_this (fun _ => rfl) (t_ca (v := .inl 0) (h' := z_h3) (fun _ => rfl) rfl (t_cl (t_run r1k_581632 (t_il (fun _ => rfl) (t_czt (blt_t (by omega)) (t_run r1k_581648 (t_ic (rfl))))))) rfl rfl (t_czt rfl (t_run r1k_606233 (t_ic (rfl)))))))))) rfl rfl (t_czt rfl (t_run r1k_610322 (t_ic (rfl))))))))),
    fun _ => rfl, rfl, rfl, rfl, rfl, rfl, rfl, rfl⟩
theorem r1_all (a : Nat) (b : Nat) (c : Nat) (ha_ : a < 4294967296) (hb_ : b < 4294967296) (hc_ : c < 4294967296) : z_ok false 368640 610304 [.inr (.inr (.inl 0))] [.inr (.inr (.inl 0))] [.inl a, .inl b, .inl c] := by
  rcases Nat.lt_or_ge a 2147483648 with ha | ha
  · rcases Nat.lt_or_ge a 4 with ha | ha
    · rcases Nat.lt_or_ge b 2147483648 with hb | hb
      · rcases Nat.lt_or_ge b 4 with hb | hb
        · by_cases ha : a = 0
          · subst ha
            rcases Nat.lt_or_ge b 1 with hb | hb
            · obtain rfl : b = 0 := by omega
              exact r1l_0 c (by omega) (by omega)
            · rcases Nat.lt_or_ge c 2147483648 with hc | hc
              · rcases Nat.lt_or_ge c 1 with hc | hc
                · obtain rfl : c = 0 := by omega
                  by_cases hb : b = 1
                  · subst hb
                    exact r1l_1
                  by_cases hb : b = 2
                  · subst hb
                    exact r1l_2
                  obtain rfl : b = 3 := by omega
                  exact r1l_3
                · rcases Nat.lt_or_ge c 2 with hc | hc
                  · obtain rfl : c = 1 := by omega
                    by_cases hb : b = 1
                    · subst hb
                      exact r1l_4
                    by_cases hb : b = 2
                    · subst hb
                      exact r1l_5
                    obtain rfl : b = 3 := by omega
                    exact r1l_6
                  · exact r1l_7 b c (by omega) (by omega) (by omega) (by omega)
              · exact r1l_8 b c (by omega) (by omega) (by omega) (by omega)
          by_cases ha : a = 1
          · subst ha
            rcases Nat.lt_or_ge b 1 with hb | hb
            · obtain rfl : b = 0 := by omega
              rcases Nat.lt_or_ge c 2147483648 with hc | hc
              · rcases Nat.lt_or_ge c 1 with hc | hc
                · obtain rfl : c = 0 := by omega
                  exact r1l_9
                · rcases Nat.lt_or_ge c 2 with hc | hc
                  · obtain rfl : c = 1 := by omega
                    exact r1l_10
                  · exact r1l_11 c (by omega) (by omega)
              · exact r1l_12 c (by omega) (by omega)
            · rcases Nat.lt_or_ge b 2 with hb | hb
              · obtain rfl : b = 1 := by omega
                exact r1l_13 c (by omega) (by omega)
              · rcases Nat.lt_or_ge c 2147483648 with hc | hc
                · rcases Nat.lt_or_ge c 1 with hc | hc
                  · obtain rfl : c = 0 := by omega
                    by_cases hb : b = 2
                    · subst hb
                      exact r1l_14
                    obtain rfl : b = 3 := by omega
                    exact r1l_15
                  · rcases Nat.lt_or_ge c 2 with hc | hc
                    · obtain rfl : c = 1 := by omega
                      by_cases hb : b = 2
                      · subst hb
                        exact r1l_16
                      obtain rfl : b = 3 := by omega
                      exact r1l_17
                    · exact r1l_18 b c (by omega) (by omega) (by omega) (by omega)
                · exact r1l_19 b c (by omega) (by omega) (by omega) (by omega)
          by_cases ha : a = 2
          · subst ha
            rcases Nat.lt_or_ge b 2 with hb | hb
            · rcases Nat.lt_or_ge c 2147483648 with hc | hc
              · rcases Nat.lt_or_ge c 1 with hc | hc
                · obtain rfl : c = 0 := by omega
                  exact z_pb_ok (r1l_20 b (by omega))
                · rcases Nat.lt_or_ge c 2 with hc | hc
                  · obtain rfl : c = 1 := by omega
                    exact z_pb_ok (r1l_21 b (by omega))
                  · exact r1l_22 b c (by omega) (by omega) (by omega) (by omega)
              · exact r1l_23 b c (by omega) (by omega) (by omega) (by omega)
            · rcases Nat.lt_or_ge b 3 with hb | hb
              · obtain rfl : b = 2 := by omega
                exact r1l_24 c (by omega) (by omega)
              · obtain rfl : b = 3 := by omega
                rcases Nat.lt_or_ge c 2147483648 with hc | hc
                · rcases Nat.lt_or_ge c 1 with hc | hc
                  · obtain rfl : c = 0 := by omega
                    exact r1l_25
                  · rcases Nat.lt_or_ge c 2 with hc | hc
                    · obtain rfl : c = 1 := by omega
                      exact r1l_26
                    · exact r1l_27 c (by omega) (by omega)
                · exact r1l_28 c (by omega) (by omega)
          obtain rfl : a = 3 := by omega
          rcases Nat.lt_or_ge b 3 with hb | hb
          · rcases Nat.lt_or_ge c 2147483648 with hc | hc
            · rcases Nat.lt_or_ge c 1 with hc | hc
              · obtain rfl : c = 0 := by omega
                exact z_pb_ok (r1l_29 b (by omega))
              · rcases Nat.lt_or_ge c 2 with hc | hc
                · obtain rfl : c = 1 := by omega
                  exact z_pb_ok (r1l_30 b (by omega))
                · exact r1l_31 b c (by omega) (by omega) (by omega) (by omega)
            · exact r1l_32 b c (by omega) (by omega) (by omega) (by omega)
          · obtain rfl : b = 3 := by omega
            exact r1l_33 c (by omega) (by omega)
        · exact r1l_34 a b c (by omega) (by omega) (by omega) (by omega) (by omega) (by omega)
      · exact r1l_35 a b c (by omega) (by omega) (by omega) (by omega) (by omega) (by omega)
    · exact r1l_36 a b c (by omega) (by omega) (by omega) (by omega) (by omega) (by omega)
  · exact r1l_37 a b c (by omega) (by omega) (by omega) (by omega) (by omega) (by omega)

