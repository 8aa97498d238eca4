/-! Round 27 of the law: sheet (written by wip/gen/genrun.py) -/
set_option maxRecDepth 100000 in
theorem r27l_0 : ∀ c, c < 41 → z_pb false 475136 901120 [] [.inr (.inr (.inl 0))] [.inl 0, .inl 0, .inl c] = true := by decide +kernel
set_option maxRecDepth 100000 in
theorem r27l_1 : ∀ c, c < 41 → z_pb false 475136 901120 [] [.inr (.inr (.inl 0))] [.inl 0, .inl 1, .inl c] = true := by decide +kernel
set_option maxRecDepth 100000 in
theorem r27l_2 : ∀ c, c < 41 → z_pb false 475136 901120 [] [.inr (.inr (.inl 0))] [.inl 0, .inl 2, .inl c] = true := by decide +kernel
set_option maxRecDepth 100000 in
theorem r27l_3 : ∀ c, c < 41 → z_pb false 475136 901120 [] [.inr (.inr (.inl 0))] [.inl 1, .inl 0, .inl c] = true := by decide +kernel
set_option maxRecDepth 100000 in
theorem r27l_4 : ∀ c, c < 41 → z_pb false 475136 901120 [] [.inr (.inr (.inl 0))] [.inl 1, .inl 1, .inl c] = true := by decide +kernel
set_option maxRecDepth 100000 in
theorem r27l_5 : ∀ c, c < 41 → z_pb false 475136 901120 [] [.inr (.inr (.inl 0))] [.inl 1, .inl 2, .inl c] = true := by decide +kernel
set_option maxRecDepth 100000 in
theorem r27l_6 : ∀ c, c < 41 → z_pb false 475136 901120 [] [.inr (.inr (.inl 0))] [.inl 2, .inl 0, .inl c] = true := by decide +kernel
set_option maxRecDepth 100000 in
theorem r27l_7 : ∀ c, c < 41 → z_pb false 475136 901120 [] [.inr (.inr (.inl 0))] [.inl 2, .inl 1, .inl c] = true := by decide +kernel
set_option maxRecDepth 100000 in
theorem r27l_8 : ∀ c, c < 41 → z_pb false 475136 901120 [] [.inr (.inr (.inl 0))] [.inl 2, .inl 2, .inl c] = true := by decide +kernel
set_option maxRecDepth 100000 in
theorem r27l_9 : ∀ c, c < 41 → z_pb false 475136 901120 [] [.inr (.inr (.inl 0))] [.inl 3, .inl 0, .inl c] = true := by decide +kernel
set_option maxRecDepth 100000 in
theorem r27l_10 : ∀ c, c < 41 → z_pb false 475136 901120 [] [.inr (.inr (.inl 0))] [.inl 3, .inl 1, .inl c] = true := by decide +kernel
set_option maxRecDepth 100000 in
theorem r27l_11 : ∀ c, c < 41 → z_pb false 475136 901120 [] [.inr (.inr (.inl 0))] [.inl 3, .inl 2, .inl c] = true := by decide +kernel
theorem r27k_475136 : m_cg 475136 = g_116_0 := rfl
theorem r27k_503808 : m_cg 503808 = g_123_0 := rfl
theorem r27k_495616 : m_cg 495616 = g_121_0 := rfl
theorem r27k_495630 : m_cg 495630 = g_121_14 := rfl
theorem r27k_475156 : m_cg 475156 = g_116_20 := rfl
theorem r27k_475170 : m_cg 475170 = g_116_34 := rfl
theorem r27k_901120 : m_cg 901120 = g_220_0 := rfl
theorem r27k_897024 : m_cg 897024 = g_219_0 := rfl
theorem r27k_897038 : m_cg 897038 = g_219_14 := rfl
theorem r27k_573440 : m_cg 573440 = g_140_0 := rfl
theorem r27k_573455 : m_cg 573455 = g_140_15 := rfl
theorem r27k_901139 : m_cg 901139 = g_220_19 := rfl
set_option maxRecDepth 20000 in
theorem r27l_12 (a : Nat) (b : Nat) (c : Nat) (a0 : 0 ≤ a) (a1 : a ≤ 3) (b0 : 0 ≤ b) (b1 : b ≤ 2) (c0 : 41 ≤ c) (c1 : c ≤ 2147483647) : z_ok false 475136 901120 [] [.inr (.inr (.inl 0))] [.inl a, .inl b, .inl c] :=
  ⟨.inl 4294967294, z_h3, z_h3,
    t_run r27k_475136 (t_il (fun _ => rfl) (t_ca (v := .inl 1) (h' := z_h3) (fun _ => rfl) rfl (t_cl (t_run r27k_503808 (t_il (fun _ => rfl) (t_ic (t_ca (v := .inl 1) (h' := z_h3) (fun _ => rfl) rfl (t_cl (t_run r27k_495616 (t_il (fun _ => rfl) (t_czf (blt_f (by omega)) (t_il (fun _ => rfl) (t_il (fun _ => rfl) (t_cif (bgt_f (by omega)) (t_ic (t_go (t_run r27k_495630 (rfl))))))))))) rfl rfl (rfl)))))) rfl rfl (t_czf rfl (t_il (fun _ => rfl) (t_ic (t_cif (blt_f (by omega)) (t_il (fun _ => rfl) (t_ic (t_cit (blt_t (by omega)) (t_run r27k_475156 (t_il (fun _ => rfl) (t_ic (t_cit (bne_t (by omega)) (t_run r27k_475170 (t_il (fun _ => rfl) (t_ic (t_cif (ble_f (by omega)) (t_ic (rfl))))))))))))))))))),
    t_run r27k_901120 (t_il (fun _ => rfl) (t_ca (v := .inl 1) (h' := z_h3) (fun _ => rfl) rfl (t_cl (t_run r27k_897024 (t_il (fun _ => rfl) (t_czf (blt_f (by omega)) (t_il (fun _ => rfl) (t_ic (t_cif (bge_f (by omega)) (t_ic (t_go (t_run r27k_897038 (rfl))))))))))) rfl rfl (t_czf rfl (t_il (fun _ => rfl) (t_ic (t_ic (t_ca (v := .inl 1) (h' := z_h3) (fun _ => rfl) rfl (t_cl (t_run r27k_573440 (t_il (fun _ => rfl) (t_il (fun _ => rfl) (t_cif (blt_f (by omega)) (t_il (fun _ => rfl) (t_il (fun _ => rfl) (t_cif (bgt_f (by omega)) (t_ic (t_go (t_run r27k_573455 (rfl)))))))))))) rfl rfl (t_czt rfl (t_run r27k_901139 (t_il (fun _ => rfl) (t_czf (blt_f (by omega)) (t_il (fun _ => rfl) (t_ic (t_cif (ble_f (by omega)) (t_ic (rfl)))))))))))))))),
    fun _ => rfl, rfl, rfl, rfl, rfl, rfl, rfl, rfl⟩
theorem r27k_475179 : m_cg 475179 = g_116_43 := rfl
theorem r27k_901152 : m_cg 901152 = g_220_32 := rfl
set_option maxRecDepth 20000 in
theorem r27l_13 (a : Nat) (b : Nat) (c : Nat) (a0 : 0 ≤ a) (a1 : a ≤ 3) (b0 : 0 ≤ b) (b1 : b ≤ 2) (c0 : 2147483648 ≤ c) (c1 : c ≤ 4294967295) : z_ok false 475136 901120 [] [.inr (.inr (.inl 0))] [.inl a, .inl b, .inl c] :=
  ⟨.inl 4294967282, z_h3, z_h3,
    t_run r27k_475136 (t_il (fun _ => rfl) (t_ca (v := .inl 1) (h' := z_h3) (fun _ => rfl) rfl (t_cl (t_run r27k_503808 (t_il (fun _ => rfl) (t_ic (t_ca (v := .inl 1) (h' := z_h3) (fun _ => rfl) rfl (t_cl (t_run r27k_495616 (t_il (fun _ => rfl) (t_czf (blt_f (by omega)) (t_il (fun _ => rfl) (t_il (fun _ => rfl) (t_cif (bgt_f (by omega)) (t_ic (t_go (t_run r27k_495630 (rfl))))))))))) rfl rfl (rfl)))))) rfl rfl (t_czf rfl (t_il (fun _ => rfl) (t_ic (t_cif (blt_f (by omega)) (t_il (fun _ => rfl) (t_ic (t_cit (blt_t (by omega)) (t_run r27k_475156 (t_il (fun _ => rfl) (t_ic (t_cit (bne_t (by omega)) (t_run r27k_475170 (t_il (fun _ => rfl) (t_ic (t_cit (ble_t (by omega)) (t_run r27k_475179 (t_il (fun _ => rfl) (t_czf (bge_f (by omega)) (t_ic (rfl)))))))))))))))))))))),
    t_run r27k_901120 (t_il (fun _ => rfl) (t_ca (v := .inl 1) (h' := z_h3) (fun _ => rfl) rfl (t_cl (t_run r27k_897024 (t_il (fun _ => rfl) (t_czf (blt_f (by omega)) (t_il (fun _ => rfl) (t_ic (t_cif (bge_f (by omega)) (t_ic (t_go (t_run r27k_897038 (rfl))))))))))) rfl rfl (t_czf rfl (t_il (fun _ => rfl) (t_ic (t_ic (t_ca (v := .inl 1) (h' := z_h3) (fun _ => rfl) rfl (t_cl (t_run r27k_573440 (t_il (fun _ => rfl) (t_il (fun _ => rfl) (t_cif (blt_f (by omega)) (t_il (fun _ => rfl) (t_il (fun _ => rfl) (t_cif (bgt_f (by omega)) (t_ic (t_go (t_run r27k_573455 (rfl)))))))))))) rfl rfl (t_czt rfl (t_run r27k_901139 (t_il (fun _ => rfl) (t_czf (blt_f (by omega)) (t_il (fun _ => rfl) (t_ic (t_cit (ble_t (by omega)) (t_run r27k_901152 (t_il (fun _ => rfl) (t_czf (blt_f (by omega)) (t_il (fun _ => rfl) (t_czf (bge_f (by omega)) (t_ic (rfl))))))))))))))))))))),
    fun _ => rfl, rfl, rfl, rfl, rfl, rfl, rfl, rfl⟩
theorem r27k_573454 : m_cg 573454 = g_140_14 := rfl
set_option maxRecDepth 20000 in
theorem r27l_14 (a : Nat) (b : Nat) (c : Nat) (a0 : 0 ≤ a) (a1 : a ≤ 3) (b0 : 3 ≤ b) (b1 : b ≤ 2147483647) (c0 : 0 ≤ c) (c1 : c ≤ 4294967295) : z_ok false 475136 901120 [] [.inr (.inr (.inl 0))] [.inl a, .inl b, .inl c] :=
  ⟨.inl 4294967294, z_h3, z_h3,
    t_run r27k_475136 (t_il (fun _ => rfl) (t_ca (v := .inl 1) (h' := z_h3) (fun _ => rfl) rfl (t_cl (t_run r27k_503808 (t_il (fun _ => rfl) (t_ic (t_ca (v := .inl 1) (h' := z_h3) (fun _ => rfl) rfl (t_cl (t_run r27k_495616 (t_il (fun _ => rfl) (t_czf (blt_f (by omega)) (t_il (fun _ => rfl) (t_il (fun _ => rfl) (t_cif (bgt_f (by omega)) (t_ic (t_go (t_run r27k_495630 (rfl))))))))))) rfl rfl (rfl)))))) rfl rfl (t_czf rfl (t_il (fun _ => rfl) (t_ic (t_cif (blt_f (by omega)) (t_il (fun _ => rfl) (t_ic (t_cif (blt_f (by omega)) (t_ic (rfl))))))))))),
    t_run r27k_901120 (t_il (fun _ => rfl) (t_ca (v := .inl 1) (h' := z_h3) (fun _ => rfl) rfl (t_cl (t_run r27k_897024 (t_il (fun _ => rfl) (t_czf (blt_f (by omega)) (t_il (fun _ => rfl) (t_ic (t_cif (bge_f (by omega)) (t_ic (t_go (t_run r27k_897038 (rfl))))))))))) rfl rfl (t_czf rfl (t_il (fun _ => rfl) (t_ic (t_ic (t_ca (v := .inl 0) (h' := z_h3) (fun _ => rfl) rfl (t_cl (t_run r27k_573440 (t_il (fun _ => rfl) (t_il (fun _ => rfl) (t_cif (blt_f (by omega)) (t_il (fun _ => rfl) (t_il (fun _ => rfl) (t_cit (bgt_t (by omega)) (t_run r27k_573454 (t_ic (rfl))))))))))) rfl rfl (t_czf rfl (t_ic (rfl)))))))))),
    fun _ => rfl, rfl, rfl, rfl, rfl, rfl, rfl, rfl⟩
theorem r27k_475153 : m_cg 475153 = g_116_17 := rfl
set_option maxRecDepth 20000 in
theorem r27l_15 (a : Nat) (b : Nat) (c : Nat) (a0 : 0 ≤ a) (a1 : a ≤ 3) (b0 : 2147483648 ≤ b) (b1 : b ≤ 4294967294) (c0 : 0 ≤ c) (c1 : c ≤ 4294967295) : z_ok false 475136 901120 [] [.inr (.inr (.inl 0))] [.inl a, .inl b, .inl c] :=
  ⟨.inl 4294967294, z_h3, z_h3,
    t_run r27k_475136 (t_il (fun _ => rfl) (t_ca (v := .inl 1) (h' := z_h3) (fun _ => rfl) rfl (t_cl (t_run r27k_503808 (t_il (fun _ => rfl) (t_ic (t_ca (v := .inl 1) (h' := z_h3) (fun _ => rfl) rfl (t_cl (t_run r27k_495616 (t_il (fun _ => rfl) (t_czf (blt_f (by omega)) (t_il (fun _ => rfl) (t_il (fun _ => rfl) (t_cif (bgt_f (by omega)) (t_ic (t_go (t_run r27k_495630 (rfl))))))))))) rfl rfl (rfl)))))) rfl rfl (t_czf rfl (t_il (fun _ => rfl) (t_ic (t_cit (blt_t (by omega)) (t_run r27k_475153 (t_ic (rfl))))))))),
    t_run r27k_901120 (t_il (fun _ => rfl) (t_ca (v := .inl 1) (h' := z_h3) (fun _ => rfl) rfl (t_cl (t_run r27k_897024 (t_il (fun _ => rfl) (t_czf (blt_f (by omega)) (t_il (fun _ => rfl) (t_ic (t_cif (bge_f (by omega)) (t_ic (t_go (t_run r27k_897038 (rfl))))))))))) rfl rfl (t_czf rfl (t_il (fun _ => rfl) (t_ic (t_ic (t_ca (v := .inl 0) (h' := z_h3) (fun _ => rfl) rfl (t_cl (t_run r27k_573440 (t_il (fun _ => rfl) (t_il (fun _ => rfl) (t_cit (blt_t (by omega)) (t_run r27k_573454 (t_ic (rfl)))))))) rfl rfl (t_czf rfl (t_ic (rfl)))))))))),
    fun _ => rfl, rfl, rfl, rfl, rfl, rfl, rfl, rfl⟩
set_option maxRecDepth 100000 in
theorem r27c_0 : m_run m_cg 22 3 503808 [.inl 0] [] z_h3 = some (some (.inl 1), z_h3) := z_is_ok (by decide +kernel)
set_option maxRecDepth 100000 in
theorem r27c_1 : m_run m_cg 18 2 897024 [.inl 0] [] z_h3 = some (some (.inl 1), z_h3) := z_is_ok (by decide +kernel)
set_option maxRecDepth 100000 in
theorem r27c_2 : m_run m_cg 19 2 573440 [.inl 4294967295, .inl 4294967295, .inl 2] [] z_h3 = some (some (.inl 1), z_h3) := z_is_ok (by decide +kernel)
theorem r27k_901163 : m_cg 901163 = g_220_43 := rfl
theorem r27k_901184 : m_cg 901184 = g_220_64 := rfl
theorem r27k_901218 : m_cg 901218 = g_220_98 := rfl
set_option maxRecDepth 20000 in
theorem r27l_16 (c : Nat) (c0 : 0 ≤ c) (c1 : c ≤ 4294967295) : z_ok false 475136 901120 [] [.inr (.inr (.inl 0))] [.inl 0, .inl 4294967295, .inl c] :=
  ⟨.inl 1, z_h3, z_h3,
    t_run r27k_475136 (t_il (fun _ => rfl) (t_ca (v := .inl 1) (h' := z_h3) (fun _ => rfl) rfl (t_cl (rn_le r27c_0 (Nat.le_of_ble_eq_true rfl) (Nat.le_of_ble_eq_true rfl))) rfl rfl (t_czf rfl (t_il (fun _ => rfl) (t_ic (t_cif rfl (t_il (fun _ => rfl) (t_ic (t_cit rfl (t_run r27k_475156 (t_il (fun _ => rfl) (t_ic (t_cif rfl (t_al (fun _ => rfl) (t_getf (v := .inr (.inl (some 24))) (fun _ => rfl) (t_il (fun _ => rfl) (t_nul (t_aast z_h3 (fun _ => rfl) (t_ic (rfl)))))))))))))))))))),
    t_run r27k_901120 (t_il (fun _ => rfl) (t_ca (v := .inl 1) (h' := z_h3) (fun _ => rfl) rfl (t_cl (rn_le r27c_1 (Nat.le_of_ble_eq_true rfl) (Nat.le_of_ble_eq_true rfl))) rfl rfl (t_czf rfl (t_il (fun _ => rfl) (t_ic (t_ic (t_ca (v := .inl 1) (h' := z_h3) (fun _ => rfl) rfl (t_cl (rn_le r27c_2 (Nat.le_of_ble_eq_true rfl) (Nat.le_of_ble_eq_true rfl))) rfl rfl (t_czt rfl (t_run r27k_901139 (t_il (fun _ => rfl) (t_czt rfl (t_run r27k_901152 (t_il (fun _ => rfl) (t_czt rfl (t_run r27k_901163 (t_al (fun _ => rfl) (t_getf (v := .inr (.inl (some 63))) (fun _ => rfl) (t_il (fun _ => rfl) (t_il (fun _ => rfl) (t_ast z_h3 (fun _ => rfl) (t_al (fun _ => rfl) (t_getf (v := .inr (.inl (some 64))) (fun _ => rfl) (t_il (fun _ => rfl) (t_il (fun _ => rfl) (t_czf rfl (t_ic (t_go (t_run r27k_901184 (t_ast z_h3 (fun _ => rfl) (t_ic (t_is (fun _ => rfl) (t_il (fun _ => rfl) (t_al (fun _ => rfl) (t_getf (v := .inr (.inl (some 64))) (fun _ => rfl) (t_il (fun _ => rfl) (t_ald 0 (fun _ => rfl) (t_cit rfl (t_run r27k_901218 (t_ic (rfl)))))))))))))))))))))))))))))))))))))))),
    fun _ => rfl, rfl, rfl, rfl, rfl, rfl, rfl, rfl⟩
set_option maxRecDepth 100000 in
theorem r27c_3 : m_run m_cg 22 3 503808 [.inl 1] [] z_h3 = some (some (.inl 1), z_h3) := z_is_ok (by decide +kernel)
set_option maxRecDepth 100000 in
theorem r27c_4 : m_run m_cg 18 2 897024 [.inl 1] [] z_h3 = some (some (.inl 1), z_h3) := z_is_ok (by decide +kernel)
set_option maxRecDepth 20000 in
theorem r27l_17 (c : Nat) (c0 : 0 ≤ c) (c1 : c ≤ 4294967295) : z_ok false 475136 901120 [] [.inr (.inr (.inl 0))] [.inl 1, .inl 4294967295, .inl c] :=
  ⟨.inl 1, z_h3, z_h3,
    t_run r27k_475136 (t_il (fun _ => rfl) (t_ca (v := .inl 1) (h' := z_h3) (fun _ => rfl) rfl (t_cl (rn_le r27c_3 (Nat.le_of_ble_eq_true rfl) (Nat.le_of_ble_eq_true rfl))) rfl rfl (t_czf rfl (t_il (fun _ => rfl) (t_ic (t_cif rfl (t_il (fun _ => rfl) (t_ic (t_cit rfl (t_run r27k_475156 (t_il (fun _ => rfl) (t_ic (t_cif rfl (t_al (fun _ => rfl) (t_getf (v := .inr (.inl (some 24))) (fun _ => rfl) (t_il (fun _ => rfl) (t_nul (t_aast z_h3 (fun _ => rfl) (t_ic (rfl)))))))))))))))))))),
    t_run r27k_901120 (t_il (fun _ => rfl) (t_ca (v := .inl 1) (h' := z_h3) (fun _ => rfl) rfl (t_cl (rn_le r27c_4 (Nat.le_of_ble_eq_true rfl) (Nat.le_of_ble_eq_true rfl))) rfl rfl (t_czf rfl (t_il (fun _ => rfl) (t_ic (t_ic (t_ca (v := .inl 1) (h' := z_h3) (fun _ => rfl) rfl (t_cl (rn_le r27c_2 (Nat.le_of_ble_eq_true rfl) (Nat.le_of_ble_eq_true rfl))) rfl rfl (t_czt rfl (t_run r27k_901139 (t_il (fun _ => rfl) (t_czt rfl (t_run r27k_901152 (t_il (fun _ => rfl) (t_czt rfl (t_run r27k_901163 (t_al (fun _ => rfl) (t_getf (v := .inr (.inl (some 63))) (fun _ => rfl) (t_il (fun _ => rfl) (t_il (fun _ => rfl) (t_ast z_h3 (fun _ => rfl) (t_al (fun _ => rfl) (t_getf (v := .inr (.inl (some 64))) (fun _ => rfl) (t_il (fun _ => rfl) (t_il (fun _ => rfl) (t_czf rfl (t_ic (t_go (t_run r27k_901184 (t_ast z_h3 (fun _ => rfl) (t_ic (t_is (fun _ => rfl) (t_il (fun _ => rfl) (t_al (fun _ => rfl) (t_getf (v := .inr (.inl (some 64))) (fun _ => rfl) (t_il (fun _ => rfl) (t_ald 0 (fun _ => rfl) (t_cit rfl (t_run r27k_901218 (t_ic (rfl)))))))))))))))))))))))))))))))))))))))),
    fun _ => rfl, rfl, rfl, rfl, rfl, rfl, rfl, rfl⟩
set_option maxRecDepth 100000 in
theorem r27c_5 : m_run m_cg 22 3 503808 [.inl 2] [] z_h3 = some (some (.inl 1), z_h3) := z_is_ok (by decide +kernel)
set_option maxRecDepth 100000 in
theorem r27c_6 : m_run m_cg 18 2 897024 [.inl 2] [] z_h3 = some (some (.inl 1), z_h3) := z_is_ok (by decide +kernel)
set_option maxRecDepth 20000 in
theorem r27l_18 (c : Nat) (c0 : 0 ≤ c) (c1 : c ≤ 4294967295) : z_ok false 475136 901120 [] [.inr (.inr (.inl 0))] [.inl 2, .inl 4294967295, .inl c] :=
  ⟨.inl 1, z_h3, z_h3,
    t_run r27k_475136 (t_il (fun _ => rfl) (t_ca (v := .inl 1) (h' := z_h3) (fun _ => rfl) rfl (t_cl (rn_le r27c_5 (Nat.le_of_ble_eq_true rfl) (Nat.le_of_ble_eq_true rfl))) rfl rfl (t_czf rfl (t_il (fun _ => rfl) (t_ic (t_cif rfl (t_il (fun _ => rfl) (t_ic (t_cit rfl (t_run r27k_475156 (t_il (fun _ => rfl) (t_ic (t_cif rfl (t_al (fun _ => rfl) (t_getf (v := .inr (.inl (some 24))) (fun _ => rfl) (t_il (fun _ => rfl) (t_nul (t_aast z_h3 (fun _ => rfl) (t_ic (rfl)))))))))))))))))))),
    t_run r27k_901120 (t_il (fun _ => rfl) (t_ca (v := .inl 1) (h' := z_h3) (fun _ => rfl) rfl (t_cl (rn_le r27c_6 (Nat.le_of_ble_eq_true rfl) (Nat.le_of_ble_eq_true rfl))) rfl rfl (t_czf rfl (t_il (fun _ => rfl) (t_ic (t_ic (t_ca (v := .inl 1) (h' := z_h3) (fun _ => rfl) rfl (t_cl (rn_le r27c_2 (Nat.le_of_ble_eq_true rfl) (Nat.le_of_ble_eq_true rfl))) rfl rfl (t_czt rfl (t_run r27k_901139 (t_il (fun _ => rfl) (t_czt rfl (t_run r27k_901152 (t_il (fun _ => rfl) (t_czt rfl (t_run r27k_901163 (t_al (fun _ => rfl) (t_getf (v := .inr (.inl (some 63))) (fun _ => rfl) (t_il (fun _ => rfl) (t_il (fun _ => rfl) (t_ast z_h3 (fun _ => rfl) (t_al (fun _ => rfl) (t_getf (v := .inr (.inl (some 64))) (fun _ => rfl) (t_il (fun _ => rfl) (t_il (fun _ => rfl) (t_czf rfl (t_ic (t_go (t_run r27k_901184 (t_ast z_h3 (fun _ => rfl) (t_ic (t_is (fun _ => rfl) (t_il (fun _ => rfl) (t_al (fun _ => rfl) (t_getf (v := .inr (.inl (some 64))) (fun _ => rfl) (t_il (fun _ => rfl) (t_ald 0 (fun _ => rfl) (t_cit rfl (t_run r27k_901218 (t_ic (rfl)))))))))))))))))))))))))))))))))))))))),
    fun _ => rfl, rfl, rfl, rfl, rfl, rfl, rfl, rfl⟩
set_option maxRecDepth 100000 in
theorem r27c_7 : m_run m_cg 22 3 503808 [.inl 3] [] z_h3 = some (some (.inl 1), z_h3) := z_is_ok (by decide +kernel)
set_option maxRecDepth 100000 in
theorem r27c_8 : m_run m_cg 18 2 897024 [.inl 3] [] z_h3 = some (some (.inl 1), z_h3) := z_is_ok (by decide +kernel)
set_option maxRecDepth 20000 in
theorem r27l_19 (c : Nat) (c0 : 0 ≤ c) (c1 : c ≤ 4294967295) : z_ok false 475136 901120 [] [.inr (.inr (.inl 0))] [.inl 3, .inl 4294967295, .inl c] :=
  ⟨.inl 1, z_h3, z_h3,
    t_run r27k_475136 (t_il (fun _ => rfl) (t_ca (v := .inl 1) (h' := z_h3) (fun _ => rfl) rfl (t_cl (rn_le r27c_7 (Nat.le_of_ble_eq_true rfl) (Nat.le_of_ble_eq_true rfl))) rfl rfl (t_czf rfl (t_il (fun _ => rfl) (t_ic (t_cif rfl (t_il (fun _ => rfl) (t_ic (t_cit rfl (t_run r27k_475156 (t_il (fun _ => rfl) (t_ic (t_cif rfl (t_al (fun _ => rfl) (t_getf (v := .inr (.inl (some 24))) (fun _ => rfl) (t_il (fun _ => rfl) (t_nul (t_aast z_h3 (fun _ => rfl) (t_ic (rfl)))))))))))))))))))),
    t_run r27k_901120 (t_il (fun _ => rfl) (t_ca (v := .inl 1) (h' := z_h3) (fun _ => rfl) rfl (t_cl (rn_le r27c_8 (Nat.le_of_ble_eq_true rfl) (Nat.le_of_ble_eq_true rfl))) rfl rfl (t_czf rfl (t_il (fun _ => rfl) (t_ic (t_ic (t_ca (v := .inl 1) (h' := z_h3) (fun _ => rfl) rfl (t_cl (rn_le r27c_2 (Nat.le_of_ble_eq_true rfl) (Nat.le_of_ble_eq_true rfl))) rfl rfl (t_czt rfl (t_run r27k_901139 (t_il (fun _ => rfl) (t_czt rfl (t_run r27k_901152 (t_il (fun _ => rfl) (t_czt rfl (t_run r27k_901163 (t_al (fun _ => rfl) (t_getf (v := .inr (.inl (some 63))) (fun _ => rfl) (t_il (fun _ => rfl) (t_il (fun _ => rfl) (t_ast z_h3 (fun _ => rfl) (t_al (fun _ => rfl) (t_getf (v := .inr (.inl (some 64))) (fun _ => rfl) (t_il (fun _ => rfl) (t_il (fun _ => rfl) (t_czf rfl (t_ic (t_go (t_run r27k_901184 (t_ast z_h3 (fun _ => rfl) (t_ic (t_is (fun _ => rfl) (t_il (fun _ => rfl) (t_al (fun _ => rfl) (t_getf (v := .inr (.inl (some 64))) (fun _ => rfl) (t_il (fun _ => rfl) (t_ald 0 (fun _ => rfl) (t_cit rfl (t_run r27k_901218 (t_ic (rfl)))))))))))))))))))))))))))))))))))))))),
    fun _ => rfl, rfl, rfl, rfl, rfl, rfl, rfl, rfl⟩
theorem r27k_495629 : m_cg 495629 = g_121_13 := rfl
theorem r27k_897037 : m_cg 897037 = g_219_13 := rfl
theorem r27k_901136 : m_cg 901136 = g_220_16 := rfl
set_option maxRecDepth 20000 in
theorem r27l_20 (a : Nat) (b : Nat) (c : Nat) (a0 : 4 ≤ a) (a1 : a ≤ 2147483647) (b0 : 0 ≤ b) (b1 : b ≤ 4294967295) (c0 : 0 ≤ c) (c1 : c ≤ 4294967295) : z_ok false 475136 901120 [] [.inr (.inr (.inl 0))] [.inl a, .inl b, .inl c] :=
  ⟨.inl 4294967294, z_h3, z_h3,
    t_run r27k_475136 (t_il (fun _ => rfl) (t_ca (v := .inl 0) (h' := z_h3) (fun _ => rfl) rfl (t_cl (t_run r27k_503808 (t_il (fun _ => rfl) (t_ic (t_ca (v := .inl 0) (h' := z_h3) (fun _ => rfl) rfl (t_cl (t_run r27k_495616 (t_il (fun _ => rfl) (t_czf (blt_f (by omega)) (t_il (fun _ => rfl) (t_il (fun _ => rfl) (t_cit (bgt_t (by omega)) (t_run r27k_495629 (t_ic (rfl)))))))))) rfl rfl (rfl)))))) rfl rfl (t_czt rfl (t_run r27k_475153 (t_ic (rfl)))))),
    t_run r27k_901120 (t_il (fun _ => rfl) (t_ca (v := .inl 0) (h' := z_h3) (fun _ => rfl) rfl (t_cl (t_run r27k_897024 (t_il (fun _ => rfl) (t_czf (blt_f (by omega)) (t_il (fun _ => rfl) (t_ic (t_cit (bge_t (by omega)) (t_run r27k_897037 (t_ic (rfl)))))))))) rfl rfl (t_czt rfl (t_run r27k_901136 (t_ic (rfl)))))),
    fun _ => rfl, rfl, rfl, rfl, rfl, rfl, rfl, rfl⟩
set_option maxRecDepth 20000 in
theorem r27l_21 (a : Nat) (b : Nat) (c : Nat) (a0 : 2147483648 ≤ a) (a1 : a ≤ 4294967295) (b0 : 0 ≤ b) (b1 : b ≤ 4294967295) (c0 : 0 ≤ c) (c1 : c ≤ 4294967295) : z_ok false 475136 901120 [] [.inr (.inr (.inl 0))] [.inl a, .inl b, .inl c] :=
  ⟨.inl 4294967294, z_h3, z_h3,
    t_run r27k_475136 (t_il (fun _ => rfl) (t_ca (v := .inl 0) (h' := z_h3) (fun _ => rfl) rfl (t_cl (t_run r27k_503808 (t_il (fun _ => rfl) (t_ic (t_ca (v := .inl 0) (h' := z_h3) (fun _ => rfl) rfl (t_cl (t_run r27k_495616 (t_il (fun _ => rfl) (t_czt (blt_t (by omega)) (t_run r27k_495629 (t_ic (rfl))))))) rfl rfl (rfl)))))) rfl rfl (t_czt rfl (t_run r27k_475153 (t_ic (rfl)))))),
    t_run r27k_901120 (t_il (fun _ => rfl) (t_ca (v := .inl 0) (h' := z_h3) (fun _ => rfl) rfl (t_cl (t_run r27k_897024 (t_il (fun _ => rfl) (t_czt (blt_t (by omega)) (t_run r27k_897037 (t_ic (rfl))))))) rfl rfl (t_czt rfl (t_run r27k_901136 (t_ic (rfl)))))),
    fun _ => rfl, rfl, rfl, rfl, rfl, rfl, rfl, rfl⟩
theorem r27_all (a : Nat) (b : Nat) (c : Nat) (ha_ : a < 4294967296) (hb_ : b < 4294967296) (hc_ : c < 4294967296) : z_ok false 475136 901120 [] [.inr (.inr (.inl 0))] [.inl a, .inl b, .inl c] := by
  rcases Nat.lt_or_ge a 2147483648 with ha | ha
  · rcases Nat.lt_or_ge a 4 with ha | ha
    · rcases Nat.lt_or_ge b 2147483648 with hb | hb
      · rcases Nat.lt_or_ge b 3 with hb | hb
        · rcases Nat.lt_or_ge c 2147483648 with hc | hc
          · rcases Nat.lt_or_ge c 41 with hc | hc
            · by_cases ha : a = 0
              · subst ha
                by_cases hb : b = 0
                · subst hb
                  exact z_pb_ok (r27l_0 c (by omega))
                by_cases hb : b = 1
                · subst hb
                  exact z_pb_ok (r27l_1 c (by omega))
                obtain rfl : b = 2 := by omega
                exact z_pb_ok (r27l_2 c (by omega))
              by_cases ha : a = 1
              · subst ha
                by_cases hb : b = 0
                · subst hb
                  exact z_pb_ok (r27l_3 c (by omega))
                by_cases hb : b = 1
                · subst hb
                  exact z_pb_ok (r27l_4 c (by omega))
                obtain rfl : b = 2 := by omega
                exact z_pb_ok (r27l_5 c (by omega))
              by_cases ha : a = 2
              · subst ha
                by_cases hb : b = 0
                · subst hb
                  exact z_pb_ok (r27l_6 c (by omega))
                by_cases hb : b = 1
                · subst hb
                  exact z_pb_ok (r27l_7 c (by omega))
                obtain rfl : b = 2 := by omega
                exact z_pb_ok (r27l_8 c (by omega))
              obtain rfl : a = 3 := by omega
              by_cases hb : b = 0
              · subst hb
                exact z_pb_ok (r27l_9 c (by omega))
              by_cases hb : b = 1
              · subst hb
                exact z_pb_ok (r27l_10 c (by omega))
              obtain rfl : b = 2 := by omega
              exact z_pb_ok (r27l_11 c (by omega))
            · exact r27l_12 a b c (by omega) (by omega) (by omega) (by omega) (by omega) (by omega)
          · exact r27l_13 a b c (by omega) (by omega) (by omega) (by omega) (by omega) (by omega)
        · exact r27l_14 a b c (by omega) (by omega) (by omega) (by omega) (by omega) (by omega)
      · rcases Nat.lt_or_ge b 4294967295 with hb | hb
        · exact r27l_15 a b c (by omega) (by omega) (by omega) (by omega) (by omega) (by omega)
        · obtain rfl : b = 4294967295 := by omega
          by_cases ha : a = 0
          · subst ha
            exact r27l_16 c (by omega) (by omega)
          by_cases ha : a = 1
          · subst ha
            exact r27l_17 c (by omega) (by omega)
          by_cases ha : a = 2
          · subst ha
            exact r27l_18 c (by omega) (by omega)
          obtain rfl : a = 3 := by omega
          exact r27l_19 c (by omega) (by omega)
    · exact r27l_20 a b c (by omega) (by omega) (by omega) (by omega) (by omega) (by omega)
  · exact r27l_21 a b c (by omega) (by omega) (by omega) (by omega) (by omega) (by omega)

