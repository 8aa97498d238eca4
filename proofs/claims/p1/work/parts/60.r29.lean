/-! Round 29 of the law: copy (written by wip/gen/genrun.py) -/
theorem r29k_483328 : m_cg 483328 = g_118_0 := rfl
set_option maxRecDepth 100000 in
theorem r29c_0 : m_run m_cg 22 3 503808 [.inl 0] [] z_h3 = some (some (.inl 1), z_h3) := z_is_ok (by decide +kernel)
theorem r29k_483345 : m_cg 483345 = g_118_17 := rfl
theorem r29k_483371 : m_cg 483371 = g_118_43 := rfl
theorem r29k_913408 : m_cg 913408 = g_223_0 := rfl
set_option maxRecDepth 100000 in
theorem r29c_1 : m_run m_cg 18 2 897024 [.inl 0] [] z_h3 = some (some (.inl 1), z_h3) := z_is_ok (by decide +kernel)
theorem r29k_913425 : m_cg 913425 = g_223_17 := rfl
theorem r29k_913443 : m_cg 913443 = g_223_35 := rfl
set_option maxRecDepth 20000 in
theorem r29l_0 (b : Nat) (d : Nat) (e : Nat) (b0 : 0 ≤ b) (b1 : b ≤ 4294967295) (d0 : 0 ≤ d) (d1 : d ≤ 4294967295) (e0 : 0 ≤ e) (e1 : e ≤ 4294967295) : z_ok false 483328 913408 [.inr (.inr (.inl 0)), .inr (.inr (.inl 0))] [.inr (.inr (.inl 0))] [.inl 0, .inl b, .inl 0, .inl d, .inl e] :=
  ⟨.inl 4294967285, z_h3, z_h3,
    t_run r29k_483328 (t_il (fun _ => rfl) (t_ca (v := .inl 1) (h' := z_h3) (fun _ => rfl) rfl (t_cl (rn_le r29c_0 (Nat.le_of_ble_eq_true rfl) (Nat.le_of_ble_eq_true rfl))) rfl rfl (t_czf rfl (t_il (fun _ => rfl) (t_ca (v := .inl 1) (h' := z_h3) (fun _ => rfl) rfl (t_cl (rn_le r29c_0 (Nat.le_of_ble_eq_true rfl) (Nat.le_of_ble_eq_true rfl))) rfl rfl (t_czt rfl (t_run r29k_483345 (t_al (fun _ => rfl) (t_getf (v := .inr (.inl (some 24))) (fun _ => rfl) (t_il (fun _ => rfl) (t_aald (o := none) (fun _ => rfl) (t_as (fun _ => rfl) (t_al (fun _ => rfl) (t_getf (v := .inr (.inl (some 24))) (fun _ => rfl) (t_il (fun _ => rfl) (t_aald (o := none) (fun _ => rfl) (t_as (fun _ => rfl) (t_al (fun _ => rfl) (t_ifn0 (t_run r29k_483371 (t_ic (rfl)))))))))))))))))))))),
    t_run r29k_913408 (t_il (fun _ => rfl) (t_ca (v := .inl 1) (h' := z_h3) (fun _ => rfl) rfl (t_cl (rn_le r29c_1 (Nat.le_of_ble_eq_true rfl) (Nat.le_of_ble_eq_true rfl))) rfl rfl (t_czf rfl (t_il (fun _ => rfl) (t_ca (v := .inl 1) (h' := z_h3) (fun _ => rfl) rfl (t_cl (rn_le r29c_1 (Nat.le_of_ble_eq_true rfl) (Nat.le_of_ble_eq_true rfl))) rfl rfl (t_czt rfl (t_run r29k_913425 (t_al (fun _ => rfl) (t_getf (v := .inr (.inl (some 63))) (fun _ => rfl) (t_il (fun _ => rfl) (t_ald 4294967295 (fun _ => rfl) (t_czt rfl (t_run r29k_913443 (t_ic (rfl))))))))))))))),
    fun _ => rfl, rfl, rfl, rfl, rfl, rfl, rfl, rfl⟩
set_option maxRecDepth 100000 in
theorem r29c_2 : m_run m_cg 22 3 503808 [.inl 1] [] z_h3 = some (some (.inl 1), z_h3) := z_is_ok (by decide +kernel)
set_option maxRecDepth 100000 in
theorem r29c_3 : m_run m_cg 18 2 897024 [.inl 1] [] z_h3 = some (some (.inl 1), z_h3) := z_is_ok (by decide +kernel)
set_option maxRecDepth 20000 in
theorem r29l_1 (b : Nat) (d : Nat) (e : Nat) (b0 : 0 ≤ b) (b1 : b ≤ 4294967295) (d0 : 0 ≤ d) (d1 : d ≤ 4294967295) (e0 : 0 ≤ e) (e1 : e ≤ 4294967295) : z_ok false 483328 913408 [.inr (.inr (.inl 0)), .inr (.inr (.inl 0))] [.inr (.inr (.inl 0))] [.inl 0, .inl b, .inl 1, .inl d, .inl e] :=
  ⟨.inl 4294967285, z_h3, z_h3,
    t_run r29k_483328 (t_il (fun _ => rfl) (t_ca (v := .inl 1) (h' := z_h3) (fun _ => rfl) rfl (t_cl (rn_le r29c_0 (Nat.le_of_ble_eq_true rfl) (Nat.le_of_ble_eq_true rfl))) rfl rfl (t_czf rfl (t_il (fun _ => rfl) (t_ca (v := .inl 1) (h' := z_h3) (fun _ => rfl) rfl (t_cl (rn_le r29c_2 (Nat.le_of_ble_eq_true rfl) (Nat.le_of_ble_eq_true rfl))) rfl rfl (t_czt rfl (t_run r29k_483345 (t_al (fun _ => rfl) (t_getf (v := .inr (.inl (some 24))) (fun _ => rfl) (t_il (fun _ => rfl) (t_aald (o := none) (fun _ => rfl) (t_as (fun _ => rfl) (t_al (fun _ => rfl) (t_getf (v := .inr (.inl (some 24))) (fun _ => rfl) (t_il (fun _ => rfl) (t_aald (o := none) (fun _ => rfl) (t_as (fun _ => rfl) (t_al (fun _ => rfl) (t_ifn0 (t_run r29k_483371 (t_ic (rfl)))))))))))))))))))))),
    t_run r29k_913408 (t_il (fun _ => rfl) (t_ca (v := .inl 1) (h' := z_h3) (fun _ => rfl) rfl (t_cl (rn_le r29c_1 (Nat.le_of_ble_eq_true rfl) (Nat.le_of_ble_eq_true rfl))) rfl rfl (t_czf rfl (t_il (fun _ => rfl) (t_ca (v := .inl 1) (h' := z_h3) (fun _ => rfl) rfl (t_cl (rn_le r29c_3 (Nat.le_of_ble_eq_true rfl) (Nat.le_of_ble_eq_true rfl))) rfl rfl (t_czt rfl (t_run r29k_913425 (t_al (fun _ => rfl) (t_getf (v := .inr (.inl (some 63))) (fun _ => rfl) (t_il (fun _ => rfl) (t_ald 4294967295 (fun _ => rfl) (t_czt rfl (t_run r29k_913443 (t_ic (rfl))))))))))))))),
    fun _ => rfl, rfl, rfl, rfl, rfl, rfl, rfl, rfl⟩
set_option maxRecDepth 100000 in
theorem r29c_4 : m_run m_cg 22 3 503808 [.inl 2] [] z_h3 = some (some (.inl 1), z_h3) := z_is_ok (by decide +kernel)
set_option maxRecDepth 100000 in
theorem r29c_5 : m_run m_cg 18 2 897024 [.inl 2] [] z_h3 = some (some (.inl 1), z_h3) := z_is_ok (by decide +kernel)
set_option maxRecDepth 20000 in
theorem r29l_2 (b : Nat) (d : Nat) (e : Nat) (b0 : 0 ≤ b) (b1 : b ≤ 4294967295) (d0 : 0 ≤ d) (d1 : d ≤ 4294967295) (e0 : 0 ≤ e) (e1 : e ≤ 4294967295) : z_ok false 483328 913408 [.inr (.inr (.inl 0)), .inr (.inr (.inl 0))] [.inr (.inr (.inl 0))] [.inl 0, .inl b, .inl 2, .inl d, .inl e] :=
  ⟨.inl 4294967285, z_h3, z_h3,
    t_run r29k_483328 (t_il (fun _ => rfl) (t_ca (v := .inl 1) (h' := z_h3) (fun _ => rfl) rfl (t_cl (rn_le r29c_0 (Nat.le_of_ble_eq_true rfl) (Nat.le_of_ble_eq_true rfl))) rfl rfl (t_czf rfl (t_il (fun _ => rfl) (t_ca (v := .inl 1) (h' := z_h3) (fun _ => rfl) rfl (t_cl (rn_le r29c_4 (Nat.le_of_ble_eq_true rfl) (Nat.le_of_ble_eq_true rfl))) rfl rfl (t_czt rfl (t_run r29k_483345 (t_al (fun _ => rfl) (t_getf (v := .inr (.inl (some 24))) (fun _ => rfl) (t_il (fun _ => rfl) (t_aald (o := none) (fun _ => rfl) (t_as (fun _ => rfl) (t_al (fun _ => rfl) (t_getf (v := .inr (.inl (some 24))) (fun _ => rfl) (t_il (fun _ => rfl) (t_aald (o := none) (fun _ => rfl) (t_as (fun _ => rfl) (t_al (fun _ => rfl) (t_ifn0 (t_run r29k_483371 (t_ic (rfl)))))))))))))))))))))),
    t_run r29k_913408 (t_il (fun _ => rfl) (t_ca (v := .inl 1) (h' := z_h3) (fun _ => rfl) rfl (t_cl (rn_le r29c_1 (Nat.le_of_ble_eq_true rfl) (Nat.le_of_ble_eq_true rfl))) rfl rfl (t_czf rfl (t_il (fun _ => rfl) (t_ca (v := .inl 1) (h' := z_h3) (fun _ => rfl) rfl (t_cl (rn_le r29c_5 (Nat.le_of_ble_eq_true rfl) (Nat.le_of_ble_eq_true rfl))) rfl rfl (t_czt rfl (t_run r29k_913425 (t_al (fun _ => rfl) (t_getf (v := .inr (.inl (some 63))) (fun _ => rfl) (t_il (fun _ => rfl) (t_ald 4294967295 (fun _ => rfl) (t_czt rfl (t_run r29k_913443 (t_ic (rfl))))))))))))))),
    fun _ => rfl, rfl, rfl, rfl, rfl, rfl, rfl, rfl⟩
set_option maxRecDepth 100000 in
theorem r29c_6 : m_run m_cg 22 3 503808 [.inl 3] [] z_h3 = some (some (.inl 1), z_h3) := z_is_ok (by decide +kernel)
set_option maxRecDepth 100000 in
theorem r29c_7 : m_run m_cg 18 2 897024 [.inl 3] [] z_h3 = some (some (.inl 1), z_h3) := z_is_ok (by decide +kernel)
set_option maxRecDepth 20000 in
theorem r29l_3 (b : Nat) (d : Nat) (e : Nat) (b0 : 0 ≤ b) (b1 : b ≤ 4294967295) (d0 : 0 ≤ d) (d1 : d ≤ 4294967295) (e0 : 0 ≤ e) (e1 : e ≤ 4294967295) : z_ok false 483328 913408 [.inr (.inr (.inl 0)), .inr (.inr (.inl 0))] [.inr (.inr (.inl 0))] [.inl 0, .inl b, .inl 3, .inl d, .inl e] :=
  ⟨.inl 4294967285, z_h3, z_h3,
    t_run r29k_483328 (t_il (fun _ => rfl) (t_ca (v := .inl 1) (h' := z_h3) (fun _ => rfl) rfl (t_cl (rn_le r29c_0 (Nat.le_of_ble_eq_true rfl) (Nat.le_of_ble_eq_true rfl))) rfl rfl (t_czf rfl (t_il (fun _ => rfl) (t_ca (v := .inl 1) (h' := z_h3) (fun _ => rfl) rfl (t_cl (rn_le r29c_6 (Nat.le_of_ble_eq_true rfl) (Nat.le_of_ble_eq_true rfl))) rfl rfl (t_czt rfl (t_run r29k_483345 (t_al (fun _ => rfl) (t_getf (v := .inr (.inl (some 24))) (fun _ => rfl) (t_il (fun _ => rfl) (t_aald (o := none) (fun _ => rfl) (t_as (fun _ => rfl) (t_al (fun _ => rfl) (t_getf (v := .inr (.inl (some 24))) (fun _ => rfl) (t_il (fun _ => rfl) (t_aald (o := none) (fun _ => rfl) (t_as (fun _ => rfl) (t_al (fun _ => rfl) (t_ifn0 (t_run r29k_483371 (t_ic (rfl)))))))))))))))))))))),
    t_run r29k_913408 (t_il (fun _ => rfl) (t_ca (v := .inl 1) (h' := z_h3) (fun _ => rfl) rfl (t_cl (rn_le r29c_1 (Nat.le_of_ble_eq_true rfl) (Nat.le_of_ble_eq_true rfl))) rfl rfl (t_czf rfl (t_il (fun _ => rfl) (t_ca (v := .inl 1) (h' := z_h3) (fun _ => rfl) rfl (t_cl (rn_le r29c_7 (Nat.le_of_ble_eq_true rfl) (Nat.le_of_ble_eq_true rfl))) rfl rfl (t_czt rfl (t_run r29k_913425 (t_al (fun _ => rfl) (t_getf (v := .inr (.inl (some 63))) (fun _ => rfl) (t_il (fun _ => rfl) (t_ald 4294967295 (fun _ => rfl) (t_czt rfl (t_run r29k_913443 (t_ic (rfl))))))))))))))),
    fun _ => rfl, rfl, rfl, rfl, rfl, rfl, rfl, rfl⟩
set_option maxRecDepth 20000 in
theorem r29l_4 (b : Nat) (d : Nat) (e : Nat) (b0 : 0 ≤ b) (b1 : b ≤ 4294967295) (d0 : 0 ≤ d) (d1 : d ≤ 4294967295) (e0 : 0 ≤ e) (e1 : e ≤ 4294967295) : z_ok false 483328 913408 [.inr (.inr (.inl 0)), .inr (.inr (.inl 0))] [.inr (.inr (.inl 0))] [.inl 1, .inl b, .inl 0, .inl d, .inl e] :=
  ⟨.inl 4294967285, z_h3, z_h3,
    t_run r29k_483328 (t_il (fun _ => rfl) (t_ca (v := .inl 1) (h' := z_h3) (fun _ => rfl) rfl (t_cl (rn_le r29c_2 (Nat.le_of_ble_eq_true rfl) (Nat.le_of_ble_eq_true rfl))) rfl rfl (t_czf rfl (t_il (fun _ => rfl) (t_ca (v := .inl 1) (h' := z_h3) (fun _ => rfl) rfl (t_cl (rn_le r29c_0 (Nat.le_of_ble_eq_true rfl) (Nat.le_of_ble_eq_true rfl))) rfl rfl (t_czt rfl (t_run r29k_483345 (t_al (fun _ => rfl) (t_getf (v := .inr (.inl (some 24))) (fun _ => rfl) (t_il (fun _ => rfl) (t_aald (o := none) (fun _ => rfl) (t_as (fun _ => rfl) (t_al (fun _ => rfl) (t_getf (v := .inr (.inl (some 24))) (fun _ => rfl) (t_il (fun _ => rfl) (t_aald (o := none) (fun _ => rfl) (t_as (fun _ => rfl) (t_al (fun _ => rfl) (t_ifn0 (t_run r29k_483371 (t_ic (rfl)))))))))))))))))))))),
    t_run r29k_913408 (t_il (fun _ => rfl) (t_ca (v := .inl 1) (h' := z_h3) (fun _ => rfl) rfl (t_cl (rn_le r29c_3 (Nat.le_of_ble_eq_true rfl) (Nat.le_of_ble_eq_true rfl))) rfl rfl (t_czf rfl (t_il (fun _ => rfl) (t_ca (v := .inl 1) (h' := z_h3) (fun _ => rfl) rfl (t_cl (rn_le r29c_1 (Nat.le_of_ble_eq_true rfl) (Nat.le_of_ble_eq_true rfl))) rfl rfl (t_czt rfl (t_run r29k_913425 (t_al (fun _ => rfl) (t_getf (v := .inr (.inl (some 63))) (fun _ => rfl) (t_il (fun _ => rfl) (t_ald 4294967295 (fun _ => rfl) (t_czt rfl (t_run r29k_913443 (t_ic (rfl))))))))))))))),
    fun _ => rfl, rfl, rfl, rfl, rfl, rfl, rfl, rfl⟩
set_option maxRecDepth 20000 in
theorem r29l_5 (b : Nat) (d : Nat) (e : Nat) (b0 : 0 ≤ b) (b1 : b ≤ 4294967295) (d0 : 0 ≤ d) (d1 : d ≤ 4294967295) (e0 : 0 ≤ e) (e1 : e ≤ 4294967295) : z_ok false 483328 913408 [.inr (.inr (.inl 0)), .inr (.inr (.inl 0))] [.inr (.inr (.inl 0))] [.inl 1, .inl b, .inl 1, .inl d, .inl e] :=
  ⟨.inl 4294967285, z_h3, z_h3,
    t_run r29k_483328 (t_il (fun _ => rfl) (t_ca (v := .inl 1) (h' := z_h3) (fun _ => rfl) rfl (t_cl (rn_le r29c_2 (Nat.le_of_ble_eq_true rfl) (Nat.le_of_ble_eq_true rfl))) rfl rfl (t_czf rfl (t_il (fun _ => rfl) (t_ca (v := .inl 1) (h' := z_h3) (fun _ => rfl) rfl (t_cl (rn_le r29c_2 (Nat.le_of_ble_eq_true rfl) (Nat.le_of_ble_eq_true rfl))) rfl rfl (t_czt rfl (t_run r29k_483345 (t_al (fun _ => rfl) (t_getf (v := .inr (.inl (some 24))) (fun _ => rfl) (t_il (fun _ => rfl) (t_aald (o := none) (fun _ => rfl) (t_as (fun _ => rfl) (t_al (fun _ => rfl) (t_getf (v := .inr (.inl (some 24))) (fun _ => rfl) (t_il (fun _ => rfl) (t_aald (o := none) (fun _ => rfl) (t_as (fun _ => rfl) (t_al (fun _ => rfl) (t_ifn0 (t_run r29k_483371 (t_ic (rfl)))))))))))))))))))))),
    t_run r29k_913408 (t_il (fun _ => rfl) (t_ca (v := .inl 1) (h' := z_h3) (fun _ => rfl) rfl (t_cl (rn_le r29c_3 (Nat.le_of_ble_eq_true rfl) (Nat.le_of_ble_eq_true rfl))) rfl rfl (t_czf rfl (t_il (fun _ => rfl) (t_ca (v := .inl 1) (h' := z_h3) (fun _ => rfl) rfl (t_cl (rn_le r29c_3 (Nat.le_of_ble_eq_true rfl) (Nat.le_of_ble_eq_true rfl))) rfl rfl (t_czt rfl (t_run r29k_913425 (t_al (fun _ => rfl) (t_getf (v := .inr (.inl (some 63))) (fun _ => rfl) (t_il (fun _ => rfl) (t_ald 4294967295 (fun _ => rfl) (t_czt rfl (t_run r29k_913443 (t_ic (rfl))))))))))))))),
    fun _ => rfl, rfl, rfl, rfl, rfl, rfl, rfl, rfl⟩
set_option maxRecDepth 20000 in
theorem r29l_6 (b : Nat) (d : Nat) (e : Nat) (b0 : 0 ≤ b) (b1 : b ≤ 4294967295) (d0 : 0 ≤ d) (d1 : d ≤ 4294967295) (e0 : 0 ≤ e) (e1 : e ≤ 4294967295) : z_ok false 483328 913408 [.inr (.inr (.inl 0)), .inr (.inr (.inl 0))] [.inr (.inr (.inl 0))] [.inl 1, .inl b, .inl 2, .inl d, .inl e] :=
  ⟨.inl 4294967285, z_h3, z_h3,
    t_run r29k_483328 (t_il (fun _ => rfl) (t_ca (v := .inl 1) (h' := z_h3) (fun _ => rfl) rfl (t_cl (rn_le r29c_2 (Nat.le_of_ble_eq_true rfl) (Nat.le_of_ble_eq_true rfl))) rfl rfl (t_czf rfl (t_il (fun _ => rfl) (t_ca (v := .inl 1) (h' := z_h3) (fun _ => rfl) rfl (t_cl (rn_le r29c_4 (Nat.le_of_ble_eq_true rfl) (Nat.le_of_ble_eq_true rfl))) rfl rfl (t_czt rfl (t_run r29k_483345 (t_al (fun _ => rfl) (t_getf (v := .inr (.inl (some 24))) (fun _ => rfl) (t_il (fun _ => rfl) (t_aald (o := none) (fun _ => rfl) (t_as (fun _ => rfl) (t_al (fun _ => rfl) (t_getf (v := .inr (.inl (some 24))) (fun _ => rfl) (t_il (fun _ => rfl) (t_aald (o := none) (fun _ => rfl) (t_as (fun _ => rfl) (t_al (fun _ => rfl) (t_ifn0 (t_run r29k_483371 (t_ic (rfl)))))))))))))))))))))),
    t_run r29k_913408 (t_il (fun _ => rfl) (t_ca (v := .inl 1) (h' := z_h3) (fun _ => rfl) rfl (t_cl (rn_le r29c_3 (Nat.le_of_ble_eq_true rfl) (Nat.le_of_ble_eq_true rfl))) rfl rfl (t_czf rfl (t_il (fun _ => rfl) (t_ca (v := .inl 1) (h' := z_h3) (fun _ => rfl) rfl (t_cl (rn_le r29c_5 (Nat.le_of_ble_eq_true rfl) (Nat.le_of_ble_eq_true rfl))) rfl rfl (t_czt rfl (t_run r29k_913425 (t_al (fun _ => rfl) (t_getf (v := .inr (.inl (some 63))) (fun _ => rfl) (t_il (fun _ => rfl) (t_ald 4294967295 (fun _ => rfl) (t_czt rfl (t_run r29k_913443 (t_ic (rfl))))))))))))))),
    fun _ => rfl, rfl, rfl, rfl, rfl, rfl, rfl, rfl⟩
set_option maxRecDepth 20000 in
theorem r29l_7 (b : Nat) (d : Nat) (e : Nat) (b0 : 0 ≤ b) (b1 : b ≤ 4294967295) (d0 : 0 ≤ d) (d1 : d ≤ 4294967295) (e0 : 0 ≤ e) (e1 : e ≤ 4294967295) : z_ok false 483328 913408 [.inr (.inr (.inl 0)), .inr (.inr (.inl 0))] [.inr (.inr (.inl 0))] [.inl 1, .inl b, .inl 3, .inl d, .inl e] :=
  ⟨.inl 4294967285, z_h3, z_h3,
    t_run r29k_483328 (t_il (fun _ => rfl) (t_ca (v := .inl 1) (h' := z_h3) (fun _ => rfl) rfl (t_cl (rn_le r29c_2 (Nat.le_of_ble_eq_true rfl) (Nat.le_of_ble_eq_true rfl))) rfl rfl (t_czf rfl (t_il (fun _ => rfl) (t_ca (v := .inl 1) (h' := z_h3) (fun _ => rfl) rfl (t_cl (rn_le r29c_6 (Nat.le_of_ble_eq_true rfl) (Nat.le_of_ble_eq_true rfl))) rfl rfl (t_czt rfl (t_run r29k_483345 (t_al (fun _ => rfl) (t_getf (v := .inr (.inl (some 24))) (fun _ => rfl) (t_il (fun _ => rfl) (t_aald (o := none) (fun _ => rfl) (t_as (fun _ => rfl) (t_al (fun _ => rfl) (t_getf (v := .inr (.inl (some 24))) (fun _ => rfl) (t_il (fun _ => rfl) (t_aald (o := none) (fun _ => rfl) (t_as (fun _ => rfl) (t_al (fun _ => rfl) (t_ifn0 (t_run r29k_483371 (t_ic (rfl)))))))))))))))))))))),
    t_run r29k_913408 (t_il (fun _ => rfl) (t_ca (v := .inl 1) (h' := z_h3) (fun _ => rfl) rfl (t_cl (rn_le r29c_3 (Nat.le_of_ble_eq_true rfl) (Nat.le_of_ble_eq_true rfl))) rfl rfl (t_czf rfl (t_il (fun _ => rfl) (t_ca (v := .inl 1) (h' := z_h3) (fun _ => rfl) rfl (t_cl (rn_le r29c_7 (Nat.le_of_ble_eq_true rfl) (Nat.le_of_ble_eq_true rfl))) rfl rfl (t_czt rfl (t_run r29k_913425 (t_al (fun _ => rfl) (t_getf (v := .inr (.inl (some 63))) (fun _ => rfl) (t_il (fun _ => rfl) (t_ald 4294967295 (fun _ => rfl) (t_czt rfl (t_run r29k_913443 (t_ic (rfl))))))))))))))),
    fun _ => rfl, rfl, rfl, rfl, rfl, rfl, rfl, rfl⟩
set_option maxRecDepth 20000 in
theorem r29l_8 (b : Nat) (d : Nat) (e : Nat) (b0 : 0 ≤ b) (b1 : b ≤ 4294967295) (d0 : 0 ≤ d) (d1 : d ≤ 4294967295) (e0 : 0 ≤ e) (e1 : e ≤ 4294967295) : z_ok false 483328 913408 [.inr (.inr (.inl 0)), .inr (.inr (.inl 0))] [.inr (.inr (.inl 0))] [.inl 2, .inl b, .inl 0, .inl d, .inl e] :=
  ⟨.inl 4294967285, z_h3, z_h3,
    t_run r29k_483328 (t_il (fun _ => rfl) (t_ca (v := .inl 1) (h' := z_h3) (fun _ => rfl) rfl (t_cl (rn_le r29c_4 (Nat.le_of_ble_eq_true rfl) (Nat.le_of_ble_eq_true rfl))) rfl rfl (t_czf rfl (t_il (fun _ => rfl) (t_ca (v := .inl 1) (h' := z_h3) (fun _ => rfl) rfl (t_cl (rn_le r29c_0 (Nat.le_of_ble_eq_true rfl) (Nat.le_of_ble_eq_true rfl))) rfl rfl (t_czt rfl (t_run r29k_483345 (t_al (fun _ => rfl) (t_getf (v := .inr (.inl (some 24))) (fun _ => rfl) (t_il (fun _ => rfl) (t_aald (o := none) (fun _ => rfl) (t_as (fun _ => rfl) (t_al (fun _ => rfl) (t_getf (v := .inr (.inl (some 24))) (fun _ => rfl) (t_il (fun _ => rfl) (t_aald (o := none) (fun _ => rfl) (t_as (fun _ => rfl) (t_al (fun _ => rfl) (t_ifn0 (t_run r29k_483371 (t_ic (rfl)))))))))))))))))))))),
    t_run r29k_913408 (t_il (fun _ => rfl) (t_ca (v := .inl 1) (h' := z_h3) (fun _ => rfl) rfl (t_cl (rn_le r29c_5 (Nat.le_of_ble_eq_true rfl) (Nat.le_of_ble_eq_true rfl))) rfl rfl (t_czf rfl (t_il (fun _ => rfl) (t_ca (v := .inl 1) (h' := z_h3) (fun _ => rfl) rfl (t_cl (rn_le r29c_1 (Nat.le_of_ble_eq_true rfl) (Nat.le_of_ble_eq_true rfl))) rfl rfl (t_czt rfl (t_run r29k_913425 (t_al (fun _ => rfl) (t_getf (v := .inr (.inl (some 63))) (fun _ => rfl) (t_il (fun _ => rfl) (t_ald 4294967295 (fun _ => rfl) (t_czt rfl (t_run r29k_913443 (t_ic (rfl))))))))))))))),
    fun _ => rfl, rfl, rfl, rfl, rfl, rfl, rfl, rfl⟩
set_option maxRecDepth 20000 in
theorem r29l_9 (b : Nat) (d : Nat) (e : Nat) (b0 : 0 ≤ b) (b1 : b ≤ 4294967295) (d0 : 0 ≤ d) (d1 : d ≤ 4294967295) (e0 : 0 ≤ e) (e1 : e ≤ 4294967295) : z_ok false 483328 913408 [.inr (.inr (.inl 0)), .inr (.inr (.inl 0))] [.inr (.inr (.inl 0))] [.inl 2, .inl b, .inl 1, .inl d, .inl e] :=
  ⟨.inl 4294967285, z_h3, z_h3,
    t_run r29k_483328 (t_il (fun _ => rfl) (t_ca (v := .inl 1) (h' := z_h3) (fun _ => rfl) rfl (t_cl (rn_le r29c_4 (Nat.le_of_ble_eq_true rfl) (Nat.le_of_ble_eq_true rfl))) rfl rfl (t_czf rfl (t_il (fun _ => rfl) (t_ca (v := .inl 1) (h' := z_h3) (fun _ => rfl) rfl (t_cl (rn_le r29c_2 (Nat.le_of_ble_eq_true rfl) (Nat.le_of_ble_eq_true rfl))) rfl rfl (t_czt rfl (t_run r29k_483345 (t_al (fun _ => rfl) (t_getf (v := .inr (.inl (some 24))) (fun _ => rfl) (t_il (fun _ => rfl) (t_aald (o := none) (fun _ => rfl) (t_as (fun _ => rfl) (t_al (fun _ => rfl) (t_getf (v := .inr (.inl (some 24))) (fun _ => rfl) (t_il (fun _ => rfl) (t_aald (o := none) (fun _ => rfl) (t_as (fun _ => rfl) (t_al (fun _ => rfl) (t_ifn0 (t_run r29k_483371 (t_ic (rfl)))))))))))))))))))))),
    t_run r29k_913408 (t_il (fun _ => rfl) (t_ca (v := .inl 1) (h' := z_h3) (fun _ => rfl) rfl (t_cl (rn_le r29c_5 (Nat.le_of_ble_eq_true rfl) (Nat.le_of_ble_eq_true rfl))) rfl rfl (t_czf rfl (t_il (fun _ => rfl) (t_ca (v := .inl 1) (h' := z_h3) (fun _ => rfl) rfl (t_cl (rn_le r29c_3 (Nat.le_of_ble_eq_true rfl) (Nat.le_of_ble_eq_true rfl))) rfl rfl (t_czt rfl (t_run r29k_913425 (t_al (fun _ => rfl) (t_getf (v := .inr (.inl (some 63))) (fun _ => rfl) (t_il (fun _ => rfl) (t_ald 4294967295 (fun _ => rfl) (t_czt rfl (t_run r29k_913443 (t_ic (rfl))))))))))))))),
    fun _ => rfl, rfl, rfl, rfl, rfl, rfl, rfl, rfl⟩
set_option maxRecDepth 20000 in
theorem r29l_10 (b : Nat) (d : Nat) (e : Nat) (b0 : 0 ≤ b) (b1 : b ≤ 4294967295) (d0 : 0 ≤ d) (d1 : d ≤ 4294967295) (e0 : 0 ≤ e) (e1 : e ≤ 4294967295) : z_ok false 483328 913408 [.inr (.inr (.inl 0)), .inr (.inr (.inl 0))] [.inr (.inr (.inl 0))] [.inl 2, .inl b, .inl 2, .inl d, .inl e] :=
  ⟨.inl 4294967285, z_h3, z_h3,
    t_run r29k_483328 (t_il (fun _ => rfl) (t_ca (v := .inl 1) (h' := z_h3) (fun _ => rfl) rfl (t_cl (rn_le r29c_4 (Nat.le_of_ble_eq_true rfl) (Nat.le_of_ble_eq_true rfl))) rfl rfl (t_czf rfl (t_il (fun _ => rfl) (t_ca (v := .inl 1) (h' := z_h3) (fun _ => rfl) rfl (t_cl (rn_le r29c_4 (Nat.le_of_ble_eq_true rfl) (Nat.le_of_ble_eq_true rfl))) rfl rfl (t_czt rfl (t_run r29k_483345 (t_al (fun _ => rfl) (t_getf (v := .inr (.inl (some 24))) (fun _ => rfl) (t_il (fun _ => rfl) (t_aald (o := none) (fun _ => rfl) (t_as (fun _ => rfl) (t_al (fun _ => rfl) (t_getf (v := .inr (.inl (some 24))) (fun _ => rfl) (t_il (fun _ => rfl) (t_aald (o := none) (fun _ => rfl) (t_as (fun _ => rfl) (t_al (fun _ => rfl) (t_ifn0 (t_run r29k_483371 (t_ic (rfl)))))))))))))))))))))),
    t_run r29k_913408 (t_il (fun _ => rfl) (t_ca (v := .inl 1) (h' := z_h3) (fun _ => rfl) rfl (t_cl (rn_le r29c_5 (Nat.le_of_ble_eq_true rfl) (Nat.le_of_ble_eq_true rfl))) rfl rfl (t_czf rfl (t_il (fun _ => rfl) (t_ca (v := .inl 1) (h' := z_h3) (fun _ => rfl) rfl (t_cl (rn_le r29c_5 (Nat.le_of_ble_eq_true rfl) (Nat.le_of_ble_eq_true rfl))) rfl rfl (t_czt rfl (t_run r29k_913425 (t_al (fun _ => rfl) (t_getf (v := .inr (.inl (some 63))) (fun _ => rfl) (t_il (fun _ => rfl) (t_ald 4294967295 (fun _ => rfl) (t_czt rfl (t_run r29k_913443 (t_ic (rfl))))))))))))))),
    fun _ => rfl, rfl, rfl, rfl, rfl, rfl, rfl, rfl⟩
set_option maxRecDepth 20000 in
theorem r29l_11 (b : Nat) (d : Nat) (e : Nat) (b0 : 0 ≤ b) (b1 : b ≤ 4294967295) (d0 : 0 ≤ d) (d1 : d ≤ 4294967295) (e0 : 0 ≤ e) (e1 : e ≤ 4294967295) : z_ok false 483328 913408 [.inr (.inr (.inl 0)), .inr (.inr (.inl 0))] [.inr (.inr (.inl 0))] [.inl 2, .inl b, .inl 3, .inl d, .inl e] :=
  ⟨.inl 4294967285, z_h3, z_h3,
    t_run r29k_483328 (t_il (fun _ => rfl) (t_ca (v := .inl 1) (h' := z_h3) (fun _ => rfl) rfl (t_cl (rn_le r29c_4 (Nat.le_of_ble_eq_true rfl) (Nat.le_of_ble_eq_true rfl))) rfl rfl (t_czf rfl (t_il (fun _ => rfl) (t_ca (v := .inl 1) (h' := z_h3) (fun _ => rfl) rfl (t_cl (rn_le r29c_6 (Nat.le_of_ble_eq_true rfl) (Nat.le_of_ble_eq_true rfl))) rfl rfl (t_czt rfl (t_run r29k_483345 (t_al (fun _ => rfl) (t_getf (v := .inr (.inl (some 24))) (fun _ => rfl) (t_il (fun _ => rfl) (t_aald (o := none) (fun _ => rfl) (t_as (fun _ => rfl) (t_al (fun _ => rfl) (t_getf (v := .inr (.inl (some 24))) (fun _ => rfl) (t_il (fun _ => rfl) (t_aald (o := none) (fun _ => rfl) (t_as (fun _ => rfl) (t_al (fun _ => rfl) (t_ifn0 (t_run r29k_483371 (t_ic (rfl)))))))))))))))))))))),
    t_run r29k_913408 (t_il (fun _ => rfl) (t_ca (v := .inl 1) (h' := z_h3) (fun _ => rfl) rfl (t_cl (rn_le r29c_5 (Nat.le_of_ble_eq_true rfl) (Nat.le_of_ble_eq_true rfl))) rfl rfl (t_czf rfl (t_il (fun _ => rfl) (t_ca (v := .inl 1) (h' := z_h3) (fun _ => rfl) rfl (t_cl (rn_le r29c_7 (Nat.le_of_ble_eq_true rfl) (Nat.le_of_ble_eq_true rfl))) rfl rfl (t_czt rfl (t_run r29k_913425 (t_al (fun _ => rfl) (t_getf (v := .inr (.inl (some 63))) (fun _ => rfl) (t_il (fun _ => rfl) (t_ald 4294967295 (fun _ => rfl) (t_czt rfl (t_run r29k_913443 (t_ic (rfl))))))))))))))),
    fun _ => rfl, rfl, rfl, rfl, rfl, rfl, rfl, rfl⟩
set_option maxRecDepth 20000 in
theorem r29l_12 (b : Nat) (d : Nat) (e : Nat) (b0 : 0 ≤ b) (b1 : b ≤ 4294967295) (d0 : 0 ≤ d) (d1 : d ≤ 4294967295) (e0 : 0 ≤ e) (e1 : e ≤ 4294967295) : z_ok false 483328 913408 [.inr (.inr (.inl 0)), .inr (.inr (.inl 0))] [.inr (.inr (.inl 0))] [.inl 3, .inl b, .inl 0, .inl d, .inl e] :=
  ⟨.inl 4294967285, z_h3, z_h3,
    t_run r29k_483328 (t_il (fun _ => rfl) (t_ca (v := .inl 1) (h' := z_h3) (fun _ => rfl) rfl (t_cl (rn_le r29c_6 (Nat.le_of_ble_eq_true rfl) (Nat.le_of_ble_eq_true rfl))) rfl rfl (t_czf rfl (t_il (fun _ => rfl) (t_ca (v := .inl 1) (h' := z_h3) (fun _ => rfl) rfl (t_cl (rn_le r29c_0 (Nat.le_of_ble_eq_true rfl) (Nat.le_of_ble_eq_true rfl))) rfl rfl (t_czt rfl (t_run r29k_483345 (t_al (fun _ => rfl) (t_getf (v := .inr (.inl (some 24))) (fun _ => rfl) (t_il (fun _ => rfl) (t_aald (o := none) (fun _ => rfl) (t_as (fun _ => rfl) (t_al (fun _ => rfl) (t_getf (v := .inr (.inl (some 24))) (fun _ => rfl) (t_il (fun _ => rfl) (t_aald (o := none) (fun _ => rfl) (t_as (fun _ => rfl) (t_al (fun _ => rfl) (t_ifn0 (t_run r29k_483371 (t_ic (rfl)))))))))))))))))))))),
    t_run r29k_913408 (t_il (fun _ => rfl) (t_ca (v := .inl 1) (h' := z_h3) (fun _ => rfl) rfl (t_cl (rn_le r29c_7 (Nat.le_of_ble_eq_true rfl) (Nat.le_of_ble_eq_true rfl))) rfl rfl (t_czf rfl (t_il (fun _ => rfl) (t_ca (v := .inl 1) (h' := z_h3) (fun _ => rfl) rfl (t_cl (rn_le r29c_1 (Nat.le_of_ble_eq_true rfl) (Nat.le_of_ble_eq_true rfl))) rfl rfl (t_czt rfl (t_run r29k_913425 (t_al (fun _ => rfl) (t_getf (v := .inr (.inl (some 63))) (fun _ => rfl) (t_il (fun _ => rfl) (t_ald 4294967295 (fun _ => rfl) (t_czt rfl (t_run r29k_913443 (t_ic (rfl))))))))))))))),
    fun _ => rfl, rfl, rfl, rfl, rfl, rfl, rfl, rfl⟩
set_option maxRecDepth 20000 in
theorem r29l_13 (b : Nat) (d : Nat) (e : Nat) (b0 : 0 ≤ b) (b1 : b ≤ 4294967295) (d0 : 0 ≤ d) (d1 : d ≤ 4294967295) (e0 : 0 ≤ e) (e1 : e ≤ 4294967295) : z_ok false 483328 913408 [.inr (.inr (.inl 0)), .inr (.inr (.inl 0))] [.inr (.inr (.inl 0))] [.inl 3, .inl b, .inl 1, .inl d, .inl e] :=
  ⟨.inl 4294967285, z_h3, z_h3,
    t_run r29k_483328 (t_il (fun _ => rfl) (t_ca (v := .inl 1) (h' := z_h3) (fun _ => rfl) rfl (t_cl (rn_le r29c_6 (Nat.le_of_ble_eq_true rfl) (Nat.le_of_ble_eq_true rfl))) rfl rfl (t_czf rfl (t_il (fun _ => rfl) (t_ca (v := .inl 1) (h' := z_h3) (fun _ => rfl) rfl (t_cl (rn_le r29c_2 (Nat.le_of_ble_eq_true rfl) (Nat.le_of_ble_eq_true rfl))) rfl rfl (t_czt rfl (t_run r29k_483345 (t_al (fun _ => rfl) (t_getf (v := .inr (.inl (some 24))) (fun _ => rfl) (t_il (fun _ => rfl) (t_aald (o := none) (fun _ => rfl) (t_as (fun _ => rfl) (t_al (fun _ => rfl) (t_getf (v := .inr (.inl (some 24))) (fun _ => rfl) (t_il (fun _ => rfl) (t_aald (o := none) (fun _ => rfl) (t_as (fun _ => rfl) (t_al (fun _ => rfl) (t_ifn0 (t_run r29k_483371 (t_ic (rfl)))))))))))))))))))))),
    t_run r29k_913408 (t_il (fun _ => rfl) (t_ca (v := .inl 1) (h' := z_h3) (fun _ => rfl) rfl (t_cl (rn_le r29c_7 (Nat.le_of_ble_eq_true rfl) (Nat.le_of_ble_eq_true rfl))) rfl rfl (t_czf rfl (t_il (fun _ => rfl) (t_ca (v := .inl 1) (h' := z_h3) (fun _ => rfl) rfl (t_cl (rn_le r29c_3 (Nat.le_of_ble_eq_true rfl) (Nat.le_of_ble_eq_true rfl))) rfl rfl (t_czt rfl (t_run r29k_913425 (t_al (fun _ => rfl) (t_getf (v := .inr (.inl (some 63))) (fun _ => rfl) (t_il (fun _ => rfl) (t_ald 4294967295 (fun _ => rfl) (t_czt rfl (t_run r29k_913443 (t_ic (rfl))))))))))))))),
    fun _ => rfl, rfl, rfl, rfl, rfl, rfl, rfl, rfl⟩
set_option maxRecDepth 20000 in
theorem r29l_14 (b : Nat) (d : Nat) (e : Nat) (b0 : 0 ≤ b) (b1 : b ≤ 4294967295) (d0 : 0 ≤ d) (d1 : d ≤ 4294967295) (e0 : 0 ≤ e) (e1 : e ≤ 4294967295) : z_ok false 483328 913408 [.inr (.inr (.inl 0)), .inr (.inr (.inl 0))] [.inr (.inr (.inl 0))] [.inl 3, .inl b, .inl 2, .inl d, .inl e] :=
  ⟨.inl 4294967285, z_h3, z_h3,
    t_run r29k_483328 (t_il (fun _ => rfl) (t_ca (v := .inl 1) (h' := z_h3) (fun _ => rfl) rfl (t_cl (rn_le r29c_6 (Nat.le_of_ble_eq_true rfl) (Nat.le_of_ble_eq_true rfl))) rfl rfl (t_czf rfl (t_il (fun _ => rfl) (t_ca (v := .inl 1) (h' := z_h3) (fun _ => rfl) rfl (t_cl (rn_le r29c_4 (Nat.le_of_ble_eq_true rfl) (Nat.le_of_ble_eq_true rfl))) rfl rfl (t_czt rfl (t_run r29k_483345 (t_al (fun _ => rfl) (t_getf (v := .inr (.inl (some 24))) (fun _ => rfl) (t_il (fun _ => rfl) (t_aald (o := none) (fun _ => rfl) (t_as (fun _ => rfl) (t_al (fun _ => rfl) (t_getf (v := .inr (.inl (some 24))) (fun _ => rfl) (t_il (fun _ => rfl) (t_aald (o := none) (fun _ => rfl) (t_as (fun _ => rfl) (t_al (fun _ => rfl) (t_ifn0 (t_run r29k_483371 (t_ic (rfl)))))))))))))))))))))),
    t_run r29k_913408 (t_il (fun _ => rfl) (t_ca (v := .inl 1) (h' := z_h3) (fun _ => rfl) rfl (t_cl (rn_le r29c_7 (Nat.le_of_ble_eq_true rfl) (Nat.le_of_ble_eq_true rfl))) rfl rfl (t_czf rfl (t_il (fun _ => rfl) (t_ca (v := .inl 1) (h' := z_h3) (fun _ => rfl) rfl (t_cl (rn_le r29c_5 (Nat.le_of_ble_eq_true rfl) (Nat.le_of_ble_eq_true rfl))) rfl rfl (t_czt rfl (t_run r29k_913425 (t_al (fun _ => rfl) (t_getf (v := .inr (.inl (some 63))) (fun _ => rfl) (t_il (fun _ => rfl) (t_ald 4294967295 (fun _ => rfl) (t_czt rfl (t_run r29k_913443 (t_ic (rfl))))))))))))))),
    fun _ => rfl, rfl, rfl, rfl, rfl, rfl, rfl, rfl⟩
set_option maxRecDepth 20000 in
theorem r29l_15 (b : Nat) (d : Nat) (e : Nat) (b0 : 0 ≤ b) (b1 : b ≤ 4294967295) (d0 : 0 ≤ d) (d1 : d ≤ 4294967295) (e0 : 0 ≤ e) (e1 : e ≤ 4294967295) : z_ok false 483328 913408 [.inr (.inr (.inl 0)), .inr (.inr (.inl 0))] [.inr (.inr (.inl 0))] [.inl 3, .inl b, .inl 3, .inl d, .inl e] :=
  ⟨.inl 4294967285, z_h3, z_h3,
    t_run r29k_483328 (t_il (fun _ => rfl) (t_ca (v := .inl 1) (h' := z_h3) (fun _ => rfl) rfl (t_cl (rn_le r29c_6 (Nat.le_of_ble_eq_true rfl) (Nat.le_of_ble_eq_true rfl))) rfl rfl (t_czf rfl (t_il (fun _ => rfl) (t_ca (v := .inl 1) (h' := z_h3) (fun _ => rfl) rfl (t_cl (rn_le r29c_6 (Nat.le_of_ble_eq_true rfl) (Nat.le_of_ble_eq_true rfl))) rfl rfl (t_czt rfl (t_run r29k_483345 (t_al (fun _ => rfl) (t_getf (v := .inr (.inl (some 24))) (fun _ => rfl) (t_il (fun _ => rfl) (t_aald (o := none) (fun _ => rfl) (t_as (fun _ => rfl) (t_al (fun _ => rfl) (t_getf (v := .inr (.inl (some 24))) (fun _ => rfl) (t_il (fun _ => rfl) (t_aald (o := none) (fun _ => rfl) (t_as (fun _ => rfl) (t_al (fun _ => rfl) (t_ifn0 (t_run r29k_483371 (t_ic (rfl)))))))))))))))))))))),
    t_run r29k_913408 (t_il (fun _ => rfl) (t_ca (v := .inl 1) (h' := z_h3) (fun _ => rfl) rfl (t_cl (rn_le r29c_7 (Nat.le_of_ble_eq_true rfl) (Nat.le_of_ble_eq_true rfl))) rfl rfl (t_czf rfl (t_il (fun _ => rfl) (t_ca (v := .inl 1) (h' := z_h3) (fun _ => rfl) rfl (t_cl (rn_le r29c_7 (Nat.le_of_ble_eq_true rfl) (Nat.le_of_ble_eq_true rfl))) rfl rfl (t_czt rfl (t_run r29k_913425 (t_al (fun _ => rfl) (t_getf (v := .inr (.inl (some 63))) (fun _ => rfl) (t_il (fun _ => rfl) (t_ald 4294967295 (fun _ => rfl) (t_czt rfl (t_run r29k_913443 (t_ic (rfl))))))))))))))),
    fun _ => rfl, rfl, rfl, rfl, rfl, rfl, rfl, rfl⟩
theorem r29k_503808 : m_cg 503808 = g_123_0 := rfl
theorem r29k_495616 : m_cg 495616 = g_121_0 := rfl
theorem r29k_495630 : m_cg 495630 = g_121_14 := rfl
theorem r29k_495629 : m_cg 495629 = g_121_13 := rfl
theorem r29k_897024 : m_cg 897024 = g_219_0 := rfl
theorem r29k_897038 : m_cg 897038 = g_219_14 := rfl
theorem r29k_897037 : m_cg 897037 = g_219_13 := rfl
set_option maxRecDepth 20000 in
theorem r29l_16 (a : Nat) (b : Nat) (c : Nat) (d : Nat) (e : Nat) (a0 : 0 ≤ a) (a1 : a ≤ 3) (b0 : 0 ≤ b) (b1 : b ≤ 4294967295) (c0 : 4 ≤ c) (c1 : c ≤ 2147483647) (d0 : 0 ≤ d) (d1 : d ≤ 4294967295) (e0 : 0 ≤ e) (e1 : e ≤ 4294967295) : z_ok false 483328 913408 [.inr (.inr (.inl 0)), .inr (.inr (.inl 0))] [.inr (.inr (.inl 0))] [.inl a, .inl b, .inl c, .inl d, .inl e] :=
  ⟨.inl 4294967294, z_h3, z_h3,
    t_run r29k_483328 (t_il (fun _ => rfl) (t_ca (v := .inl 1) (h' := z_h3) (fun _ => rfl) rfl (t_cl (t_run r29k_503808 (t_il (fun _ => rfl) (t_ic (t_ca (v := .inl 1) (h' := z_h3) (fun _ => rfl) rfl (t_cl (t_run r29k_495616 (t_il (fun _ => rfl) (t_czf (blt_f (by omega)) (t_il (fun _ => rfl) (t_il (fun _ => rfl) (t_cif (bgt_f (by omega)) (t_ic (t_go (t_run r29k_495630 (rfl))))))))))) rfl rfl (rfl)))))) rfl rfl (t_czf rfl (t_il (fun _ => rfl) (t_ca (v := .inl 0) (h' := z_h3) (fun _ => rfl) rfl (t_cl (t_run r29k_503808 (t_il (fun _ => rfl) (t_ic (t_ca (v := .inl 0) (h' := z_h3) (fun _ => rfl) rfl (t_cl (t_run r29k_495616 (t_il (fun _ => rfl) (t_czf (blt_f (by omega)) (t_il (fun _ => rfl) (t_il (fun _ => rfl) (t_cit (bgt_t (by omega)) (t_run r29k_495629 (t_ic (rfl)))))))))) rfl rfl (rfl)))))) rfl rfl (t_czf rfl (t_ic (rfl)))))))),
    t_run r29k_913408 (t_il (fun _ => rfl) (t_ca (v := .inl 1) (h' := z_h3) (fun _ => rfl) rfl (t_cl (t_run r29k_897024 (t_il (fun _ => rfl) (t_czf (blt_f (by omega)) (t_il (fun _ => rfl) (t_ic (t_cif (bge_f (by omega)) (t_ic (t_go (t_run r29k_897038 (rfl))))))))))) rfl rfl (t_czf rfl (t_il (fun _ => rfl) (t_ca (v := .inl 0) (h' := z_h3) (fun _ => rfl) rfl (t_cl (t_run r29k_897024 (t_il (fun _ => rfl) (t_czf (blt_f (by omega)) (t_il (fun _ => rfl) (t_ic (t_cit (bge_t (by omega)) (t_run r29k_897037 (t_ic (rfl)))))))))) rfl rfl (t_czf rfl (t_ic (rfl)))))))),
    fun _ => rfl, rfl, rfl, rfl, rfl, rfl, rfl, rfl⟩
set_option maxRecDepth 20000 in
theorem r29l_17 (a : Nat) (b : Nat) (c : Nat) (d : Nat) (e : Nat) (a0 : 0 ≤ a) (a1 : a ≤ 3) (b0 : 0 ≤ b) (b1 : b ≤ 4294967295) (c0 : 2147483648 ≤ c) (c1 : c ≤ 4294967295) (d0 : 0 ≤ d) (d1 : d ≤ 4294967295) (e0 : 0 ≤ e) (e1 : e ≤ 4294967295) : z_ok false 483328 913408 [.inr (.inr (.inl 0)), .inr (.inr (.inl 0))] [.inr (.inr (.inl 0))] [.inl a, .inl b, .inl c, .inl d, .inl e] :=
  ⟨.inl 4294967294, z_h3, z_h3,
    t_run r29k_483328 (t_il (fun _ => rfl) (t_ca (v := .inl 1) (h' := z_h3) (fun _ => rfl) rfl (t_cl (t_run r29k_503808 (t_il (fun _ => rfl) (t_ic (t_ca (v := .inl 1) (h' := z_h3) (fun _ => rfl) rfl (t_cl (t_run r29k_495616 (t_il (fun _ => rfl) (t_czf (blt_f (by omega)) (t_il (fun _ => rfl) (t_il (fun _ => rfl) (t_cif (bgt_f (by omega)) (t_ic (t_go (t_run r29k_495630 (rfl))))))))))) rfl rfl (rfl)))))) rfl rfl (t_czf rfl (t_il (fun _ => rfl) (t_ca (v := .inl 0) (h' := z_h3) (fun _ => rfl) rfl (t_cl (t_run r29k_503808 (t_il (fun _ => rfl) (t_ic (t_ca (v := .inl 0) (h' := z_h3) (fun _ => rfl) rfl (t_cl (t_run r29k_495616 (t_il (fun _ => rfl) (t_czt (blt_t (by omega)) (t_run r29k_495629 (t_ic (rfl))))))) rfl rfl (rfl)))))) rfl rfl (t_czf rfl (t_ic (rfl)))))))),
    t_run r29k_913408 (t_il (fun _ => rfl) (t_ca (v := .inl 1) (h' := z_h3) (fun _ => rfl) rfl (t_cl (t_run r29k_897024 (t_il (fun _ => rfl) (t_czf (blt_f (by omega)) (t_il (fun _ => rfl) (t_ic (t_cif (bge_f (by omega)) (t_ic (t_go (t_run r29k_897038 (rfl))))))))))) rfl rfl (t_czf rfl (t_il (fun _ => rfl) (t_ca (v := .inl 0) (h' := z_h3) (fun _ => rfl) rfl (t_cl (t_run r29k_897024 (t_il (fun _ => rfl) (t_czt (blt_t (by omega)) (t_run r29k_897037 (t_ic (rfl))))))) rfl rfl (t_czf rfl (t_ic (rfl)))))))),
    fun _ => rfl, rfl, rfl, rfl, rfl, rfl, rfl, rfl⟩
theorem r29k_483342 : m_cg 483342 = g_118_14 := rfl
theorem r29k_913422 : m_cg 913422 = g_223_14 := rfl
set_option maxRecDepth 20000 in
theorem r29l_18 (a : Nat) (b : Nat) (c : Nat) (d : Nat) (e : Nat) (a0 : 4 ≤ a) (a1 : a ≤ 2147483647) (b0 : 0 ≤ b) (b1 : b ≤ 4294967295) (c0 : 0 ≤ c) (c1 : c ≤ 4294967295) (d0 : 0 ≤ d) (d1 : d ≤ 4294967295) (e0 : 0 ≤ e) (e1 : e ≤ 4294967295) : z_ok false 483328 913408 [.inr (.inr (.inl 0)), .inr (.inr (.inl 0))] [.inr (.inr (.inl 0))] [.inl a, .inl b, .inl c, .inl d, .inl e] :=
  ⟨.inl 4294967294, z_h3, z_h3,
    t_run r29k_483328 (t_il (fun _ => rfl) (t_ca (v := .inl 0) (h' := z_h3) (fun _ => rfl) rfl (t_cl (t_run r29k_503808 (t_il (fun _ => rfl) (t_ic (t_ca (v := .inl 0) (h' := z_h3) (fun _ => rfl) rfl (t_cl (t_run r29k_495616 (t_il (fun _ => rfl) (t_czf (blt_f (by omega)) (t_il (fun _ => rfl) (t_il (fun _ => rfl) (t_cit (bgt_t (by omega)) (t_run r29k_495629 (t_ic (rfl)))))))))) rfl rfl (rfl)))))) rfl rfl (t_czt rfl (t_run r29k_483342 (t_ic (rfl)))))),
    t_run r29k_913408 (t_il (fun _ => rfl) (t_ca (v := .inl 0) (h' := z_h3) (fun _ => rfl) rfl (t_cl (t_run r29k_897024 (t_il (fun _ => rfl) (t_czf (blt_f (by omega)) (t_il (fun _ => rfl) (t_ic (t_cit (bge_t (by omega)) (t_run r29k_897037 (t_ic (rfl)))))))))) rfl rfl (t_czt rfl (t_run r29k_913422 (t_ic (rfl)))))),
    fun _ => rfl, rfl, rfl, rfl, rfl, rfl, rfl, rfl⟩
set_option maxRecDepth 20000 in
theorem r29l_19 (a : Nat) (b : Nat) (c : Nat) (d : Nat) (e : Nat) (a0 : 2147483648 ≤ a) (a1 : a ≤ 4294967295) (b0 : 0 ≤ b) (b1 : b ≤ 4294967295) (c0 : 0 ≤ c) (c1 : c ≤ 4294967295) (d0 : 0 ≤ d) (d1 : d ≤ 4294967295) (e0 : 0 ≤ e) (e1 : e ≤ 4294967295) : z_ok false 483328 913408 [.inr (.inr (.inl 0)), .inr (.inr (.inl 0))] [.inr (.inr (.inl 0))] [.inl a, .inl b, .inl c, .inl d, .inl e] :=
  ⟨.inl 4294967294, z_h3, z_h3,
    t_run r29k_483328 (t_il (fun _ => rfl) (t_ca (v := .inl 0) (h' := z_h3) (fun _ => rfl) rfl (t_cl (t_run r29k_503808 (t_il (fun _ => rfl) (t_ic (t_ca (v := .inl 0) (h' := z_h3) (fun _ => rfl) rfl (t_cl (t_run r29k_495616 (t_il (fun _ => rfl) (t_czt (blt_t (by omega)) (t_run r29k_495629 (t_ic (rfl))))))) rfl rfl (rfl)))))) rfl rfl (t_czt rfl (t_run r29k_483342 (t_ic (rfl)))))),
    t_run r29k_913408 (t_il (fun _ => rfl) (t_ca (v := .inl 0) (h' := z_h3) (fun _ => rfl) rfl (t_cl (t_run r29k_897024 (t_il (fun _ => rfl) (t_czt (blt_t (by omega)) (t_run r29k_897037 (t_ic (rfl))))))) rfl rfl (t_czt rfl (t_run r29k_913422 (t_ic (rfl)))))),
    fun _ => rfl, rfl, rfl, rfl, rfl, rfl, rfl, rfl⟩
theorem r29_all (a : Nat) (b : Nat) (c : Nat) (d : Nat) (e : Nat) (ha_ : a < 4294967296) (hb_ : b < 4294967296) (hc_ : c < 4294967296) (hd_ : d < 4294967296) (he_ : e < 4294967296) : z_ok false 483328 913408 [.inr (.inr (.inl 0)), .inr (.inr (.inl 0))] [.inr (.inr (.inl 0))] [.inl a, .inl b, .inl c, .inl d, .inl e] := by
  rcases Nat.lt_or_ge a 2147483648 with ha | ha
  · rcases Nat.lt_or_ge a 4 with ha | ha
    · rcases Nat.lt_or_ge c 2147483648 with hc | hc
      · rcases Nat.lt_or_ge c 4 with hc | hc
        · by_cases ha : a = 0
          · subst ha
            by_cases hc : c = 0
            · subst hc
              exact r29l_0 b d e (by omega) (by omega) (by omega) (by omega) (by omega) (by omega)
            by_cases hc : c = 1
            · subst hc
              exact r29l_1 b d e (by omega) (by omega) (by omega) (by omega) (by omega) (by omega)
            by_cases hc : c = 2
            · subst hc
              exact r29l_2 b d e (by omega) (by omega) (by omega) (by omega) (by omega) (by omega)
            obtain rfl : c = 3 := by omega
            exact r29l_3 b d e (by omega) (by omega) (by omega) (by omega) (by omega) (by omega)
          by_cases ha : a = 1
          · subst ha
            by_cases hc : c = 0
            · subst hc
              exact r29l_4 b d e (by omega) (by omega) (by omega) (by omega) (by omega) (by omega)
            by_cases hc : c = 1
            · subst hc
              exact r29l_5 b d e (by omega) (by omega) (by omega) (by omega) (by omega) (by omega)
            by_cases hc : c = 2
            · subst hc
              exact r29l_6 b d e (by omega) (by omega) (by omega) (by omega) (by omega) (by omega)
            obtain rfl : c = 3 := by omega
            exact r29l_7 b d e (by omega) (by omega) (by omega) (by omega) (by omega) (by omega)
          by_cases ha : a = 2
          · subst ha
            by_cases hc : c = 0
            · subst hc
              exact r29l_8 b d e (by omega) (by omega) (by omega) (by omega) (by omega) (by omega)
            by_cases hc : c = 1
            · subst hc
              exact r29l_9 b d e (by omega) (by omega) (by omega) (by omega) (by omega) (by omega)
            by_cases hc : c = 2
            · subst hc
              exact r29l_10 b d e (by omega) (by omega) (by omega) (by omega) (by omega) (by omega)
            obtain rfl : c = 3 := by omega
            exact r29l_11 b d e (by omega) (by omega) (by omega) (by omega) (by omega) (by omega)
          obtain rfl : a = 3 := by omega
          by_cases hc : c = 0
          · subst hc
            exact r29l_12 b d e (by omega) (by omega) (by omega) (by omega) (by omega) (by omega)
          by_cases hc : c = 1
          · subst hc
            exact r29l_13 b d e (by omega) (by omega) (by omega) (by omega) (by omega) (by omega)
          by_cases hc : c = 2
          · subst hc
            exact r29l_14 b d e (by omega) (by omega) (by omega) (by omega) (by omega) (by omega)
          obtain rfl : c = 3 := by omega
          exact r29l_15 b d e (by omega) (by omega) (by omega) (by omega) (by omega) (by omega)
        · exact r29l_16 a b c d e (by omega) (by omega) (by omega) (by omega) (by omega) (by omega) (by omega) (by omega) (by omega) (by omega)
      · exact r29l_17 a b c d e (by omega) (by omega) (by omega) (by omega) (by omega) (by omega) (by omega) (by omega) (by omega) (by omega)
    · exact r29l_18 a b c d e (by omega) (by omega) (by omega) (by omega) (by omega) (by omega) (by omega) (by omega) (by omega) (by omega)
  · exact r29l_19 a b c d e (by omega) (by omega) (by omega) (by omega) (by omega) (by omega) (by omega) (by omega) (by omega) (by omega)

