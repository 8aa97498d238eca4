/-! Round 26 of the law: count (written by wip/gen/genrun.py) -/
set_option maxRecDepth 100000 in
theorem r26l_0 : ∀ a, a < 8 → z_pb false 471040 892928 [] [] [.inl a] = true := by decide +kernel
theorem r26k_471040 : m_cg 471040 = g_115_0 := rfl
theorem r26k_471153 : m_cg 471153 = g_115_113 := rfl
theorem r26k_892928 : m_cg 892928 = g_218_0 := rfl
theorem r26k_893016 : m_cg 893016 = g_218_88 := rfl
set_option maxRecDepth 20000 in
theorem r26l_1 (a : Nat) (a0 : 8 ≤ a) (a1 : a ≤ 4294967295) : z_ok false 471040 892928 [] [] [.inl a] :=
  ⟨.inl 4294967294, z_h3, z_h3,
    t_run r26k_471040 (t_il (fun _ => rfl) (t_tsw (tsw_d (by show 8 ≤ _; omega) (by omega)) (t_run r26k_471153 (t_ic (rfl))))),
    t_run r26k_892928 (t_il (fun _ => rfl) (t_tsw (tsw_d (by show 8 ≤ _; omega) (by omega)) (t_run r26k_893016 (t_ic (rfl))))),
    fun _ => rfl, rfl, rfl, rfl, rfl, rfl, rfl, rfl⟩
theorem r26_all (a : Nat) (ha_ : a < 4294967296) : z_ok false 471040 892928 [] [] [.inl a] := by
  rcases Nat.lt_or_ge a 8 with ha | ha
  · exact z_pb_ok (r26l_0 a (by omega))
  · exact r26l_1 a (by omega) (by omega)

