/-! Round 3 of the law: told (written by wip/gen/genrun.py) -/
set_option maxRecDepth 100000 in
theorem r3l_0 : ∀ a, a < 4 → z_pb false 376832 618496 [] [] [.inl a, .inl 0] = true := by decide +kernel
set_option maxRecDepth 100000 in
theorem r3l_1 : ∀ a, a < 4 → z_pb false 376832 618496 [] [] [.inl a, .inl 1] = true := by decide +kernel
theorem r3k_376832 : m_cg 376832 = g_92_0 := rfl
theorem r3k_327680 : m_cg 327680 = g_80_0 := rfl
theorem r3k_327697 : m_cg 327697 = g_80_17 := rfl
theorem r3k_376846 : m_cg 376846 = g_92_14 := rfl
theorem r3k_376896 : m_cg 376896 = g_92_64 := rfl
theorem r3k_344064 : m_cg 344064 = g_84_0 := rfl
theorem r3k_618496 : m_cg 618496 = g_151_0 := rfl
theorem r3k_581632 : m_cg 581632 = g_142_0 := rfl
theorem r3k_581649 : m_cg 581649 = g_142_17 := rfl
theorem r3k_618507 : m_cg 618507 = g_151_11 := rfl
theorem r3k_618554 : m_cg 618554 = g_151_58 := rfl
set_option maxRecDepth 20000 in
theorem r3l_2 (a : Nat) (a0 : 0 ≤ a) (a1 : a ≤ 3) : z_ok false 376832 618496 [] [] [.inl a, .inl 2] :=
  ⟨.inl (m_and (m_shr (0) (a)) (1)), z_h3, z_h3,
    t_run r3k_376832 (t_al (fun _ => rfl) (t_getf (v := .inr (.inl (some 1))) (fun _ => rfl) (t_il (fun _ => rfl) (t_this (fun _ => rfl) (t_ca (v := .inl 1) (h' := z_h3) (fun _ => rfl) rfl (t_cl (t_run r3k_327680 (t_il (fun _ => rfl) (t_czf (blt_f (by omega)) (t_il (fun _ => rfl) (t_al (fun _ => rfl) (t_getf (v := .inl 4) (fun _ => rfl) (t_cif (bge_f (by omega)) (t_ic (t_go (t_run r3k_327697 (rfl)))))))))))) rfl rfl (t_czt rfl (t_run r3k_376846 (t_il (fun _ => rfl) (t_tsw (t := 376896) (fun _ => rfl) (t_run r3k_376896 (t_al (fun _ => rfl) (t_getf (v := .inr (.inl (some 1))) (fun _ => rfl) (t_il (fun _ => rfl) (t_this (fun _ => rfl) (t_ca (v := .inl (m_and (m_shr (0) (a)) (1))) (h' := z_h3) (fun _ => rfl) rfl (t_cl (t_run r3k_344064 (t_al (fun _ => rfl) (t_getf (v := .inl 0) (fun _ => rfl) (t_il (fun _ => rfl) (t_op (c := m_shr (0) (a)) rfl (t_ic (t_op (c := m_and (m_shr (0) (a)) (1)) rfl (rfl))))))))) rfl rfl (rfl)))))))))))))))),
    t_run r3k_618496 (t_al (fun _ => rfl) (t_il (fun _ => rfl) (t_this (fun _ => rfl) (t_ca (v := .inl 1) (h' := z_h3) (fun _ => rfl) rfl (t_cl (t_run r3k_581632 (t_il (fun _ => rfl) (t_czf (blt_f (by omega)) (t_il (fun _ => rfl) (t_al (fun _ => rfl) (t_getf (v := .inl 4) (fun _ => rfl) (t_cif (bge_f (by omega)) (t_ic (t_go (t_run r3k_581649 (rfl)))))))))))) rfl rfl (t_czt rfl (t_run r3k_618507 (t_il (fun _ => rfl) (t_tsw (t := 618554) (fun _ => rfl) (t_run r3k_618554 (t_al (fun _ => rfl) (t_getf (v := .inl 0) (fun _ => rfl) (t_il (fun _ => rfl) (t_op (c := m_shr (0) (a)) rfl (t_ic (t_op (c := m_and (m_shr (0) (a)) (1)) rfl (rfl)))))))))))))))),
    fun _ => rfl, rfl, rfl, rfl, rfl, rfl, rfl, rfl⟩
set_option maxRecDepth 100000 in
theorem r3l_3 : ∀ a, a < 4 → z_pb false 376832 618496 [] [] [.inl a, .inl 3] = true := by decide +kernel
theorem r3k_376915 : m_cg 376915 = g_92_83 := rfl
theorem r3k_618570 : m_cg 618570 = g_151_74 := rfl
set_option maxRecDepth 20000 in
theorem r3l_4 (a : Nat) (b : Nat) (a0 : 0 ≤ a) (a1 : a ≤ 3) (b0 : 4 ≤ b) (b1 : b ≤ 4294967295) : z_ok false 376832 618496 [] [] [.inl a, .inl b] :=
  ⟨.inl 4294967294, z_h3, z_h3,
    t_run r3k_376832 (t_al (fun _ => rfl) (t_getf (v := .inr (.inl (some 1))) (fun _ => rfl) (t_il (fun _ => rfl) (t_this (fun _ => rfl) (t_ca (v := .inl 1) (h' := z_h3) (fun _ => rfl) rfl (t_cl (t_run r3k_327680 (t_il (fun _ => rfl) (t_czf (blt_f (by omega)) (t_il (fun _ => rfl) (t_al (fun _ => rfl) (t_getf (v := .inl 4) (fun _ => rfl) (t_cif (bge_f (by omega)) (t_ic (t_go (t_run r3k_327697 (rfl)))))))))))) rfl rfl (t_czt rfl (t_run r3k_376846 (t_il (fun _ => rfl) (t_tsw (tsw_d (by show 4 ≤ _; omega) (by omega)) (t_run r3k_376915 (t_ic (rfl)))))))))))),
    t_run r3k_618496 (t_al (fun _ => rfl) (t_il (fun _ => rfl) (t_this (fun _ => rfl) (t_ca (v := .inl 1) (h' := z_h3) (fun _ => rfl) rfl (t_cl (t_run r3k_581632 (t_il (fun _ => rfl) (t_czf (blt_f (by omega)) (t_il (fun _ => rfl) (t_al (fun _ => rfl) (t_getf (v := .inl 4) (fun _ => rfl) (t_cif (bge_f (by omega)) (t_ic (t_go (t_run r3k_581649 (rfl)))))))))))) rfl rfl (t_czt rfl (t_run r3k_618507 (t_il (fun _ => rfl) (t_tsw (tsw_d (by show 4 ≤ _; omega) (by omega)) (t_run r3k_618570 (t_ic (rfl))))))))))),
    fun _ => rfl, rfl, rfl, rfl, rfl, rfl, rfl, rfl⟩
theorem r3k_327696 : m_cg 327696 = g_80_16 := rfl
theorem r3k_581648 : m_cg 581648 = g_142_16 := rfl
set_option maxRecDepth 20000 in
theorem r3l_5 (a : Nat) (b : Nat) (a0 : 4 ≤ a) (a1 : a ≤ 2147483647) (b0 : 0 ≤ b) (b1 : b ≤ 4294967295) : z_ok false 376832 618496 [] [] [.inl a, .inl b] :=
  ⟨.inl 4294967294, z_h3, z_h3,
    t_run r3k_376832 (t_al (fun _ => rfl) (t_getf (v := .inr (.inl (some 1))) (fun _ => rfl) (t_il (fun _ => rfl) (t_this (fun _ => rfl) (t_ca (v := .inl 0) (h' := z_h3) (fun _ => rfl) rfl (t_cl (t_run r3k_327680 (t_il (fun _ => rfl) (t_czf (blt_f (by omega)) (t_il (fun _ => rfl) (t_al (fun _ => rfl) (t_getf (v := .inl 4) (fun _ => rfl) (t_cit (bge_t (by omega)) (t_run r3k_327696 (t_ic (rfl))))))))))) rfl rfl (t_czf rfl (t_ic (rfl)))))))),
    t_run r3k_618496 (t_al (fun _ => rfl) (t_il (fun _ => rfl) (t_this (fun _ => rfl) (t_ca (v := .inl 0) (h' := z_h3) (fun _ => rfl) rfl (t_cl (t_run r3k_581632 (t_il (fun _ => rfl) (t_czf (blt_f (by omega)) (t_il (fun _ => rfl) (t_al (fun _ => rfl) (t_getf (v := .inl 4) (fun _ => rfl) (t_cit (bge_t (by omega)) (t_run r3k_581648 (t_ic (rfl))))))))))) rfl rfl (t_czf rfl (t_ic (rfl))))))),
    fun _ => rfl, rfl, rfl, rfl, rfl, rfl, rfl, rfl⟩
set_option maxRecDepth 20000 in
theorem r3l_6 (a : Nat) (b : Nat) (a0 : 2147483648 ≤ a) (a1 : a ≤ 4294967295) (b0 : 0 ≤ b) (b1 : b ≤ 4294967295) : z_ok false 376832 618496 [] [] [.inl a, .inl b] :=
  ⟨.inl 4294967294, z_h3, z_h3,
    t_run r3k_376832 (t_al (fun _ => rfl) (t_getf (v := .inr (.inl (some 1))) (fun _ => rfl) (t_il (fun _ => rfl) (t_this (fun _ => rfl) (t_ca (v := .inl 0) (h' := z_h3) (fun _ => rfl) rfl (t_cl (t_run r3k_327680 (t_il (fun _ => rfl) (t_czt (blt_t (by omega)) (t_run r3k_327696 (t_ic (rfl))))))) rfl rfl (t_czf rfl (t_ic (rfl)))))))),
    t_run r3k_618496 (t_al (fun _ => rfl) (t_il (fun _ => rfl) (t_this (fun _ => rfl) (t_ca (v := .inl 0) (h' := z_h3) (fun _ => rfl) rfl (t_cl (t_run r3k_581632 (t_il (fun _ => rfl) (t_czt (blt_t (by omega)) (t_run r3k_581648 (t_ic (rfl))))))) rfl rfl (t_czf rfl (t_ic (rfl))))))),
    fun _ => rfl, rfl, rfl, rfl, rfl, rfl, rfl, rfl⟩
theorem r3_all (a : Nat) (b : Nat) (ha_ : a < 4294967296) (hb_ : b < 4294967296) : z_ok false 376832 618496 [] [] [.inl a, .inl b] := by
  rcases Nat.lt_or_ge a 2147483648 with ha | ha
  · rcases Nat.lt_or_ge a 4 with ha | ha
    · rcases Nat.lt_or_ge b 4 with hb | hb
      · by_cases hb : b = 0
        · subst hb
          exact z_pb_ok (r3l_0 a (by omega))
        by_cases hb : b = 1
        · subst hb
          exact z_pb_ok (r3l_1 a (by omega))
        by_cases hb : b = 2
        · subst hb
          exact r3l_2 a (by omega) (by omega)
        obtain rfl : b = 3 := by omega
        exact z_pb_ok (r3l_3 a (by omega))
      · exact r3l_4 a b (by omega) (by omega) (by omega) (by omega)
    · exact r3l_5 a b (by omega) (by omega) (by omega) (by omega)
  · exact r3l_6 a b (by omega) (by omega) (by omega) (by omega)

