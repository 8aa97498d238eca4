/-! Round 4 of the law: painter (written by wip/gen/genrun.py) -/
set_option maxRecDepth 100000 in
theorem r4l_0 : ∀ b, b < 10 → z_pb false 380928 622592 [] [] [.inl 0, .inl b] = true := by decide +kernel
set_option maxRecDepth 100000 in
theorem r4l_1 : ∀ b, b < 10 → z_pb false 380928 622592 [] [] [.inl 1, .inl b] = true := by decide +kernel
set_option maxRecDepth 100000 in
theorem r4l_2 : ∀ b, b < 10 → z_pb false 380928 622592 [] [] [.inl 2, .inl b] = true := by decide +kernel
set_option maxRecDepth 100000 in
theorem r4l_3 : ∀ b, b < 10 → z_pb false 380928 622592 [] [] [.inl 3, .inl b] = true := by decide +kernel
set_option maxRecDepth 100000 in
theorem r4l_4 : ∀ b, b < 10 → z_pb false 380928 622592 [] [] [.inl 4, .inl b] = true := by decide +kernel
set_option maxRecDepth 100000 in
theorem r4l_5 : ∀ b, b < 10 → z_pb false 380928 622592 [] [] [.inl 5, .inl b] = true := by decide +kernel
theorem r4k_380928 : m_cg 380928 = g_93_0 := rfl
theorem r4k_495616 : m_cg 495616 = g_121_0 := rfl
theorem r4k_495630 : m_cg 495630 = g_121_14 := rfl
theorem r4k_495629 : m_cg 495629 = g_121_13 := rfl
theorem r4k_622592 : m_cg 622592 = g_152_0 := rfl
theorem r4k_573440 : m_cg 573440 = g_140_0 := rfl
theorem r4k_573455 : m_cg 573455 = g_140_15 := rfl
theorem r4k_573454 : m_cg 573454 = g_140_14 := rfl
set_option maxRecDepth 20000 in
theorem r4l_6 (a : Nat) (b : Nat) (a0 : 0 ≤ a) (a1 : a ≤ 5) (b0 : 10 ≤ b) (b1 : b ≤ 2147483647) : z_ok false 380928 622592 [] [] [.inl a, .inl b] :=
  ⟨.inl 4294967294, z_h3, z_h3,
    t_run r4k_380928 (t_il (fun _ => rfl) (t_ic (t_ca (v := .inl 1) (h' := z_h3) (fun _ => rfl) rfl (t_cl (t_run r4k_495616 (t_il (fun _ => rfl) (t_czf (blt_f (by omega)) (t_il (fun _ => rfl) (t_il (fun _ => rfl) (t_cif (bgt_f (by omega)) (t_ic (t_go (t_run r4k_495630 (rfl))))))))))) rfl rfl (t_czf rfl (t_il (fun _ => rfl) (t_ic (t_ca (v := .inl 0) (h' := z_h3) (fun _ => rfl) rfl (t_cl (t_run r4k_495616 (t_il (fun _ => rfl) (t_czf (blt_f (by omega)) (t_il (fun _ => rfl) (t_il (fun _ => rfl) (t_cit (bgt_t (by omega)) (t_run r4k_495629 (t_ic (rfl)))))))))) rfl rfl (t_czf rfl (t_ic (rfl)))))))))),
    t_run r4k_622592 (t_il (fun _ => rfl) (t_ic (t_ic (t_ca (v := .inl 1) (h' := z_h3) (fun _ => rfl) rfl (t_cl (t_run r4k_573440 (t_il (fun _ => rfl) (t_il (fun _ => rfl) (t_cif (blt_f (by omega)) (t_il (fun _ => rfl) (t_il (fun _ => rfl) (t_cif (bgt_f (by omega)) (t_ic (t_go (t_run r4k_573455 (rfl)))))))))))) rfl rfl (t_czf rfl (t_il (fun _ => rfl) (t_ic (t_ic (t_ca (v := .inl 0) (h' := z_h3) (fun _ => rfl) rfl (t_cl (t_run r4k_573440 (t_il (fun _ => rfl) (t_il (fun _ => rfl) (t_cif (blt_f (by omega)) (t_il (fun _ => rfl) (t_il (fun _ => rfl) (t_cit (bgt_t (by omega)) (t_run r4k_573454 (t_ic (rfl))))))))))) rfl rfl (t_czf rfl (t_ic (rfl)))))))))))),
    fun _ => rfl, rfl, rfl, rfl, rfl, rfl, rfl, rfl⟩
set_option maxRecDepth 20000 in
theorem r4l_7 (a : Nat) (b : Nat) (a0 : 0 ≤ a) (a1 : a ≤ 5) (b0 : 2147483648 ≤ b) (b1 : b ≤ 4294967295) : z_ok false 380928 622592 [] [] [.inl a, .inl b] :=
  ⟨.inl 4294967294, z_h3, z_h3,
    t_run r4k_380928 (t_il (fun _ => rfl) (t_ic (t_ca (v := .inl 1) (h' := z_h3) (fun _ => rfl) rfl (t_cl (t_run r4k_495616 (t_il (fun _ => rfl) (t_czf (blt_f (by omega)) (t_il (fun _ => rfl) (t_il (fun _ => rfl) (t_cif (bgt_f (by omega)) (t_ic (t_go (t_run r4k_495630 (rfl))))))))))) rfl rfl (t_czf rfl (t_il (fun _ => rfl) (t_ic (t_ca (v := .inl 0) (h' := z_h3) (fun _ => rfl) rfl (t_cl (t_run r4k_495616 (t_il (fun _ => rfl) (t_czt (blt_t (by omega)) (t_run r4k_495629 (t_ic (rfl))))))) rfl rfl (t_czf rfl (t_ic (rfl)))))))))),
    t_run r4k_622592 (t_il (fun _ => rfl) (t_ic (t_ic (t_ca (v := .inl 1) (h' := z_h3) (fun _ => rfl) rfl (t_cl (t_run r4k_573440 (t_il (fun _ => rfl) (t_il (fun _ => rfl) (t_cif (blt_f (by omega)) (t_il (fun _ => rfl) (t_il (fun _ => rfl) (t_cif (bgt_f (by omega)) (t_ic (t_go (t_run r4k_573455 (rfl)))))))))))) rfl rfl (t_czf rfl (t_il (fun _ => rfl) (t_ic (t_ic (t_ca (v := .inl 0) (h' := z_h3) (fun _ => rfl) rfl (t_cl (t_run r4k_573440 (t_il (fun _ => rfl) (t_il (fun _ => rfl) (t_cit (blt_t (by omega)) (t_run r4k_573454 (t_ic (rfl)))))))) rfl rfl (t_czf rfl (t_ic (rfl)))))))))))),
    fun _ => rfl, rfl, rfl, rfl, rfl, rfl, rfl, rfl⟩
theorem r4k_380945 : m_cg 380945 = g_93_17 := rfl
theorem r4k_622611 : m_cg 622611 = g_152_19 := rfl
set_option maxRecDepth 20000 in
theorem r4l_8 (a : Nat) (b : Nat) (a0 : 6 ≤ a) (a1 : a ≤ 2147483647) (b0 : 0 ≤ b) (b1 : b ≤ 4294967295) : z_ok false 380928 622592 [] [] [.inl a, .inl b] :=
  ⟨.inl 4294967294, z_h3, z_h3,
    t_run r4k_380928 (t_il (fun _ => rfl) (t_ic (t_ca (v := .inl 0) (h' := z_h3) (fun _ => rfl) rfl (t_cl (t_run r4k_495616 (t_il (fun _ => rfl) (t_czf (blt_f (by omega)) (t_il (fun _ => rfl) (t_il (fun _ => rfl) (t_cit (bgt_t (by omega)) (t_run r4k_495629 (t_ic (rfl)))))))))) rfl rfl (t_czt rfl (t_run r4k_380945 (t_ic (rfl))))))),
    t_run r4k_622592 (t_il (fun _ => rfl) (t_ic (t_ic (t_ca (v := .inl 0) (h' := z_h3) (fun _ => rfl) rfl (t_cl (t_run r4k_573440 (t_il (fun _ => rfl) (t_il (fun _ => rfl) (t_cif (blt_f (by omega)) (t_il (fun _ => rfl) (t_il (fun _ => rfl) (t_cit (bgt_t (by omega)) (t_run r4k_573454 (t_ic (rfl))))))))))) rfl rfl (t_czt rfl (t_run r4k_622611 (t_ic (rfl)))))))),
    fun _ => rfl, rfl, rfl, rfl, rfl, rfl, rfl, rfl⟩
set_option maxRecDepth 20000 in
theorem r4l_9 (a : Nat) (b : Nat) (a0 : 2147483648 ≤ a) (a1 : a ≤ 4294967295) (b0 : 0 ≤ b) (b1 : b ≤ 4294967295) : z_ok false 380928 622592 [] [] [.inl a, .inl b] :=
  ⟨.inl 4294967294, z_h3, z_h3,
    t_run r4k_380928 (t_il (fun _ => rfl) (t_ic (t_ca (v := .inl 0) (h' := z_h3) (fun _ => rfl) rfl (t_cl (t_run r4k_495616 (t_il (fun _ => rfl) (t_czt (blt_t (by omega)) (t_run r4k_495629 (t_ic (rfl))))))) rfl rfl (t_czt rfl (t_run r4k_380945 (t_ic (rfl))))))),
    t_run r4k_622592 (t_il (fun _ => rfl) (t_ic (t_ic (t_ca (v := .inl 0) (h' := z_h3) (fun _ => rfl) rfl (t_cl (t_run r4k_573440 (t_il (fun _ => rfl) (t_il (fun _ => rfl) (t_cit (blt_t (by omega)) (t_run r4k_573454 (t_ic (rfl)))))))) rfl rfl (t_czt rfl (t_run r4k_622611 (t_ic (rfl)))))))),
    fun _ => rfl, rfl, rfl, rfl, rfl, rfl, rfl, rfl⟩
theorem r4_all (a : Nat) (b : Nat) (ha_ : a < 4294967296) (hb_ : b < 4294967296) : z_ok false 380928 622592 [] [] [.inl a, .inl b] := by
  rcases Nat.lt_or_ge a 2147483648 with ha | ha
  · rcases Nat.lt_or_ge a 6 with ha | ha
    · rcases Nat.lt_or_ge b 2147483648 with hb | hb
      · rcases Nat.lt_or_ge b 10 with hb | hb
        · by_cases ha : a = 0
          · subst ha
            exact z_pb_ok (r4l_0 b (by omega))
          by_cases ha : a = 1
          · subst ha
            exact z_pb_ok (r4l_1 b (by omega))
          by_cases ha : a = 2
          · subst ha
            exact z_pb_ok (r4l_2 b (by omega))
          by_cases ha : a = 3
          · subst ha
            exact z_pb_ok (r4l_3 b (by omega))
          by_cases ha : a = 4
          · subst ha
            exact z_pb_ok (r4l_4 b (by omega))
          obtain rfl : a = 5 := by omega
          exact z_pb_ok (r4l_5 b (by omega))
        · exact r4l_6 a b (by omega) (by omega) (by omega) (by omega)
      · exact r4l_7 a b (by omega) (by omega) (by omega) (by omega)
    · exact r4l_8 a b (by omega) (by omega) (by omega) (by omega)
  · exact r4l_9 a b (by omega) (by omega) (by omega) (by omega)

