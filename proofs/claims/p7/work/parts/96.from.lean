theorem k_163840 : m_cg 163840 = g_40_0 := rfl
theorem k_163859 : m_cg 163859 = g_40_19 := rfl
theorem k_163860 : m_cg 163860 = g_40_20 := rfl
theorem c_reach {g : w_G} {o : w_O} {h : m_H} {d : Nat} {Q : Option m_V → m_H → Prop} (iv : w_Inv g o h) {fro : Int} (fro_lo : -2147483648 ≤ fro) (fro_hi : fro ≤ 2147483647) (k0 : ∀ (g2 : w_G) (o2 : w_O) (h2 : m_H), w_Inv g2 o2 h2 → w_pub g g2 → w_oe o o2 → w_gw g h g2 h2 → ((0 ≤ fro → fro < g_N g2 → w_up g2 o2 h2)) → Q none h2) : wp (d + 4) 163840 [.inr (.inl (some 9)), .inl (w_i fro)] [] h Q := by
  have F := fr_rf (o := o) (h := h) (W := [1, 3, 4, 9, 10, 11, 25, 26, 27, 100, 101, 102, 103, 104, 112])
  have W := iv_wc iv
  have Wo := iv_wo iv
  refine w_run k_163840 (w_il (fun _ => rfl) (w_al (fun _ => rfl) ?_))
  obtain ⟨_, m1, kpr1, sta1, fnd1, kco1, rfl, l1_kpr, u1_kpr, l1_sta, u1_sta, l1_fnd, u1_fnd, l1_kco, u1_kco, f1_0, f1_1, f1_2, f1_3, f1_4, f1_5, f1_6⟩ := iv_9 iv
  refine w_getf m1 rfl (fun _ => rfl) ?_
  refine w_eq2 (by omega) (by omega) (by omega) (by omega)  (fun c2 => ?_) (fun c2 => ?_)
  · refine w_run k_163859 (w_rv ?_)
    exact k0 g o h iv pub_rf oe_rf (gw_fr gw_rf F) (fun t0 t1 => ⟨kpr1, sta1, fnd1, kco1, m1, by omega, by omega, by omega, by omega, by omega, by omega, by omega, by omega, by omega⟩)
  · refine w_al (fun _ => rfl) (w_getf m1 rfl (fun _ => rfl) (w_il (fun _ => rfl) ?_))
    obtain ⟨_, m3, kp3, sp3, rl3, rfl, l3_kp, u3_kp, l3_sp, u3_sp, l3_rl, u3_rl, f3_0, f3_1⟩ := iv_1 iv
    refine w_this (fun _ => rfl) m3 ?_
    refine w_ca (fun _ => rfl) rfl (c_isTown (d := (d + 3)) iv (n := fro) (by omega) (by omega)   (fun b4 b5 => ⟨_, rfl, ?_⟩) (fun b6 => ⟨_, rfl, ?_⟩))
    · refine w_nezt (by omega) (by omega) (by omega)  (w_run k_163860 (w_al (fun _ => rfl) (w_this (fun _ => rfl) m1 ?_)))
      refine w_cv (fun _ => rfl) rfl (c_clear (d := (d + 3)) iv     (fun g o h10 iv11 eg12 eo13 b15 b16 gw14 => ⟨rfl, ?_⟩))
      have Peg12 := pub_all eg12
      have Weg12 := iv_wc iv11
      have Xeg12 := iv_wo iv11
      have F17 := fr_rf (o := o) (h := h10) (W := [1, 3, 4, 9, 10, 11, 25, 26, 27, 100, 101, 102, 103, 104, 112])
      refine w_al (fun _ => rfl) (w_il (fun _ => rfl) (w_icI (x := 0) rfl ?_))
      obtain ⟨_, m18, kpr18, sta18, fnd18, kco18, rfl, l18_kpr, u18_kpr, l18_sta, u18_sta, l18_fnd, u18_fnd, l18_kco, u18_kco, f18_0, f18_1, f18_2, f18_3, f18_4, f18_5, f18_6⟩ := iv_9 iv11
      refine w_this (fun _ => rfl) m18 ?_
      refine w_cv (fun _ => rfl) rfl (c_spread (d := d) iv11 (fro := fro) (how := 0) (by omega) (by omega) (by omega) (by omega) (by omega) (by omega) (by omega) (by omega) (by omega) b16 (fun h19 iv20 F21 b22 => ⟨rfl, ?_⟩))
      have F23 := fr_ca F17 F21 (fun t ht => by simp at ht ⊢; omega)
      obtain ⟨kpr0, sta0, fnd0, kco0, A0, p9, pS, q1, q2, q3, q4, q5, q6, q7, q8, q9, q10, q11, q12, q13⟩ := (id b22)
      refine w_al (fun _ => rfl) (w_il (fun _ => rfl) (w_putf [.inr (.inl (some 1)), .inr (.inl (some 10)), .inl (w_i kpr0), .inr (.inl (some 11)), .inl (w_i fro), .inr (.inl (some (g_rw g))), .inl (w_i fnd0), .inr (.inl (some (g_stp g))), .inr (.inl (some (g_ahd g))), .inr (.inl (some (g_cst g))), .inr (.inl (some (g_chp g))), .inl (w_i kco0)] p9 rfl rfl rfl (fun _ => rfl) (fun h25 s24 => ?_)))
      have iv26 := is_9 iv20 s24 ⟨_, _, _, _, rfl, by omega, by omega, by omega, by omega, by omega, by omega, by omega, by omega, by omega, by omega, by omega, by omega, by omega, by omega, by omega⟩
      have F27 := fr_st F23 s24 (by rw [(ow_9 iv20)]; rfl)
      refine w_rv ?_
      exact k0 g o h25 iv26 eg12 eo13 (gw_fr (fr_gw F gw14) F27) (fun t0 t1 => ⟨kpr0, fro, fnd0, kco0, s24.2.2.1, by omega, by omega, by omega, by omega, by omega, by omega, by omega, by omega, by omega⟩)
    · refine w_nezf (by omega) (by omega) (by omega)  (w_rv ?_)
      exact k0 g o h iv pub_rf oe_rf (gw_fr gw_rf F) (fun t0 t1 => ⟨kpr1, sta1, fnd1, kco1, m1, by omega, by omega, by omega, by omega, by omega, by omega, by omega, by omega, by omega⟩)
theorem k_200712 : m_cg 200712 = g_49_8 := rfl
theorem k_200767 : m_cg 200767 = g_49_63 := rfl
theorem k_200761 : m_cg 200761 = g_49_57 := rfl
theorem l_parts8_8 {g : w_G} {o : w_O} {h0 : m_H} {d : Nat} {Q : Option m_V → m_H → Prop} (hL : g_N g ≤ g_L g) (k0 : ∀ (x : Int), ∀ h2 : m_H, w_Inv g o h2 → w_fr o [9, 11, 100, 101, 102] h0 h2 → -2147483648 ≤ x → x ≤ 2147483647 → Q (some (.inl (w_i x))) h2) : ∀ (k : Nat) (h : m_H) (pa i : Int) (iv : w_Inv g o h) (F : w_fr o [9, 11, 100, 101, 102] h0 h) (sf0 : w_SF g o h 0) (pa_lo : -2147483648 ≤ pa) (pa_hi : pa ≤ 2147483647) (i_lo : -2147483648 ≤ i) (i_hi : i ≤ 2147483647) (a0_ : 0 ≤ pa) (a1_ : pa ≤ i) (i0 : 0 ≤ i) (i1 : i ≤ g_N g), g_N g - i < (k : Int) → wp (d + 4) 200712 [.inr (.inl (some 9)), .inl (w_i pa), .inl (w_i i)] [] h Q := by
  intro k
  induction k with
  | zero => intro h pa i iv F sf0 pa_lo pa_hi i_lo i_hi a0_ a1_ i0 i1 hk; exact absurd hk (by omega)
  | succ k ih =>
    intro h pa i iv F sf0 pa_lo pa_hi i_lo i_hi a0_ a1_ i0 i1 hk
    have W := iv_wc iv
    have Wo := iv_wo iv
    refine w_run k_200712 (w_il (fun _ => rfl) (w_al (fun _ => rfl) ?_))
    obtain ⟨_, m1, kpr1, sta1, fnd1, kco1, rfl, l1_kpr, u1_kpr, l1_sta, u1_sta, l1_fnd, u1_fnd, l1_kco, u1_kco, f1_0, f1_1, f1_2, f1_3, f1_4, f1_5, f1_6⟩ := iv_9 iv
    refine w_getf m1 rfl (fun _ => rfl) ?_
    obtain ⟨_, m2, kp2, sp2, rl2, rfl, l2_kp, u2_kp, l2_sp, u2_sp, l2_rl, u2_rl, f2_0, f2_1⟩ := iv_1 iv
    refine w_getf m2 rfl (fun _ => rfl) ?_
    refine w_ge2 (by omega) (by omega) (by omega) (by omega)  (fun c3 => ?_) (fun c3 => ?_)
    · refine w_run k_200767 (w_il (fun _ => rfl) (w_ri ?_))
      exact k0 pa h iv F (by omega) (by omega)
    · refine w_al (fun _ => rfl) (w_il (fun _ => rfl) (w_this (fun _ => rfl) m1 ?_))
      refine w_cv (fun _ => rfl) rfl (c_lookAt (d := (d + 3)) iv (n := i) (by omega) (by omega) (by omega)  (fun h4 iv5 F6 => ⟨rfl, ?_⟩))
      have F7 := fr_ca F F6 (fun t ht => by simp at ht ⊢; omega)
      refine w_al (fun _ => rfl) ?_
      have m8 := fr_at F6 m1 iv (ow_9 iv) rfl rfl
      refine w_getf m8 rfl (fun _ => rfl) (w_il (fun _ => rfl) ?_)
      obtain ⟨_, m9, A9, rfl, g9_0⟩ := iv_101 iv5 (ow_stp iv5)
      refine w_aldI m9 (by omega) (by omega) (by omega) ?_
      obtain ⟨b10, b11⟩ := ag_rg A9 i
      refine w_icI (x := (-1)) wn_1 ?_
      refine w_ne2 (by omega) (by omega) (by omega) (by omega)  (fun c12 => ?_) (fun c12 => ?_)
      · refine w_run k_200761 (w_inc (c := w_i (i + 1)) (fun _ => rfl) (i_addL (y := 1) rfl i) (fun _ => rfl) (w_go ?_))
        have sf013 := sf_fr iv sf0 F6 rfl
        exact ih h4 pa (i + 1) iv5 F7 sf013 (by omega) (by omega) (by omega) (by omega)  (by omega) (by omega) (by omega) (by omega) (by omega)
      · refine w_al (fun _ => rfl) (w_getf m8 rfl (fun _ => rfl) (w_al (fun _ => rfl) (w_getf m8 rfl (fun _ => rfl) ?_)))
        have m14 := fr_at F6 m2 iv (ow_1 iv) rfl rfl
        refine w_this (fun _ => rfl) m14 ?_
        obtain ⟨_, m15, A15, rfl, e15⟩ := iv_11 iv5
        refine w_ca (fun _ => rfl) rfl (c_isLawful (d := (d + 2)) iv5 (q := 11)  m15  ⟨_, rfl, ?_⟩ ⟨_, rfl, ?_⟩)
        · refine w_eqzf (by omega) (by omega) (by omega)  (w_al (fun _ => rfl) (w_il (fun _ => rfl) (w_icI (x := 1) rfl (w_this (fun _ => rfl) m8 ?_))))
          have sf016 := sf_fr iv sf0 F6 rfl
          refine w_cv (fun _ => rfl) rfl (c_spread (d := d) iv5 (fro := i) (how := 1) (by omega) (by omega) (by omega) (by omega) (by omega) (by omega) (by omega) (by omega) (by omega) sf016 (fun h17 iv18 F19 b20 => ⟨rfl, ?_⟩))
          have F21 := fr_ca F7 F19 (fun t ht => by exact ht)
          refine w_inc (c := w_i (pa + 1)) (fun _ => rfl) (i_addL (y := 1) rfl pa) (fun _ => rfl) (w_inc (c := w_i (i + 1)) (fun _ => rfl) (i_addL (y := 1) rfl i) (fun _ => rfl) (w_go ?_))
          exact ih h17 (pa + 1) (i + 1) iv18 F21 (sf_dn b20) (by omega) (by omega) (by omega) (by omega)  (by omega) (by omega) (by omega) (by omega) (by omega)
        · refine w_eqzt (by omega) (by omega) (by omega)  (w_run k_200761 (w_inc (c := w_i (i + 1)) (fun _ => rfl) (i_addL (y := 1) rfl i) (fun _ => rfl) (w_go ?_)))
          have sf022 := sf_fr iv sf0 F6 rfl
          exact ih h4 pa (i + 1) iv5 F7 sf022 (by omega) (by omega) (by omega) (by omega)  (by omega) (by omega) (by omega) (by omega) (by omega)
theorem c_parts8 {g : w_G} {o : w_O} {h : m_H} {d : Nat} {Q : Option m_V → m_H → Prop} (iv : w_Inv g o h) (hL : g_N g ≤ g_L g) (sf0 : w_SF g o h 0) (k0 : ∀ (x : Int), ∀ h2 : m_H, w_Inv g o h2 → w_fr o [9, 11, 100, 101, 102] h h2 → -2147483648 ≤ x → x ≤ 2147483647 → Q (some (.inl (w_i x))) h2) : wp (d + 4) 200712 [.inr (.inl (some 9)), .inl (w_i 0), .inl (w_i 0)] [] h Q := by
  have F := fr_rf (o := o) (h := h) (W := [9, 11, 100, 101, 102])
  have W := iv_wc iv
  have Wo := iv_wo iv
  refine w_run k_200712 (w_il (fun _ => rfl) (w_al (fun _ => rfl) ?_))
  obtain ⟨_, m1, kpr1, sta1, fnd1, kco1, rfl, l1_kpr, u1_kpr, l1_sta, u1_sta, l1_fnd, u1_fnd, l1_kco, u1_kco, f1_0, f1_1, f1_2, f1_3, f1_4, f1_5, f1_6⟩ := iv_9 iv
  refine w_getf m1 rfl (fun _ => rfl) ?_
  obtain ⟨_, m2, kp2, sp2, rl2, rfl, l2_kp, u2_kp, l2_sp, u2_sp, l2_rl, u2_rl, f2_0, f2_1⟩ := iv_1 iv
  refine w_getf m2 rfl (fun _ => rfl) (w_gef (by omega) (by omega) (by omega) (by omega) (by omega)  (w_al (fun _ => rfl) (w_il (fun _ => rfl) (w_this (fun _ => rfl) m1 ?_))))
  refine w_cv (fun _ => rfl) rfl (c_lookAt (d := (d + 3)) iv (n := 0) (by omega) (by omega) (by omega)  (fun h3 iv4 F5 => ⟨rfl, ?_⟩))
  have F6 := fr_ca F F5 (fun t ht => by simp at ht ⊢; omega)
  refine w_al (fun _ => rfl) ?_
  have m7 := fr_at F5 m1 iv (ow_9 iv) rfl rfl
  refine w_getf m7 rfl (fun _ => rfl) (w_il (fun _ => rfl) ?_)
  obtain ⟨_, m8, A8, rfl, g8_0⟩ := iv_101 iv4 (ow_stp iv4)
  refine w_aldI m8 (by omega) (by omega) (by omega) ?_
  obtain ⟨b9, b10⟩ := ag_rg A8 0
  refine w_icI (x := (-1)) wn_1 ?_
  refine w_ne2 (by omega) (by omega) (by omega) (by omega)  (fun c11 => ?_) (fun c11 => ?_)
  · refine w_run k_200761 (w_inc (c := w_i (0 + 1)) (fun _ => rfl) (i_addL (y := 1) rfl 0) (fun _ => rfl) (w_go ?_))
    have sf012 := sf_fr iv sf0 F5 rfl
    exact l_parts8_8      hL    k0 (g_N g - (0 + 1) + 1 : Int).toNat h3 0 (0 + 1) iv4 F6 sf012 (by omega) (by omega) (by omega) (by omega)  (by omega) (by omega) (by omega) (by omega) (by omega)
  · refine w_al (fun _ => rfl) (w_getf m7 rfl (fun _ => rfl) (w_al (fun _ => rfl) (w_getf m7 rfl (fun _ => rfl) ?_)))
    have m13 := fr_at F5 m2 iv (ow_1 iv) rfl rfl
    refine w_this (fun _ => rfl) m13 ?_
    obtain ⟨_, m14, A14, rfl, e14⟩ := iv_11 iv4
    refine w_ca (fun _ => rfl) rfl (c_isLawful (d := (d + 2)) iv4 (q := 11)  m14  ⟨_, rfl, ?_⟩ ⟨_, rfl, ?_⟩)
    · refine w_eqzf (by omega) (by omega) (by omega)  (w_al (fun _ => rfl) (w_il (fun _ => rfl) (w_icI (x := 1) rfl (w_this (fun _ => rfl) m7 ?_))))
      have sf015 := sf_fr iv sf0 F5 rfl
      refine w_cv (fun _ => rfl) rfl (c_spread (d := d) iv4 (fro := 0) (how := 1) (by omega) (by omega) (by omega) (by omega) (by omega) (by omega) (by omega) (by omega) (by omega) sf015 (fun h16 iv17 F18 b19 => ⟨rfl, ?_⟩))
      have F20 := fr_ca F6 F18 (fun t ht => by exact ht)
      refine w_inc (c := w_i (0 + 1)) (fun _ => rfl) (i_addL (y := 1) rfl 0) (fun _ => rfl) (w_inc (c := w_i (0 + 1)) (fun _ => rfl) (i_addL (y := 1) rfl 0) (fun _ => rfl) (w_go ?_))
      exact l_parts8_8      hL    k0 (g_N g - (0 + 1) + 1 : Int).toNat h16 (0 + 1) (0 + 1) iv17 F20 (sf_dn b19) (by omega) (by omega) (by omega) (by omega)  (by omega) (by omega) (by omega) (by omega) (by omega)
    · refine w_eqzt (by omega) (by omega) (by omega)  (w_run k_200761 (w_inc (c := w_i (0 + 1)) (fun _ => rfl) (i_addL (y := 1) rfl 0) (fun _ => rfl) (w_go ?_)))
      have sf021 := sf_fr iv sf0 F5 rfl
      exact l_parts8_8      hL    k0 (g_N g - (0 + 1) + 1 : Int).toNat h3 0 (0 + 1) iv4 F6 sf021 (by omega) (by omega) (by omega) (by omega)  (by omega) (by omega) (by omega) (by omega) (by omega)
theorem k_200704 : m_cg 200704 = g_49_0 := rfl
theorem c_parts {g : w_G} {o : w_O} {h : m_H} {d : Nat} {Q : Option m_V → m_H → Prop} (iv : w_Inv g o h) (k0 : ∀ (x : Int) (g2 : w_G) (o2 : w_O) (h2 : m_H), w_Inv g2 o2 h2 → w_pub g g2 → w_oe o o2 → w_gw g h g2 h2 → -2147483648 ≤ x → x ≤ 2147483647 → Q (some (.inl (w_i x))) h2) : wp (d + 4) 200704 [.inr (.inl (some 9)), .inr (.inr (.inl 0)), .inr (.inr (.inl 0))] [] h Q := by
  have F := fr_rf (o := o) (h := h) (W := [1, 3, 4, 9, 10, 11, 25, 26, 27, 100, 101, 102, 103, 104, 112])
  have W := iv_wc iv
  have Wo := iv_wo iv
  refine w_run k_200704 (w_al (fun _ => rfl) ?_)
  obtain ⟨_, m1, kpr1, sta1, fnd1, kco1, rfl, l1_kpr, u1_kpr, l1_sta, u1_sta, l1_fnd, u1_fnd, l1_kco, u1_kco, f1_0, f1_1, f1_2, f1_3, f1_4, f1_5, f1_6⟩ := iv_9 iv
  refine w_this (fun _ => rfl) m1 ?_
  refine w_cv (fun _ => rfl) rfl (c_clear (d := (d + 3)) iv     (fun g o h5 iv6 eg7 eo8 b10 b11 gw9 => ⟨rfl, ?_⟩))
  have Peg7 := pub_all eg7
  have Weg7 := iv_wc iv6
  have Xeg7 := iv_wo iv6
  have F12 := fr_rf (o := o) (h := h5) (W := [1, 3, 4, 9, 10, 11, 25, 26, 27, 100, 101, 102, 103, 104, 112])
  refine w_icI (x := 0) rfl (w_is (fun _ => rfl) (w_icI (x := 0) rfl (w_is (fun _ => rfl) (w_nur k_200712 ?_))))
  exact c_parts8 (d := d) iv6 (by omega) b11 (fun x h2 iv2 F2 x0 x1 => k0 x g o h2 iv2 eg7 eo8 (gw_fr (fr_gw F gw9) F2) x0 x1)
theorem k_565248 : m_cg 565248 = g_138_0 := rfl
theorem c_reachFromNow {g : w_G} {o : w_O} {h : m_H} {d : Nat} {Q : Option m_V → m_H → Prop} (iv : w_Inv g o h) (k0 : ∀ (g2 : w_G) (o2 : w_O) (h2 : m_H), w_Inv g2 o2 h2 → w_pub g g2 → w_oe o o2 → w_gw g h g2 h2 → w_up g2 o2 h2 → Q none h2) : wp (d + 5) 565248 [.inr (.inl (some 0))] [] h Q := by
  have F := fr_rf (o := o) (h := h) (W := [1, 3, 4, 9, 10, 11, 25, 26, 27, 100, 101, 102, 103, 104, 112])
  have W := iv_wc iv
  have Wo := iv_wo iv
  refine w_run k_565248 (w_al (fun _ => rfl) ?_)
  obtain ⟨_, m1, rfl⟩ := iv_0 iv
  refine w_this (fun _ => rfl) m1 ?_
  refine w_cv (fun _ => rfl) rfl (c_tellPrices (d := d) iv     (fun h2 iv3 F4 => ⟨rfl, ?_⟩))
  have F5 := fr_ca F F4 (fun t ht => by simp at ht ⊢; omega)
  refine w_al (fun _ => rfl) ?_
  have m6 := fr_at F4 m1 iv (ow_0 iv) rfl rfl
  refine w_getf m6 rfl (fun _ => rfl) (w_al (fun _ => rfl) (w_getf m6 rfl (fun _ => rfl) (w_al (fun _ => rfl) (w_getf m6 rfl (fun _ => rfl) ?_))))
  obtain ⟨_, m7, kp7, sp7, rl7, rfl, l7_kp, u7_kp, l7_sp, u7_sp, l7_rl, u7_rl, f7_0, f7_1⟩ := iv_1 iv3
  refine w_getf m7 rfl (fun _ => rfl) (w_this (fun _ => rfl) m7 ?_)
  obtain ⟨_, m8, A8, rfl, e8⟩ := iv_3 iv3
  refine w_ca (fun _ => rfl) rfl (c_numberOf (d := (d + 4)) iv3 (q := 3)  m8 (by omega)  (fun y9 b10 b11 b12 b13 => ⟨_, rfl, ?_⟩))
  obtain ⟨_, m14, kpr14, sta14, fnd14, kco14, rfl, l14_kpr, u14_kpr, l14_sta, u14_sta, l14_fnd, u14_fnd, l14_kco, u14_kco, f14_0, f14_1, f14_2, f14_3, f14_4, f14_5, f14_6⟩ := iv_9 iv3
  refine w_this (fun _ => rfl) m14 ?_
  refine w_cv (fun _ => rfl) rfl (c_reach (d := d) iv3 (fro := y9) (by omega) (by omega)   (fun g o h18 iv19 eg20 eo21 gw22 b23 => ⟨rfl, ?_⟩))
  have Peg20 := pub_all eg20
  have Weg20 := iv_wc iv19
  have Xeg20 := iv_wo iv19
  have F24 := fr_rf (o := o) (h := h18) (W := [1, 3, 4, 9, 10, 11, 25, 26, 27, 100, 101, 102, 103, 104, 112])
  refine w_rv ?_
  exact k0 g o h18 iv19 eg20 eo21 (gw_fr (fr_gw F5 gw22) F24) (b23 (by omega) (by omega))
