theorem k_413696 : m_cg 413696 = g_101_0 := rfl
theorem k_413707 : m_cg 413707 = g_101_11 := rfl
theorem k_413724 : m_cg 413724 = g_101_28 := rfl
theorem k_413756 : m_cg 413756 = g_101_60 := rfl
theorem k_413764 : m_cg 413764 = g_101_68 := rfl
theorem k_413772 : m_cg 413772 = g_101_76 := rfl
theorem c_come {g : w_G} {o : w_O} {h : m_H} {d : Nat} {Q : Option m_V → m_H → Prop} (iv : w_Inv g o h) {what : Int} (what_lo : -2147483648 ≤ what) (what_hi : what ≤ 2147483647) (k0 : ∀ (x : Int) (g2 : w_G) (o2 : w_O) (h2 : m_H), w_Inv g2 o2 h2 → w_pub g g2 → w_oe o o2 → w_gw g h g2 h2 → -2147483648 ≤ x → x ≤ 2147483647 → Q (some (.inl (w_i x))) h2) : wp (d + 6) 413696 [.inr (.inl (some 0)), .inl (w_i what)] [] h Q := by
  have F := fr_rf (o := o) (h := h) (W := [1, 3, 4, 9, 10, 11, 25, 26, 27, 100, 101, 102, 103, 104, 112])
  have W := iv_wc iv
  have Wo := iv_wo iv
  refine w_run k_413696 (w_il (fun _ => rfl) (w_icI (x := 3) rfl ?_))
  refine w_ca (fun _ => rfl) rfl (c_isWithin (d := (d + 5)) iv (n := what) (most := 3) (by omega) (by omega) (by omega) (by omega)   (fun b1 b2 => ⟨_, rfl, ?_⟩) (fun b3 => ⟨_, rfl, ?_⟩))
  · refine w_nezt (by omega) (by omega) (by omega)  (w_run k_413707 (w_il (fun _ => rfl) (w_icI (x := 3) rfl ?_)))
    refine w_ne2 (by omega) (by omega) (by omega) (by omega)  (fun c4 => ?_) (fun c4 => ?_)
    · refine w_run k_413724 (w_al (fun _ => rfl) ?_)
      obtain ⟨_, m5, rfl⟩ := iv_0 iv
      refine w_this (fun _ => rfl) m5 ?_
      refine w_cv (fun _ => rfl) rfl (c_reachFromNow (d := d) iv     (fun g o h9 iv10 eg11 eo12 gw13 b14 => ⟨rfl, ?_⟩))
      have Peg11 := pub_all eg11
      have Weg11 := iv_wc iv10
      have Xeg11 := iv_wo iv10
      have F15 := fr_rf (o := o) (h := h9) (W := [1, 3, 4, 9, 10, 11, 25, 26, 27, 100, 101, 102, 103, 104, 112])
      refine w_il (fun _ => rfl) ?_
      by_cases c16 : what = 0
      · rw [show (what : Int) = 0 from c16]
        refine w_lsw (t := 413756) (fun _ => rfl) (w_run k_413756 (w_al (fun _ => rfl) ?_))
        obtain ⟨_, m17, rfl⟩ := iv_0 iv10
        refine w_getf m17 rfl (fun _ => rfl) ?_
        obtain ⟨_, m18, kpr18, sta18, fnd18, kco18, rfl, l18_kpr, u18_kpr, l18_sta, u18_sta, l18_fnd, u18_fnd, l18_kco, u18_kco, f18_0, f18_1, f18_2, f18_3, f18_4, f18_5, f18_6⟩ := iv_9 iv10
        refine w_getf m18 rfl (fun _ => rfl) (w_ri ?_)
        exact k0 fnd18 g o h9 iv10 eg11 eo12 (gw_fr (fr_gw F gw13) F15) (by omega) (by omega)
      by_cases c19 : what = 1
      · rw [show (what : Int) = 1 from c19]
        refine w_lsw (t := 413764) (fun _ => rfl) (w_run k_413764 (w_al (fun _ => rfl) ?_))
        obtain ⟨_, m20, rfl⟩ := iv_0 iv10
        refine w_getf m20 rfl (fun _ => rfl) ?_
        obtain ⟨_, m21, kpr21, sta21, fnd21, kco21, rfl, l21_kpr, u21_kpr, l21_sta, u21_sta, l21_fnd, u21_fnd, l21_kco, u21_kco, f21_0, f21_1, f21_2, f21_3, f21_4, f21_5, f21_6⟩ := iv_9 iv10
        refine w_this (fun _ => rfl) m21 ?_
        refine w_ca (fun _ => rfl) rfl (c_farthest (d := (d + 5)) iv10     (fun y22 b23 b24 => ⟨_, rfl, ?_⟩))
        refine w_ri ?_
        exact k0 y22 g o h9 iv10 eg11 eo12 (gw_fr (fr_gw F gw13) F15) (by omega) (by omega)
      refine w_lswD (by omega) (by omega) (List.forall_mem_cons.mpr ⟨beqI (c := 0) (by omega) (by omega) (by omega) (by decide) (by decide) rfl, List.forall_mem_cons.mpr ⟨beqI (c := 1) (by omega) (by omega) (by omega) (by decide) (by decide) rfl, fun _ h => absurd h List.not_mem_nil⟩⟩) (w_run k_413772 (w_al (fun _ => rfl) ?_))
      obtain ⟨_, m25, rfl⟩ := iv_0 iv10
      refine w_getf m25 rfl (fun _ => rfl) ?_
      obtain ⟨_, m26, kpr26, sta26, fnd26, kco26, rfl, l26_kpr, u26_kpr, l26_sta, u26_sta, l26_fnd, u26_fnd, l26_kco, u26_kco, f26_0, f26_1, f26_2, f26_3, f26_4, f26_5, f26_6⟩ := iv_9 iv10
      refine w_this (fun _ => rfl) m26 ?_
      refine w_ca (fun _ => rfl) rfl (c_frozen (d := (d + 4)) iv10     (fun y27 h28 iv29 F30 b31 b32 => ⟨_, rfl, ?_⟩))
      have F33 := fr_ca F15 F30 (fun t ht => by simp at ht ⊢; omega)
      refine w_ri ?_
      exact k0 y27 g o h28 iv29 eg11 eo12 (gw_fr (fr_gw F gw13) F33) (by omega) (by omega)
    · refine w_al (fun _ => rfl) ?_
      obtain ⟨_, m34, rfl⟩ := iv_0 iv
      refine w_this (fun _ => rfl) m34 ?_
      refine w_cv (fun _ => rfl) rfl (c_tellPrices (d := (d + 1)) iv     (fun h35 iv36 F37 => ⟨rfl, ?_⟩))
      have F38 := fr_ca F F37 (fun t ht => by simp at ht ⊢; omega)
      refine w_al (fun _ => rfl) ?_
      have m39 := fr_at F37 m34 iv (ow_0 iv) rfl rfl
      refine w_getf m39 rfl (fun _ => rfl) ?_
      obtain ⟨_, m40, kpr40, sta40, fnd40, kco40, rfl, l40_kpr, u40_kpr, l40_sta, u40_sta, l40_fnd, u40_fnd, l40_kco, u40_kco, f40_0, f40_1, f40_2, f40_3, f40_4, f40_5, f40_6⟩ := iv_9 iv36
      refine w_this (fun _ => rfl) m40 ?_
      refine w_ca (fun _ => rfl) rfl (c_parts (d := (d + 1)) iv36     (fun y41 g o h45 iv46 eg47 eo48 gw49 b50 b51 => ⟨_, rfl, ?_⟩))
      have Peg47 := pub_all eg47
      have Weg47 := iv_wc iv46
      have Xeg47 := iv_wo iv46
      have F52 := fr_rf (o := o) (h := h45) (W := [1, 3, 4, 9, 10, 11, 25, 26, 27, 100, 101, 102, 103, 104, 112])
      refine w_ri ?_
      exact k0 y41 g o h45 iv46 eg47 eo48 (gw_fr (fr_gw F38 gw49) F52) (by omega) (by omega)
  · refine w_nezf (by omega) (by omega) (by omega)  (w_icI (x := (-2)) wn_2 (w_ri ?_))
    exact k0 (-2) g o h iv pub_rf oe_rf (gw_fr gw_rf F) (by omega) (by omega)
theorem k_417792 : m_cg 417792 = g_102_0 := rfl
theorem k_417806 : m_cg 417806 = g_102_14 := rfl
theorem c_shortest {g : w_G} {o : w_O} {h : m_H} {d : Nat} {Q : Option m_V → m_H → Prop} (iv : w_Inv g o h) {to : Int} (to_lo : -2147483648 ≤ to) (to_hi : to ≤ 2147483647) (k0 : ∀ (x : Int) (g2 : w_G) (o2 : w_O) (h2 : m_H), w_Inv g2 o2 h2 → w_pub g g2 → w_oe o o2 → w_gw g h g2 h2 → -2147483648 ≤ x → x ≤ 2147483647 → Q (some (.inl (w_i x))) h2) : wp (d + 6) 417792 [.inr (.inl (some 0)), .inl (w_i to)] [] h Q := by
  have F := fr_rf (o := o) (h := h) (W := [1, 3, 4, 9, 10, 11, 25, 26, 27, 100, 101, 102, 103, 104, 112])
  have W := iv_wc iv
  have Wo := iv_wo iv
  refine w_run k_417792 (w_al (fun _ => rfl) ?_)
  obtain ⟨_, m1, rfl⟩ := iv_0 iv
  refine w_getf m1 rfl (fun _ => rfl) (w_il (fun _ => rfl) ?_)
  obtain ⟨_, m2, kp2, sp2, rl2, rfl, l2_kp, u2_kp, l2_sp, u2_sp, l2_rl, u2_rl, f2_0, f2_1⟩ := iv_1 iv
  refine w_this (fun _ => rfl) m2 ?_
  refine w_ca (fun _ => rfl) rfl (c_isTown (d := (d + 5)) iv (n := to) (by omega) (by omega)   (fun b3 b4 => ⟨_, rfl, ?_⟩) (fun b5 => ⟨_, rfl, ?_⟩))
  · refine w_nezt (by omega) (by omega) (by omega)  (w_run k_417806 (w_al (fun _ => rfl) (w_this (fun _ => rfl) m1 ?_)))
    refine w_cv (fun _ => rfl) rfl (c_reachFromNow (d := d) iv     (fun g o h9 iv10 eg11 eo12 gw13 b14 => ⟨rfl, ?_⟩))
    have Peg11 := pub_all eg11
    have Weg11 := iv_wc iv10
    have Xeg11 := iv_wo iv10
    have F15 := fr_rf (o := o) (h := h9) (W := [1, 3, 4, 9, 10, 11, 25, 26, 27, 100, 101, 102, 103, 104, 112])
    obtain ⟨kpr0, sta0, fnd0, kco0, p9, q1, q2, q3, q4, q5, q6, q7, q8, q9⟩ := (id b14)
    refine w_al (fun _ => rfl) ?_
    obtain ⟨_, m16, rfl⟩ := iv_0 iv10
    refine w_getf m16 rfl (fun _ => rfl) (w_il (fun _ => rfl) (w_this (fun _ => rfl) p9 ?_))
    refine w_ca (fun _ => rfl) rfl (c_stepsTo (d := (d + 4)) iv10 (to := to) (by omega) (by omega) (by omega)  (fun y17 b18 b19 => ⟨_, rfl, ?_⟩))
    refine w_ri ?_
    exact k0 y17 g o h9 iv10 eg11 eo12 (gw_fr (fr_gw F gw13) F15) (by omega) (by omega)
  · refine w_nezf (by omega) (by omega) (by omega)  (w_icI (x := (-2)) wn_2 (w_ri ?_))
    exact k0 (-2) g o h iv pub_rf oe_rf (gw_fr gw_rf F) (by omega) (by omega)
theorem k_421888 : m_cg 421888 = g_103_0 := rfl
theorem k_421902 : m_cg 421902 = g_103_14 := rfl
theorem c_first {g : w_G} {o : w_O} {h : m_H} {d : Nat} {Q : Option m_V → m_H → Prop} (iv : w_Inv g o h) {to : Int} {i_ : Int} (to_lo : -2147483648 ≤ to) (to_hi : to ≤ 2147483647) (i__lo : -2147483648 ≤ i_) (i__hi : i_ ≤ 2147483647) (k0 : ∀ (x : Int) (g2 : w_G) (o2 : w_O) (h2 : m_H), w_Inv g2 o2 h2 → w_pub g g2 → w_oe o o2 → w_gw g h g2 h2 → -2147483648 ≤ x → x ≤ 2147483647 → Q (some (.inl (w_i x))) h2) : wp (d + 6) 421888 [.inr (.inl (some 0)), .inl (w_i to), .inl (w_i i_)] [] h Q := by
  have F := fr_rf (o := o) (h := h) (W := [1, 3, 4, 9, 10, 11, 25, 26, 27, 100, 101, 102, 103, 104, 112])
  have W := iv_wc iv
  have Wo := iv_wo iv
  refine w_run k_421888 (w_al (fun _ => rfl) ?_)
  obtain ⟨_, m1, rfl⟩ := iv_0 iv
  refine w_getf m1 rfl (fun _ => rfl) (w_il (fun _ => rfl) ?_)
  obtain ⟨_, m2, kp2, sp2, rl2, rfl, l2_kp, u2_kp, l2_sp, u2_sp, l2_rl, u2_rl, f2_0, f2_1⟩ := iv_1 iv
  refine w_this (fun _ => rfl) m2 ?_
  refine w_ca (fun _ => rfl) rfl (c_isTown (d := (d + 5)) iv (n := to) (by omega) (by omega)   (fun b3 b4 => ⟨_, rfl, ?_⟩) (fun b5 => ⟨_, rfl, ?_⟩))
  · refine w_nezt (by omega) (by omega) (by omega)  (w_run k_421902 (w_al (fun _ => rfl) (w_this (fun _ => rfl) m1 ?_)))
    refine w_cv (fun _ => rfl) rfl (c_reachFromNow (d := d) iv     (fun g o h9 iv10 eg11 eo12 gw13 b14 => ⟨rfl, ?_⟩))
    have Peg11 := pub_all eg11
    have Weg11 := iv_wc iv10
    have Xeg11 := iv_wo iv10
    have F15 := fr_rf (o := o) (h := h9) (W := [1, 3, 4, 9, 10, 11, 25, 26, 27, 100, 101, 102, 103, 104, 112])
    obtain ⟨kpr0, sta0, fnd0, kco0, p9, q1, q2, q3, q4, q5, q6, q7, q8, q9⟩ := (id b14)
    refine w_al (fun _ => rfl) ?_
    obtain ⟨_, m16, rfl⟩ := iv_0 iv10
    refine w_getf m16 rfl (fun _ => rfl) (w_il (fun _ => rfl) (w_il (fun _ => rfl) (w_this (fun _ => rfl) p9 ?_)))
    refine w_ca (fun _ => rfl) rfl (c_rowStep (d := (d + 3)) iv10 (to := to) (i_ := i_) (by omega) (by omega) (by omega) (by omega) (by omega)  (fun y17 b18 b19 => ⟨_, rfl, ?_⟩))
    refine w_ri ?_
    exact k0 y17 g o h9 iv10 eg11 eo12 (gw_fr (fr_gw F gw13) F15) (by omega) (by omega)
  · refine w_nezf (by omega) (by omega) (by omega)  (w_icI (x := (-2)) wn_2 (w_ri ?_))
    exact k0 (-2) g o h iv pub_rf oe_rf (gw_fr gw_rf F) (by omega) (by omega)
theorem k_425984 : m_cg 425984 = g_104_0 := rfl
theorem k_425998 : m_cg 425998 = g_104_14 := rfl
theorem c_cheapest {g : w_G} {o : w_O} {h : m_H} {d : Nat} {Q : Option m_V → m_H → Prop} (iv : w_Inv g o h) {to : Int} (to_lo : -2147483648 ≤ to) (to_hi : to ≤ 2147483647) (k0 : ∀ (x : Int) (g2 : w_G) (o2 : w_O) (h2 : m_H), w_Inv g2 o2 h2 → w_pub g g2 → w_oe o o2 → w_gw g h g2 h2 → -2147483648 ≤ x → x ≤ 2147483647 → Q (some (.inl (w_i x))) h2) : wp (d + 6) 425984 [.inr (.inl (some 0)), .inl (w_i to)] [] h Q := by
  have F := fr_rf (o := o) (h := h) (W := [1, 3, 4, 9, 10, 11, 25, 26, 27, 100, 101, 102, 103, 104, 112])
  have W := iv_wc iv
  have Wo := iv_wo iv
  refine w_run k_425984 (w_al (fun _ => rfl) ?_)
  obtain ⟨_, m1, rfl⟩ := iv_0 iv
  refine w_getf m1 rfl (fun _ => rfl) (w_il (fun _ => rfl) ?_)
  obtain ⟨_, m2, kp2, sp2, rl2, rfl, l2_kp, u2_kp, l2_sp, u2_sp, l2_rl, u2_rl, f2_0, f2_1⟩ := iv_1 iv
  refine w_this (fun _ => rfl) m2 ?_
  refine w_ca (fun _ => rfl) rfl (c_isTown (d := (d + 5)) iv (n := to) (by omega) (by omega)   (fun b3 b4 => ⟨_, rfl, ?_⟩) (fun b5 => ⟨_, rfl, ?_⟩))
  · refine w_nezt (by omega) (by omega) (by omega)  (w_run k_425998 (w_al (fun _ => rfl) (w_this (fun _ => rfl) m1 ?_)))
    refine w_cv (fun _ => rfl) rfl (c_reachFromNow (d := d) iv     (fun g o h9 iv10 eg11 eo12 gw13 b14 => ⟨rfl, ?_⟩))
    have Peg11 := pub_all eg11
    have Weg11 := iv_wc iv10
    have Xeg11 := iv_wo iv10
    have F15 := fr_rf (o := o) (h := h9) (W := [1, 3, 4, 9, 10, 11, 25, 26, 27, 100, 101, 102, 103, 104, 112])
    obtain ⟨kpr0, sta0, fnd0, kco0, p9, q1, q2, q3, q4, q5, q6, q7, q8, q9⟩ := (id b14)
    refine w_al (fun _ => rfl) ?_
    obtain ⟨_, m16, rfl⟩ := iv_0 iv10
    refine w_getf m16 rfl (fun _ => rfl) (w_il (fun _ => rfl) (w_this (fun _ => rfl) p9 ?_))
    refine w_ca (fun _ => rfl) rfl (c_costTo (d := d) iv10 (to := to) (by omega) (by omega) (by omega) (by omega) b14 (fun y17 h18 iv19 F20 b21 b22 => ⟨_, rfl, ?_⟩))
    have F23 := fr_ca F15 F20 (fun t ht => by simp at ht ⊢; omega)
    refine w_ri ?_
    exact k0 y17 g o h18 iv19 eg11 eo12 (gw_fr (fr_gw F gw13) F23) (by omega) (by omega)
  · refine w_nezf (by omega) (by omega) (by omega)  (w_icI (x := (-2)) wn_2 (w_ri ?_))
    exact k0 (-2) g o h iv pub_rf oe_rf (gw_fr gw_rf F) (by omega) (by omega)
theorem k_430080 : m_cg 430080 = g_105_0 := rfl
theorem k_430090 : m_cg 430090 = g_105_10 := rfl
theorem k_430110 : m_cg 430110 = g_105_30 := rfl
theorem k_430118 : m_cg 430118 = g_105_38 := rfl
theorem c_wishes {g : w_G} {o : w_O} {h : m_H} {d : Nat} {Q : Option m_V → m_H → Prop} (iv : w_Inv g o h) {what : Int} (what_lo : -2147483648 ≤ what) (what_hi : what ≤ 2147483647) (k0 : ∀ (x : Int) (g2 : w_G) (o2 : w_O) (h2 : m_H), w_Inv g2 o2 h2 → w_pub g g2 → w_oe o o2 → w_gw g h g2 h2 → -2147483648 ≤ x → x ≤ 2147483647 → Q (some (.inl (w_i x))) h2) : wp (d + 6) 430080 [.inr (.inl (some 0)), .inl (w_i what), .inr (.inr (.inl 0))] [] h Q := by
  have F := fr_rf (o := o) (h := h) (W := [1, 3, 4, 9, 10, 11, 25, 26, 27, 100, 101, 102, 103, 104, 112])
  have W := iv_wc iv
  have Wo := iv_wo iv
  refine w_run k_430080 (w_il (fun _ => rfl) ?_)
  refine w_ca (fun _ => rfl) rfl (c_isFlag (d := (d + 5)) iv (n := what) (by omega) (by omega)   (fun b1 b2 => ⟨_, rfl, ?_⟩) (fun b3 => ⟨_, rfl, ?_⟩))
  · refine w_nezt (by omega) (by omega) (by omega)  (w_run k_430090 (w_al (fun _ => rfl) ?_))
    obtain ⟨_, m4, rfl⟩ := iv_0 iv
    refine w_this (fun _ => rfl) m4 ?_
    refine w_cv (fun _ => rfl) rfl (c_reachFromNow (d := d) iv     (fun g o h8 iv9 eg10 eo11 gw12 b13 => ⟨rfl, ?_⟩))
    have Peg10 := pub_all eg10
    have Weg10 := iv_wc iv9
    have Xeg10 := iv_wo iv9
    have F14 := fr_rf (o := o) (h := h8) (W := [1, 3, 4, 9, 10, 11, 25, 26, 27, 100, 101, 102, 103, 104, 112])
    obtain ⟨kpr0, sta0, fnd0, kco0, p9, q1, q2, q3, q4, q5, q6, q7, q8, q9⟩ := (id b13)
    refine w_al (fun _ => rfl) ?_
    obtain ⟨_, m15, rfl⟩ := iv_0 iv9
    refine w_getf m15 rfl (fun _ => rfl) (w_this (fun _ => rfl) p9 ?_)
    refine w_ca (fun _ => rfl) rfl (c_mostWished (d := (d + 3)) iv9    b13 (fun y16 h17 iv18 F19 b20 b21 b22 => ⟨_, rfl, ?_⟩))
    have F23 := fr_ca F14 F19 (fun t ht => by simp at ht ⊢; omega)
    refine w_is (fun _ => rfl) (w_il (fun _ => rfl) ?_)
    refine w_nez2 (by omega) (by omega)  (fun c24 => ?_) (fun c24 => ?_)
    · refine w_run k_430110 (w_al (fun _ => rfl) ?_)
      have m25 := fr_at F19 m15 iv9 (ow_0 iv9) rfl rfl
      refine w_getf m25 rfl (fun _ => rfl) (w_il (fun _ => rfl) ?_)
      have m26 := fr_at F19 p9 iv9 (ow_9 iv9) rfl rfl
      refine w_this (fun _ => rfl) m26 ?_
      refine w_ca (fun _ => rfl) rfl (c_wished (d := (d + 4)) iv18 (n := y16) (by omega) (by omega) (by omega)  (fun y27 h28 iv29 F30 b31 b32 => ⟨_, rfl, ?_⟩))
      have F33 := fr_ca F23 F30 (fun t ht => by simp at ht ⊢; omega)
      refine w_ri ?_
      exact k0 y27 g o h28 iv29 eg10 eo11 (gw_fr (fr_gw F gw12) F33) (by omega) (by omega)
    · refine w_il (fun _ => rfl) (w_go (w_run k_430118 (w_ri ?_)))
      exact k0 y16 g o h17 iv18 eg10 eo11 (gw_fr (fr_gw F gw12) F23) (by omega) (by omega)
  · refine w_nezf (by omega) (by omega) (by omega)  (w_icI (x := (-2)) wn_2 (w_ri ?_))
    exact k0 (-2) g o h iv pub_rf oe_rf (gw_fr gw_rf F) (by omega) (by omega)
theorem k_434176 : m_cg 434176 = g_106_0 := rfl
theorem k_434191 : m_cg 434191 = g_106_15 := rfl
theorem k_434277 : m_cg 434277 = g_106_101 := rfl
theorem k_434280 : m_cg 434280 = g_106_104 := rfl
theorem c_night {g : w_G} {o : w_O} {h : m_H} {d : Nat} {Q : Option m_V → m_H → Prop} (iv : w_Inv g o h) {a : Int} {b : Int} (a_lo : -2147483648 ≤ a) (a_hi : a ≤ 2147483647) (b_lo : -2147483648 ≤ b) (b_hi : b ≤ 2147483647) (k0 : ∀ (x : Int) (g2 : w_G) (o2 : w_O) (h2 : m_H), w_Inv g2 o2 h2 → w_pub g g2 → w_oe o o2 → w_gw g h g2 h2 → -2147483648 ≤ x → x ≤ 2147483647 → Q (some (.inl (w_i x))) h2) : wp (d + 5) 434176 [.inr (.inl (some 0)), .inl (w_i a), .inl (w_i b)] [] h Q := by
  have F := fr_rf (o := o) (h := h) (W := [1, 3, 4, 9, 10, 11, 25, 26, 27, 100, 101, 102, 103, 104, 112])
  have W := iv_wc iv
  have Wo := iv_wo iv
  refine w_run k_434176 (w_al (fun _ => rfl) ?_)
  obtain ⟨_, m1, rfl⟩ := iv_0 iv
  refine w_getf m1 rfl (fun _ => rfl) (w_il (fun _ => rfl) (w_il (fun _ => rfl) ?_))
  obtain ⟨_, m2, kp2, sp2, rl2, rfl, l2_kp, u2_kp, l2_sp, u2_sp, l2_rl, u2_rl, f2_0, f2_1⟩ := iv_1 iv
  refine w_this (fun _ => rfl) m2 ?_
  refine w_ca (fun _ => rfl) rfl (c_areTwo (d := (d + 3)) iv (a := a) (b := b) (by omega) (by omega) (by omega) (by omega)   (fun b3 b4 b5 b6 b7 => ⟨_, rfl, ?_⟩) (fun b8 => ⟨_, rfl, ?_⟩))
  · refine w_nezt (by omega) (by omega) (by omega)  (w_run k_434191 (w_al (fun _ => rfl) (w_getf m1 rfl (fun _ => rfl) (w_getf m2 rfl (fun _ => rfl) (w_icI (x := 0) rfl (w_al (fun _ => rfl) (w_getf m1 rfl (fun _ => rfl) (w_icI (x := 0) rfl (w_icI (x := 6) rfl ?_)))))))))
    obtain ⟨_, m9, A9, rfl, e9⟩ := iv_3 iv
    obtain ⟨_, m10, A10, rfl⟩ := iv_27 iv
    refine w_cpyI m9 m10 (by omega) (by omega) (by omega) (by omega) (by omega) (by omega) (by omega) rfl (fun A14 h12 w15 s11 => ?_)
    have iv13 := is_27 iv s11 ⟨_, rfl⟩
    have F16 := fr_st F s11 (by rw [(ow_27 iv)]; rfl)
    refine w_al (fun _ => rfl) ?_
    have m17 := st_fr s11 m1 (by decide)
    refine w_getf m17 rfl (fun _ => rfl) (w_il (fun _ => rfl) (w_al (fun _ => rfl) (w_getf m17 rfl (fun _ => rfl) ?_)))
    have m18 := st_fr s11 m2 (by decide)
    refine w_getf m18 rfl (fun _ => rfl) (w_il (fun _ => rfl) ?_)
    have m19 := st_fr s11 m9 (by decide)
    refine w_aldI m19 (by omega) (by omega) (by omega) ?_
    obtain ⟨b20, b21⟩ := ag_rg A9 b
    have e22 := e9 b (by omega) (by omega)
    refine w_astI s11.2.2.1 (by omega) (by omega) (by omega) (by omega) (by omega) (fun A26 h24 w27 s23 => ?_)
    have iv25 := is_27 iv13 s23 ⟨_, rfl⟩
    have F28 := fr_st F16 s23 (by rw [(ow_27 iv13)]; rfl)
    refine w_al (fun _ => rfl) ?_
    have m29 := st_fr s23 m17 (by decide)
    refine w_getf m29 rfl (fun _ => rfl) (w_il (fun _ => rfl) (w_al (fun _ => rfl) (w_getf m29 rfl (fun _ => rfl) ?_)))
    have m30 := st_fr s23 m18 (by decide)
    refine w_getf m30 rfl (fun _ => rfl) (w_il (fun _ => rfl) ?_)
    have m31 := st_fr s23 m19 (by decide)
    refine w_aldI m31 (by omega) (by omega) (by omega) ?_
    obtain ⟨b32, b33⟩ := ag_rg A9 a
    have e34 := e9 a (by omega) (by omega)
    refine w_astI s23.2.2.1 (by omega) (by omega) (by omega) (by omega) (by omega) (fun A38 h36 w39 s35 => ?_)
    have iv37 := is_27 iv25 s35 ⟨_, rfl⟩
    have F40 := fr_st F28 s35 (by rw [(ow_27 iv25)]; rfl)
    refine w_al (fun _ => rfl) ?_
    have m41 := st_fr s35 m29 (by decide)
    refine w_getf m41 rfl (fun _ => rfl) (w_il (fun _ => rfl) ?_)
    have m42 := st_fr s35 m30 (by decide)
    refine w_this (fun _ => rfl) m42 ?_
    refine w_ca (fun _ => rfl) rfl (c_keepBit (d := (d + 4)) iv37 (n := a) (by omega) (by omega)   (fun y43 b44 b45 b46 b47 => ⟨_, rfl, ?_⟩))
    refine w_icI (x := 1) rfl ?_
    refine w_eq2 (by omega) (by omega) (by omega) (by omega)  (fun c48 => ?_) (fun c48 => ?_)
    · refine w_run k_434277 (w_icI (x := (-5)) wn_5 (w_ri ?_))
      exact k0 (-5) g o h36 iv37 pub_rf oe_rf (gw_fr gw_rf F40) (by omega) (by omega)
    · refine w_al (fun _ => rfl) (w_getf m41 rfl (fun _ => rfl) (w_il (fun _ => rfl) (w_this (fun _ => rfl) m42 ?_)))
      refine w_ca (fun _ => rfl) rfl (c_keepBit (d := (d + 4)) iv37 (n := b) (by omega) (by omega)   (fun y49 b50 b51 b52 b53 => ⟨_, rfl, ?_⟩))
      refine w_icI (x := 1) rfl ?_
      refine w_eq2 (by omega) (by omega) (by omega) (by omega)  (fun c54 => ?_) (fun c54 => ?_)
      · refine w_run k_434277 (w_icI (x := (-5)) wn_5 (w_ri ?_))
        exact k0 (-5) g o h36 iv37 pub_rf oe_rf (gw_fr gw_rf F40) (by omega) (by omega)
      · refine w_al (fun _ => rfl) (w_getf m41 rfl (fun _ => rfl) (w_al (fun _ => rfl) (w_getf m41 rfl (fun _ => rfl) (w_this (fun _ => rfl) m42 ?_))))
        refine w_ca (fun _ => rfl) rfl (c_isLawful (d := (d + 3)) iv37 (q := 27)  s35.2.2.1  ⟨_, rfl, ?_⟩ ⟨_, rfl, ?_⟩)
        · refine w_nezt (by omega) (by omega) (by omega)  (w_run k_434280 (w_al (fun _ => rfl) (w_this (fun _ => rfl) m41 ?_)))
          refine w_cv (fun _ => rfl) rfl (c_tellPrices (d := d) iv37     (fun h55 iv56 F57 => ⟨rfl, ?_⟩))
          have F58 := fr_ca F40 F57 (fun t ht => by simp at ht ⊢; omega)
          refine w_al (fun _ => rfl) ?_
          have m59 := fr_at F57 m41 iv37 (ow_0 iv37) rfl rfl
          refine w_getf m59 rfl (fun _ => rfl) (w_al (fun _ => rfl) (w_getf m59 rfl (fun _ => rfl) (w_al (fun _ => rfl) (w_getf m59 rfl (fun _ => rfl) ?_))))
          have m60 := fr_at F57 m42 iv37 (ow_1 iv37) rfl rfl
          refine w_this (fun _ => rfl) m60 ?_
          have m61 := fr_at F57 s35.2.2.1 iv37 (ow_27 iv37) rfl rfl
          refine w_ca (fun _ => rfl) rfl (c_numberOfU (d := (d + 4)) iv56 (q := 27)  m61  (fun y62 b63 b64 => ⟨_, rfl, ?_⟩))
          obtain ⟨_, m65, kpr65, sta65, fnd65, kco65, rfl, l65_kpr, u65_kpr, l65_sta, u65_sta, l65_fnd, u65_fnd, l65_kco, u65_kco, f65_0, f65_1, f65_2, f65_3, f65_4, f65_5, f65_6⟩ := iv_9 iv56
          refine w_this (fun _ => rfl) m65 ?_
          refine w_cv (fun _ => rfl) rfl (c_reach (d := d) iv56 (fro := y62) (by omega) (by omega)   (fun g o h69 iv70 eg71 eo72 gw73 b74 => ⟨rfl, ?_⟩))
          have Peg71 := pub_all eg71
          have Weg71 := iv_wc iv70
          have Xeg71 := iv_wo iv70
          have F75 := fr_rf (o := o) (h := h69) (W := [1, 3, 4, 9, 10, 11, 25, 26, 27, 100, 101, 102, 103, 104, 112])
          refine w_al (fun _ => rfl) ?_
          obtain ⟨_, m76, rfl⟩ := iv_0 iv70
          refine w_getf m76 rfl (fun _ => rfl) ?_
          obtain ⟨_, m77, kpr77, sta77, fnd77, kco77, rfl, l77_kpr, u77_kpr, l77_sta, u77_sta, l77_fnd, u77_fnd, l77_kco, u77_kco, f77_0, f77_1, f77_2, f77_3, f77_4, f77_5, f77_6⟩ := iv_9 iv70
          refine w_getf m77 rfl (fun _ => rfl) (w_ri ?_)
          exact k0 fnd77 g o h69 iv70 eg71 eo72 (gw_fr (fr_gw F58 gw73) F75) (by omega) (by omega)
        · refine w_nezf (by omega) (by omega) (by omega)  (w_icI (x := (-5)) wn_5 (w_ri ?_))
          exact k0 (-5) g o h36 iv37 pub_rf oe_rf (gw_fr gw_rf F40) (by omega) (by omega)
  · refine w_nezf (by omega) (by omega) (by omega)  (w_icI (x := (-2)) wn_2 (w_ri ?_))
    exact k0 (-2) g o h iv pub_rf oe_rf (gw_fr gw_rf F) (by omega) (by omega)
theorem k_442370 : m_cg 442370 = g_108_2 := rfl
theorem k_442424 : m_cg 442424 = g_108_56 := rfl
theorem k_442416 : m_cg 442416 = g_108_48 := rfl
theorem k_442417 : m_cg 442417 = g_108_49 := rfl
theorem l_turned_2 {g : w_G} {o : w_O} {h0 : m_H} {d : Nat} {Q : Option m_V → m_H → Prop} (k0 : ∀ (x : Int) (g2 : w_G) (o2 : w_O) (h2 : m_H), w_Inv g2 o2 h2 → w_pub g g2 → w_oe o o2 → w_gw g h0 g2 h2 → -2147483648 ≤ x → x ≤ 2147483647 → Q (some (.inl (w_i x))) h2) : ∀ (k : Nat) (h : m_H) (i : Int) (iv : w_Inv g o h) (F : w_fr o [1, 3, 4, 9, 10, 11, 25, 26, 27, 100, 101, 102, 103, 104, 112] h0 h) (i_lo : -2147483648 ≤ i) (i_hi : i ≤ 2147483647) (i0 : 0 ≤ i) (i1 : i ≤ 6), 6 - i < (k : Int) → wp (d + 6) 442370 [.inr (.inl (some 0)), .inl (w_i i)] [] h Q := by
  intro k
  induction k with
  | zero => intro h i iv F i_lo i_hi i0 i1 hk; exact absurd hk (by omega)
  | succ k ih =>
    intro h i iv F i_lo i_hi i0 i1 hk
    have W := iv_wc iv
    have Wo := iv_wo iv
    refine w_run k_442370 (w_il (fun _ => rfl) (w_icI (x := 6) rfl ?_))
    refine w_ge2 (by omega) (by omega) (by omega) (by omega)  (fun c1 => ?_) (fun c1 => ?_)
    · refine w_run k_442424 (w_al (fun _ => rfl) ?_)
      obtain ⟨_, m2, rfl⟩ := iv_0 iv
      refine w_this (fun _ => rfl) m2 ?_
      refine w_cv (fun _ => rfl) rfl (c_reachFromNow (d := d) iv     (fun g o h6 iv7 eg8 eo9 gw10 b11 => ⟨rfl, ?_⟩))
      have Peg8 := pub_all eg8
      have Weg8 := iv_wc iv7
      have Xeg8 := iv_wo iv7
      have F12 := fr_rf (o := o) (h := h6) (W := [1, 3, 4, 9, 10, 11, 25, 26, 27, 100, 101, 102, 103, 104, 112])
      obtain ⟨kpr0, sta0, fnd0, kco0, p9, q1, q2, q3, q4, q5, q6, q7, q8, q9⟩ := (id b11)
      refine w_al (fun _ => rfl) ?_
      obtain ⟨_, m13, rfl⟩ := iv_0 iv7
      refine w_getf m13 rfl (fun _ => rfl) (w_al (fun _ => rfl) (w_getf m13 rfl (fun _ => rfl) (w_al (fun _ => rfl) (w_getf m13 rfl (fun _ => rfl) ?_))))
      obtain ⟨_, m14, kp14, sp14, rl14, rfl, l14_kp, u14_kp, l14_sp, u14_sp, l14_rl, u14_rl, f14_0, f14_1⟩ := iv_1 iv7
      refine w_this (fun _ => rfl) m14 ?_
      obtain ⟨_, m15, A15, rfl⟩ := iv_27 iv7
      refine w_ca (fun _ => rfl) rfl (c_numberOfU (d := (d + 5)) iv7 (q := 27)  m15  (fun y16 b17 b18 => ⟨_, rfl, ?_⟩))
      refine w_this (fun _ => rfl) p9 ?_
      refine w_ca (fun _ => rfl) rfl (c_stepsTo (d := (d + 4)) iv7 (to := y16) (by omega) (by omega) (by omega)  (fun y19 b20 b21 => ⟨_, rfl, ?_⟩))
      refine w_ri ?_
      exact k0 y19 g o h6 iv7 eg8 eo9 (gw_fr (fr_gw F gw10) F12) (by omega) (by omega)
    · refine w_al (fun _ => rfl) ?_
      obtain ⟨_, m22, rfl⟩ := iv_0 iv
      refine w_getf m22 rfl (fun _ => rfl) (w_il (fun _ => rfl) (w_al (fun _ => rfl) (w_getf m22 rfl (fun _ => rfl) ?_)))
      obtain ⟨_, m23, kp23, sp23, rl23, rfl, l23_kp, u23_kp, l23_sp, u23_sp, l23_rl, u23_rl, f23_0, f23_1⟩ := iv_1 iv
      refine w_getf m23 rfl (fun _ => rfl) (w_il (fun _ => rfl) ?_)
      obtain ⟨_, m24, A24, rfl, e24⟩ := iv_3 iv
      refine w_aldI m24 (by omega) (by omega) (by omega) ?_
      obtain ⟨b25, b26⟩ := ag_rg A24 i
      have e27 := e24 i (by omega) (by omega)
      refine w_icI (x := 1) rfl (w_opR add_lt (fun x28 x280 x281 x28e => ?_))
      refine w_al (fun _ => rfl) (w_getf m22 rfl (fun _ => rfl) (w_getf m23 rfl (fun _ => rfl) ?_))
      refine w_ge2 (by omega) (by omega) (by omega) (by omega)  (fun c29 => ?_) (fun c29 => ?_)
      · refine w_run k_442416 (w_icI (x := 0) rfl ?_)
        obtain ⟨_, m30, A30, rfl⟩ := iv_27 iv
        refine w_astI m30 (by omega) (by omega) (by omega) (by omega) (by omega) (fun A34 h32 w35 s31 => ?_)
        have iv33 := is_27 iv s31 ⟨_, rfl⟩
        have F36 := fr_st F s31 (by rw [(ow_27 iv)]; rfl)
        refine w_inc (c := w_i (i + 1)) (fun _ => rfl) (i_addL (y := 1) rfl i) (fun _ => rfl) (w_go ?_)
        exact ih h32 (i + 1) iv33 F36 (by omega) (by omega)  (by omega) (by omega) (by omega)
      · refine w_al (fun _ => rfl) (w_getf m22 rfl (fun _ => rfl) (w_getf m23 rfl (fun _ => rfl) (w_il (fun _ => rfl) (w_aldI m24 (by omega) (by omega) (by omega) ?_))))
        obtain ⟨b37, b38⟩ := ag_rg A24 i
        have e39 := e24 i (by omega) (by omega)
        refine w_icI (x := 1) rfl (w_opR add_lt (fun x40 x400 x401 x40e => ?_))
        refine w_go (w_run k_442417 ?_)
        obtain ⟨_, m41, A41, rfl⟩ := iv_27 iv
        refine w_astI m41 (by omega) (by omega) (by omega) (by omega) (by omega) (fun A45 h43 w46 s42 => ?_)
        have iv44 := is_27 iv s42 ⟨_, rfl⟩
        have F47 := fr_st F s42 (by rw [(ow_27 iv)]; rfl)
        refine w_inc (c := w_i (i + 1)) (fun _ => rfl) (i_addL (y := 1) rfl i) (fun _ => rfl) (w_go ?_)
        exact ih h43 (i + 1) iv44 F47 (by omega) (by omega)  (by omega) (by omega) (by omega)
theorem k_442368 : m_cg 442368 = g_108_0 := rfl
theorem c_turned {g : w_G} {o : w_O} {h : m_H} {d : Nat} {Q : Option m_V → m_H → Prop} (iv : w_Inv g o h) (k0 : ∀ (x : Int) (g2 : w_G) (o2 : w_O) (h2 : m_H), w_Inv g2 o2 h2 → w_pub g g2 → w_oe o o2 → w_gw g h g2 h2 → -2147483648 ≤ x → x ≤ 2147483647 → Q (some (.inl (w_i x))) h2) : wp (d + 6) 442368 [.inr (.inl (some 0)), .inr (.inr (.inl 0))] [] h Q := by
  have F := fr_rf (o := o) (h := h) (W := [1, 3, 4, 9, 10, 11, 25, 26, 27, 100, 101, 102, 103, 104, 112])
  have W := iv_wc iv
  have Wo := iv_wo iv
  refine w_run k_442368 (w_icI (x := 0) rfl (w_is (fun _ => rfl) (w_nur k_442370 ?_)))
  exact l_turned_2          k0 (6 - 0 + 1 : Int).toNat h 0 iv F (by omega) (by omega)  (by omega) (by omega) (by omega)
theorem k_446464 : m_cg 446464 = g_109_0 := rfl
theorem k_446478 : m_cg 446478 = g_109_14 := rfl
theorem k_446498 : m_cg 446498 = g_109_34 := rfl
theorem k_446506 : m_cg 446506 = g_109_42 := rfl
theorem c_touched {g : w_G} {o : w_O} {h : m_H} {d : Nat} {Q : Option m_V → m_H → Prop} (iv : w_Inv g o h) {to : Int} (to_lo : -2147483648 ≤ to) (to_hi : to ≤ 2147483647) (k0 : ∀ (x : Int) (g2 : w_G) (o2 : w_O) (h2 : m_H), w_Inv g2 o2 h2 → w_pub g g2 → w_oe o o2 → w_gw g h g2 h2 → -2147483648 ≤ x → x ≤ 2147483647 → Q (some (.inl (w_i x))) h2) : wp (d + 6) 446464 [.inr (.inl (some 0)), .inl (w_i to)] [] h Q := by
  have F := fr_rf (o := o) (h := h) (W := [1, 3, 4, 9, 10, 11, 25, 26, 27, 100, 101, 102, 103, 104, 112])
  have W := iv_wc iv
  have Wo := iv_wo iv
  refine w_run k_446464 (w_al (fun _ => rfl) ?_)
  obtain ⟨_, m1, rfl⟩ := iv_0 iv
  refine w_getf m1 rfl (fun _ => rfl) (w_il (fun _ => rfl) ?_)
  obtain ⟨_, m2, kp2, sp2, rl2, rfl, l2_kp, u2_kp, l2_sp, u2_sp, l2_rl, u2_rl, f2_0, f2_1⟩ := iv_1 iv
  refine w_this (fun _ => rfl) m2 ?_
  refine w_ca (fun _ => rfl) rfl (c_isTown (d := (d + 5)) iv (n := to) (by omega) (by omega)   (fun b3 b4 => ⟨_, rfl, ?_⟩) (fun b5 => ⟨_, rfl, ?_⟩))
  · refine w_nezt (by omega) (by omega) (by omega)  (w_run k_446478 (w_al (fun _ => rfl) (w_this (fun _ => rfl) m1 ?_)))
    refine w_cv (fun _ => rfl) rfl (c_reachFromNow (d := d) iv     (fun g o h9 iv10 eg11 eo12 gw13 b14 => ⟨rfl, ?_⟩))
    have Peg11 := pub_all eg11
    have Weg11 := iv_wc iv10
    have Xeg11 := iv_wo iv10
    have F15 := fr_rf (o := o) (h := h9) (W := [1, 3, 4, 9, 10, 11, 25, 26, 27, 100, 101, 102, 103, 104, 112])
    obtain ⟨kpr0, sta0, fnd0, kco0, p9, q1, q2, q3, q4, q5, q6, q7, q8, q9⟩ := (id b14)
    refine w_al (fun _ => rfl) ?_
    obtain ⟨_, m16, rfl⟩ := iv_0 iv10
    refine w_getf m16 rfl (fun _ => rfl) (w_il (fun _ => rfl) (w_this (fun _ => rfl) p9 ?_))
    refine w_ca (fun _ => rfl) rfl (c_stepsTo (d := (d + 4)) iv10 (to := to) (by omega) (by omega) (by omega)  (fun y17 b18 b19 => ⟨_, rfl, ?_⟩))
    refine w_icI (x := (-1)) wn_1 ?_
    refine w_ne2 (by omega) (by omega) (by omega) (by omega)  (fun c20 => ?_) (fun c20 => ?_)
    · refine w_run k_446498 (w_al (fun _ => rfl) (w_getf m16 rfl (fun _ => rfl) (w_il (fun _ => rfl) (w_this (fun _ => rfl) p9 ?_))))
      refine w_ca (fun _ => rfl) rfl (c_changedIn (d := (d + 4)) iv10 (n := to) (by omega) (by omega) (by omega)  (fun y21 h22 iv23 F24 b25 b26 => ⟨_, rfl, ?_⟩))
      have F27 := fr_ca F15 F24 (fun t ht => by simp at ht ⊢; omega)
      refine w_ri ?_
      exact k0 y21 g o h22 iv23 eg11 eo12 (gw_fr (fr_gw F gw13) F27) (by omega) (by omega)
    · refine w_icI (x := (-1)) wn_1 (w_go (w_run k_446506 (w_ri ?_)))
      exact k0 (-1) g o h9 iv10 eg11 eo12 (gw_fr (fr_gw F gw13) F15) (by omega) (by omega)
  · refine w_nezf (by omega) (by omega) (by omega)  (w_icI (x := (-2)) wn_2 (w_ri ?_))
    exact k0 (-2) g o h iv pub_rf oe_rf (gw_fr gw_rf F) (by omega) (by omega)
theorem k_450573 : m_cg 450573 = g_110_13 := rfl
theorem k_450601 : m_cg 450601 = g_110_41 := rfl
theorem k_450637 : m_cg 450637 = g_110_77 := rfl
theorem k_450639 : m_cg 450639 = g_110_79 := rfl
theorem l_worth_13 {g : w_G} {o : w_O} {h0 : m_H} {d : Nat} {Q : Option m_V → m_H → Prop} {what : Int} (what_lo : -2147483648 ≤ what) (what_hi : what ≤ 2147483647) (k0 : ∀ (ll : Nat) (g2 : w_G) (o2 : w_O) (h2 : m_H), w_Inv g2 o2 h2 → w_pub g g2 → w_oe o o2 → w_gw g h0 g2 h2 → Q (some (.inr (.inr (.inl ll)))) h2) : ∀ (k : Nat) (h : m_H) (i : Int) (iv : w_Inv g o h) (F : w_fr o [1, 3, 4, 9, 10, 11, 25, 26, 27, 100, 101, 102, 103, 104, 112] h0 h) (i_lo : -2147483648 ≤ i) (i_hi : i ≤ 2147483647) (i0 : 0 ≤ i) (i1 : i ≤ g_H g), g_H g - i < (k : Int) → wp (d + 6) 450573 [.inr (.inl (some 0)), .inl (w_i what), .inl (w_i i)] [] h Q := by
  intro k
  induction k with
  | zero => intro h i iv F i_lo i_hi i0 i1 hk; exact absurd hk (by omega)
  | succ k ih =>
    intro h i iv F i_lo i_hi i0 i1 hk
    have W := iv_wc iv
    have Wo := iv_wo iv
    refine w_run k_450573 (w_il (fun _ => rfl) (w_al (fun _ => rfl) ?_))
    obtain ⟨_, m1, rfl⟩ := iv_0 iv
    refine w_getf m1 rfl (fun _ => rfl) ?_
    obtain ⟨_, m2, kp2, sp2, rl2, rfl, l2_kp, u2_kp, l2_sp, u2_sp, l2_rl, u2_rl, f2_0, f2_1⟩ := iv_1 iv
    refine w_getf m2 rfl (fun _ => rfl) ?_
    refine w_ge2 (by omega) (by omega) (by omega) (by omega)  (fun c3 => ?_) (fun c3 => ?_)
    · refine w_run k_450601 (w_al (fun _ => rfl) (w_this (fun _ => rfl) m1 ?_))
      refine w_cv (fun _ => rfl) rfl (c_reachFromNow (d := d) iv     (fun g o h7 iv8 eg9 eo10 gw11 b12 => ⟨rfl, ?_⟩))
      have Peg9 := pub_all eg9
      have Weg9 := iv_wc iv8
      have Xeg9 := iv_wo iv8
      have F13 := fr_rf (o := o) (h := h7) (W := [1, 3, 4, 9, 10, 11, 25, 26, 27, 100, 101, 102, 103, 104, 112])
      obtain ⟨kpr0, sta0, fnd0, kco0, p9, q1, q2, q3, q4, q5, q6, q7, q8, q9⟩ := (id b12)
      refine w_al (fun _ => rfl) ?_
      obtain ⟨_, m14, rfl⟩ := iv_0 iv8
      refine w_getf m14 rfl (fun _ => rfl) (w_al (fun _ => rfl) (w_getf m14 rfl (fun _ => rfl) (w_this (fun _ => rfl) p9 ?_)))
      refine w_ca (fun _ => rfl) rfl (c_mostWorth (d := d) iv8    b12 (fun y15 h16 iv17 F18 b19 b20 b21 b22 => ⟨_, rfl, ?_⟩))
      have F23 := fr_ca F13 F18 (fun t ht => by simp at ht ⊢; omega)
      refine w_is (fun _ => rfl) (w_il (fun _ => rfl) ?_)
      refine w_nez2 (by omega) (by omega)  (fun c24 => ?_) (fun c24 => ?_)
      · refine w_run k_450637 (w_il (fun _ => rfl) (w_itl (w_rl ?_)))
        exact k0 _ g o h16 iv17 eg9 eo10 (gw_fr (fr_gw F gw11) F23)
      · refine w_al (fun _ => rfl) ?_
        have m25 := fr_at F18 m14 iv8 (ow_0 iv8) rfl rfl
        refine w_getf m25 rfl (fun _ => rfl) (w_il (fun _ => rfl) (w_al (fun _ => rfl) (w_getf m25 rfl (fun _ => rfl) ?_)))
        obtain ⟨_, m26, kpr26, sta26, fnd26, kco26, rfl, l26_kpr, u26_kpr, l26_sta, u26_sta, l26_fnd, u26_fnd, l26_kco, u26_kco, f26_0, f26_1, f26_2, f26_3, f26_4, f26_5, f26_6⟩ := iv_9 iv17
        refine w_this (fun _ => rfl) m26 ?_
        refine w_ca (fun _ => rfl) rfl (c_worthOf (d := (d + 4)) iv17 (n := y15) (by omega) (by omega) (by omega) (by omega)  (fun y27 h28 iv29 F30 b31 b32 => ⟨_, rfl, ?_⟩))
        have F33 := fr_ca F23 F30 (fun t ht => by simp at ht ⊢; omega)
        refine w_itl (w_go (w_run k_450639 (w_rl ?_)))
        exact k0 _ g o h28 iv29 eg9 eo10 (gw_fr (fr_gw F gw11) F33)
    · refine w_al (fun _ => rfl) (w_getf m1 rfl (fun _ => rfl) (w_il (fun _ => rfl) (w_al (fun _ => rfl) (w_il (fun _ => rfl) (w_this (fun _ => rfl) m1 ?_)))))
      refine w_ca (fun _ => rfl) rfl (c_joyOf (d := (d + 2)) iv (house := i) (by omega) (by omega) (by omega) (by omega)  (fun y34 h35 iv36 F37 b38 b39 => ⟨_, rfl, ?_⟩))
      have F40 := fr_ca F F37 (fun t ht => by simp at ht ⊢; omega)
      obtain ⟨_, m41, A41, rfl⟩ := iv_26 iv36
      refine w_astI m41 (by omega) (by omega) (by omega) (by omega) (by omega) (fun A45 h43 w46 s42 => ?_)
      have iv44 := is_26 iv36 s42 ⟨_, rfl⟩
      have F47 := fr_st F40 s42 (by rw [(ow_26 iv36)]; rfl)
      refine w_inc (c := w_i (i + 1)) (fun _ => rfl) (i_addL (y := 1) rfl i) (fun _ => rfl) (w_go ?_)
      exact ih h43 (i + 1) iv44 F47 (by omega) (by omega)  (by omega) (by omega) (by omega)
theorem k_450560 : m_cg 450560 = g_110_0 := rfl
theorem k_450571 : m_cg 450571 = g_110_11 := rfl
theorem c_worth {g : w_G} {o : w_O} {h : m_H} {d : Nat} {Q : Option m_V → m_H → Prop} (iv : w_Inv g o h) {what : Int} (what_lo : -2147483648 ≤ what) (what_hi : what ≤ 2147483647) (k0 : ∀ (ll : Nat) (g2 : w_G) (o2 : w_O) (h2 : m_H), w_Inv g2 o2 h2 → w_pub g g2 → w_oe o o2 → w_gw g h g2 h2 → Q (some (.inr (.inr (.inl ll)))) h2) : wp (d + 6) 450560 [.inr (.inl (some 0)), .inl (w_i what), .inr (.inr (.inl 0))] [] h Q := by
  have F := fr_rf (o := o) (h := h) (W := [1, 3, 4, 9, 10, 11, 25, 26, 27, 100, 101, 102, 103, 104, 112])
  have W := iv_wc iv
  have Wo := iv_wo iv
  refine w_run k_450560 (w_il (fun _ => rfl) ?_)
  refine w_ca (fun _ => rfl) rfl (c_isFlag (d := (d + 5)) iv (n := what) (by omega) (by omega)   (fun b1 b2 => ⟨_, rfl, ?_⟩) (fun b3 => ⟨_, rfl, ?_⟩))
  · refine w_nezt (by omega) (by omega) (by omega)  (w_run k_450571 (w_icI (x := 0) rfl (w_is (fun _ => rfl) (w_nur k_450573 ?_))))
    exact l_worth_13     what_lo what_hi     k0 (g_H g - 0 + 1 : Int).toNat h 0 iv F (by omega) (by omega)  (by omega) (by omega) (by omega)
  · refine w_nezf (by omega) (by omega) (by omega)  (w_lc (w_rl ?_))
    exact k0 _ g o h iv pub_rf oe_rf (gw_fr gw_rf F)
