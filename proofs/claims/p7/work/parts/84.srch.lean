theorem k_151552 : m_cg 151552 = g_37_0 := rfl
theorem c_forget {g : w_G} {o : w_O} {h : m_H} {d : Nat} {Q : Option m_V → m_H → Prop} (iv : w_Inv g o h) (k0 : ∀ h2 : m_H, w_Inv g o h2 → w_fr o [9] h h2 → Q none h2) : wp d 151552 [.inr (.inl (some 9))] [] h Q := by
  have F := fr_rf (o := o) (h := h) (W := [9])
  have W := iv_wc iv
  refine w_run k_151552 (w_al (fun _ => rfl) (w_icI (x := 0) rfl ?_))
  obtain ⟨_, m1, kpr1, sta1, fnd1, kco1, rfl, l1_kpr, u1_kpr, l1_sta, u1_sta, l1_fnd, u1_fnd, l1_kco, u1_kco, f1_0, f1_1, f1_2, f1_3, f1_4, f1_5, f1_6⟩ := iv_9 iv
  refine w_putf [.inr (.inl (some 1)), .inr (.inl (some 10)), .inl (w_i 0), .inr (.inl (some 11)), .inl (w_i sta1), .inr (.inl (some (g_rw g))), .inl (w_i fnd1), .inr (.inl (some (g_stp g))), .inr (.inl (some (g_ahd g))), .inr (.inl (some (g_cst g))), .inr (.inl (some (g_chp g))), .inl (w_i kco1)] m1 rfl rfl rfl (fun _ => rfl) (fun h3 s2 => ?_)
  have iv4 := is_9 iv s2 ⟨_, _, _, _, rfl, by omega, by omega, by omega, by omega, by omega, by omega, by omega, by omega, by omega, by omega, by omega, by omega, by omega, by omega, by omega⟩
  have F5 := fr_st F s2 (by rw [(ow_9 iv)]; rfl)
  refine w_al (fun _ => rfl) (w_icI (x := (-1)) wn_1 (w_putf [.inr (.inl (some 1)), .inr (.inl (some 10)), .inl (w_i 0), .inr (.inl (some 11)), .inl (w_i (-1)), .inr (.inl (some (g_rw g))), .inl (w_i fnd1), .inr (.inl (some (g_stp g))), .inr (.inl (some (g_ahd g))), .inr (.inl (some (g_cst g))), .inr (.inl (some (g_chp g))), .inl (w_i kco1)] s2.2.2.1 rfl rfl rfl (fun _ => rfl) (fun h7 s6 => ?_)))
  have iv8 := is_9 iv4 s6 ⟨_, _, _, _, rfl, by omega, by omega, by omega, by omega, by omega, by omega, by omega, by omega, by omega, by omega, by omega, by omega, by omega, by omega, by omega⟩
  have F9 := fr_st F5 s6 (by rw [(ow_9 iv4)]; rfl)
  refine w_rv ?_
  exact k0 h7 iv8 F9
theorem k_184324 : m_cg 184324 = g_45_4 := rfl
theorem k_184366 : m_cg 184366 = g_45_46 := rfl
theorem l_lookAt_4 {g : w_G} {o : w_O} {h0 : m_H} {d : Nat} {Q : Option m_V → m_H → Prop} {n : Int} (n_lo : -2147483648 ≤ n) (n_hi : n ≤ 2147483647) (hn : 0 ≤ n) (k0 : ∀ h2 : m_H, w_Inv g o h2 → w_fr o [11] h0 h2 → Q none h2) : ∀ (k : Nat) (h : m_H) (rest i : Int) (iv : w_Inv g o h) (F : w_fr o [11] h0 h) (rest_lo : -2147483648 ≤ rest) (rest_hi : rest ≤ 2147483647) (i_lo : -2147483648 ≤ i) (i_hi : i ≤ 2147483647) (r0 : 0 ≤ rest) (i0 : 0 ≤ i) (i1 : i ≤ g_H g), g_H g - i < (k : Int) → wp d 184324 [.inr (.inl (some 9)), .inl (w_i n), .inl (w_i rest), .inl (w_i i)] [] h Q := by
  intro k
  induction k with
  | zero => intro h rest i iv F rest_lo rest_hi i_lo i_hi r0 i0 i1 hk; exact absurd hk (by omega)
  | succ k ih =>
    intro h rest i iv F rest_lo rest_hi i_lo i_hi r0 i0 i1 hk
    have W := iv_wc iv
    refine w_run k_184324 (w_il (fun _ => rfl) (w_al (fun _ => rfl) ?_))
    obtain ⟨_, m1, kpr1, sta1, fnd1, kco1, rfl, l1_kpr, u1_kpr, l1_sta, u1_sta, l1_fnd, u1_fnd, l1_kco, u1_kco, f1_0, f1_1, f1_2, f1_3, f1_4, f1_5, f1_6⟩ := iv_9 iv
    refine w_getf m1 rfl (fun _ => rfl) ?_
    obtain ⟨_, m2, kp2, sp2, rl2, rfl, l2_kp, u2_kp, l2_sp, u2_sp, l2_rl, u2_rl, f2_0, f2_1⟩ := iv_1 iv
    refine w_getf m2 rfl (fun _ => rfl) ?_
    refine w_ge2 (by omega) (by omega) (by omega) (by omega)  (fun c3 => ?_) (fun c3 => ?_)
    · refine w_run k_184366 (w_rv ?_)
      exact k0 h iv F
    · refine w_al (fun _ => rfl) (w_getf m1 rfl (fun _ => rfl) (w_il (fun _ => rfl) (w_il (fun _ => rfl) (w_al (fun _ => rfl) (w_getf m1 rfl (fun _ => rfl) (w_getf m2 rfl (fun _ => rfl) (w_opz (c := w_i (rest % g_C g)) (beq0 (by omega) (by omega) (by omega)) (i_rem (by omega) (by omega) (by omega) (by omega)) ?_)))))))
      have b4 : 0 ≤ (rest % g_C g) ∧ (rest % g_C g) < g_C g := ⟨Int.emod_nonneg _ (by omega), Int.emod_lt_of_pos _ (by omega)⟩
      obtain ⟨_, m5, A5, rfl, e5⟩ := iv_11 iv
      refine w_astI m5 (by omega) (by omega) (by omega) (by omega) (by omega) (fun A9 h7 w10 s6 => ?_)
      have e11 : ∀ j : Int, 0 ≤ j → j < 6 → 0 ≤ a_g A9 j ∧ a_g A9 j < 5 := fun j j0 j1 => by
        rw [w10 j j0 j1]
        by_cases hj : j = i
        · rw [if_pos hj]; omega
        · rw [if_neg hj]; exact e5 j j0 j1
      have iv8 := is_11 iv s6 ⟨_, rfl, e11⟩
      have F12 := fr_st F s6 (by rw [(ow_11 iv)]; rfl)
      refine w_il (fun _ => rfl) (w_al (fun _ => rfl) ?_)
      have m13 := st_fr s6 m1 (by decide)
      refine w_getf m13 rfl (fun _ => rfl) ?_
      have m14 := st_fr s6 m2 (by decide)
      refine w_getf m14 rfl (fun _ => rfl) (w_opz (c := w_i (rest / g_C g)) (beq0 (by omega) (by omega) (by omega)) (i_div (by omega) (by omega) (by omega) (by omega)) ?_)
      have b15 : 0 ≤ (rest / g_C g) ∧ (rest / g_C g) ≤ rest := ⟨Int.ediv_nonneg (by omega) (by omega), Int.ediv_le_self _ (by omega)⟩
      refine w_is (fun _ => rfl) (w_inc (c := w_i (i + 1)) (fun _ => rfl) (i_addL (y := 1) rfl i) (fun _ => rfl) (w_go ?_))
      exact ih h7 (rest / g_C g) (i + 1) iv8 F12 (by omega) (by omega) (by omega) (by omega)  (by omega) (by omega) (by omega) (by omega)
theorem k_184320 : m_cg 184320 = g_45_0 := rfl
theorem c_lookAt {g : w_G} {o : w_O} {h : m_H} {d : Nat} {Q : Option m_V → m_H → Prop} (iv : w_Inv g o h) {n : Int} (n_lo : -2147483648 ≤ n) (n_hi : n ≤ 2147483647) (hn : 0 ≤ n) (k0 : ∀ h2 : m_H, w_Inv g o h2 → w_fr o [11] h h2 → Q none h2) : wp d 184320 [.inr (.inl (some 9)), .inl (w_i n), .inr (.inr (.inl 0)), .inr (.inr (.inl 0))] [] h Q := by
  have F := fr_rf (o := o) (h := h) (W := [11])
  have W := iv_wc iv
  refine w_run k_184320 (w_il (fun _ => rfl) (w_is (fun _ => rfl) (w_icI (x := 0) rfl (w_is (fun _ => rfl) (w_nur k_184324 ?_)))))
  exact l_lookAt_4     n_lo n_hi hn    k0 (g_H g - 0 + 1 : Int).toNat h n 0 iv F (by omega) (by omega) (by omega) (by omega)  (by omega) (by omega) (by omega) (by omega)
theorem k_188416 : m_cg 188416 = g_46_0 := rfl
theorem k_188447 : m_cg 188447 = g_46_31 := rfl
theorem k_188461 : m_cg 188461 = g_46_45 := rfl
theorem c_cheapen {g : w_G} {o : w_O} {h : m_H} {d : Nat} {Q : Option m_V → m_H → Prop} (iv : w_Inv g o h) {to : Int} {costs : Int} (to_lo : -2147483648 ≤ to) (to_hi : to ≤ 2147483647) (costs_lo : -2147483648 ≤ costs) (costs_hi : costs ≤ 2147483647) (hL : g_N g ≤ g_L g) (k0 : ∀ h2 : m_H, w_Inv g o h2 → w_fr o [103, 104] h h2 → Q none h2) : wp (d + 1) 188416 [.inr (.inl (some 9)), .inl (w_i to), .inl (w_i costs)] [] h Q := by
  have F := fr_rf (o := o) (h := h) (W := [103, 104])
  have W := iv_wc iv
  have Wo := iv_wo iv
  refine w_run k_188416 (w_al (fun _ => rfl) ?_)
  obtain ⟨_, m1, kpr1, sta1, fnd1, kco1, rfl, l1_kpr, u1_kpr, l1_sta, u1_sta, l1_fnd, u1_fnd, l1_kco, u1_kco, f1_0, f1_1, f1_2, f1_3, f1_4, f1_5, f1_6⟩ := iv_9 iv
  refine w_getf m1 rfl (fun _ => rfl) (w_il (fun _ => rfl) ?_)
  obtain ⟨_, m2, kp2, sp2, rl2, rfl, l2_kp, u2_kp, l2_sp, u2_sp, l2_rl, u2_rl, f2_0, f2_1⟩ := iv_1 iv
  refine w_this (fun _ => rfl) m2 ?_
  refine w_ca (fun _ => rfl) rfl (c_isTown (d := d) iv (n := to) (by omega) (by omega)   (fun b3 b4 => ⟨_, rfl, ?_⟩) (fun b5 => ⟨_, rfl, ?_⟩))
  · refine w_eqzf (by omega) (by omega) (by omega)  (w_al (fun _ => rfl) (w_getf m1 rfl (fun _ => rfl) (w_il (fun _ => rfl) ?_)))
    obtain ⟨_, m6, A6, rfl, g6_0⟩ := iv_103 iv (ow_cst iv)
    refine w_aldI m6 (by omega) (by omega) (by omega) ?_
    obtain ⟨b7, b8⟩ := ag_rg A6 to
    refine w_icI (x := (-1)) wn_1 ?_
    refine w_eq2 (by omega) (by omega) (by omega) (by omega)  (fun c9 => ?_) (fun c9 => ?_)
    · refine w_run k_188447 (w_al (fun _ => rfl) (w_getf m1 rfl (fun _ => rfl) (w_il (fun _ => rfl) (w_il (fun _ => rfl) (w_astI m6 (by omega) (by omega) (by omega) (by omega) (by omega) (fun A13 h11 w14 s10 => ?_))))))
      have iv12 := is_103 iv (ow_cst iv) s10 ⟨_, rfl, by assumption⟩
      have F15 := fr_st F s10 (by rw [(ow_cst iv)]; rfl)
      refine w_al (fun _ => rfl) ?_
      have m16 := st_fr s10 m1 (ne_tag (ow_9 iv) (ow_cst iv) rfl)
      refine w_getf m16 rfl (fun _ => rfl) (w_il (fun _ => rfl) (w_icI (x := 1) rfl ?_))
      obtain ⟨_, m17, A17, rfl, e17, g17_0⟩ := iv_104 iv12 (ow_chp iv12)
      refine w_astB m17 (by omega) (by omega) (by omega) (by omega) (by omega) (fun A21 h19 w22 s18 => ?_)
      have e23 : ∀ j : Int, 0 ≤ j → j < ((o (g_chp g)).2 : Int) → 0 ≤ a_g A21 j ∧ a_g A21 j ≤ 1 := fun j j0 j1 => by
        rw [w22 j j0 j1]
        by_cases hj : j = to
        · rw [if_pos hj]; omega
        · rw [if_neg hj]; exact e17 j j0 j1
      have iv20 := is_104 iv12 (ow_chp iv12) s18 ⟨_, rfl, e23, by assumption⟩
      have F24 := fr_st F15 s18 (by rw [(ow_chp iv12)]; rfl)
      refine w_rv ?_
      exact k0 h19 iv20 F24
    · refine w_il (fun _ => rfl) (w_al (fun _ => rfl) (w_getf m1 rfl (fun _ => rfl) (w_il (fun _ => rfl) (w_aldI m6 (by omega) (by omega) (by omega) ?_))))
      obtain ⟨b25, b26⟩ := ag_rg A6 to
      refine w_ge2 (by omega) (by omega) (by omega) (by omega)  (fun c27 => ?_) (fun c27 => ?_)
      · refine w_run k_188461 (w_rv ?_)
        exact k0 h iv F
      · refine w_al (fun _ => rfl) (w_getf m1 rfl (fun _ => rfl) (w_il (fun _ => rfl) (w_il (fun _ => rfl) (w_astI m6 (by omega) (by omega) (by omega) (by omega) (by omega) (fun A31 h29 w32 s28 => ?_)))))
        have iv30 := is_103 iv (ow_cst iv) s28 ⟨_, rfl, by assumption⟩
        have F33 := fr_st F s28 (by rw [(ow_cst iv)]; rfl)
        refine w_al (fun _ => rfl) ?_
        have m34 := st_fr s28 m1 (ne_tag (ow_9 iv) (ow_cst iv) rfl)
        refine w_getf m34 rfl (fun _ => rfl) (w_il (fun _ => rfl) (w_icI (x := 1) rfl ?_))
        obtain ⟨_, m35, A35, rfl, e35, g35_0⟩ := iv_104 iv30 (ow_chp iv30)
        refine w_astB m35 (by omega) (by omega) (by omega) (by omega) (by omega) (fun A39 h37 w40 s36 => ?_)
        have e41 : ∀ j : Int, 0 ≤ j → j < ((o (g_chp g)).2 : Int) → 0 ≤ a_g A39 j ∧ a_g A39 j ≤ 1 := fun j j0 j1 => by
          rw [w40 j j0 j1]
          by_cases hj : j = to
          · rw [if_pos hj]; omega
          · rw [if_neg hj]; exact e35 j j0 j1
        have iv38 := is_104 iv30 (ow_chp iv30) s36 ⟨_, rfl, e41, by assumption⟩
        have F42 := fr_st F33 s36 (by rw [(ow_chp iv30)]; rfl)
        refine w_rv ?_
        exact k0 h37 iv38 F42
  · refine w_eqzt (by omega) (by omega) (by omega)  (w_run k_188461 (w_rv ?_))
    exact k0 h iv F
theorem k_155648 : m_cg 155648 = g_38_0 := rfl
theorem k_159744 : m_cg 159744 = g_39_0 := rfl
theorem c_setPrice {g : w_G} {o : w_O} {h : m_H} {d : Nat} {Q : Option m_V → m_H → Prop} (iv : w_Inv g o h) {house : Int} {f : Int} {t : Int} {price : Int} (house_lo : -2147483648 ≤ house) (house_hi : house ≤ 2147483647) (f_lo : -2147483648 ≤ f) (f_hi : f ≤ 2147483647) (t_lo : -2147483648 ≤ t) (t_hi : t ≤ 2147483647) (price_lo : -2147483648 ≤ price) (price_hi : price ≤ 2147483647) (a0 : 0 ≤ house) (a1 : house < 6) (b0 : 0 ≤ f) (b1 : f < 5) (c0 : 0 ≤ t) (c1 : t < 5) (k0 : ∀ h2 : m_H, w_Inv g o h2 → w_fr o [10] h h2 → Q none h2) : wp (d + 1) 155648 [.inr (.inl (some 9)), .inl (w_i house), .inl (w_i f), .inl (w_i t), .inl (w_i price)] [] h Q := by
  have F := fr_rf (o := o) (h := h) (W := [10])
  have W := iv_wc iv
  refine w_run k_155648 (w_al (fun _ => rfl) ?_)
  obtain ⟨_, m1, kpr1, sta1, fnd1, kco1, rfl, l1_kpr, u1_kpr, l1_sta, u1_sta, l1_fnd, u1_fnd, l1_kco, u1_kco, f1_0, f1_1, f1_2, f1_3, f1_4, f1_5, f1_6⟩ := iv_9 iv
  refine w_getf m1 rfl (fun _ => rfl) (w_il (fun _ => rfl) (w_il (fun _ => rfl) (w_il (fun _ => rfl) (w_ca (fun _ => rfl) rfl (w_run k_159744 (w_il (fun _ => rfl) (w_icI (x := 5) rfl (w_op (c := w_i (house * 5)) (i_mul house 5) (w_il (fun _ => rfl) (w_op (c := w_i ((house * 5) + f)) (i_add (house * 5) f) (w_icI (x := 5) rfl (w_op (c := w_i (((house * 5) + f) * 5)) (i_mul ((house * 5) + f) 5) (w_il (fun _ => rfl) (w_op (c := w_i ((((house * 5) + f) * 5) + t)) (i_add (((house * 5) + f) * 5) t) (w_ri ⟨_, rfl, ?_⟩)))))))))))))))
  refine w_il (fun _ => rfl) ?_
  obtain ⟨_, m2, A2, rfl⟩ := iv_10 iv
  refine w_astI m2 (by omega) (by omega) (by omega) (by omega) (by omega) (fun A6 h4 w7 s3 => ?_)
  have iv5 := is_10 iv s3 ⟨_, rfl⟩
  have F8 := fr_st F s3 (by rw [(ow_10 iv)]; rfl)
  refine w_rv ?_
  exact k0 h4 iv5 F8
theorem k_204800 : m_cg 204800 = g_50_0 := rfl
theorem k_204812 : m_cg 204812 = g_50_12 := rfl
theorem k_204828 : m_cg 204828 = g_50_28 := rfl
theorem c_farthest {g : w_G} {o : w_O} {h : m_H} {d : Nat} {Q : Option m_V → m_H → Prop} (iv : w_Inv g o h) (k0 : ∀ (x : Int), -2147483648 ≤ x → x ≤ 2147483647 → Q (some (.inl (w_i x))) h) : wp d 204800 [.inr (.inl (some 9))] [] h Q := by
  have W := iv_wc iv
  have Wo := iv_wo iv
  refine w_run k_204800 (w_al (fun _ => rfl) ?_)
  obtain ⟨_, m1, kpr1, sta1, fnd1, kco1, rfl, l1_kpr, u1_kpr, l1_sta, u1_sta, l1_fnd, u1_fnd, l1_kco, u1_kco, f1_0, f1_1, f1_2, f1_3, f1_4, f1_5, f1_6⟩ := iv_9 iv
  refine w_getf m1 rfl (fun _ => rfl) (w_icI (x := 1) rfl ?_)
  refine w_ge2 (by omega) (by omega) (by omega) (by omega)  (fun c2 => ?_) (fun c2 => ?_)
  · refine w_run k_204812 (w_al (fun _ => rfl) (w_getf m1 rfl (fun _ => rfl) (w_al (fun _ => rfl) (w_getf m1 rfl (fun _ => rfl) (w_al (fun _ => rfl) (w_getf m1 rfl (fun _ => rfl) (w_icI (x := 1) rfl (w_op (c := w_i (fnd1 - 1)) (i_sub fnd1 1) ?_))))))))
    obtain ⟨_, m3, A3, rfl, e3, g3_0⟩ := iv_100 iv (ow_rw iv)
    refine w_aldI m3 (by omega) (by omega) (by omega) ?_
    obtain ⟨b4, b5⟩ := ag_rg A3 (fnd1 - 1)
    have e6 := e3 (fnd1 - 1) (by omega) (by omega)
    obtain ⟨_, m7, A7, rfl, g7_0⟩ := iv_101 iv (ow_stp iv)
    refine w_aldI m7 (by omega) (by omega) (by omega) ?_
    obtain ⟨b8, b9⟩ := ag_rg A7 (a_g A3 (fnd1 - 1))
    refine w_ri ?_
    exact k0 (a_g A7 (a_g A3 (fnd1 - 1))) (by omega) (by omega)
  · refine w_icI (x := 0) rfl (w_go (w_run k_204828 (w_ri ?_)))
    exact k0 0 (by omega) (by omega)
theorem k_208930 : m_cg 208930 = g_51_34 := rfl
theorem k_208967 : m_cg 208967 = g_51_71 := rfl
theorem l_frozen_34 {g : w_G} {o : w_O} {h0 : m_H} {d : Nat} {Q : Option m_V → m_H → Prop} {i : Int} (i_lo : -2147483648 ≤ i) (i_hi : i ≤ 2147483647) (i0 : 0 ≤ i) (i1 : i < 4096) (k0 : ∀ (x : Int), ∀ h2 : m_H, w_Inv g o h2 → w_fr o [11] h0 h2 → -2147483648 ≤ x → x ≤ 2147483647 → Q (some (.inl (w_i x))) h2) (kx : ∀ (bits ho : Int), ∀ h2 : m_H, w_Inv g o h2 → w_fr o [11] h0 h2 → -2147483648 ≤ bits → bits ≤ 2147483647 → -2147483648 ≤ ho → ho ≤ 2147483647 → wp (d + 1) 208973 [.inr (.inl (some 9)), .inl (w_i bits), .inl (w_i i), .inl (w_i ho)] [] h2 Q) : ∀ (k : Nat) (h : m_H) (bits ho : Int) (iv : w_Inv g o h) (F : w_fr o [11] h0 h) (bits_lo : -2147483648 ≤ bits) (bits_hi : bits ≤ 2147483647) (ho_lo : -2147483648 ≤ ho) (ho_hi : ho ≤ 2147483647) (h0_ : 0 ≤ ho) (h1_ : ho ≤ g_H g), g_H g - ho < (k : Int) → wp (d + 1) 208930 [.inr (.inl (some 9)), .inl (w_i bits), .inl (w_i i), .inl (w_i ho)] [] h Q := by
  intro k
  induction k with
  | zero => intro h bits ho iv F bits_lo bits_hi ho_lo ho_hi h0_ h1_ hk; exact absurd hk (by omega)
  | succ k ih =>
    intro h bits ho iv F bits_lo bits_hi ho_lo ho_hi h0_ h1_ hk
    have W := iv_wc iv
    have Wo := iv_wo iv
    refine w_run k_208930 (w_il (fun _ => rfl) (w_al (fun _ => rfl) ?_))
    obtain ⟨_, m1, kpr1, sta1, fnd1, kco1, rfl, l1_kpr, u1_kpr, l1_sta, u1_sta, l1_fnd, u1_fnd, l1_kco, u1_kco, f1_0, f1_1, f1_2, f1_3, f1_4, f1_5, f1_6⟩ := iv_9 iv
    refine w_getf m1 rfl (fun _ => rfl) ?_
    obtain ⟨_, m2, kp2, sp2, rl2, rfl, l2_kp, u2_kp, l2_sp, u2_sp, l2_rl, u2_rl, f2_0, f2_1⟩ := iv_1 iv
    refine w_getf m2 rfl (fun _ => rfl) ?_
    refine w_ge2 (by omega) (by omega) (by omega) (by omega)  (fun c3 => ?_) (fun c3 => ?_)
    · exact kx bits ho h iv F (by omega) (by omega) (by omega) (by omega)  
    · refine w_al (fun _ => rfl) (w_getf m1 rfl (fun _ => rfl) (w_il (fun _ => rfl) ?_))
      obtain ⟨_, m4, A4, rfl, e4⟩ := iv_11 iv
      refine w_aldI m4 (by omega) (by omega) (by omega) ?_
      obtain ⟨b5, b6⟩ := ag_rg A4 ho
      have e7 := e4 ho (by omega) (by omega)
      refine w_al (fun _ => rfl) (w_getf m1 rfl (fun _ => rfl) (w_getf m2 rfl (fun _ => rfl) (w_il (fun _ => rfl) ?_)))
      obtain ⟨_, m8, A8, rfl, e8⟩ := iv_3 iv
      refine w_aldI m8 (by omega) (by omega) (by omega) ?_
      obtain ⟨b9, b10⟩ := ag_rg A8 ho
      have e11 := e8 ho (by omega) (by omega)
      refine w_eq2 (by omega) (by omega) (by omega) (by omega)  (fun c12 => ?_) (fun c12 => ?_)
      · refine w_run k_208967 (w_inc (c := w_i (ho + 1)) (fun _ => rfl) (i_addL (y := 1) rfl ho) (fun _ => rfl) (w_go ?_))
        exact ih h bits (ho + 1) iv F (by omega) (by omega) (by omega) (by omega)  (by omega) (by omega) (by omega)
      · refine w_il (fun _ => rfl) (w_icI (x := 1) rfl (w_il (fun _ => rfl) (w_opR shl_lt (fun x13 x130 x131 x13e => ?_))))
        refine w_icI (x := (-1)) wn_1 (w_opR xor_lt (fun x14 x140 x141 x14e => ?_))
        refine w_opR and_lt (fun x15 x150 x151 x15e => ?_)
        refine w_is (fun _ => rfl) (w_inc (c := w_i (ho + 1)) (fun _ => rfl) (i_addL (y := 1) rfl ho) (fun _ => rfl) (w_go ?_))
        exact ih h x15 (ho + 1) iv F (by omega) (by omega) (by omega) (by omega)  (by omega) (by omega) (by omega)
theorem k_208910 : m_cg 208910 = g_51_14 := rfl
theorem k_208979 : m_cg 208979 = g_51_83 := rfl
theorem k_208973 : m_cg 208973 = g_51_77 := rfl
theorem l_frozen_14 {g : w_G} {o : w_O} {h0 : m_H} {d : Nat} {Q : Option m_V → m_H → Prop} (k0 : ∀ (x : Int), ∀ h2 : m_H, w_Inv g o h2 → w_fr o [11] h0 h2 → -2147483648 ≤ x → x ≤ 2147483647 → Q (some (.inl (w_i x))) h2) : ∀ (k : Nat) (h : m_H) (bits i : Int) (x3_ : m_V) (iv : w_Inv g o h) (F : w_fr o [11] h0 h) (bits_lo : -2147483648 ≤ bits) (bits_hi : bits ≤ 2147483647) (i_lo : -2147483648 ≤ i) (i_hi : i ≤ 2147483647) (i0 : 0 ≤ i) (i1 : i ≤ 4096), 4096 - i < (k : Int) → wp (d + 1) 208910 [.inr (.inl (some 9)), .inl (w_i bits), .inl (w_i i), x3_] [] h Q := by
  intro k
  induction k with
  | zero => intro h bits i x3_ iv F bits_lo bits_hi i_lo i_hi i0 i1 hk; exact absurd hk (by omega)
  | succ k ih =>
    intro h bits i x3_ iv F bits_lo bits_hi i_lo i_hi i0 i1 hk
    have W := iv_wc iv
    have Wo := iv_wo iv
    refine w_run k_208910 (w_il (fun _ => rfl) (w_al (fun _ => rfl) ?_))
    obtain ⟨_, m1, kpr1, sta1, fnd1, kco1, rfl, l1_kpr, u1_kpr, l1_sta, u1_sta, l1_fnd, u1_fnd, l1_kco, u1_kco, f1_0, f1_1, f1_2, f1_3, f1_4, f1_5, f1_6⟩ := iv_9 iv
    refine w_getf m1 rfl (fun _ => rfl) ?_
    refine w_ge2 (by omega) (by omega) (by omega) (by omega)  (fun c2 => ?_) (fun c2 => ?_)
    · refine w_run k_208979 (w_il (fun _ => rfl) (w_ri ?_))
      exact k0 bits h iv F (by omega) (by omega)
    · refine w_al (fun _ => rfl) (w_al (fun _ => rfl) (w_getf m1 rfl (fun _ => rfl) (w_il (fun _ => rfl) ?_)))
      obtain ⟨_, m3, A3, rfl, e3, g3_0⟩ := iv_100 iv (ow_rw iv)
      refine w_aldI m3 (by omega) (by omega) (by omega) ?_
      obtain ⟨b4, b5⟩ := ag_rg A3 i
      have e6 := e3 i (by omega) (by omega)
      refine w_this (fun _ => rfl) m1 ?_
      refine w_cv (fun _ => rfl) rfl (c_lookAt (d := d) iv (n := (a_g A3 i)) (by omega) (by omega) (by omega)  (fun h7 iv8 F9 => ⟨rfl, ?_⟩))
      have F10 := fr_ca F F9 (fun t ht => by exact ht)
      refine w_icI (x := 0) rfl (w_is (fun _ => rfl) (w_nur k_208930 ?_))
      refine l_frozen_34   (i := i)     (by omega) (by omega) (by omega) (by omega) k0 (fun bits11 ho12 h13 iv14 F15 b16 b17 b18 b19 => ?_) (g_H g - 0 + 1 : Int).toNat h7 bits 0 iv8 F10 (by omega) (by omega) (by omega) (by omega)  (by omega) (by omega) (by omega)
      refine w_run k_208973 (w_inc (c := w_i (i + 1)) (fun _ => rfl) (i_addL (y := 1) rfl i) (fun _ => rfl) (w_go ?_))
      exact ih h13 bits11 (i + 1) (.inl (w_i ho12)) iv14 F15 (by omega) (by omega) (by omega) (by omega)  (by omega) (by omega) (by omega)
theorem k_208896 : m_cg 208896 = g_51_0 := rfl
theorem c_frozen {g : w_G} {o : w_O} {h : m_H} {d : Nat} {Q : Option m_V → m_H → Prop} (iv : w_Inv g o h) (k0 : ∀ (x : Int), ∀ h2 : m_H, w_Inv g o h2 → w_fr o [11] h h2 → -2147483648 ≤ x → x ≤ 2147483647 → Q (some (.inl (w_i x))) h2) : wp (d + 1) 208896 [.inr (.inl (some 9)), .inr (.inr (.inl 0)), .inr (.inr (.inl 0)), .inr (.inr (.inl 0))] [] h Q := by
  have F := fr_rf (o := o) (h := h) (W := [11])
  have W := iv_wc iv
  have Wo := iv_wo iv
  refine w_run k_208896 (w_icI (x := 1) rfl (w_al (fun _ => rfl) ?_))
  obtain ⟨_, m1, kpr1, sta1, fnd1, kco1, rfl, l1_kpr, u1_kpr, l1_sta, u1_sta, l1_fnd, u1_fnd, l1_kco, u1_kco, f1_0, f1_1, f1_2, f1_3, f1_4, f1_5, f1_6⟩ := iv_9 iv
  refine w_getf m1 rfl (fun _ => rfl) ?_
  obtain ⟨_, m2, kp2, sp2, rl2, rfl, l2_kp, u2_kp, l2_sp, u2_sp, l2_rl, u2_rl, f2_0, f2_1⟩ := iv_1 iv
  refine w_getf m2 rfl (fun _ => rfl) (w_opR shl_lt (fun x3 x30 x31 x3e => ?_))
  refine w_icI (x := 1) rfl (w_opR sub_lt (fun x4 x40 x41 x4e => ?_))
  refine w_is (fun _ => rfl) (w_icI (x := 0) rfl (w_is (fun _ => rfl) (w_nur k_208910 ?_)))
  exact l_frozen_14          k0 (4096 - 0 + 1 : Int).toNat h x4 0 (.inr (.inr (.inl 0))) iv F (by omega) (by omega) (by omega) (by omega)  (by omega) (by omega) (by omega)
theorem k_212992 : m_cg 212992 = g_52_0 := rfl
theorem k_213013 : m_cg 213013 = g_52_21 := rfl
theorem k_213012 : m_cg 213012 = g_52_20 := rfl
theorem c_stepsTo {g : w_G} {o : w_O} {h : m_H} {d : Nat} {Q : Option m_V → m_H → Prop} (iv : w_Inv g o h) {to : Int} (to_lo : -2147483648 ≤ to) (to_hi : to ≤ 2147483647) (hL : g_N g ≤ g_L g) (k0 : ∀ (x : Int), -2147483648 ≤ x → x ≤ 2147483647 → Q (some (.inl (w_i x))) h) : wp (d + 1) 212992 [.inr (.inl (some 9)), .inl (w_i to)] [] h Q := by
  have W := iv_wc iv
  have Wo := iv_wo iv
  refine w_run k_212992 (w_al (fun _ => rfl) ?_)
  obtain ⟨_, m1, kpr1, sta1, fnd1, kco1, rfl, l1_kpr, u1_kpr, l1_sta, u1_sta, l1_fnd, u1_fnd, l1_kco, u1_kco, f1_0, f1_1, f1_2, f1_3, f1_4, f1_5, f1_6⟩ := iv_9 iv
  refine w_getf m1 rfl (fun _ => rfl) (w_il (fun _ => rfl) ?_)
  obtain ⟨_, m2, kp2, sp2, rl2, rfl, l2_kp, u2_kp, l2_sp, u2_sp, l2_rl, u2_rl, f2_0, f2_1⟩ := iv_1 iv
  refine w_this (fun _ => rfl) m2 ?_
  refine w_ca (fun _ => rfl) rfl (c_isTown (d := d) iv (n := to) (by omega) (by omega)   (fun b3 b4 => ⟨_, rfl, ?_⟩) (fun b5 => ⟨_, rfl, ?_⟩))
  · refine w_eqzf (by omega) (by omega) (by omega)  (w_al (fun _ => rfl) (w_getf m1 rfl (fun _ => rfl) (w_il (fun _ => rfl) ?_)))
    obtain ⟨_, m6, A6, rfl, g6_0⟩ := iv_101 iv (ow_stp iv)
    refine w_aldI m6 (by omega) (by omega) (by omega) ?_
    obtain ⟨b7, b8⟩ := ag_rg A6 to
    refine w_go (w_run k_213013 (w_ri ?_))
    exact k0 (a_g A6 to) (by omega) (by omega)
  · refine w_eqzt (by omega) (by omega) (by omega)  (w_run k_213012 (w_icI (x := (-1)) wn_1 (w_ri ?_)))
    exact k0 (-1) (by omega) (by omega)
theorem k_229385 : m_cg 229385 = g_56_9 := rfl
theorem k_229423 : m_cg 229423 = g_56_47 := rfl
theorem k_229417 : m_cg 229417 = g_56_41 := rfl
theorem l_changedIn_9 {g : w_G} {o : w_O} {h0 : m_H} {d : Nat} {Q : Option m_V → m_H → Prop} {n : Int} (n_lo : -2147483648 ≤ n) (n_hi : n ≤ 2147483647) (hn : 0 ≤ n) (k0 : ∀ (x : Int), ∀ h2 : m_H, w_Inv g o h2 → w_fr o [11] h0 h2 → -2147483648 ≤ x → x ≤ 2147483647 → Q (some (.inl (w_i x))) h2) : ∀ (k : Nat) (h : m_H) (ch ho : Int) (iv : w_Inv g o h) (F : w_fr o [11] h0 h) (ch_lo : -2147483648 ≤ ch) (ch_hi : ch ≤ 2147483647) (ho_lo : -2147483648 ≤ ho) (ho_hi : ho ≤ 2147483647) (h0_ : 0 ≤ ho) (h1_ : ho ≤ g_H g) (c0_ : 0 ≤ ch) (c1_ : ch ≤ ho), g_H g - ho < (k : Int) → wp (d + 1) 229385 [.inr (.inl (some 9)), .inl (w_i n), .inl (w_i ch), .inl (w_i ho)] [] h Q := by
  intro k
  induction k with
  | zero => intro h ch ho iv F ch_lo ch_hi ho_lo ho_hi h0_ h1_ c0_ c1_ hk; exact absurd hk (by omega)
  | succ k ih =>
    intro h ch ho iv F ch_lo ch_hi ho_lo ho_hi h0_ h1_ c0_ c1_ hk
    have W := iv_wc iv
    refine w_run k_229385 (w_il (fun _ => rfl) (w_al (fun _ => rfl) ?_))
    obtain ⟨_, m1, kpr1, sta1, fnd1, kco1, rfl, l1_kpr, u1_kpr, l1_sta, u1_sta, l1_fnd, u1_fnd, l1_kco, u1_kco, f1_0, f1_1, f1_2, f1_3, f1_4, f1_5, f1_6⟩ := iv_9 iv
    refine w_getf m1 rfl (fun _ => rfl) ?_
    obtain ⟨_, m2, kp2, sp2, rl2, rfl, l2_kp, u2_kp, l2_sp, u2_sp, l2_rl, u2_rl, f2_0, f2_1⟩ := iv_1 iv
    refine w_getf m2 rfl (fun _ => rfl) ?_
    refine w_ge2 (by omega) (by omega) (by omega) (by omega)  (fun c3 => ?_) (fun c3 => ?_)
    · refine w_run k_229423 (w_il (fun _ => rfl) (w_ri ?_))
      exact k0 ch h iv F (by omega) (by omega)
    · refine w_al (fun _ => rfl) (w_getf m1 rfl (fun _ => rfl) (w_il (fun _ => rfl) ?_))
      obtain ⟨_, m4, A4, rfl, e4⟩ := iv_11 iv
      refine w_aldI m4 (by omega) (by omega) (by omega) ?_
      obtain ⟨b5, b6⟩ := ag_rg A4 ho
      have e7 := e4 ho (by omega) (by omega)
      refine w_al (fun _ => rfl) (w_getf m1 rfl (fun _ => rfl) (w_getf m2 rfl (fun _ => rfl) (w_il (fun _ => rfl) ?_)))
      obtain ⟨_, m8, A8, rfl, e8⟩ := iv_3 iv
      refine w_aldI m8 (by omega) (by omega) (by omega) ?_
      obtain ⟨b9, b10⟩ := ag_rg A8 ho
      have e11 := e8 ho (by omega) (by omega)
      refine w_eq2 (by omega) (by omega) (by omega) (by omega)  (fun c12 => ?_) (fun c12 => ?_)
      · refine w_run k_229417 (w_inc (c := w_i (ho + 1)) (fun _ => rfl) (i_addL (y := 1) rfl ho) (fun _ => rfl) (w_go ?_))
        exact ih h ch (ho + 1) iv F (by omega) (by omega) (by omega) (by omega)  (by omega) (by omega) (by omega) (by omega) (by omega)
      · refine w_inc (c := w_i (ch + 1)) (fun _ => rfl) (i_addL (y := 1) rfl ch) (fun _ => rfl) (w_inc (c := w_i (ho + 1)) (fun _ => rfl) (i_addL (y := 1) rfl ho) (fun _ => rfl) (w_go ?_))
        exact ih h (ch + 1) (ho + 1) iv F (by omega) (by omega) (by omega) (by omega)  (by omega) (by omega) (by omega) (by omega) (by omega)
theorem k_229376 : m_cg 229376 = g_56_0 := rfl
theorem c_changedIn {g : w_G} {o : w_O} {h : m_H} {d : Nat} {Q : Option m_V → m_H → Prop} (iv : w_Inv g o h) {n : Int} (n_lo : -2147483648 ≤ n) (n_hi : n ≤ 2147483647) (hn : 0 ≤ n) (k0 : ∀ (x : Int), ∀ h2 : m_H, w_Inv g o h2 → w_fr o [11] h h2 → -2147483648 ≤ x → x ≤ 2147483647 → Q (some (.inl (w_i x))) h2) : wp (d + 1) 229376 [.inr (.inl (some 9)), .inl (w_i n), .inr (.inr (.inl 0)), .inr (.inr (.inl 0))] [] h Q := by
  have F := fr_rf (o := o) (h := h) (W := [11])
  have W := iv_wc iv
  refine w_run k_229376 (w_al (fun _ => rfl) (w_il (fun _ => rfl) ?_))
  obtain ⟨_, m1, kpr1, sta1, fnd1, kco1, rfl, l1_kpr, u1_kpr, l1_sta, u1_sta, l1_fnd, u1_fnd, l1_kco, u1_kco, f1_0, f1_1, f1_2, f1_3, f1_4, f1_5, f1_6⟩ := iv_9 iv
  refine w_this (fun _ => rfl) m1 ?_
  refine w_cv (fun _ => rfl) rfl (c_lookAt (d := d) iv (n := n) (by omega) (by omega) (by omega)  (fun h2 iv3 F4 => ⟨rfl, ?_⟩))
  have F5 := fr_ca F F4 (fun t ht => by exact ht)
  refine w_icI (x := 0) rfl (w_is (fun _ => rfl) (w_icI (x := 0) rfl (w_is (fun _ => rfl) (w_nur k_229385 ?_))))
  exact l_changedIn_9     n_lo n_hi hn    k0 (g_H g - 0 + 1 : Int).toNat h2 0 0 iv3 F5 (by omega) (by omega) (by omega) (by omega)  (by omega) (by omega) (by omega) (by omega) (by omega)
theorem k_233481 : m_cg 233481 = g_57_9 := rfl
theorem k_233519 : m_cg 233519 = g_57_47 := rfl
theorem k_233513 : m_cg 233513 = g_57_41 := rfl
theorem l_wished_9 {g : w_G} {o : w_O} {h0 : m_H} {d : Nat} {Q : Option m_V → m_H → Prop} {n : Int} (n_lo : -2147483648 ≤ n) (n_hi : n ≤ 2147483647) (hn : 0 ≤ n) (k0 : ∀ (x : Int), ∀ h2 : m_H, w_Inv g o h2 → w_fr o [11] h0 h2 → -2147483648 ≤ x → x ≤ 2147483647 → Q (some (.inl (w_i x))) h2) : ∀ (k : Nat) (h : m_H) (ch ho : Int) (iv : w_Inv g o h) (F : w_fr o [11] h0 h) (ch_lo : -2147483648 ≤ ch) (ch_hi : ch ≤ 2147483647) (ho_lo : -2147483648 ≤ ho) (ho_hi : ho ≤ 2147483647) (h0_ : 0 ≤ ho) (h1_ : ho ≤ g_H g) (c0_ : 0 ≤ ch) (c1_ : ch ≤ ho), g_H g - ho < (k : Int) → wp (d + 1) 233481 [.inr (.inl (some 9)), .inl (w_i n), .inl (w_i ch), .inl (w_i ho)] [] h Q := by
  intro k
  induction k with
  | zero => intro h ch ho iv F ch_lo ch_hi ho_lo ho_hi h0_ h1_ c0_ c1_ hk; exact absurd hk (by omega)
  | succ k ih =>
    intro h ch ho iv F ch_lo ch_hi ho_lo ho_hi h0_ h1_ c0_ c1_ hk
    have W := iv_wc iv
    refine w_run k_233481 (w_il (fun _ => rfl) (w_al (fun _ => rfl) ?_))
    obtain ⟨_, m1, kpr1, sta1, fnd1, kco1, rfl, l1_kpr, u1_kpr, l1_sta, u1_sta, l1_fnd, u1_fnd, l1_kco, u1_kco, f1_0, f1_1, f1_2, f1_3, f1_4, f1_5, f1_6⟩ := iv_9 iv
    refine w_getf m1 rfl (fun _ => rfl) ?_
    obtain ⟨_, m2, kp2, sp2, rl2, rfl, l2_kp, u2_kp, l2_sp, u2_sp, l2_rl, u2_rl, f2_0, f2_1⟩ := iv_1 iv
    refine w_getf m2 rfl (fun _ => rfl) ?_
    refine w_ge2 (by omega) (by omega) (by omega) (by omega)  (fun c3 => ?_) (fun c3 => ?_)
    · refine w_run k_233519 (w_il (fun _ => rfl) (w_ri ?_))
      exact k0 ch h iv F (by omega) (by omega)
    · refine w_al (fun _ => rfl) (w_getf m1 rfl (fun _ => rfl) (w_il (fun _ => rfl) ?_))
      obtain ⟨_, m4, A4, rfl, e4⟩ := iv_11 iv
      refine w_aldI m4 (by omega) (by omega) (by omega) ?_
      obtain ⟨b5, b6⟩ := ag_rg A4 ho
      have e7 := e4 ho (by omega) (by omega)
      refine w_al (fun _ => rfl) (w_getf m1 rfl (fun _ => rfl) (w_getf m2 rfl (fun _ => rfl) (w_il (fun _ => rfl) ?_)))
      obtain ⟨_, m8, A8, rfl⟩ := iv_4 iv
      refine w_aldI m8 (by omega) (by omega) (by omega) ?_
      obtain ⟨b9, b10⟩ := ag_rg A8 ho
      refine w_ne2 (by omega) (by omega) (by omega) (by omega)  (fun c11 => ?_) (fun c11 => ?_)
      · refine w_run k_233513 (w_inc (c := w_i (ho + 1)) (fun _ => rfl) (i_addL (y := 1) rfl ho) (fun _ => rfl) (w_go ?_))
        exact ih h ch (ho + 1) iv F (by omega) (by omega) (by omega) (by omega)  (by omega) (by omega) (by omega) (by omega) (by omega)
      · refine w_inc (c := w_i (ch + 1)) (fun _ => rfl) (i_addL (y := 1) rfl ch) (fun _ => rfl) (w_inc (c := w_i (ho + 1)) (fun _ => rfl) (i_addL (y := 1) rfl ho) (fun _ => rfl) (w_go ?_))
        exact ih h (ch + 1) (ho + 1) iv F (by omega) (by omega) (by omega) (by omega)  (by omega) (by omega) (by omega) (by omega) (by omega)
theorem k_233472 : m_cg 233472 = g_57_0 := rfl
theorem c_wished {g : w_G} {o : w_O} {h : m_H} {d : Nat} {Q : Option m_V → m_H → Prop} (iv : w_Inv g o h) {n : Int} (n_lo : -2147483648 ≤ n) (n_hi : n ≤ 2147483647) (hn : 0 ≤ n) (k0 : ∀ (x : Int), ∀ h2 : m_H, w_Inv g o h2 → w_fr o [11] h h2 → -2147483648 ≤ x → x ≤ 2147483647 → Q (some (.inl (w_i x))) h2) : wp (d + 1) 233472 [.inr (.inl (some 9)), .inl (w_i n), .inr (.inr (.inl 0)), .inr (.inr (.inl 0))] [] h Q := by
  have F := fr_rf (o := o) (h := h) (W := [11])
  have W := iv_wc iv
  refine w_run k_233472 (w_al (fun _ => rfl) (w_il (fun _ => rfl) ?_))
  obtain ⟨_, m1, kpr1, sta1, fnd1, kco1, rfl, l1_kpr, u1_kpr, l1_sta, u1_sta, l1_fnd, u1_fnd, l1_kco, u1_kco, f1_0, f1_1, f1_2, f1_3, f1_4, f1_5, f1_6⟩ := iv_9 iv
  refine w_this (fun _ => rfl) m1 ?_
  refine w_cv (fun _ => rfl) rfl (c_lookAt (d := d) iv (n := n) (by omega) (by omega) (by omega)  (fun h2 iv3 F4 => ⟨rfl, ?_⟩))
  have F5 := fr_ca F F4 (fun t ht => by exact ht)
  refine w_icI (x := 0) rfl (w_is (fun _ => rfl) (w_icI (x := 0) rfl (w_is (fun _ => rfl) (w_nur k_233481 ?_))))
  exact l_wished_9     n_lo n_hi hn    k0 (g_H g - 0 + 1 : Int).toNat h2 0 0 iv3 F5 (by omega) (by omega) (by omega) (by omega)  (by omega) (by omega) (by omega) (by omega) (by omega)
